theorem dX1_init_0 : decode cX1_init 0 = .ok (.aload_n 0, 1) := by decide +kernel
theorem dX1_init_1 : decode cX1_init 1 = .ok (.invokespecial 3, 3) := by decide +kernel
theorem dX1_init_4 : decode cX1_init 4 = .ok (.aload_n 0, 1) := by decide +kernel
theorem dX1_init_5 : decode cX1_init 5 = .ok (.iconst 0, 1) := by decide +kernel
theorem dX1_init_6 : decode cX1_init 6 = .ok (.putfield 9, 3) := by decide +kernel
theorem dX1_init_9 : decode cX1_init 9 = .ok (.aload_n 0, 1) := by decide +kernel
theorem dX1_init_10 : decode cX1_init 10 = .ok (.iconst 0, 1) := by decide +kernel
theorem dX1_init_11 : decode cX1_init 11 = .ok (.putfield 15, 3) := by decide +kernel
theorem dX1_init_14 : decode cX1_init 14 = .ok (.aload_n 0, 1) := by decide +kernel
theorem dX1_init_15 : decode cX1_init 15 = .ok (.iconst 0, 1) := by decide +kernel
theorem dX1_init_16 : decode cX1_init 16 = .ok (.putfield 19, 3) := by decide +kernel
theorem dX1_init_19 : decode cX1_init 19 = .ok (.aload_n 0, 1) := by decide +kernel
theorem dX1_init_20 : decode cX1_init 20 = .ok (.iconst 0, 1) := by decide +kernel
theorem dX1_init_21 : decode cX1_init 21 = .ok (.putfield 22, 3) := by decide +kernel
theorem dX1_init_24 : decode cX1_init 24 = .ok (.aload_n 0, 1) := by decide +kernel
theorem dX1_init_25 : decode cX1_init 25 = .ok (.iconst 0, 1) := by decide +kernel
theorem dX1_init_26 : decode cX1_init 26 = .ok (.putfield 25, 3) := by decide +kernel
theorem dX1_init_29 : decode cX1_init 29 = .ok (.aload_n 0, 1) := by decide +kernel
theorem dX1_init_30 : decode cX1_init 30 = .ok (.iconst 0, 1) := by decide +kernel
theorem dX1_init_31 : decode cX1_init 31 = .ok (.putfield 28, 3) := by decide +kernel
theorem dX1_init_34 : decode cX1_init 34 = .ok (.aload_n 0, 1) := by decide +kernel
theorem dX1_init_35 : decode cX1_init 35 = .ok (.iconst 0, 1) := by decide +kernel
theorem dX1_init_36 : decode cX1_init 36 = .ok (.putfield 31, 3) := by decide +kernel
theorem dX1_init_39 : decode cX1_init 39 = .ok (.aload_n 0, 1) := by decide +kernel
theorem dX1_init_40 : decode cX1_init 40 = .ok (.iconst (-1), 1) := by decide +kernel
theorem dX1_init_41 : decode cX1_init 41 = .ok (.putfield 34, 3) := by decide +kernel
theorem dX1_init_44 : decode cX1_init 44 = .ok (.aload_n 0, 1) := by decide +kernel
theorem dX1_init_45 : decode cX1_init 45 = .ok (.iconst 0, 1) := by decide +kernel
theorem dX1_init_46 : decode cX1_init 46 = .ok (.putfield 37, 3) := by decide +kernel
theorem dX1_init_49 : decode cX1_init 49 = .ok (.aload_n 0, 1) := by decide +kernel
theorem dX1_init_50 : decode cX1_init 50 = .ok (.iload_n 1, 1) := by decide +kernel
theorem dX1_init_51 : decode cX1_init 51 = .ok (.putfield 40, 3) := by decide +kernel
theorem dX1_init_54 : decode cX1_init 54 = .ok (.aload_n 0, 1) := by decide +kernel
theorem dX1_init_55 : decode cX1_init 55 = .ok (.iload_n 2, 1) := by decide +kernel
theorem dX1_init_56 : decode cX1_init 56 = .ok (.putfield 43, 3) := by decide +kernel
theorem dX1_init_59 : decode cX1_init 59 = .ok (.aload_n 0, 1) := by decide +kernel
theorem dX1_init_60 : decode cX1_init 60 = .ok (.iload_n 3, 1) := by decide +kernel
theorem dX1_init_61 : decode cX1_init 61 = .ok (.putfield 46, 3) := by decide +kernel
theorem dX1_init_64 : decode cX1_init 64 = .ok (.aload_n 0, 1) := by decide +kernel
theorem dX1_init_65 : decode cX1_init 65 = .ok (.iload 4, 2) := by decide +kernel
theorem dX1_init_67 : decode cX1_init 67 = .ok (.putfield 49, 3) := by decide +kernel
theorem dX1_init_70 : decode cX1_init 70 = .ok (.return_, 1) := by decide +kernel
theorem dX1_otherEnd_0 : decode cX1_otherEnd 0 = .ok (.iload_n 1, 1) := by decide +kernel
theorem dX1_otherEnd_1 : decode cX1_otherEnd 1 = .ok (.aload_n 0, 1) := by decide +kernel
theorem dX1_otherEnd_2 : decode cX1_otherEnd 2 = .ok (.getfield 40, 3) := by decide +kernel
theorem dX1_otherEnd_5 : decode cX1_otherEnd 5 = .ok (.if_icmp .ne 8, 3) := by decide +kernel
theorem dX1_otherEnd_8 : decode cX1_otherEnd 8 = .ok (.aload_n 0, 1) := by decide +kernel
theorem dX1_otherEnd_9 : decode cX1_otherEnd 9 = .ok (.getfield 43, 3) := by decide +kernel
theorem dX1_otherEnd_12 : decode cX1_otherEnd 12 = .ok (.ireturn, 1) := by decide +kernel
theorem dX1_otherEnd_13 : decode cX1_otherEnd 13 = .ok (.iload_n 1, 1) := by decide +kernel
theorem dX1_otherEnd_14 : decode cX1_otherEnd 14 = .ok (.aload_n 0, 1) := by decide +kernel
theorem dX1_otherEnd_15 : decode cX1_otherEnd 15 = .ok (.getfield 43, 3) := by decide +kernel
theorem dX1_otherEnd_18 : decode cX1_otherEnd 18 = .ok (.if_icmp .ne 10, 3) := by decide +kernel
theorem dX1_otherEnd_21 : decode cX1_otherEnd 21 = .ok (.aload_n 0, 1) := by decide +kernel
theorem dX1_otherEnd_22 : decode cX1_otherEnd 22 = .ok (.getfield 40, 3) := by decide +kernel
theorem dX1_otherEnd_25 : decode cX1_otherEnd 25 = .ok (.goto 4, 3) := by decide +kernel
theorem dX1_otherEnd_28 : decode cX1_otherEnd 28 = .ok (.iconst (-1), 1) := by decide +kernel
theorem dX1_otherEnd_29 : decode cX1_otherEnd 29 = .ok (.ireturn, 1) := by decide +kernel
theorem dX1_holderAt_0 : decode cX1_holderAt 0 = .ok (.iload_n 1, 1) := by decide +kernel
theorem dX1_holderAt_1 : decode cX1_holderAt 1 = .ok (.aload_n 0, 1) := by decide +kernel
theorem dX1_holderAt_2 : decode cX1_holderAt 2 = .ok (.getfield 37, 3) := by decide +kernel
theorem dX1_holderAt_5 : decode cX1_holderAt 5 = .ok (.if_icmp .ge 10, 3) := by decide +kernel
theorem dX1_holderAt_8 : decode cX1_holderAt 8 = .ok (.aload_n 0, 1) := by decide +kernel
theorem dX1_holderAt_9 : decode cX1_holderAt 9 = .ok (.getfield 34, 3) := by decide +kernel
theorem dX1_holderAt_12 : decode cX1_holderAt 12 = .ok (.goto 4, 3) := by decide +kernel
theorem dX1_holderAt_15 : decode cX1_holderAt 15 = .ok (.iconst (-1), 1) := by decide +kernel
theorem dX1_holderAt_16 : decode cX1_holderAt 16 = .ok (.ireturn, 1) := by decide +kernel
theorem dX1_isClosedAt_0 : decode cX1_isClosedAt 0 = .ok (.aload_n 0, 1) := by decide +kernel
theorem dX1_isClosedAt_1 : decode cX1_isClosedAt 1 = .ok (.getfield 31, 3) := by decide +kernel
theorem dX1_isClosedAt_4 : decode cX1_isClosedAt 4 = .ok (.ifCond .ne 11, 3) := by decide +kernel
theorem dX1_isClosedAt_7 : decode cX1_isClosedAt 7 = .ok (.iload_n 1, 1) := by decide +kernel
theorem dX1_isClosedAt_8 : decode cX1_isClosedAt 8 = .ok (.aload_n 0, 1) := by decide +kernel
theorem dX1_isClosedAt_9 : decode cX1_isClosedAt 9 = .ok (.getfield 28, 3) := by decide +kernel
theorem dX1_isClosedAt_12 : decode cX1_isClosedAt 12 = .ok (.if_icmp .ge 7, 3) := by decide +kernel
theorem dX1_isClosedAt_15 : decode cX1_isClosedAt 15 = .ok (.iconst 1, 1) := by decide +kernel
theorem dX1_isClosedAt_16 : decode cX1_isClosedAt 16 = .ok (.goto 4, 3) := by decide +kernel
theorem dX1_isClosedAt_19 : decode cX1_isClosedAt 19 = .ok (.iconst 0, 1) := by decide +kernel
theorem dX1_isClosedAt_20 : decode cX1_isClosedAt 20 = .ok (.ireturn, 1) := by decide +kernel
theorem dX1_isOfOthers_0 : decode cX1_isOfOthers 0 = .ok (.aload_n 0, 1) := by decide +kernel
theorem dX1_isOfOthers_1 : decode cX1_isOfOthers 1 = .ok (.getfield 22, 3) := by decide +kernel
theorem dX1_isOfOthers_4 : decode cX1_isOfOthers 4 = .ok (.aload_n 0, 1) := by decide +kernel
theorem dX1_isOfOthers_5 : decode cX1_isOfOthers 5 = .ok (.getfield 25, 3) := by decide +kernel
theorem dX1_isOfOthers_8 : decode cX1_isOfOthers 8 = .ok (.if_icmp .lt 5, 3) := by decide +kernel
theorem dX1_isOfOthers_11 : decode cX1_isOfOthers 11 = .ok (.iconst 0, 1) := by decide +kernel
theorem dX1_isOfOthers_12 : decode cX1_isOfOthers 12 = .ok (.ireturn, 1) := by decide +kernel
theorem dX1_isOfOthers_13 : decode cX1_isOfOthers 13 = .ok (.iload_n 1, 1) := by decide +kernel
theorem dX1_isOfOthers_14 : decode cX1_isOfOthers 14 = .ok (.sipush 1440, 3) := by decide +kernel
theorem dX1_isOfOthers_17 : decode cX1_isOfOthers 17 = .ok (.irem, 1) := by decide +kernel
theorem dX1_isOfOthers_18 : decode cX1_isOfOthers 18 = .ok (.istore_n 3, 1) := by decide +kernel
theorem dX1_isOfOthers_19 : decode cX1_isOfOthers 19 = .ok (.iload_n 3, 1) := by decide +kernel
theorem dX1_isOfOthers_20 : decode cX1_isOfOthers 20 = .ok (.iload_n 2, 1) := by decide +kernel
theorem dX1_isOfOthers_21 : decode cX1_isOfOthers 21 = .ok (.iadd, 1) := by decide +kernel
theorem dX1_isOfOthers_22 : decode cX1_isOfOthers 22 = .ok (.iload_n 1, 1) := by decide +kernel
theorem dX1_isOfOthers_23 : decode cX1_isOfOthers 23 = .ok (.isub, 1) := by decide +kernel
theorem dX1_isOfOthers_24 : decode cX1_isOfOthers 24 = .ok (.istore 4, 2) := by decide +kernel
theorem dX1_isOfOthers_26 : decode cX1_isOfOthers 26 = .ok (.iload_n 3, 1) := by decide +kernel
theorem dX1_isOfOthers_27 : decode cX1_isOfOthers 27 = .ok (.aload_n 0, 1) := by decide +kernel
theorem dX1_isOfOthers_28 : decode cX1_isOfOthers 28 = .ok (.getfield 25, 3) := by decide +kernel
theorem dX1_isOfOthers_31 : decode cX1_isOfOthers 31 = .ok (.if_icmp .ge 12, 3) := by decide +kernel
theorem dX1_isOfOthers_34 : decode cX1_isOfOthers 34 = .ok (.aload_n 0, 1) := by decide +kernel
theorem dX1_isOfOthers_35 : decode cX1_isOfOthers 35 = .ok (.getfield 22, 3) := by decide +kernel
theorem dX1_isOfOthers_38 : decode cX1_isOfOthers 38 = .ok (.iload 4, 2) := by decide +kernel
theorem dX1_isOfOthers_40 : decode cX1_isOfOthers 40 = .ok (.if_icmp .lt 28, 3) := by decide +kernel
theorem dX1_isOfOthers_43 : decode cX1_isOfOthers 43 = .ok (.iload_n 3, 1) := by decide +kernel
theorem dX1_isOfOthers_44 : decode cX1_isOfOthers 44 = .ok (.aload_n 0, 1) := by decide +kernel
theorem dX1_isOfOthers_45 : decode cX1_isOfOthers 45 = .ok (.getfield 25, 3) := by decide +kernel
theorem dX1_isOfOthers_48 : decode cX1_isOfOthers 48 = .ok (.sipush 1440, 3) := by decide +kernel
theorem dX1_isOfOthers_51 : decode cX1_isOfOthers 51 = .ok (.iadd, 1) := by decide +kernel
theorem dX1_isOfOthers_52 : decode cX1_isOfOthers 52 = .ok (.if_icmp .ge 20, 3) := by decide +kernel
theorem dX1_isOfOthers_55 : decode cX1_isOfOthers 55 = .ok (.aload_n 0, 1) := by decide +kernel
theorem dX1_isOfOthers_56 : decode cX1_isOfOthers 56 = .ok (.getfield 22, 3) := by decide +kernel
theorem dX1_isOfOthers_59 : decode cX1_isOfOthers 59 = .ok (.sipush 1440, 3) := by decide +kernel
theorem dX1_isOfOthers_62 : decode cX1_isOfOthers 62 = .ok (.iadd, 1) := by decide +kernel
theorem dX1_isOfOthers_63 : decode cX1_isOfOthers 63 = .ok (.iload 4, 2) := by decide +kernel
theorem dX1_isOfOthers_65 : decode cX1_isOfOthers 65 = .ok (.if_icmp .ge 7, 3) := by decide +kernel
theorem dX1_isOfOthers_68 : decode cX1_isOfOthers 68 = .ok (.iconst 1, 1) := by decide +kernel
theorem dX1_isOfOthers_69 : decode cX1_isOfOthers 69 = .ok (.goto 4, 3) := by decide +kernel
theorem dX1_isOfOthers_72 : decode cX1_isOfOthers 72 = .ok (.iconst 0, 1) := by decide +kernel
theorem dX1_isOfOthers_73 : decode cX1_isOfOthers 73 = .ok (.ireturn, 1) := by decide +kernel
theorem dX2_init_0 : decode cX2_init 0 = .ok (.aload_n 0, 1) := by decide +kernel
theorem dX2_init_1 : decode cX2_init 1 = .ok (.invokespecial 3, 3) := by decide +kernel
theorem dX2_init_4 : decode cX2_init 4 = .ok (.aload_n 0, 1) := by decide +kernel
theorem dX2_init_5 : decode cX2_init 5 = .ok (.iconst (-1), 1) := by decide +kernel
theorem dX2_init_6 : decode cX2_init 6 = .ok (.putfield 9, 3) := by decide +kernel
theorem dX2_init_9 : decode cX2_init 9 = .ok (.aload_n 0, 1) := by decide +kernel
theorem dX2_init_10 : decode cX2_init 10 = .ok (.iconst (-1), 1) := by decide +kernel
theorem dX2_init_11 : decode cX2_init 11 = .ok (.putfield 15, 3) := by decide +kernel
theorem dX2_init_14 : decode cX2_init 14 = .ok (.aload_n 0, 1) := by decide +kernel
theorem dX2_init_15 : decode cX2_init 15 = .ok (.new 18, 3) := by decide +kernel
theorem dX2_init_18 : decode cX2_init 18 = .ok (.dup, 1) := by decide +kernel
theorem dX2_init_19 : decode cX2_init 19 = .ok (.iconst 4, 1) := by decide +kernel
theorem dX2_init_20 : decode cX2_init 20 = .ok (.invokespecial 20, 3) := by decide +kernel
theorem dX2_init_23 : decode cX2_init 23 = .ok (.putfield 23, 3) := by decide +kernel
theorem dX2_init_26 : decode cX2_init 26 = .ok (.aload_n 0, 1) := by decide +kernel
theorem dX2_init_27 : decode cX2_init 27 = .ok (.iload_n 1, 1) := by decide +kernel
theorem dX2_init_28 : decode cX2_init 28 = .ok (.putfield 27, 3) := by decide +kernel
theorem dX2_init_31 : decode cX2_init 31 = .ok (.aload_n 0, 1) := by decide +kernel
theorem dX2_init_32 : decode cX2_init 32 = .ok (.iload_n 1, 1) := by decide +kernel
theorem dX2_init_33 : decode cX2_init 33 = .ok (.putfield 30, 3) := by decide +kernel
theorem dX2_init_36 : decode cX2_init 36 = .ok (.return_, 1) := by decide +kernel
theorem dX2_weight_0 : decode cX2_weight 0 = .ok (.aload_n 0, 1) := by decide +kernel
theorem dX2_weight_1 : decode cX2_weight 1 = .ok (.getfield 15, 3) := by decide +kernel
theorem dX2_weight_4 : decode cX2_weight 4 = .ok (.iconst (-1), 1) := by decide +kernel
theorem dX2_weight_5 : decode cX2_weight 5 = .ok (.if_icmp .ne 7, 3) := by decide +kernel
theorem dX2_weight_8 : decode cX2_weight 8 = .ok (.iconst 2, 1) := by decide +kernel
theorem dX2_weight_9 : decode cX2_weight 9 = .ok (.goto 4, 3) := by decide +kernel
theorem dX2_weight_12 : decode cX2_weight 12 = .ok (.iconst 5, 1) := by decide +kernel
theorem dX2_weight_13 : decode cX2_weight 13 = .ok (.ireturn, 1) := by decide +kernel
theorem dX2_write_0 : decode cX2_write 0 = .ok (.aload_n 0, 1) := by decide +kernel
theorem dX2_write_1 : decode cX2_write 1 = .ok (.getfield 23, 3) := by decide +kernel
theorem dX2_write_4 : decode cX2_write 4 = .ok (.bipush 100, 2) := by decide +kernel
theorem dX2_write_6 : decode cX2_write 6 = .ok (.iload_n 1, 1) := by decide +kernel
theorem dX2_write_7 : decode cX2_write 7 = .ok (.imul, 1) := by decide +kernel
theorem dX2_write_8 : decode cX2_write 8 = .ok (.iload_n 2, 1) := by decide +kernel
theorem dX2_write_9 : decode cX2_write 9 = .ok (.iadd, 1) := by decide +kernel
theorem dX2_write_10 : decode cX2_write 10 = .ok (.invokevirtual 33, 3) := by decide +kernel
theorem dX2_write_13 : decode cX2_write 13 = .ok (.return_, 1) := by decide +kernel
theorem dX3_init_0 : decode cX3_init 0 = .ok (.aload_n 0, 1) := by decide +kernel
theorem dX3_init_1 : decode cX3_init 1 = .ok (.invokespecial 3, 3) := by decide +kernel
theorem dX3_init_4 : decode cX3_init 4 = .ok (.aload_n 0, 1) := by decide +kernel
theorem dX3_init_5 : decode cX3_init 5 = .ok (.iconst (-1), 1) := by decide +kernel
theorem dX3_init_6 : decode cX3_init 6 = .ok (.putfield 9, 3) := by decide +kernel
theorem dX3_init_9 : decode cX3_init 9 = .ok (.aload_n 0, 1) := by decide +kernel
theorem dX3_init_10 : decode cX3_init 10 = .ok (.iconst 0, 1) := by decide +kernel
theorem dX3_init_11 : decode cX3_init 11 = .ok (.putfield 15, 3) := by decide +kernel
theorem dX3_init_14 : decode cX3_init 14 = .ok (.aload_n 0, 1) := by decide +kernel
theorem dX3_init_15 : decode cX3_init 15 = .ok (.iconst 0, 1) := by decide +kernel
theorem dX3_init_16 : decode cX3_init 16 = .ok (.putfield 18, 3) := by decide +kernel
theorem dX3_init_19 : decode cX3_init 19 = .ok (.aload_n 0, 1) := by decide +kernel
theorem dX3_init_20 : decode cX3_init 20 = .ok (.iconst 0, 1) := by decide +kernel
theorem dX3_init_21 : decode cX3_init 21 = .ok (.putfield 21, 3) := by decide +kernel
theorem dX3_init_24 : decode cX3_init 24 = .ok (.aload_n 0, 1) := by decide +kernel
theorem dX3_init_25 : decode cX3_init 25 = .ok (.iload_n 1, 1) := by decide +kernel
theorem dX3_init_26 : decode cX3_init 26 = .ok (.putfield 24, 3) := by decide +kernel
theorem dX3_init_29 : decode cX3_init 29 = .ok (.return_, 1) := by decide +kernel
theorem dX3_isRestingAt_0 : decode cX3_isRestingAt 0 = .ok (.iload_n 1, 1) := by decide +kernel
theorem dX3_isRestingAt_1 : decode cX3_isRestingAt 1 = .ok (.aload_n 0, 1) := by decide +kernel
theorem dX3_isRestingAt_2 : decode cX3_isRestingAt 2 = .ok (.getfield 21, 3) := by decide +kernel
theorem dX3_isRestingAt_5 : decode cX3_isRestingAt 5 = .ok (.if_icmp .ge 7, 3) := by decide +kernel
theorem dX3_isRestingAt_8 : decode cX3_isRestingAt 8 = .ok (.iconst 1, 1) := by decide +kernel
theorem dX3_isRestingAt_9 : decode cX3_isRestingAt 9 = .ok (.goto 4, 3) := by decide +kernel
theorem dX3_isRestingAt_12 : decode cX3_isRestingAt 12 = .ok (.iconst 0, 1) := by decide +kernel
theorem dX3_isRestingAt_13 : decode cX3_isRestingAt 13 = .ok (.ireturn, 1) := by decide +kernel
theorem dX4_init_0 : decode cX4_init 0 = .ok (.aload_n 0, 1) := by decide +kernel
theorem dX4_init_1 : decode cX4_init 1 = .ok (.invokespecial 3, 3) := by decide +kernel
theorem dX4_init_4 : decode cX4_init 4 = .ok (.aload_n 0, 1) := by decide +kernel
theorem dX4_init_5 : decode cX4_init 5 = .ok (.iconst (-1), 1) := by decide +kernel
theorem dX4_init_6 : decode cX4_init 6 = .ok (.putfield 9, 3) := by decide +kernel
theorem dX4_init_9 : decode cX4_init 9 = .ok (.aload_n 0, 1) := by decide +kernel
theorem dX4_init_10 : decode cX4_init 10 = .ok (.iload_n 1, 1) := by decide +kernel
theorem dX4_init_11 : decode cX4_init 11 = .ok (.putfield 15, 3) := by decide +kernel
theorem dX4_init_14 : decode cX4_init 14 = .ok (.aload_n 0, 1) := by decide +kernel
theorem dX4_init_15 : decode cX4_init 15 = .ok (.iload_n 2, 1) := by decide +kernel
theorem dX4_init_16 : decode cX4_init 16 = .ok (.putfield 18, 3) := by decide +kernel
theorem dX4_init_19 : decode cX4_init 19 = .ok (.return_, 1) := by decide +kernel
theorem dX5_init_0 : decode cX5_init 0 = .ok (.aload_n 0, 1) := by decide +kernel
theorem dX5_init_1 : decode cX5_init 1 = .ok (.invokespecial 3, 3) := by decide +kernel
theorem dX5_init_4 : decode cX5_init 4 = .ok (.aload_n 0, 1) := by decide +kernel
theorem dX5_init_5 : decode cX5_init 5 = .ok (.iconst 0, 1) := by decide +kernel
theorem dX5_init_6 : decode cX5_init 6 = .ok (.putfield 9, 3) := by decide +kernel
theorem dX5_init_9 : decode cX5_init 9 = .ok (.aload_n 0, 1) := by decide +kernel
theorem dX5_init_10 : decode cX5_init 10 = .ok (.iload_n 1, 1) := by decide +kernel
theorem dX5_init_11 : decode cX5_init 11 = .ok (.ifCond .le 7, 3) := by decide +kernel
theorem dX5_init_14 : decode cX5_init 14 = .ok (.iload_n 1, 1) := by decide +kernel
theorem dX5_init_15 : decode cX5_init 15 = .ok (.goto 4, 3) := by decide +kernel
theorem dX5_init_18 : decode cX5_init 18 = .ok (.iconst 1, 1) := by decide +kernel
theorem dX5_init_19 : decode cX5_init 19 = .ok (.newarray .int, 2) := by decide +kernel
theorem dX5_init_21 : decode cX5_init 21 = .ok (.putfield 15, 3) := by decide +kernel
theorem dX5_init_24 : decode cX5_init 24 = .ok (.return_, 1) := by decide +kernel
theorem dX5_at_0 : decode cX5_at 0 = .ok (.iload_n 1, 1) := by decide +kernel
theorem dX5_at_1 : decode cX5_at 1 = .ok (.ifCond .lt 29, 3) := by decide +kernel
theorem dX5_at_4 : decode cX5_at 4 = .ok (.iload_n 1, 1) := by decide +kernel
theorem dX5_at_5 : decode cX5_at 5 = .ok (.aload_n 0, 1) := by decide +kernel
theorem dX5_at_6 : decode cX5_at 6 = .ok (.getfield 9, 3) := by decide +kernel
theorem dX5_at_9 : decode cX5_at 9 = .ok (.if_icmp .ge 21, 3) := by decide +kernel
theorem dX5_at_12 : decode cX5_at 12 = .ok (.iload_n 1, 1) := by decide +kernel
theorem dX5_at_13 : decode cX5_at 13 = .ok (.aload_n 0, 1) := by decide +kernel
theorem dX5_at_14 : decode cX5_at 14 = .ok (.getfield 15, 3) := by decide +kernel
theorem dX5_at_17 : decode cX5_at 17 = .ok (.arraylength, 1) := by decide +kernel
theorem dX5_at_18 : decode cX5_at 18 = .ok (.if_icmp .ge 12, 3) := by decide +kernel
theorem dX5_at_21 : decode cX5_at 21 = .ok (.aload_n 0, 1) := by decide +kernel
theorem dX5_at_22 : decode cX5_at 22 = .ok (.getfield 15, 3) := by decide +kernel
theorem dX5_at_25 : decode cX5_at 25 = .ok (.iload_n 1, 1) := by decide +kernel
theorem dX5_at_26 : decode cX5_at 26 = .ok (.iaload, 1) := by decide +kernel
theorem dX5_at_27 : decode cX5_at 27 = .ok (.goto 4, 3) := by decide +kernel
theorem dX5_at_30 : decode cX5_at 30 = .ok (.iconst (-1), 1) := by decide +kernel
theorem dX5_at_31 : decode cX5_at 31 = .ok (.ireturn, 1) := by decide +kernel
theorem dX5_append_0 : decode cX5_append 0 = .ok (.aload_n 0, 1) := by decide +kernel
theorem dX5_append_1 : decode cX5_append 1 = .ok (.getfield 9, 3) := by decide +kernel
theorem dX5_append_4 : decode cX5_append 4 = .ok (.aload_n 0, 1) := by decide +kernel
theorem dX5_append_5 : decode cX5_append 5 = .ok (.getfield 15, 3) := by decide +kernel
theorem dX5_append_8 : decode cX5_append 8 = .ok (.arraylength, 1) := by decide +kernel
theorem dX5_append_9 : decode cX5_append 9 = .ok (.if_icmp .lt 32, 3) := by decide +kernel
theorem dX5_append_12 : decode cX5_append 12 = .ok (.aload_n 0, 1) := by decide +kernel
theorem dX5_append_13 : decode cX5_append 13 = .ok (.getfield 15, 3) := by decide +kernel
theorem dX5_append_16 : decode cX5_append 16 = .ok (.arraylength, 1) := by decide +kernel
theorem dX5_append_17 : decode cX5_append 17 = .ok (.sipush 1024, 3) := by decide +kernel
theorem dX5_append_20 : decode cX5_append 20 = .ok (.if_icmp .ge 21, 3) := by decide +kernel
theorem dX5_append_23 : decode cX5_append 23 = .ok (.aload_n 0, 1) := by decide +kernel
theorem dX5_append_24 : decode cX5_append 24 = .ok (.aload_n 0, 1) := by decide +kernel
theorem dX5_append_25 : decode cX5_append 25 = .ok (.getfield 15, 3) := by decide +kernel
theorem dX5_append_28 : decode cX5_append 28 = .ok (.iconst 2, 1) := by decide +kernel
theorem dX5_append_29 : decode cX5_append 29 = .ok (.aload_n 0, 1) := by decide +kernel
theorem dX5_append_30 : decode cX5_append 30 = .ok (.getfield 15, 3) := by decide +kernel
theorem dX5_append_33 : decode cX5_append 33 = .ok (.arraylength, 1) := by decide +kernel
theorem dX5_append_34 : decode cX5_append 34 = .ok (.imul, 1) := by decide +kernel
theorem dX5_append_35 : decode cX5_append 35 = .ok (.invokestatic 19, 3) := by decide +kernel
theorem dX5_append_38 : decode cX5_append 38 = .ok (.putfield 15, 3) := by decide +kernel
theorem dX5_append_41 : decode cX5_append 41 = .ok (.aload_n 0, 1) := by decide +kernel
theorem dX5_append_42 : decode cX5_append 42 = .ok (.getfield 9, 3) := by decide +kernel
theorem dX5_append_45 : decode cX5_append 45 = .ok (.ifCond .lt 35, 3) := by decide +kernel
theorem dX5_append_48 : decode cX5_append 48 = .ok (.aload_n 0, 1) := by decide +kernel
theorem dX5_append_49 : decode cX5_append 49 = .ok (.getfield 9, 3) := by decide +kernel
theorem dX5_append_52 : decode cX5_append 52 = .ok (.aload_n 0, 1) := by decide +kernel
theorem dX5_append_53 : decode cX5_append 53 = .ok (.getfield 15, 3) := by decide +kernel
theorem dX5_append_56 : decode cX5_append 56 = .ok (.arraylength, 1) := by decide +kernel
theorem dX5_append_57 : decode cX5_append 57 = .ok (.if_icmp .ge 23, 3) := by decide +kernel
theorem dX5_append_60 : decode cX5_append 60 = .ok (.aload_n 0, 1) := by decide +kernel
theorem dX5_append_61 : decode cX5_append 61 = .ok (.getfield 15, 3) := by decide +kernel
theorem dX5_append_64 : decode cX5_append 64 = .ok (.aload_n 0, 1) := by decide +kernel
theorem dX5_append_65 : decode cX5_append 65 = .ok (.getfield 9, 3) := by decide +kernel
theorem dX5_append_68 : decode cX5_append 68 = .ok (.iload_n 1, 1) := by decide +kernel
theorem dX5_append_69 : decode cX5_append 69 = .ok (.iastore, 1) := by decide +kernel
theorem dX5_append_70 : decode cX5_append 70 = .ok (.aload_n 0, 1) := by decide +kernel
theorem dX5_append_71 : decode cX5_append 71 = .ok (.dup, 1) := by decide +kernel
theorem dX5_append_72 : decode cX5_append 72 = .ok (.getfield 9, 3) := by decide +kernel
theorem dX5_append_75 : decode cX5_append 75 = .ok (.iconst 1, 1) := by decide +kernel
theorem dX5_append_76 : decode cX5_append 76 = .ok (.iadd, 1) := by decide +kernel
theorem dX5_append_77 : decode cX5_append 77 = .ok (.putfield 9, 3) := by decide +kernel
theorem dX5_append_80 : decode cX5_append 80 = .ok (.return_, 1) := by decide +kernel
theorem dX5_drop_0 : decode cX5_drop 0 = .ok (.iconst 0, 1) := by decide +kernel
theorem dX5_drop_1 : decode cX5_drop 1 = .ok (.istore_n 2, 1) := by decide +kernel
theorem dX5_drop_2 : decode cX5_drop 2 = .ok (.iconst 0, 1) := by decide +kernel
theorem dX5_drop_3 : decode cX5_drop 3 = .ok (.istore_n 3, 1) := by decide +kernel
theorem dX5_drop_4 : decode cX5_drop 4 = .ok (.iload_n 3, 1) := by decide +kernel
theorem dX5_drop_5 : decode cX5_drop 5 = .ok (.aload_n 0, 1) := by decide +kernel
theorem dX5_drop_6 : decode cX5_drop 6 = .ok (.getfield 9, 3) := by decide +kernel
theorem dX5_drop_9 : decode cX5_drop 9 = .ok (.if_icmp .ge 67, 3) := by decide +kernel
theorem dX5_drop_12 : decode cX5_drop 12 = .ok (.iload_n 3, 1) := by decide +kernel
theorem dX5_drop_13 : decode cX5_drop 13 = .ok (.aload_n 0, 1) := by decide +kernel
theorem dX5_drop_14 : decode cX5_drop 14 = .ok (.getfield 15, 3) := by decide +kernel
theorem dX5_drop_17 : decode cX5_drop 17 = .ok (.arraylength, 1) := by decide +kernel
theorem dX5_drop_18 : decode cX5_drop 18 = .ok (.if_icmp .ge 58, 3) := by decide +kernel
theorem dX5_drop_21 : decode cX5_drop 21 = .ok (.iload_n 2, 1) := by decide +kernel
theorem dX5_drop_22 : decode cX5_drop 22 = .ok (.ifCond .ne 13, 3) := by decide +kernel
theorem dX5_drop_25 : decode cX5_drop 25 = .ok (.aload_n 0, 1) := by decide +kernel
theorem dX5_drop_26 : decode cX5_drop 26 = .ok (.getfield 15, 3) := by decide +kernel
theorem dX5_drop_29 : decode cX5_drop 29 = .ok (.iload_n 3, 1) := by decide +kernel
theorem dX5_drop_30 : decode cX5_drop 30 = .ok (.iaload, 1) := by decide +kernel
theorem dX5_drop_31 : decode cX5_drop 31 = .ok (.iload_n 1, 1) := by decide +kernel
theorem dX5_drop_32 : decode cX5_drop 32 = .ok (.if_icmp .ne 7, 3) := by decide +kernel
theorem dX5_drop_35 : decode cX5_drop 35 = .ok (.iconst 1, 1) := by decide +kernel
theorem dX5_drop_36 : decode cX5_drop 36 = .ok (.goto 4, 3) := by decide +kernel
theorem dX5_drop_39 : decode cX5_drop 39 = .ok (.iconst 0, 1) := by decide +kernel
theorem dX5_drop_40 : decode cX5_drop 40 = .ok (.istore_n 2, 1) := by decide +kernel
theorem dX5_drop_41 : decode cX5_drop 41 = .ok (.iload_n 2, 1) := by decide +kernel
theorem dX5_drop_42 : decode cX5_drop 42 = .ok (.ifCond .eq 28, 3) := by decide +kernel
theorem dX5_drop_45 : decode cX5_drop 45 = .ok (.iload_n 3, 1) := by decide +kernel
theorem dX5_drop_46 : decode cX5_drop 46 = .ok (.iconst 1, 1) := by decide +kernel
theorem dX5_drop_47 : decode cX5_drop 47 = .ok (.iadd, 1) := by decide +kernel
theorem dX5_drop_48 : decode cX5_drop 48 = .ok (.aload_n 0, 1) := by decide +kernel
theorem dX5_drop_49 : decode cX5_drop 49 = .ok (.getfield 15, 3) := by decide +kernel
theorem dX5_drop_52 : decode cX5_drop 52 = .ok (.arraylength, 1) := by decide +kernel
theorem dX5_drop_53 : decode cX5_drop 53 = .ok (.if_icmp .ge 17, 3) := by decide +kernel
theorem dX5_drop_56 : decode cX5_drop 56 = .ok (.aload_n 0, 1) := by decide +kernel
theorem dX5_drop_57 : decode cX5_drop 57 = .ok (.getfield 15, 3) := by decide +kernel
theorem dX5_drop_60 : decode cX5_drop 60 = .ok (.iload_n 3, 1) := by decide +kernel
theorem dX5_drop_61 : decode cX5_drop 61 = .ok (.aload_n 0, 1) := by decide +kernel
theorem dX5_drop_62 : decode cX5_drop 62 = .ok (.getfield 15, 3) := by decide +kernel
theorem dX5_drop_65 : decode cX5_drop 65 = .ok (.iload_n 3, 1) := by decide +kernel
theorem dX5_drop_66 : decode cX5_drop 66 = .ok (.iconst 1, 1) := by decide +kernel
theorem dX5_drop_67 : decode cX5_drop 67 = .ok (.iadd, 1) := by decide +kernel
theorem dX5_drop_68 : decode cX5_drop 68 = .ok (.iaload, 1) := by decide +kernel
theorem dX5_drop_69 : decode cX5_drop 69 = .ok (.iastore, 1) := by decide +kernel
theorem dX5_drop_70 : decode cX5_drop 70 = .ok (.iinc 3 1, 3) := by decide +kernel
theorem dX5_drop_73 : decode cX5_drop 73 = .ok (.goto (-69), 3) := by decide +kernel
theorem dX5_drop_76 : decode cX5_drop 76 = .ok (.iload_n 2, 1) := by decide +kernel
theorem dX5_drop_77 : decode cX5_drop 77 = .ok (.ifCond .eq 13, 3) := by decide +kernel
theorem dX5_drop_80 : decode cX5_drop 80 = .ok (.aload_n 0, 1) := by decide +kernel
theorem dX5_drop_81 : decode cX5_drop 81 = .ok (.dup, 1) := by decide +kernel
theorem dX5_drop_82 : decode cX5_drop 82 = .ok (.getfield 9, 3) := by decide +kernel
theorem dX5_drop_85 : decode cX5_drop 85 = .ok (.iconst 1, 1) := by decide +kernel
theorem dX5_drop_86 : decode cX5_drop 86 = .ok (.isub, 1) := by decide +kernel
theorem dX5_drop_87 : decode cX5_drop 87 = .ok (.putfield 9, 3) := by decide +kernel
theorem dX5_drop_90 : decode cX5_drop 90 = .ok (.return_, 1) := by decide +kernel
theorem dX5_copy_0 : decode cX5_copy 0 = .ok (.aload_n 0, 1) := by decide +kernel
theorem dX5_copy_1 : decode cX5_copy 1 = .ok (.invokevirtual 25, 3) := by decide +kernel
theorem dX5_copy_4 : decode cX5_copy 4 = .ok (.iconst 0, 1) := by decide +kernel
theorem dX5_copy_5 : decode cX5_copy 5 = .ok (.istore_n 2, 1) := by decide +kernel
theorem dX5_copy_6 : decode cX5_copy 6 = .ok (.iload_n 2, 1) := by decide +kernel
theorem dX5_copy_7 : decode cX5_copy 7 = .ok (.aload_n 1, 1) := by decide +kernel
theorem dX5_copy_8 : decode cX5_copy 8 = .ok (.getfield 9, 3) := by decide +kernel
theorem dX5_copy_11 : decode cX5_copy 11 = .ok (.if_icmp .ge 18, 3) := by decide +kernel
theorem dX5_copy_14 : decode cX5_copy 14 = .ok (.aload_n 0, 1) := by decide +kernel
theorem dX5_copy_15 : decode cX5_copy 15 = .ok (.aload_n 1, 1) := by decide +kernel
theorem dX5_copy_16 : decode cX5_copy 16 = .ok (.iload_n 2, 1) := by decide +kernel
theorem dX5_copy_17 : decode cX5_copy 17 = .ok (.invokevirtual 28, 3) := by decide +kernel
theorem dX5_copy_20 : decode cX5_copy 20 = .ok (.invokevirtual 32, 3) := by decide +kernel
theorem dX5_copy_23 : decode cX5_copy 23 = .ok (.iinc 2 1, 3) := by decide +kernel
theorem dX5_copy_26 : decode cX5_copy 26 = .ok (.goto (-20), 3) := by decide +kernel
theorem dX5_copy_29 : decode cX5_copy 29 = .ok (.return_, 1) := by decide +kernel
theorem dX5_empty_0 : decode cX5_empty 0 = .ok (.aload_n 0, 1) := by decide +kernel
theorem dX5_empty_1 : decode cX5_empty 1 = .ok (.iconst 0, 1) := by decide +kernel
theorem dX5_empty_2 : decode cX5_empty 2 = .ok (.putfield 9, 3) := by decide +kernel
theorem dX5_empty_5 : decode cX5_empty 5 = .ok (.return_, 1) := by decide +kernel
theorem dX6_init_0 : decode cX6_init 0 = .ok (.aload_n 0, 1) := by decide +kernel
theorem dX6_init_1 : decode cX6_init 1 = .ok (.invokespecial 1, 3) := by decide +kernel
theorem dX6_init_4 : decode cX6_init 4 = .ok (.aload_n 0, 1) := by decide +kernel
theorem dX6_init_5 : decode cX6_init 5 = .ok (.iconst 2, 1) := by decide +kernel
theorem dX6_init_6 : decode cX6_init 6 = .ok (.putfield 7, 3) := by decide +kernel
theorem dX6_init_9 : decode cX6_init 9 = .ok (.aload_n 0, 1) := by decide +kernel
theorem dX6_init_10 : decode cX6_init 10 = .ok (.new 13, 3) := by decide +kernel
theorem dX6_init_13 : decode cX6_init 13 = .ok (.dup, 1) := by decide +kernel
theorem dX6_init_14 : decode cX6_init 14 = .ok (.iconst 4, 1) := by decide +kernel
theorem dX6_init_15 : decode cX6_init 15 = .ok (.invokespecial 15, 3) := by decide +kernel
theorem dX6_init_18 : decode cX6_init 18 = .ok (.putfield 18, 3) := by decide +kernel
theorem dX6_init_21 : decode cX6_init 21 = .ok (.return_, 1) := by decide +kernel
theorem dX7_init_0 : decode cX7_init 0 = .ok (.aload_n 0, 1) := by decide +kernel
theorem dX7_init_1 : decode cX7_init 1 = .ok (.invokespecial 3, 3) := by decide +kernel
theorem dX7_init_4 : decode cX7_init 4 = .ok (.aload_n 0, 1) := by decide +kernel
theorem dX7_init_5 : decode cX7_init 5 = .ok (.iconst (-1), 1) := by decide +kernel
theorem dX7_init_6 : decode cX7_init 6 = .ok (.putfield 9, 3) := by decide +kernel
theorem dX7_init_9 : decode cX7_init 9 = .ok (.aload_n 0, 1) := by decide +kernel
theorem dX7_init_10 : decode cX7_init 10 = .ok (.iconst (-1), 1) := by decide +kernel
theorem dX7_init_11 : decode cX7_init 11 = .ok (.putfield 15, 3) := by decide +kernel
theorem dX7_init_14 : decode cX7_init 14 = .ok (.aload_n 0, 1) := by decide +kernel
theorem dX7_init_15 : decode cX7_init 15 = .ok (.iconst (-1), 1) := by decide +kernel
theorem dX7_init_16 : decode cX7_init 16 = .ok (.putfield 18, 3) := by decide +kernel
theorem dX7_init_19 : decode cX7_init 19 = .ok (.aload_n 0, 1) := by decide +kernel
theorem dX7_init_20 : decode cX7_init 20 = .ok (.iconst 1, 1) := by decide +kernel
theorem dX7_init_21 : decode cX7_init 21 = .ok (.putfield 21, 3) := by decide +kernel
theorem dX7_init_24 : decode cX7_init 24 = .ok (.aload_n 0, 1) := by decide +kernel
theorem dX7_init_25 : decode cX7_init 25 = .ok (.iconst (-1), 1) := by decide +kernel
theorem dX7_init_26 : decode cX7_init 26 = .ok (.putfield 24, 3) := by decide +kernel
theorem dX7_init_29 : decode cX7_init 29 = .ok (.aload_n 0, 1) := by decide +kernel
theorem dX7_init_30 : decode cX7_init 30 = .ok (.iconst (-1), 1) := by decide +kernel
theorem dX7_init_31 : decode cX7_init 31 = .ok (.putfield 27, 3) := by decide +kernel
theorem dX7_init_34 : decode cX7_init 34 = .ok (.aload_n 0, 1) := by decide +kernel
theorem dX7_init_35 : decode cX7_init 35 = .ok (.iconst 0, 1) := by decide +kernel
theorem dX7_init_36 : decode cX7_init 36 = .ok (.putfield 30, 3) := by decide +kernel
theorem dX7_init_39 : decode cX7_init 39 = .ok (.aload_n 0, 1) := by decide +kernel
theorem dX7_init_40 : decode cX7_init 40 = .ok (.iconst 0, 1) := by decide +kernel
theorem dX7_init_41 : decode cX7_init 41 = .ok (.putfield 33, 3) := by decide +kernel
theorem dX7_init_44 : decode cX7_init 44 = .ok (.aload_n 0, 1) := by decide +kernel
theorem dX7_init_45 : decode cX7_init 45 = .ok (.new 36, 3) := by decide +kernel
theorem dX7_init_48 : decode cX7_init 48 = .ok (.dup, 1) := by decide +kernel
theorem dX7_init_49 : decode cX7_init 49 = .ok (.bipush 10, 2) := by decide +kernel
theorem dX7_init_51 : decode cX7_init 51 = .ok (.invokespecial 38, 3) := by decide +kernel
theorem dX7_init_54 : decode cX7_init 54 = .ok (.putfield 41, 3) := by decide +kernel
theorem dX7_init_57 : decode cX7_init 57 = .ok (.aload_n 0, 1) := by decide +kernel
theorem dX7_init_58 : decode cX7_init 58 = .ok (.new 36, 3) := by decide +kernel
theorem dX7_init_61 : decode cX7_init 61 = .ok (.dup, 1) := by decide +kernel
theorem dX7_init_62 : decode cX7_init 62 = .ok (.bipush 8, 2) := by decide +kernel
theorem dX7_init_64 : decode cX7_init 64 = .ok (.invokespecial 38, 3) := by decide +kernel
theorem dX7_init_67 : decode cX7_init 67 = .ok (.putfield 45, 3) := by decide +kernel
theorem dX7_init_70 : decode cX7_init 70 = .ok (.aload_n 0, 1) := by decide +kernel
theorem dX7_init_71 : decode cX7_init 71 = .ok (.iconst 0, 1) := by decide +kernel
theorem dX7_init_72 : decode cX7_init 72 = .ok (.putfield 48, 3) := by decide +kernel
theorem dX7_init_75 : decode cX7_init 75 = .ok (.aload_n 0, 1) := by decide +kernel
theorem dX7_init_76 : decode cX7_init 76 = .ok (.iconst 0, 1) := by decide +kernel
theorem dX7_init_77 : decode cX7_init 77 = .ok (.putfield 51, 3) := by decide +kernel
theorem dX7_init_80 : decode cX7_init 80 = .ok (.aload_n 0, 1) := by decide +kernel
theorem dX7_init_81 : decode cX7_init 81 = .ok (.iconst 0, 1) := by decide +kernel
theorem dX7_init_82 : decode cX7_init 82 = .ok (.putfield 54, 3) := by decide +kernel
theorem dX7_init_85 : decode cX7_init 85 = .ok (.aload_n 0, 1) := by decide +kernel
theorem dX7_init_86 : decode cX7_init 86 = .ok (.iconst (-1), 1) := by decide +kernel
theorem dX7_init_87 : decode cX7_init 87 = .ok (.putfield 57, 3) := by decide +kernel
theorem dX7_init_90 : decode cX7_init 90 = .ok (.aload_n 0, 1) := by decide +kernel
theorem dX7_init_91 : decode cX7_init 91 = .ok (.iconst (-1), 1) := by decide +kernel
theorem dX7_init_92 : decode cX7_init 92 = .ok (.putfield 60, 3) := by decide +kernel
theorem dX7_init_95 : decode cX7_init 95 = .ok (.aload_n 0, 1) := by decide +kernel
theorem dX7_init_96 : decode cX7_init 96 = .ok (.bipush 16, 2) := by decide +kernel
theorem dX7_init_98 : decode cX7_init 98 = .ok (.newarray .int, 2) := by decide +kernel
theorem dX7_init_100 : decode cX7_init 100 = .ok (.putfield 63, 3) := by decide +kernel
theorem dX7_init_103 : decode cX7_init 103 = .ok (.aload_n 0, 1) := by decide +kernel
theorem dX7_init_104 : decode cX7_init 104 = .ok (.iload_n 1, 1) := by decide +kernel
theorem dX7_init_105 : decode cX7_init 105 = .ok (.putfield 67, 3) := by decide +kernel
theorem dX7_init_108 : decode cX7_init 108 = .ok (.return_, 1) := by decide +kernel
theorem dX7_start_0 : decode cX7_start 0 = .ok (.aload_n 0, 1) := by decide +kernel
theorem dX7_start_1 : decode cX7_start 1 = .ok (.iload_n 1, 1) := by decide +kernel
theorem dX7_start_2 : decode cX7_start 2 = .ok (.putfield 15, 3) := by decide +kernel
theorem dX7_start_5 : decode cX7_start 5 = .ok (.aload_n 0, 1) := by decide +kernel
theorem dX7_start_6 : decode cX7_start 6 = .ok (.iload_n 2, 1) := by decide +kernel
theorem dX7_start_7 : decode cX7_start 7 = .ok (.putfield 18, 3) := by decide +kernel
theorem dX7_start_10 : decode cX7_start 10 = .ok (.aload_n 0, 1) := by decide +kernel
theorem dX7_start_11 : decode cX7_start 11 = .ok (.iload_n 3, 1) := by decide +kernel
theorem dX7_start_12 : decode cX7_start 12 = .ok (.putfield 21, 3) := by decide +kernel
theorem dX7_start_15 : decode cX7_start 15 = .ok (.aload_n 0, 1) := by decide +kernel
theorem dX7_start_16 : decode cX7_start 16 = .ok (.iload 4, 2) := by decide +kernel
theorem dX7_start_18 : decode cX7_start 18 = .ok (.putfield 24, 3) := by decide +kernel
theorem dX7_start_21 : decode cX7_start 21 = .ok (.aload_n 0, 1) := by decide +kernel
theorem dX7_start_22 : decode cX7_start 22 = .ok (.iconst 0, 1) := by decide +kernel
theorem dX7_start_23 : decode cX7_start 23 = .ok (.putfield 9, 3) := by decide +kernel
theorem dX7_start_26 : decode cX7_start 26 = .ok (.aload_n 0, 1) := by decide +kernel
theorem dX7_start_27 : decode cX7_start 27 = .ok (.iconst (-1), 1) := by decide +kernel
theorem dX7_start_28 : decode cX7_start 28 = .ok (.putfield 27, 3) := by decide +kernel
theorem dX7_start_31 : decode cX7_start 31 = .ok (.aload_n 0, 1) := by decide +kernel
theorem dX7_start_32 : decode cX7_start 32 = .ok (.iconst 0, 1) := by decide +kernel
theorem dX7_start_33 : decode cX7_start 33 = .ok (.putfield 33, 3) := by decide +kernel
theorem dX7_start_36 : decode cX7_start 36 = .ok (.aload_n 0, 1) := by decide +kernel
theorem dX7_start_37 : decode cX7_start 37 = .ok (.getfield 41, 3) := by decide +kernel
theorem dX7_start_40 : decode cX7_start 40 = .ok (.invokevirtual 70, 3) := by decide +kernel
theorem dX7_start_43 : decode cX7_start 43 = .ok (.aload_n 0, 1) := by decide +kernel
theorem dX7_start_44 : decode cX7_start 44 = .ok (.getfield 45, 3) := by decide +kernel
theorem dX7_start_47 : decode cX7_start 47 = .ok (.invokevirtual 70, 3) := by decide +kernel
theorem dX7_start_50 : decode cX7_start 50 = .ok (.aload_n 0, 1) := by decide +kernel
theorem dX7_start_51 : decode cX7_start 51 = .ok (.iconst 0, 1) := by decide +kernel
theorem dX7_start_52 : decode cX7_start 52 = .ok (.putfield 48, 3) := by decide +kernel
theorem dX7_start_55 : decode cX7_start 55 = .ok (.aload_n 0, 1) := by decide +kernel
theorem dX7_start_56 : decode cX7_start 56 = .ok (.iconst (-1), 1) := by decide +kernel
theorem dX7_start_57 : decode cX7_start 57 = .ok (.putfield 57, 3) := by decide +kernel
theorem dX7_start_60 : decode cX7_start 60 = .ok (.aload_n 0, 1) := by decide +kernel
theorem dX7_start_61 : decode cX7_start 61 = .ok (.iconst (-1), 1) := by decide +kernel
theorem dX7_start_62 : decode cX7_start 62 = .ok (.putfield 60, 3) := by decide +kernel
theorem dX7_start_65 : decode cX7_start 65 = .ok (.aload_n 0, 1) := by decide +kernel
theorem dX7_start_66 : decode cX7_start 66 = .ok (.getfield 63, 3) := by decide +kernel
theorem dX7_start_69 : decode cX7_start 69 = .ok (.iconst 0, 1) := by decide +kernel
theorem dX7_start_70 : decode cX7_start 70 = .ok (.invokestatic 73, 3) := by decide +kernel
theorem dX7_start_73 : decode cX7_start 73 = .ok (.return_, 1) := by decide +kernel
theorem dX7_stands_0 : decode cX7_stands 0 = .ok (.aload_n 0, 1) := by decide +kernel
theorem dX7_stands_1 : decode cX7_stands 1 = .ok (.getfield 9, 3) := by decide +kernel
theorem dX7_stands_4 : decode cX7_stands 4 = .ok (.ifCond .eq 11, 3) := by decide +kernel
theorem dX7_stands_7 : decode cX7_stands 7 = .ok (.aload_n 0, 1) := by decide +kernel
theorem dX7_stands_8 : decode cX7_stands 8 = .ok (.getfield 9, 3) := by decide +kernel
theorem dX7_stands_11 : decode cX7_stands 11 = .ok (.iconst 1, 1) := by decide +kernel
theorem dX7_stands_12 : decode cX7_stands 12 = .ok (.if_icmp .ne 7, 3) := by decide +kernel
theorem dX7_stands_15 : decode cX7_stands 15 = .ok (.iconst 1, 1) := by decide +kernel
theorem dX7_stands_16 : decode cX7_stands 16 = .ok (.goto 4, 3) := by decide +kernel
theorem dX7_stands_19 : decode cX7_stands 19 = .ok (.iconst 0, 1) := by decide +kernel
theorem dX7_stands_20 : decode cX7_stands 20 = .ok (.ireturn, 1) := by decide +kernel
theorem dX7_takesTrackAt_0 : decode cX7_takesTrackAt 0 = .ok (.aload_n 0, 1) := by decide +kernel
theorem dX7_takesTrackAt_1 : decode cX7_takesTrackAt 1 = .ok (.getfield 9, 3) := by decide +kernel
theorem dX7_takesTrackAt_4 : decode cX7_takesTrackAt 4 = .ok (.iconst (-1), 1) := by decide +kernel
theorem dX7_takesTrackAt_5 : decode cX7_takesTrackAt 5 = .ok (.if_icmp .eq 15, 3) := by decide +kernel
theorem dX7_takesTrackAt_8 : decode cX7_takesTrackAt 8 = .ok (.aload_n 0, 1) := by decide +kernel
theorem dX7_takesTrackAt_9 : decode cX7_takesTrackAt 9 = .ok (.getfield 24, 3) := by decide +kernel
theorem dX7_takesTrackAt_12 : decode cX7_takesTrackAt 12 = .ok (.iload_n 1, 1) := by decide +kernel
theorem dX7_takesTrackAt_13 : decode cX7_takesTrackAt 13 = .ok (.if_icmp .ne 7, 3) := by decide +kernel
theorem dX7_takesTrackAt_16 : decode cX7_takesTrackAt 16 = .ok (.iconst 1, 1) := by decide +kernel
theorem dX7_takesTrackAt_17 : decode cX7_takesTrackAt 17 = .ok (.goto 4, 3) := by decide +kernel
theorem dX7_takesTrackAt_20 : decode cX7_takesTrackAt 20 = .ok (.iconst 0, 1) := by decide +kernel
theorem dX7_takesTrackAt_21 : decode cX7_takesTrackAt 21 = .ok (.ireturn, 1) := by decide +kernel
theorem dX7_nextBlock_0 : decode cX7_nextBlock 0 = .ok (.aload_n 0, 1) := by decide +kernel
theorem dX7_nextBlock_1 : decode cX7_nextBlock 1 = .ok (.getfield 45, 3) := by decide +kernel
theorem dX7_nextBlock_4 : decode cX7_nextBlock 4 = .ok (.aload_n 0, 1) := by decide +kernel
theorem dX7_nextBlock_5 : decode cX7_nextBlock 5 = .ok (.getfield 48, 3) := by decide +kernel
theorem dX7_nextBlock_8 : decode cX7_nextBlock 8 = .ok (.invokevirtual 79, 3) := by decide +kernel
theorem dX7_nextBlock_11 : decode cX7_nextBlock 11 = .ok (.ireturn, 1) := by decide +kernel
theorem dX7_minutesToClear_0 : decode cX7_minutesToClear 0 = .ok (.iconst 1, 1) := by decide +kernel
theorem dX7_minutesToClear_1 : decode cX7_minutesToClear 1 = .ok (.aload_n 0, 1) := by decide +kernel
theorem dX7_minutesToClear_2 : decode cX7_minutesToClear 2 = .ok (.getfield 41, 3) := by decide +kernel
theorem dX7_minutesToClear_5 : decode cX7_minutesToClear 5 = .ok (.getfield 83, 3) := by decide +kernel
theorem dX7_minutesToClear_8 : decode cX7_minutesToClear 8 = .ok (.iconst 4, 1) := by decide +kernel
theorem dX7_minutesToClear_9 : decode cX7_minutesToClear 9 = .ok (.idiv, 1) := by decide +kernel
theorem dX7_minutesToClear_10 : decode cX7_minutesToClear 10 = .ok (.iadd, 1) := by decide +kernel
theorem dX7_minutesToClear_11 : decode cX7_minutesToClear 11 = .ok (.ireturn, 1) := by decide +kernel
theorem dX7_notClear_0 : decode cX7_notClear 0 = .ok (.iload_n 1, 1) := by decide +kernel
theorem dX7_notClear_1 : decode cX7_notClear 1 = .ok (.ifCond .lt 19, 3) := by decide +kernel
theorem dX7_notClear_4 : decode cX7_notClear 4 = .ok (.iload_n 1, 1) := by decide +kernel
theorem dX7_notClear_5 : decode cX7_notClear 5 = .ok (.aload_n 0, 1) := by decide +kernel
theorem dX7_notClear_6 : decode cX7_notClear 6 = .ok (.getfield 63, 3) := by decide +kernel
theorem dX7_notClear_9 : decode cX7_notClear 9 = .ok (.arraylength, 1) := by decide +kernel
theorem dX7_notClear_10 : decode cX7_notClear 10 = .ok (.if_icmp .ge 10, 3) := by decide +kernel
theorem dX7_notClear_13 : decode cX7_notClear 13 = .ok (.aload_n 0, 1) := by decide +kernel
theorem dX7_notClear_14 : decode cX7_notClear 14 = .ok (.getfield 63, 3) := by decide +kernel
theorem dX7_notClear_17 : decode cX7_notClear 17 = .ok (.iload_n 1, 1) := by decide +kernel
theorem dX7_notClear_18 : decode cX7_notClear 18 = .ok (.iload_n 2, 1) := by decide +kernel
theorem dX7_notClear_19 : decode cX7_notClear 19 = .ok (.iastore, 1) := by decide +kernel
theorem dX7_notClear_20 : decode cX7_notClear 20 = .ok (.return_, 1) := by decide +kernel
theorem dX7_holds_0 : decode cX7_holds 0 = .ok (.aload_n 0, 1) := by decide +kernel
theorem dX7_holds_1 : decode cX7_holds 1 = .ok (.getfield 9, 3) := by decide +kernel
theorem dX7_holds_4 : decode cX7_holds 4 = .ok (.iconst (-1), 1) := by decide +kernel
theorem dX7_holds_5 : decode cX7_holds 5 = .ok (.if_icmp .eq 24, 3) := by decide +kernel
theorem dX7_holds_8 : decode cX7_holds 8 = .ok (.aload_n 0, 1) := by decide +kernel
theorem dX7_holds_9 : decode cX7_holds 9 = .ok (.getfield 9, 3) := by decide +kernel
theorem dX7_holds_12 : decode cX7_holds 12 = .ok (.iconst 3, 1) := by decide +kernel
theorem dX7_holds_13 : decode cX7_holds 13 = .ok (.if_icmp .eq 16, 3) := by decide +kernel
theorem dX7_holds_16 : decode cX7_holds 16 = .ok (.iload_n 1, 1) := by decide +kernel
theorem dX7_holds_17 : decode cX7_holds 17 = .ok (.ifCond .lt 12, 3) := by decide +kernel
theorem dX7_holds_20 : decode cX7_holds 20 = .ok (.iload_n 1, 1) := by decide +kernel
theorem dX7_holds_21 : decode cX7_holds 21 = .ok (.aload_n 0, 1) := by decide +kernel
theorem dX7_holds_22 : decode cX7_holds 22 = .ok (.getfield 63, 3) := by decide +kernel
theorem dX7_holds_25 : decode cX7_holds 25 = .ok (.arraylength, 1) := by decide +kernel
theorem dX7_holds_26 : decode cX7_holds 26 = .ok (.if_icmp .lt 5, 3) := by decide +kernel
theorem dX7_holds_29 : decode cX7_holds 29 = .ok (.iconst 0, 1) := by decide +kernel
theorem dX7_holds_30 : decode cX7_holds 30 = .ok (.ireturn, 1) := by decide +kernel
theorem dX7_holds_31 : decode cX7_holds 31 = .ok (.aload_n 0, 1) := by decide +kernel
theorem dX7_holds_32 : decode cX7_holds 32 = .ok (.getfield 9, 3) := by decide +kernel
theorem dX7_holds_35 : decode cX7_holds 35 = .ok (.iconst 2, 1) := by decide +kernel
theorem dX7_holds_36 : decode cX7_holds 36 = .ok (.if_icmp .ne 11, 3) := by decide +kernel
theorem dX7_holds_39 : decode cX7_holds 39 = .ok (.aload_n 0, 1) := by decide +kernel
theorem dX7_holds_40 : decode cX7_holds 40 = .ok (.getfield 27, 3) := by decide +kernel
theorem dX7_holds_43 : decode cX7_holds 43 = .ok (.iload_n 1, 1) := by decide +kernel
theorem dX7_holds_44 : decode cX7_holds 44 = .ok (.if_icmp .eq 13, 3) := by decide +kernel
theorem dX7_holds_47 : decode cX7_holds 47 = .ok (.iload_n 2, 1) := by decide +kernel
theorem dX7_holds_48 : decode cX7_holds 48 = .ok (.aload_n 0, 1) := by decide +kernel
theorem dX7_holds_49 : decode cX7_holds 49 = .ok (.getfield 63, 3) := by decide +kernel
theorem dX7_holds_52 : decode cX7_holds 52 = .ok (.iload_n 1, 1) := by decide +kernel
theorem dX7_holds_53 : decode cX7_holds 53 = .ok (.iaload, 1) := by decide +kernel
theorem dX7_holds_54 : decode cX7_holds 54 = .ok (.if_icmp .ge 7, 3) := by decide +kernel
theorem dX7_holds_57 : decode cX7_holds 57 = .ok (.iconst 1, 1) := by decide +kernel
theorem dX7_holds_58 : decode cX7_holds 58 = .ok (.goto 4, 3) := by decide +kernel
theorem dX7_holds_61 : decode cX7_holds 61 = .ok (.iconst 0, 1) := by decide +kernel
theorem dX7_holds_62 : decode cX7_holds 62 = .ok (.ireturn, 1) := by decide +kernel
theorem dX8_init_0 : decode cX8_init 0 = .ok (.aload_n 0, 1) := by decide +kernel
theorem dX8_init_1 : decode cX8_init 1 = .ok (.invokespecial 1, 3) := by decide +kernel
theorem dX8_init_4 : decode cX8_init 4 = .ok (.aload_n 0, 1) := by decide +kernel
theorem dX8_init_5 : decode cX8_init 5 = .ok (.bipush 8, 2) := by decide +kernel
theorem dX8_init_7 : decode cX8_init 7 = .ok (.anewarray 9, 3) := by decide +kernel
theorem dX8_init_10 : decode cX8_init 10 = .ok (.putfield 11, 3) := by decide +kernel
theorem dX8_init_13 : decode cX8_init 13 = .ok (.aload_n 0, 1) := by decide +kernel
theorem dX8_init_14 : decode cX8_init 14 = .ok (.new 15, 3) := by decide +kernel
theorem dX8_init_17 : decode cX8_init 17 = .ok (.dup, 1) := by decide +kernel
theorem dX8_init_18 : decode cX8_init 18 = .ok (.invokespecial 17, 3) := by decide +kernel
theorem dX8_init_21 : decode cX8_init 21 = .ok (.putfield 18, 3) := by decide +kernel
theorem dX8_init_24 : decode cX8_init 24 = .ok (.aload_n 0, 1) := by decide +kernel
theorem dX8_init_25 : decode cX8_init 25 = .ok (.new 15, 3) := by decide +kernel
theorem dX8_init_28 : decode cX8_init 28 = .ok (.dup, 1) := by decide +kernel
theorem dX8_init_29 : decode cX8_init 29 = .ok (.invokespecial 17, 3) := by decide +kernel
theorem dX8_init_32 : decode cX8_init 32 = .ok (.putfield 22, 3) := by decide +kernel
theorem dX8_init_35 : decode cX8_init 35 = .ok (.aload_n 0, 1) := by decide +kernel
theorem dX8_init_36 : decode cX8_init 36 = .ok (.new 15, 3) := by decide +kernel
theorem dX8_init_39 : decode cX8_init 39 = .ok (.dup, 1) := by decide +kernel
theorem dX8_init_40 : decode cX8_init 40 = .ok (.invokespecial 17, 3) := by decide +kernel
theorem dX8_init_43 : decode cX8_init 43 = .ok (.putfield 25, 3) := by decide +kernel
theorem dX8_init_46 : decode cX8_init 46 = .ok (.aload_n 0, 1) := by decide +kernel
theorem dX8_init_47 : decode cX8_init 47 = .ok (.new 15, 3) := by decide +kernel
theorem dX8_init_50 : decode cX8_init 50 = .ok (.dup, 1) := by decide +kernel
theorem dX8_init_51 : decode cX8_init 51 = .ok (.invokespecial 17, 3) := by decide +kernel
theorem dX8_init_54 : decode cX8_init 54 = .ok (.putfield 28, 3) := by decide +kernel
theorem dX8_init_57 : decode cX8_init 57 = .ok (.aload_n 0, 1) := by decide +kernel
theorem dX8_init_58 : decode cX8_init 58 = .ok (.new 15, 3) := by decide +kernel
theorem dX8_init_61 : decode cX8_init 61 = .ok (.dup, 1) := by decide +kernel
theorem dX8_init_62 : decode cX8_init 62 = .ok (.invokespecial 17, 3) := by decide +kernel
theorem dX8_init_65 : decode cX8_init 65 = .ok (.putfield 31, 3) := by decide +kernel
theorem dX8_init_68 : decode cX8_init 68 = .ok (.aload_n 0, 1) := by decide +kernel
theorem dX8_init_69 : decode cX8_init 69 = .ok (.bipush 6, 2) := by decide +kernel
theorem dX8_init_71 : decode cX8_init 71 = .ok (.anewarray 34, 3) := by decide +kernel
theorem dX8_init_74 : decode cX8_init 74 = .ok (.putfield 36, 3) := by decide +kernel
theorem dX8_init_77 : decode cX8_init 77 = .ok (.aload_n 0, 1) := by decide +kernel
theorem dX8_init_78 : decode cX8_init 78 = .ok (.bipush 64, 2) := by decide +kernel
theorem dX8_init_80 : decode cX8_init 80 = .ok (.newarray .int, 2) := by decide +kernel
theorem dX8_init_82 : decode cX8_init 82 = .ok (.putfield 40, 3) := by decide +kernel
theorem dX8_init_85 : decode cX8_init 85 = .ok (.aload_n 0, 1) := by decide +kernel
theorem dX8_init_86 : decode cX8_init 86 = .ok (.bipush 64, 2) := by decide +kernel
theorem dX8_init_88 : decode cX8_init 88 = .ok (.newarray .int, 2) := by decide +kernel
theorem dX8_init_90 : decode cX8_init 90 = .ok (.putfield 44, 3) := by decide +kernel
theorem dX8_init_93 : decode cX8_init 93 = .ok (.aload_n 0, 1) := by decide +kernel
theorem dX8_init_94 : decode cX8_init 94 = .ok (.new 47, 3) := by decide +kernel
theorem dX8_init_97 : decode cX8_init 97 = .ok (.dup, 1) := by decide +kernel
theorem dX8_init_98 : decode cX8_init 98 = .ok (.bipush 8, 2) := by decide +kernel
theorem dX8_init_100 : decode cX8_init 100 = .ok (.invokespecial 49, 3) := by decide +kernel
theorem dX8_init_103 : decode cX8_init 103 = .ok (.putfield 52, 3) := by decide +kernel
theorem dX8_init_106 : decode cX8_init 106 = .ok (.aload_n 0, 1) := by decide +kernel
theorem dX8_init_107 : decode cX8_init 107 = .ok (.new 47, 3) := by decide +kernel
theorem dX8_init_110 : decode cX8_init 110 = .ok (.dup, 1) := by decide +kernel
theorem dX8_init_111 : decode cX8_init 111 = .ok (.bipush 20, 2) := by decide +kernel
theorem dX8_init_113 : decode cX8_init 113 = .ok (.invokespecial 49, 3) := by decide +kernel
theorem dX8_init_116 : decode cX8_init 116 = .ok (.putfield 56, 3) := by decide +kernel
theorem dX8_init_119 : decode cX8_init 119 = .ok (.aload_n 0, 1) := by decide +kernel
theorem dX8_init_120 : decode cX8_init 120 = .ok (.bipush 8, 2) := by decide +kernel
theorem dX8_init_122 : decode cX8_init 122 = .ok (.newarray .int, 2) := by decide +kernel
theorem dX8_init_124 : decode cX8_init 124 = .ok (.putfield 59, 3) := by decide +kernel
theorem dX8_init_127 : decode cX8_init 127 = .ok (.aload_n 0, 1) := by decide +kernel
theorem dX8_init_128 : decode cX8_init 128 = .ok (.iconst 0, 1) := by decide +kernel
theorem dX8_init_129 : decode cX8_init 129 = .ok (.putfield 62, 3) := by decide +kernel
theorem dX8_init_132 : decode cX8_init 132 = .ok (.aload_n 0, 1) := by decide +kernel
theorem dX8_init_133 : decode cX8_init 133 = .ok (.sipush 5000, 3) := by decide +kernel
theorem dX8_init_136 : decode cX8_init 136 = .ok (.putfield 66, 3) := by decide +kernel
theorem dX8_init_139 : decode cX8_init 139 = .ok (.aload_n 0, 1) := by decide +kernel
theorem dX8_init_140 : decode cX8_init 140 = .ok (.iconst 0, 1) := by decide +kernel
theorem dX8_init_141 : decode cX8_init 141 = .ok (.putfield 69, 3) := by decide +kernel
theorem dX8_init_144 : decode cX8_init 144 = .ok (.aload_n 0, 1) := by decide +kernel
theorem dX8_init_145 : decode cX8_init 145 = .ok (.iconst 0, 1) := by decide +kernel
theorem dX8_init_146 : decode cX8_init 146 = .ok (.putfield 72, 3) := by decide +kernel
theorem dX8_init_149 : decode cX8_init 149 = .ok (.iconst 0, 1) := by decide +kernel
theorem dX8_init_150 : decode cX8_init 150 = .ok (.istore_n 1, 1) := by decide +kernel
theorem dX8_init_151 : decode cX8_init 151 = .ok (.iload_n 1, 1) := by decide +kernel
theorem dX8_init_152 : decode cX8_init 152 = .ok (.aload_n 0, 1) := by decide +kernel
theorem dX8_init_153 : decode cX8_init 153 = .ok (.getfield 11, 3) := by decide +kernel
theorem dX8_init_156 : decode cX8_init 156 = .ok (.arraylength, 1) := by decide +kernel
theorem dX8_init_157 : decode cX8_init 157 = .ok (.if_icmp .ge 22, 3) := by decide +kernel
theorem dX8_init_160 : decode cX8_init 160 = .ok (.aload_n 0, 1) := by decide +kernel
theorem dX8_init_161 : decode cX8_init 161 = .ok (.getfield 11, 3) := by decide +kernel
theorem dX8_init_164 : decode cX8_init 164 = .ok (.iload_n 1, 1) := by decide +kernel
theorem dX8_init_165 : decode cX8_init 165 = .ok (.new 9, 3) := by decide +kernel
theorem dX8_init_168 : decode cX8_init 168 = .ok (.dup, 1) := by decide +kernel
theorem dX8_init_169 : decode cX8_init 169 = .ok (.invokespecial 75, 3) := by decide +kernel
theorem dX8_init_172 : decode cX8_init 172 = .ok (.aastore, 1) := by decide +kernel
theorem dX8_init_173 : decode cX8_init 173 = .ok (.iinc 1 1, 3) := by decide +kernel
theorem dX8_init_176 : decode cX8_init 176 = .ok (.goto (-25), 3) := by decide +kernel
theorem dX8_init_179 : decode cX8_init 179 = .ok (.iconst 0, 1) := by decide +kernel
theorem dX8_init_180 : decode cX8_init 180 = .ok (.istore_n 1, 1) := by decide +kernel
theorem dX8_init_181 : decode cX8_init 181 = .ok (.iload_n 1, 1) := by decide +kernel
theorem dX8_init_182 : decode cX8_init 182 = .ok (.aload_n 0, 1) := by decide +kernel
theorem dX8_init_183 : decode cX8_init 183 = .ok (.getfield 36, 3) := by decide +kernel
theorem dX8_init_186 : decode cX8_init 186 = .ok (.arraylength, 1) := by decide +kernel
theorem dX8_init_187 : decode cX8_init 187 = .ok (.if_icmp .ge 23, 3) := by decide +kernel
theorem dX8_init_190 : decode cX8_init 190 = .ok (.aload_n 0, 1) := by decide +kernel
theorem dX8_init_191 : decode cX8_init 191 = .ok (.getfield 36, 3) := by decide +kernel
theorem dX8_init_194 : decode cX8_init 194 = .ok (.iload_n 1, 1) := by decide +kernel
theorem dX8_init_195 : decode cX8_init 195 = .ok (.new 34, 3) := by decide +kernel
theorem dX8_init_198 : decode cX8_init 198 = .ok (.dup, 1) := by decide +kernel
theorem dX8_init_199 : decode cX8_init 199 = .ok (.iload_n 1, 1) := by decide +kernel
theorem dX8_init_200 : decode cX8_init 200 = .ok (.invokespecial 76, 3) := by decide +kernel
theorem dX8_init_203 : decode cX8_init 203 = .ok (.aastore, 1) := by decide +kernel
theorem dX8_init_204 : decode cX8_init 204 = .ok (.iinc 1 1, 3) := by decide +kernel
theorem dX8_init_207 : decode cX8_init 207 = .ok (.goto (-26), 3) := by decide +kernel
theorem dX8_init_210 : decode cX8_init 210 = .ok (.aload_n 0, 1) := by decide +kernel
theorem dX8_init_211 : decode cX8_init 211 = .ok (.getfield 40, 3) := by decide +kernel
theorem dX8_init_214 : decode cX8_init 214 = .ok (.bipush 20, 2) := by decide +kernel
theorem dX8_init_216 : decode cX8_init 216 = .ok (.invokestatic 77, 3) := by decide +kernel
theorem dX8_init_219 : decode cX8_init 219 = .ok (.aload_n 0, 1) := by decide +kernel
theorem dX8_init_220 : decode cX8_init 220 = .ok (.getfield 44, 3) := by decide +kernel
theorem dX8_init_223 : decode cX8_init 223 = .ok (.bipush 20, 2) := by decide +kernel
theorem dX8_init_225 : decode cX8_init 225 = .ok (.invokestatic 77, 3) := by decide +kernel
theorem dX8_init_228 : decode cX8_init 228 = .ok (.return_, 1) := by decide +kernel
theorem dX8_tracks_0 : decode cX8_tracks 0 = .ok (.aload_n 0, 1) := by decide +kernel
theorem dX8_tracks_1 : decode cX8_tracks 1 = .ok (.iload_n 1, 1) := by decide +kernel
theorem dX8_tracks_2 : decode cX8_tracks 2 = .ok (.invokevirtual 83, 3) := by decide +kernel
theorem dX8_tracks_5 : decode cX8_tracks 5 = .ok (.astore_n 3, 1) := by decide +kernel
theorem dX8_tracks_6 : decode cX8_tracks 6 = .ok (.iload_n 2, 1) := by decide +kernel
theorem dX8_tracks_7 : decode cX8_tracks 7 = .ok (.iconst 1, 1) := by decide +kernel
theorem dX8_tracks_8 : decode cX8_tracks 8 = .ok (.iconst 4, 1) := by decide +kernel
theorem dX8_tracks_9 : decode cX8_tracks 9 = .ok (.invokestatic 87, 3) := by decide +kernel
theorem dX8_tracks_12 : decode cX8_tracks 12 = .ok (.aload_n 0, 1) := by decide +kernel
theorem dX8_tracks_13 : decode cX8_tracks 13 = .ok (.iload_n 1, 1) := by decide +kernel
theorem dX8_tracks_14 : decode cX8_tracks 14 = .ok (.invokevirtual 91, 3) := by decide +kernel
theorem dX8_tracks_17 : decode cX8_tracks 17 = .ok (.iload_n 2, 1) := by decide +kernel
theorem dX8_tracks_18 : decode cX8_tracks 18 = .ok (.if_icmp .gt 7, 3) := by decide +kernel
theorem dX8_tracks_21 : decode cX8_tracks 21 = .ok (.iconst 1, 1) := by decide +kernel
theorem dX8_tracks_22 : decode cX8_tracks 22 = .ok (.goto 4, 3) := by decide +kernel
theorem dX8_tracks_25 : decode cX8_tracks 25 = .ok (.iconst 0, 1) := by decide +kernel
theorem dX8_tracks_26 : decode cX8_tracks 26 = .ok (.invokestatic 95, 3) := by decide +kernel
theorem dX8_tracks_29 : decode cX8_tracks 29 = .ok (.aload_n 3, 1) := by decide +kernel
theorem dX8_tracks_30 : decode cX8_tracks 30 = .ok (.getfield 99, 3) := by decide +kernel
theorem dX8_tracks_33 : decode cX8_tracks 33 = .ok (.istore 4, 2) := by decide +kernel
theorem dX8_tracks_35 : decode cX8_tracks 35 = .ok (.aload_n 3, 1) := by decide +kernel
theorem dX8_tracks_36 : decode cX8_tracks 36 = .ok (.iload_n 2, 1) := by decide +kernel
theorem dX8_tracks_37 : decode cX8_tracks 37 = .ok (.putfield 99, 3) := by decide +kernel
theorem dX8_tracks_40 : decode cX8_tracks 40 = .ok (.iload 4, 2) := by decide +kernel
theorem dX8_tracks_42 : decode cX8_tracks 42 = .ok (.ireturn, 1) := by decide +kernel
theorem dX8_lay_0 : decode cX8_lay 0 = .ok (.aload_n 0, 1) := by decide +kernel
theorem dX8_lay_1 : decode cX8_lay 1 = .ok (.iload_n 1, 1) := by decide +kernel
theorem dX8_lay_2 : decode cX8_lay 2 = .ok (.invokevirtual 102, 3) := by decide +kernel
theorem dX8_lay_5 : decode cX8_lay 5 = .ok (.aload_n 0, 1) := by decide +kernel
theorem dX8_lay_6 : decode cX8_lay 6 = .ok (.iload_n 2, 1) := by decide +kernel
theorem dX8_lay_7 : decode cX8_lay 7 = .ok (.invokevirtual 102, 3) := by decide +kernel
theorem dX8_lay_10 : decode cX8_lay 10 = .ok (.iload_n 1, 1) := by decide +kernel
theorem dX8_lay_11 : decode cX8_lay 11 = .ok (.iload_n 2, 1) := by decide +kernel
theorem dX8_lay_12 : decode cX8_lay 12 = .ok (.if_icmp .eq 7, 3) := by decide +kernel
theorem dX8_lay_15 : decode cX8_lay 15 = .ok (.iconst 1, 1) := by decide +kernel
theorem dX8_lay_16 : decode cX8_lay 16 = .ok (.goto 4, 3) := by decide +kernel
theorem dX8_lay_19 : decode cX8_lay 19 = .ok (.iconst 0, 1) := by decide +kernel
theorem dX8_lay_20 : decode cX8_lay 20 = .ok (.invokestatic 105, 3) := by decide +kernel
theorem dX8_lay_23 : decode cX8_lay 23 = .ok (.iload_n 3, 1) := by decide +kernel
theorem dX8_lay_24 : decode cX8_lay 24 = .ok (.iconst 2, 1) := by decide +kernel
theorem dX8_lay_25 : decode cX8_lay 25 = .ok (.bipush 60, 2) := by decide +kernel
theorem dX8_lay_27 : decode cX8_lay 27 = .ok (.invokestatic 87, 3) := by decide +kernel
theorem dX8_lay_30 : decode cX8_lay 30 = .ok (.iload 4, 2) := by decide +kernel
theorem dX8_lay_32 : decode cX8_lay 32 = .ok (.iconst 0, 1) := by decide +kernel
theorem dX8_lay_33 : decode cX8_lay 33 = .ok (.iconst 3, 1) := by decide +kernel
theorem dX8_lay_34 : decode cX8_lay 34 = .ok (.invokestatic 87, 3) := by decide +kernel
theorem dX8_lay_37 : decode cX8_lay 37 = .ok (.aload_n 0, 1) := by decide +kernel
theorem dX8_lay_38 : decode cX8_lay 38 = .ok (.getfield 18, 3) := by decide +kernel
theorem dX8_lay_41 : decode cX8_lay 41 = .ok (.invokevirtual 108, 3) := by decide +kernel
theorem dX8_lay_44 : decode cX8_lay 44 = .ok (.bipush 16, 2) := by decide +kernel
theorem dX8_lay_46 : decode cX8_lay 46 = .ok (.if_icmp .ge 7, 3) := by decide +kernel
theorem dX8_lay_49 : decode cX8_lay 49 = .ok (.iconst 1, 1) := by decide +kernel
theorem dX8_lay_50 : decode cX8_lay 50 = .ok (.goto 4, 3) := by decide +kernel
theorem dX8_lay_53 : decode cX8_lay 53 = .ok (.iconst 0, 1) := by decide +kernel
theorem dX8_lay_54 : decode cX8_lay 54 = .ok (.invokestatic 95, 3) := by decide +kernel
theorem dX8_lay_57 : decode cX8_lay 57 = .ok (.aload_n 0, 1) := by decide +kernel
theorem dX8_lay_58 : decode cX8_lay 58 = .ok (.dup, 1) := by decide +kernel
theorem dX8_lay_59 : decode cX8_lay 59 = .ok (.getfield 66, 3) := by decide +kernel
theorem dX8_lay_62 : decode cX8_lay 62 = .ok (.bipush 100, 2) := by decide +kernel
theorem dX8_lay_64 : decode cX8_lay 64 = .ok (.iload_n 3, 1) := by decide +kernel
theorem dX8_lay_65 : decode cX8_lay 65 = .ok (.imul, 1) := by decide +kernel
theorem dX8_lay_66 : decode cX8_lay 66 = .ok (.isub, 1) := by decide +kernel
theorem dX8_lay_67 : decode cX8_lay 67 = .ok (.putfield 66, 3) := by decide +kernel
theorem dX8_lay_70 : decode cX8_lay 70 = .ok (.aload_n 0, 1) := by decide +kernel
theorem dX8_lay_71 : decode cX8_lay 71 = .ok (.getfield 18, 3) := by decide +kernel
theorem dX8_lay_74 : decode cX8_lay 74 = .ok (.new 112, 3) := by decide +kernel
theorem dX8_lay_77 : decode cX8_lay 77 = .ok (.dup, 1) := by decide +kernel
theorem dX8_lay_78 : decode cX8_lay 78 = .ok (.iload_n 1, 1) := by decide +kernel
theorem dX8_lay_79 : decode cX8_lay 79 = .ok (.iload_n 2, 1) := by decide +kernel
theorem dX8_lay_80 : decode cX8_lay 80 = .ok (.iload_n 3, 1) := by decide +kernel
theorem dX8_lay_81 : decode cX8_lay 81 = .ok (.iload 4, 2) := by decide +kernel
theorem dX8_lay_83 : decode cX8_lay 83 = .ok (.invokespecial 114, 3) := by decide +kernel
theorem dX8_lay_86 : decode cX8_lay 86 = .ok (.invokevirtual 117, 3) := by decide +kernel
theorem dX8_lay_89 : decode cX8_lay 89 = .ok (.pop, 1) := by decide +kernel
theorem dX8_lay_90 : decode cX8_lay 90 = .ok (.aload_n 0, 1) := by decide +kernel
theorem dX8_lay_91 : decode cX8_lay 91 = .ok (.getfield 18, 3) := by decide +kernel
theorem dX8_lay_94 : decode cX8_lay 94 = .ok (.invokevirtual 108, 3) := by decide +kernel
theorem dX8_lay_97 : decode cX8_lay 97 = .ok (.iconst 1, 1) := by decide +kernel
theorem dX8_lay_98 : decode cX8_lay 98 = .ok (.isub, 1) := by decide +kernel
theorem dX8_lay_99 : decode cX8_lay 99 = .ok (.ireturn, 1) := by decide +kernel
theorem dX8_fail_0 : decode cX8_fail 0 = .ok (.aload_n 0, 1) := by decide +kernel
theorem dX8_fail_1 : decode cX8_fail 1 = .ok (.iload_n 1, 1) := by decide +kernel
theorem dX8_fail_2 : decode cX8_fail 2 = .ok (.invokevirtual 121, 3) := by decide +kernel
theorem dX8_fail_5 : decode cX8_fail 5 = .ok (.astore_n 3, 1) := by decide +kernel
theorem dX8_fail_6 : decode cX8_fail 6 = .ok (.aload_n 3, 1) := by decide +kernel
theorem dX8_fail_7 : decode cX8_fail 7 = .ok (.getfield 125, 3) := by decide +kernel
theorem dX8_fail_10 : decode cX8_fail 10 = .ok (.istore 4, 2) := by decide +kernel
theorem dX8_fail_12 : decode cX8_fail 12 = .ok (.aload_n 3, 1) := by decide +kernel
theorem dX8_fail_13 : decode cX8_fail 13 = .ok (.iload_n 2, 1) := by decide +kernel
theorem dX8_fail_14 : decode cX8_fail 14 = .ok (.putfield 125, 3) := by decide +kernel
theorem dX8_fail_17 : decode cX8_fail 17 = .ok (.aload_n 3, 1) := by decide +kernel
theorem dX8_fail_18 : decode cX8_fail 18 = .ok (.iconst 0, 1) := by decide +kernel
theorem dX8_fail_19 : decode cX8_fail 19 = .ok (.putfield 129, 3) := by decide +kernel
theorem dX8_fail_22 : decode cX8_fail 22 = .ok (.iload 4, 2) := by decide +kernel
theorem dX8_fail_24 : decode cX8_fail 24 = .ok (.ireturn, 1) := by decide +kernel
theorem dX8_flag_0 : decode cX8_flag 0 = .ok (.aload_n 0, 1) := by decide +kernel
theorem dX8_flag_1 : decode cX8_flag 1 = .ok (.iload_n 1, 1) := by decide +kernel
theorem dX8_flag_2 : decode cX8_flag 2 = .ok (.invokevirtual 121, 3) := by decide +kernel
theorem dX8_flag_5 : decode cX8_flag 5 = .ok (.astore_n 2, 1) := by decide +kernel
theorem dX8_flag_6 : decode cX8_flag 6 = .ok (.aload_n 2, 1) := by decide +kernel
theorem dX8_flag_7 : decode cX8_flag 7 = .ok (.getfield 125, 3) := by decide +kernel
theorem dX8_flag_10 : decode cX8_flag 10 = .ok (.ifCond .eq 14, 3) := by decide +kernel
theorem dX8_flag_13 : decode cX8_flag 13 = .ok (.aload_n 2, 1) := by decide +kernel
theorem dX8_flag_14 : decode cX8_flag 14 = .ok (.getfield 129, 3) := by decide +kernel
theorem dX8_flag_17 : decode cX8_flag 17 = .ok (.ifCond .ne 7, 3) := by decide +kernel
theorem dX8_flag_20 : decode cX8_flag 20 = .ok (.iconst 1, 1) := by decide +kernel
theorem dX8_flag_21 : decode cX8_flag 21 = .ok (.goto 4, 3) := by decide +kernel
theorem dX8_flag_24 : decode cX8_flag 24 = .ok (.iconst 0, 1) := by decide +kernel
theorem dX8_flag_25 : decode cX8_flag 25 = .ok (.invokestatic 95, 3) := by decide +kernel
theorem dX8_flag_28 : decode cX8_flag 28 = .ok (.aload_n 2, 1) := by decide +kernel
theorem dX8_flag_29 : decode cX8_flag 29 = .ok (.iconst 1, 1) := by decide +kernel
theorem dX8_flag_30 : decode cX8_flag 30 = .ok (.putfield 129, 3) := by decide +kernel
theorem dX8_flag_33 : decode cX8_flag 33 = .ok (.return_, 1) := by decide +kernel
theorem dX8_hours_0 : decode cX8_hours 0 = .ok (.aload_n 0, 1) := by decide +kernel
theorem dX8_hours_1 : decode cX8_hours 1 = .ok (.iload_n 1, 1) := by decide +kernel
theorem dX8_hours_2 : decode cX8_hours 2 = .ok (.invokevirtual 121, 3) := by decide +kernel
theorem dX8_hours_5 : decode cX8_hours 5 = .ok (.astore 4, 2) := by decide +kernel
theorem dX8_hours_7 : decode cX8_hours 7 = .ok (.iload_n 2, 1) := by decide +kernel
theorem dX8_hours_8 : decode cX8_hours 8 = .ok (.iconst 0, 1) := by decide +kernel
theorem dX8_hours_9 : decode cX8_hours 9 = .ok (.sipush 1440, 3) := by decide +kernel
theorem dX8_hours_12 : decode cX8_hours 12 = .ok (.invokestatic 87, 3) := by decide +kernel
theorem dX8_hours_15 : decode cX8_hours 15 = .ok (.iload_n 3, 1) := by decide +kernel
theorem dX8_hours_16 : decode cX8_hours 16 = .ok (.iload_n 2, 1) := by decide +kernel
theorem dX8_hours_17 : decode cX8_hours 17 = .ok (.sipush 1440, 3) := by decide +kernel
theorem dX8_hours_20 : decode cX8_hours 20 = .ok (.invokestatic 87, 3) := by decide +kernel
theorem dX8_hours_23 : decode cX8_hours 23 = .ok (.aload 4, 2) := by decide +kernel
theorem dX8_hours_25 : decode cX8_hours 25 = .ok (.iload_n 2, 1) := by decide +kernel
theorem dX8_hours_26 : decode cX8_hours 26 = .ok (.putfield 132, 3) := by decide +kernel
theorem dX8_hours_29 : decode cX8_hours 29 = .ok (.aload 4, 2) := by decide +kernel
theorem dX8_hours_31 : decode cX8_hours 31 = .ok (.iload_n 3, 1) := by decide +kernel
theorem dX8_hours_32 : decode cX8_hours 32 = .ok (.putfield 135, 3) := by decide +kernel
theorem dX8_hours_35 : decode cX8_hours 35 = .ok (.return_, 1) := by decide +kernel
theorem dX8_repair_0 : decode cX8_repair 0 = .ok (.aload_n 0, 1) := by decide +kernel
theorem dX8_repair_1 : decode cX8_repair 1 = .ok (.iload_n 1, 1) := by decide +kernel
theorem dX8_repair_2 : decode cX8_repair 2 = .ok (.invokevirtual 121, 3) := by decide +kernel
theorem dX8_repair_5 : decode cX8_repair 5 = .ok (.astore_n 2, 1) := by decide +kernel
theorem dX8_repair_6 : decode cX8_repair 6 = .ok (.aload_n 2, 1) := by decide +kernel
theorem dX8_repair_7 : decode cX8_repair 7 = .ok (.aload_n 0, 1) := by decide +kernel
theorem dX8_repair_8 : decode cX8_repair 8 = .ok (.getfield 62, 3) := by decide +kernel
theorem dX8_repair_11 : decode cX8_repair 11 = .ok (.invokevirtual 138, 3) := by decide +kernel
theorem dX8_repair_14 : decode cX8_repair 14 = .ok (.iconst (-1), 1) := by decide +kernel
theorem dX8_repair_15 : decode cX8_repair 15 = .ok (.if_icmp .ne 18, 3) := by decide +kernel
theorem dX8_repair_18 : decode cX8_repair 18 = .ok (.aload_n 2, 1) := by decide +kernel
theorem dX8_repair_19 : decode cX8_repair 19 = .ok (.aload_n 0, 1) := by decide +kernel
theorem dX8_repair_20 : decode cX8_repair 20 = .ok (.getfield 62, 3) := by decide +kernel
theorem dX8_repair_23 : decode cX8_repair 23 = .ok (.invokevirtual 141, 3) := by decide +kernel
theorem dX8_repair_26 : decode cX8_repair 26 = .ok (.ifCond .ne 7, 3) := by decide +kernel
theorem dX8_repair_29 : decode cX8_repair 29 = .ok (.iconst 1, 1) := by decide +kernel
theorem dX8_repair_30 : decode cX8_repair 30 = .ok (.goto 4, 3) := by decide +kernel
theorem dX8_repair_33 : decode cX8_repair 33 = .ok (.iconst 0, 1) := by decide +kernel
theorem dX8_repair_34 : decode cX8_repair 34 = .ok (.invokestatic 95, 3) := by decide +kernel
theorem dX8_repair_37 : decode cX8_repair 37 = .ok (.iconst 5, 1) := by decide +kernel
theorem dX8_repair_38 : decode cX8_repair 38 = .ok (.aload_n 2, 1) := by decide +kernel
theorem dX8_repair_39 : decode cX8_repair 39 = .ok (.getfield 145, 3) := by decide +kernel
theorem dX8_repair_42 : decode cX8_repair 42 = .ok (.imul, 1) := by decide +kernel
theorem dX8_repair_43 : decode cX8_repair 43 = .ok (.istore_n 3, 1) := by decide +kernel
theorem dX8_repair_44 : decode cX8_repair 44 = .ok (.aload_n 0, 1) := by decide +kernel
theorem dX8_repair_45 : decode cX8_repair 45 = .ok (.dup, 1) := by decide +kernel
theorem dX8_repair_46 : decode cX8_repair 46 = .ok (.getfield 66, 3) := by decide +kernel
theorem dX8_repair_49 : decode cX8_repair 49 = .ok (.iload_n 3, 1) := by decide +kernel
theorem dX8_repair_50 : decode cX8_repair 50 = .ok (.isub, 1) := by decide +kernel
theorem dX8_repair_51 : decode cX8_repair 51 = .ok (.putfield 66, 3) := by decide +kernel
theorem dX8_repair_54 : decode cX8_repair 54 = .ok (.aload_n 2, 1) := by decide +kernel
theorem dX8_repair_55 : decode cX8_repair 55 = .ok (.iconst 0, 1) := by decide +kernel
theorem dX8_repair_56 : decode cX8_repair 56 = .ok (.putfield 145, 3) := by decide +kernel
theorem dX8_repair_59 : decode cX8_repair 59 = .ok (.aload_n 2, 1) := by decide +kernel
theorem dX8_repair_60 : decode cX8_repair 60 = .ok (.aload_n 0, 1) := by decide +kernel
theorem dX8_repair_61 : decode cX8_repair 61 = .ok (.getfield 62, 3) := by decide +kernel
theorem dX8_repair_64 : decode cX8_repair 64 = .ok (.bipush 30, 2) := by decide +kernel
theorem dX8_repair_66 : decode cX8_repair 66 = .ok (.iadd, 1) := by decide +kernel
theorem dX8_repair_67 : decode cX8_repair 67 = .ok (.putfield 148, 3) := by decide +kernel
theorem dX8_repair_70 : decode cX8_repair 70 = .ok (.iload_n 3, 1) := by decide +kernel
theorem dX8_repair_71 : decode cX8_repair 71 = .ok (.ireturn, 1) := by decide +kernel
theorem dX8_engine_0 : decode cX8_engine 0 = .ok (.aload_n 0, 1) := by decide +kernel
theorem dX8_engine_1 : decode cX8_engine 1 = .ok (.iload_n 1, 1) := by decide +kernel
theorem dX8_engine_2 : decode cX8_engine 2 = .ok (.invokevirtual 102, 3) := by decide +kernel
theorem dX8_engine_5 : decode cX8_engine 5 = .ok (.iload_n 2, 1) := by decide +kernel
theorem dX8_engine_6 : decode cX8_engine 6 = .ok (.iconst 1, 1) := by decide +kernel
theorem dX8_engine_7 : decode cX8_engine 7 = .ok (.bipush 9, 2) := by decide +kernel
theorem dX8_engine_9 : decode cX8_engine 9 = .ok (.invokestatic 87, 3) := by decide +kernel
theorem dX8_engine_12 : decode cX8_engine 12 = .ok (.aload_n 0, 1) := by decide +kernel
theorem dX8_engine_13 : decode cX8_engine 13 = .ok (.getfield 22, 3) := by decide +kernel
theorem dX8_engine_16 : decode cX8_engine 16 = .ok (.invokevirtual 108, 3) := by decide +kernel
theorem dX8_engine_19 : decode cX8_engine 19 = .ok (.bipush 6, 2) := by decide +kernel
theorem dX8_engine_21 : decode cX8_engine 21 = .ok (.if_icmp .ge 7, 3) := by decide +kernel
theorem dX8_engine_24 : decode cX8_engine 24 = .ok (.iconst 1, 1) := by decide +kernel
theorem dX8_engine_25 : decode cX8_engine 25 = .ok (.goto 4, 3) := by decide +kernel
theorem dX8_engine_28 : decode cX8_engine 28 = .ok (.iconst 0, 1) := by decide +kernel
theorem dX8_engine_29 : decode cX8_engine 29 = .ok (.invokestatic 95, 3) := by decide +kernel
theorem dX8_engine_32 : decode cX8_engine 32 = .ok (.aload_n 0, 1) := by decide +kernel
theorem dX8_engine_33 : decode cX8_engine 33 = .ok (.dup, 1) := by decide +kernel
theorem dX8_engine_34 : decode cX8_engine 34 = .ok (.getfield 66, 3) := by decide +kernel
theorem dX8_engine_37 : decode cX8_engine 37 = .ok (.bipush 100, 2) := by decide +kernel
theorem dX8_engine_39 : decode cX8_engine 39 = .ok (.iload_n 2, 1) := by decide +kernel
theorem dX8_engine_40 : decode cX8_engine 40 = .ok (.imul, 1) := by decide +kernel
theorem dX8_engine_41 : decode cX8_engine 41 = .ok (.isub, 1) := by decide +kernel
theorem dX8_engine_42 : decode cX8_engine 42 = .ok (.putfield 66, 3) := by decide +kernel
theorem dX8_engine_45 : decode cX8_engine 45 = .ok (.aload_n 0, 1) := by decide +kernel
theorem dX8_engine_46 : decode cX8_engine 46 = .ok (.getfield 22, 3) := by decide +kernel
theorem dX8_engine_49 : decode cX8_engine 49 = .ok (.new 151, 3) := by decide +kernel
theorem dX8_engine_52 : decode cX8_engine 52 = .ok (.dup, 1) := by decide +kernel
theorem dX8_engine_53 : decode cX8_engine 53 = .ok (.iload_n 1, 1) := by decide +kernel
theorem dX8_engine_54 : decode cX8_engine 54 = .ok (.iload_n 2, 1) := by decide +kernel
theorem dX8_engine_55 : decode cX8_engine 55 = .ok (.invokespecial 153, 3) := by decide +kernel
theorem dX8_engine_58 : decode cX8_engine 58 = .ok (.invokevirtual 117, 3) := by decide +kernel
theorem dX8_engine_61 : decode cX8_engine 61 = .ok (.pop, 1) := by decide +kernel
theorem dX8_engine_62 : decode cX8_engine 62 = .ok (.aload_n 0, 1) := by decide +kernel
theorem dX8_engine_63 : decode cX8_engine 63 = .ok (.getfield 22, 3) := by decide +kernel
theorem dX8_engine_66 : decode cX8_engine 66 = .ok (.invokevirtual 108, 3) := by decide +kernel
theorem dX8_engine_69 : decode cX8_engine 69 = .ok (.iconst 1, 1) := by decide +kernel
theorem dX8_engine_70 : decode cX8_engine 70 = .ok (.isub, 1) := by decide +kernel
theorem dX8_engine_71 : decode cX8_engine 71 = .ok (.ireturn, 1) := by decide +kernel
theorem dX8_crew_0 : decode cX8_crew 0 = .ok (.aload_n 0, 1) := by decide +kernel
theorem dX8_crew_1 : decode cX8_crew 1 = .ok (.iload_n 1, 1) := by decide +kernel
theorem dX8_crew_2 : decode cX8_crew 2 = .ok (.invokevirtual 102, 3) := by decide +kernel
theorem dX8_crew_5 : decode cX8_crew 5 = .ok (.aload_n 0, 1) := by decide +kernel
theorem dX8_crew_6 : decode cX8_crew 6 = .ok (.getfield 25, 3) := by decide +kernel
theorem dX8_crew_9 : decode cX8_crew 9 = .ok (.invokevirtual 108, 3) := by decide +kernel
theorem dX8_crew_12 : decode cX8_crew 12 = .ok (.bipush 6, 2) := by decide +kernel
theorem dX8_crew_14 : decode cX8_crew 14 = .ok (.if_icmp .ge 7, 3) := by decide +kernel
theorem dX8_crew_17 : decode cX8_crew 17 = .ok (.iconst 1, 1) := by decide +kernel
theorem dX8_crew_18 : decode cX8_crew 18 = .ok (.goto 4, 3) := by decide +kernel
theorem dX8_crew_21 : decode cX8_crew 21 = .ok (.iconst 0, 1) := by decide +kernel
theorem dX8_crew_22 : decode cX8_crew 22 = .ok (.invokestatic 95, 3) := by decide +kernel
theorem dX8_crew_25 : decode cX8_crew 25 = .ok (.aload_n 0, 1) := by decide +kernel
theorem dX8_crew_26 : decode cX8_crew 26 = .ok (.getfield 25, 3) := by decide +kernel
theorem dX8_crew_29 : decode cX8_crew 29 = .ok (.new 156, 3) := by decide +kernel
theorem dX8_crew_32 : decode cX8_crew 32 = .ok (.dup, 1) := by decide +kernel
theorem dX8_crew_33 : decode cX8_crew 33 = .ok (.iload_n 1, 1) := by decide +kernel
theorem dX8_crew_34 : decode cX8_crew 34 = .ok (.invokespecial 158, 3) := by decide +kernel
theorem dX8_crew_37 : decode cX8_crew 37 = .ok (.invokevirtual 117, 3) := by decide +kernel
theorem dX8_crew_40 : decode cX8_crew 40 = .ok (.pop, 1) := by decide +kernel
theorem dX8_crew_41 : decode cX8_crew 41 = .ok (.aload_n 0, 1) := by decide +kernel
theorem dX8_crew_42 : decode cX8_crew 42 = .ok (.getfield 25, 3) := by decide +kernel
theorem dX8_crew_45 : decode cX8_crew 45 = .ok (.invokevirtual 108, 3) := by decide +kernel
theorem dX8_crew_48 : decode cX8_crew 48 = .ok (.iconst 1, 1) := by decide +kernel
theorem dX8_crew_49 : decode cX8_crew 49 = .ok (.isub, 1) := by decide +kernel
theorem dX8_crew_50 : decode cX8_crew 50 = .ok (.ireturn, 1) := by decide +kernel
theorem dX8_learn_0 : decode cX8_learn 0 = .ok (.aload_n 0, 1) := by decide +kernel
theorem dX8_learn_1 : decode cX8_learn 1 = .ok (.iload_n 1, 1) := by decide +kernel
theorem dX8_learn_2 : decode cX8_learn 2 = .ok (.invokevirtual 159, 3) := by decide +kernel
theorem dX8_learn_5 : decode cX8_learn 5 = .ok (.astore_n 3, 1) := by decide +kernel
theorem dX8_learn_6 : decode cX8_learn 6 = .ok (.aload_n 0, 1) := by decide +kernel
theorem dX8_learn_7 : decode cX8_learn 7 = .ok (.iload_n 2, 1) := by decide +kernel
theorem dX8_learn_8 : decode cX8_learn 8 = .ok (.invokevirtual 163, 3) := by decide +kernel
theorem dX8_learn_11 : decode cX8_learn 11 = .ok (.aload_n 3, 1) := by decide +kernel
theorem dX8_learn_12 : decode cX8_learn 12 = .ok (.dup, 1) := by decide +kernel
theorem dX8_learn_13 : decode cX8_learn 13 = .ok (.getfield 166, 3) := by decide +kernel
theorem dX8_learn_16 : decode cX8_learn 16 = .ok (.iconst 1, 1) := by decide +kernel
theorem dX8_learn_17 : decode cX8_learn 17 = .ok (.iload_n 2, 1) := by decide +kernel
theorem dX8_learn_18 : decode cX8_learn 18 = .ok (.ishl, 1) := by decide +kernel
theorem dX8_learn_19 : decode cX8_learn 19 = .ok (.ior, 1) := by decide +kernel
theorem dX8_learn_20 : decode cX8_learn 20 = .ok (.putfield 166, 3) := by decide +kernel
theorem dX8_learn_23 : decode cX8_learn 23 = .ok (.aload_n 3, 1) := by decide +kernel
theorem dX8_learn_24 : decode cX8_learn 24 = .ok (.getfield 166, 3) := by decide +kernel
theorem dX8_learn_27 : decode cX8_learn 27 = .ok (.invokestatic 169, 3) := by decide +kernel
theorem dX8_learn_30 : decode cX8_learn 30 = .ok (.ireturn, 1) := by decide +kernel
theorem dX8_rest_0 : decode cX8_rest 0 = .ok (.aload_n 0, 1) := by decide +kernel
theorem dX8_rest_1 : decode cX8_rest 1 = .ok (.iload_n 1, 1) := by decide +kernel
theorem dX8_rest_2 : decode cX8_rest 2 = .ok (.invokevirtual 159, 3) := by decide +kernel
theorem dX8_rest_5 : decode cX8_rest 5 = .ok (.astore_n 2, 1) := by decide +kernel
theorem dX8_rest_6 : decode cX8_rest 6 = .ok (.aload_n 2, 1) := by decide +kernel
theorem dX8_rest_7 : decode cX8_rest 7 = .ok (.aload_n 0, 1) := by decide +kernel
theorem dX8_rest_8 : decode cX8_rest 8 = .ok (.getfield 62, 3) := by decide +kernel
theorem dX8_rest_11 : decode cX8_rest 11 = .ok (.invokevirtual 174, 3) := by decide +kernel
theorem dX8_rest_14 : decode cX8_rest 14 = .ok (.ifCond .ne 7, 3) := by decide +kernel
theorem dX8_rest_17 : decode cX8_rest 17 = .ok (.iconst 1, 1) := by decide +kernel
theorem dX8_rest_18 : decode cX8_rest 18 = .ok (.goto 4, 3) := by decide +kernel
theorem dX8_rest_21 : decode cX8_rest 21 = .ok (.iconst 0, 1) := by decide +kernel
theorem dX8_rest_22 : decode cX8_rest 22 = .ok (.invokestatic 95, 3) := by decide +kernel
theorem dX8_rest_25 : decode cX8_rest 25 = .ok (.aload_n 2, 1) := by decide +kernel
theorem dX8_rest_26 : decode cX8_rest 26 = .ok (.getfield 177, 3) := by decide +kernel
theorem dX8_rest_29 : decode cX8_rest 29 = .ok (.iconst (-1), 1) := by decide +kernel
theorem dX8_rest_30 : decode cX8_rest 30 = .ok (.if_icmp .eq 17, 3) := by decide +kernel
theorem dX8_rest_33 : decode cX8_rest 33 = .ok (.aload_n 0, 1) := by decide +kernel
theorem dX8_rest_34 : decode cX8_rest 34 = .ok (.aload_n 2, 1) := by decide +kernel
theorem dX8_rest_35 : decode cX8_rest 35 = .ok (.getfield 177, 3) := by decide +kernel
theorem dX8_rest_38 : decode cX8_rest 38 = .ok (.invokevirtual 180, 3) := by decide +kernel
theorem dX8_rest_41 : decode cX8_rest 41 = .ok (.invokevirtual 184, 3) := by decide +kernel
theorem dX8_rest_44 : decode cX8_rest 44 = .ok (.ifCond .eq 7, 3) := by decide +kernel
theorem dX8_rest_47 : decode cX8_rest 47 = .ok (.iconst 1, 1) := by decide +kernel
theorem dX8_rest_48 : decode cX8_rest 48 = .ok (.goto 4, 3) := by decide +kernel
theorem dX8_rest_51 : decode cX8_rest 51 = .ok (.iconst 0, 1) := by decide +kernel
theorem dX8_rest_52 : decode cX8_rest 52 = .ok (.invokestatic 95, 3) := by decide +kernel
theorem dX8_rest_55 : decode cX8_rest 55 = .ok (.aload_n 2, 1) := by decide +kernel
theorem dX8_rest_56 : decode cX8_rest 56 = .ok (.iconst 0, 1) := by decide +kernel
theorem dX8_rest_57 : decode cX8_rest 57 = .ok (.putfield 188, 3) := by decide +kernel
theorem dX8_rest_60 : decode cX8_rest 60 = .ok (.aload_n 2, 1) := by decide +kernel
theorem dX8_rest_61 : decode cX8_rest 61 = .ok (.aload_n 0, 1) := by decide +kernel
theorem dX8_rest_62 : decode cX8_rest 62 = .ok (.getfield 62, 3) := by decide +kernel
theorem dX8_rest_65 : decode cX8_rest 65 = .ok (.sipush 480, 3) := by decide +kernel
theorem dX8_rest_68 : decode cX8_rest 68 = .ok (.iadd, 1) := by decide +kernel
theorem dX8_rest_69 : decode cX8_rest 69 = .ok (.putfield 191, 3) := by decide +kernel
theorem dX8_rest_72 : decode cX8_rest 72 = .ok (.aload_n 2, 1) := by decide +kernel
theorem dX8_rest_73 : decode cX8_rest 73 = .ok (.getfield 191, 3) := by decide +kernel
theorem dX8_rest_76 : decode cX8_rest 76 = .ok (.ireturn, 1) := by decide +kernel
theorem dX8_car_0 : decode cX8_car 0 = .ok (.aload_n 0, 1) := by decide +kernel
theorem dX8_car_1 : decode cX8_car 1 = .ok (.iload_n 1, 1) := by decide +kernel
theorem dX8_car_2 : decode cX8_car 2 = .ok (.invokevirtual 83, 3) := by decide +kernel
theorem dX8_car_5 : decode cX8_car 5 = .ok (.astore_n 2, 1) := by decide +kernel
theorem dX8_car_6 : decode cX8_car 6 = .ok (.aload_n 0, 1) := by decide +kernel
theorem dX8_car_7 : decode cX8_car 7 = .ok (.getfield 28, 3) := by decide +kernel
theorem dX8_car_10 : decode cX8_car 10 = .ok (.invokevirtual 108, 3) := by decide +kernel
theorem dX8_car_13 : decode cX8_car 13 = .ok (.bipush 20, 2) := by decide +kernel
theorem dX8_car_15 : decode cX8_car 15 = .ok (.if_icmp .ge 7, 3) := by decide +kernel
theorem dX8_car_18 : decode cX8_car 18 = .ok (.iconst 1, 1) := by decide +kernel
theorem dX8_car_19 : decode cX8_car 19 = .ok (.goto 4, 3) := by decide +kernel
theorem dX8_car_22 : decode cX8_car 22 = .ok (.iconst 0, 1) := by decide +kernel
theorem dX8_car_23 : decode cX8_car 23 = .ok (.invokestatic 95, 3) := by decide +kernel
theorem dX8_car_26 : decode cX8_car 26 = .ok (.aload_n 0, 1) := by decide +kernel
theorem dX8_car_27 : decode cX8_car 27 = .ok (.dup, 1) := by decide +kernel
theorem dX8_car_28 : decode cX8_car 28 = .ok (.getfield 66, 3) := by decide +kernel
theorem dX8_car_31 : decode cX8_car 31 = .ok (.bipush 50, 2) := by decide +kernel
theorem dX8_car_33 : decode cX8_car 33 = .ok (.isub, 1) := by decide +kernel
theorem dX8_car_34 : decode cX8_car 34 = .ok (.putfield 66, 3) := by decide +kernel
theorem dX8_car_37 : decode cX8_car 37 = .ok (.new 194, 3) := by decide +kernel
theorem dX8_car_40 : decode cX8_car 40 = .ok (.dup, 1) := by decide +kernel
theorem dX8_car_41 : decode cX8_car 41 = .ok (.iload_n 1, 1) := by decide +kernel
theorem dX8_car_42 : decode cX8_car 42 = .ok (.invokespecial 196, 3) := by decide +kernel
theorem dX8_car_45 : decode cX8_car 45 = .ok (.astore_n 3, 1) := by decide +kernel
theorem dX8_car_46 : decode cX8_car 46 = .ok (.aload_n 3, 1) := by decide +kernel
theorem dX8_car_47 : decode cX8_car 47 = .ok (.iconst 0, 1) := by decide +kernel
theorem dX8_car_48 : decode cX8_car 48 = .ok (.iload_n 1, 1) := by decide +kernel
theorem dX8_car_49 : decode cX8_car 49 = .ok (.invokevirtual 197, 3) := by decide +kernel
theorem dX8_car_52 : decode cX8_car 52 = .ok (.aload_n 0, 1) := by decide +kernel
theorem dX8_car_53 : decode cX8_car 53 = .ok (.getfield 28, 3) := by decide +kernel
theorem dX8_car_56 : decode cX8_car 56 = .ok (.aload_n 3, 1) := by decide +kernel
theorem dX8_car_57 : decode cX8_car 57 = .ok (.invokevirtual 117, 3) := by decide +kernel
theorem dX8_car_60 : decode cX8_car 60 = .ok (.pop, 1) := by decide +kernel
theorem dX8_car_61 : decode cX8_car 61 = .ok (.aload_n 2, 1) := by decide +kernel
theorem dX8_car_62 : decode cX8_car 62 = .ok (.getfield 200, 3) := by decide +kernel
theorem dX8_car_65 : decode cX8_car 65 = .ok (.aload_n 0, 1) := by decide +kernel
theorem dX8_car_66 : decode cX8_car 66 = .ok (.getfield 28, 3) := by decide +kernel
theorem dX8_car_69 : decode cX8_car 69 = .ok (.invokevirtual 108, 3) := by decide +kernel
theorem dX8_car_72 : decode cX8_car 72 = .ok (.iconst 1, 1) := by decide +kernel
theorem dX8_car_73 : decode cX8_car 73 = .ok (.isub, 1) := by decide +kernel
theorem dX8_car_74 : decode cX8_car 74 = .ok (.invokevirtual 203, 3) := by decide +kernel
theorem dX8_car_77 : decode cX8_car 77 = .ok (.aload_n 0, 1) := by decide +kernel
theorem dX8_car_78 : decode cX8_car 78 = .ok (.getfield 28, 3) := by decide +kernel
theorem dX8_car_81 : decode cX8_car 81 = .ok (.invokevirtual 108, 3) := by decide +kernel
theorem dX8_car_84 : decode cX8_car 84 = .ok (.iconst 1, 1) := by decide +kernel
theorem dX8_car_85 : decode cX8_car 85 = .ok (.isub, 1) := by decide +kernel
theorem dX8_car_86 : decode cX8_car 86 = .ok (.ireturn, 1) := by decide +kernel
theorem dX8_form_0 : decode cX8_form 0 = .ok (.aload_n 0, 1) := by decide +kernel
theorem dX8_form_1 : decode cX8_form 1 = .ok (.iload_n 1, 1) := by decide +kernel
theorem dX8_form_2 : decode cX8_form 2 = .ok (.invokevirtual 207, 3) := by decide +kernel
theorem dX8_form_5 : decode cX8_form 5 = .ok (.astore_n 3, 1) := by decide +kernel
theorem dX8_form_6 : decode cX8_form 6 = .ok (.aload_n 0, 1) := by decide +kernel
theorem dX8_form_7 : decode cX8_form 7 = .ok (.iload_n 2, 1) := by decide +kernel
theorem dX8_form_8 : decode cX8_form 8 = .ok (.invokevirtual 159, 3) := by decide +kernel
theorem dX8_form_11 : decode cX8_form 11 = .ok (.astore 4, 2) := by decide +kernel
theorem dX8_form_13 : decode cX8_form 13 = .ok (.aload_n 3, 1) := by decide +kernel
theorem dX8_form_14 : decode cX8_form 14 = .ok (.getfield 211, 3) := by decide +kernel
theorem dX8_form_17 : decode cX8_form 17 = .ok (.iconst (-1), 1) := by decide +kernel
theorem dX8_form_18 : decode cX8_form 18 = .ok (.if_icmp .ne 16, 3) := by decide +kernel
theorem dX8_form_21 : decode cX8_form 21 = .ok (.aload 4, 2) := by decide +kernel
theorem dX8_form_23 : decode cX8_form 23 = .ok (.getfield 177, 3) := by decide +kernel
theorem dX8_form_26 : decode cX8_form 26 = .ok (.iconst (-1), 1) := by decide +kernel
theorem dX8_form_27 : decode cX8_form 27 = .ok (.if_icmp .ne 7, 3) := by decide +kernel
theorem dX8_form_30 : decode cX8_form 30 = .ok (.iconst 1, 1) := by decide +kernel
theorem dX8_form_31 : decode cX8_form 31 = .ok (.goto 4, 3) := by decide +kernel
theorem dX8_form_34 : decode cX8_form 34 = .ok (.iconst 0, 1) := by decide +kernel
theorem dX8_form_35 : decode cX8_form 35 = .ok (.invokestatic 95, 3) := by decide +kernel
theorem dX8_form_38 : decode cX8_form 38 = .ok (.aload_n 3, 1) := by decide +kernel
theorem dX8_form_39 : decode cX8_form 39 = .ok (.getfield 212, 3) := by decide +kernel
theorem dX8_form_42 : decode cX8_form 42 = .ok (.aload 4, 2) := by decide +kernel
theorem dX8_form_44 : decode cX8_form 44 = .ok (.getfield 215, 3) := by decide +kernel
theorem dX8_form_47 : decode cX8_form 47 = .ok (.if_icmp .ne 19, 3) := by decide +kernel
theorem dX8_form_50 : decode cX8_form 50 = .ok (.aload 4, 2) := by decide +kernel
theorem dX8_form_52 : decode cX8_form 52 = .ok (.aload_n 0, 1) := by decide +kernel
theorem dX8_form_53 : decode cX8_form 53 = .ok (.getfield 62, 3) := by decide +kernel
theorem dX8_form_56 : decode cX8_form 56 = .ok (.invokevirtual 174, 3) := by decide +kernel
theorem dX8_form_59 : decode cX8_form 59 = .ok (.ifCond .ne 7, 3) := by decide +kernel
theorem dX8_form_62 : decode cX8_form 62 = .ok (.iconst 1, 1) := by decide +kernel
theorem dX8_form_63 : decode cX8_form 63 = .ok (.goto 4, 3) := by decide +kernel
theorem dX8_form_66 : decode cX8_form 66 = .ok (.iconst 0, 1) := by decide +kernel
theorem dX8_form_67 : decode cX8_form 67 = .ok (.invokestatic 95, 3) := by decide +kernel
theorem dX8_form_70 : decode cX8_form 70 = .ok (.aload_n 0, 1) := by decide +kernel
theorem dX8_form_71 : decode cX8_form 71 = .ok (.aload_n 3, 1) := by decide +kernel
theorem dX8_form_72 : decode cX8_form 72 = .ok (.getfield 212, 3) := by decide +kernel
theorem dX8_form_75 : decode cX8_form 75 = .ok (.invokevirtual 216, 3) := by decide +kernel
theorem dX8_form_78 : decode cX8_form 78 = .ok (.ifCond .le 7, 3) := by decide +kernel
theorem dX8_form_81 : decode cX8_form 81 = .ok (.iconst 1, 1) := by decide +kernel
theorem dX8_form_82 : decode cX8_form 82 = .ok (.goto 4, 3) := by decide +kernel
theorem dX8_form_85 : decode cX8_form 85 = .ok (.iconst 0, 1) := by decide +kernel
theorem dX8_form_86 : decode cX8_form 86 = .ok (.invokestatic 95, 3) := by decide +kernel
theorem dX8_form_89 : decode cX8_form 89 = .ok (.aload_n 0, 1) := by decide +kernel
theorem dX8_form_90 : decode cX8_form 90 = .ok (.invokevirtual 219, 3) := by decide +kernel
theorem dX8_form_93 : decode cX8_form 93 = .ok (.istore 5, 2) := by decide +kernel
theorem dX8_form_95 : decode cX8_form 95 = .ok (.iload 5, 2) := by decide +kernel
theorem dX8_form_97 : decode cX8_form 97 = .ok (.iconst (-1), 1) := by decide +kernel
theorem dX8_form_98 : decode cX8_form 98 = .ok (.if_icmp .eq 7, 3) := by decide +kernel
theorem dX8_form_101 : decode cX8_form 101 = .ok (.iconst 1, 1) := by decide +kernel
theorem dX8_form_102 : decode cX8_form 102 = .ok (.goto 4, 3) := by decide +kernel
theorem dX8_form_105 : decode cX8_form 105 = .ok (.iconst 0, 1) := by decide +kernel
theorem dX8_form_106 : decode cX8_form 106 = .ok (.invokestatic 95, 3) := by decide +kernel
theorem dX8_form_109 : decode cX8_form 109 = .ok (.aload_n 0, 1) := by decide +kernel
theorem dX8_form_110 : decode cX8_form 110 = .ok (.getfield 36, 3) := by decide +kernel
theorem dX8_form_113 : decode cX8_form 113 = .ok (.iload 5, 2) := by decide +kernel
theorem dX8_form_115 : decode cX8_form 115 = .ok (.aaload, 1) := by decide +kernel
theorem dX8_form_116 : decode cX8_form 116 = .ok (.iload_n 1, 1) := by decide +kernel
theorem dX8_form_117 : decode cX8_form 117 = .ok (.iload_n 2, 1) := by decide +kernel
theorem dX8_form_118 : decode cX8_form 118 = .ok (.aload_n 3, 1) := by decide +kernel
theorem dX8_form_119 : decode cX8_form 119 = .ok (.getfield 222, 3) := by decide +kernel
theorem dX8_form_122 : decode cX8_form 122 = .ok (.aload_n 3, 1) := by decide +kernel
theorem dX8_form_123 : decode cX8_form 123 = .ok (.getfield 212, 3) := by decide +kernel
theorem dX8_form_126 : decode cX8_form 126 = .ok (.invokevirtual 225, 3) := by decide +kernel
theorem dX8_form_129 : decode cX8_form 129 = .ok (.aload_n 3, 1) := by decide +kernel
theorem dX8_form_130 : decode cX8_form 130 = .ok (.iload 5, 2) := by decide +kernel
theorem dX8_form_132 : decode cX8_form 132 = .ok (.putfield 211, 3) := by decide +kernel
theorem dX8_form_135 : decode cX8_form 135 = .ok (.aload 4, 2) := by decide +kernel
theorem dX8_form_137 : decode cX8_form 137 = .ok (.iload 5, 2) := by decide +kernel
theorem dX8_form_139 : decode cX8_form 139 = .ok (.putfield 177, 3) := by decide +kernel
theorem dX8_form_142 : decode cX8_form 142 = .ok (.iload 5, 2) := by decide +kernel
theorem dX8_form_144 : decode cX8_form 144 = .ok (.ireturn, 1) := by decide +kernel
theorem dX8_couple_0 : decode cX8_couple 0 = .ok (.aload_n 0, 1) := by decide +kernel
theorem dX8_couple_1 : decode cX8_couple 1 = .ok (.iload_n 1, 1) := by decide +kernel
theorem dX8_couple_2 : decode cX8_couple 2 = .ok (.invokevirtual 180, 3) := by decide +kernel
theorem dX8_couple_5 : decode cX8_couple 5 = .ok (.astore_n 3, 1) := by decide +kernel
theorem dX8_couple_6 : decode cX8_couple 6 = .ok (.aload_n 0, 1) := by decide +kernel
theorem dX8_couple_7 : decode cX8_couple 7 = .ok (.iload_n 2, 1) := by decide +kernel
theorem dX8_couple_8 : decode cX8_couple 8 = .ok (.invokevirtual 241, 3) := by decide +kernel
theorem dX8_couple_11 : decode cX8_couple 11 = .ok (.astore 4, 2) := by decide +kernel
theorem dX8_couple_13 : decode cX8_couple 13 = .ok (.aload_n 3, 1) := by decide +kernel
theorem dX8_couple_14 : decode cX8_couple 14 = .ok (.invokevirtual 184, 3) := by decide +kernel
theorem dX8_couple_17 : decode cX8_couple 17 = .ok (.ifCond .eq 19, 3) := by decide +kernel
theorem dX8_couple_20 : decode cX8_couple 20 = .ok (.aload_n 3, 1) := by decide +kernel
theorem dX8_couple_21 : decode cX8_couple 21 = .ok (.getfield 228, 3) := by decide +kernel
theorem dX8_couple_24 : decode cX8_couple 24 = .ok (.getfield 230, 3) := by decide +kernel
theorem dX8_couple_27 : decode cX8_couple 27 = .ok (.bipush 10, 2) := by decide +kernel
theorem dX8_couple_29 : decode cX8_couple 29 = .ok (.if_icmp .ge 7, 3) := by decide +kernel
theorem dX8_couple_32 : decode cX8_couple 32 = .ok (.iconst 1, 1) := by decide +kernel
theorem dX8_couple_33 : decode cX8_couple 33 = .ok (.goto 4, 3) := by decide +kernel
theorem dX8_couple_36 : decode cX8_couple 36 = .ok (.iconst 0, 1) := by decide +kernel
theorem dX8_couple_37 : decode cX8_couple 37 = .ok (.invokestatic 95, 3) := by decide +kernel
theorem dX8_couple_40 : decode cX8_couple 40 = .ok (.aload 4, 2) := by decide +kernel
theorem dX8_couple_42 : decode cX8_couple 42 = .ok (.getfield 245, 3) := by decide +kernel
theorem dX8_couple_45 : decode cX8_couple 45 = .ok (.iconst (-1), 1) := by decide +kernel
theorem dX8_couple_46 : decode cX8_couple 46 = .ok (.if_icmp .ne 19, 3) := by decide +kernel
theorem dX8_couple_49 : decode cX8_couple 49 = .ok (.aload 4, 2) := by decide +kernel
theorem dX8_couple_51 : decode cX8_couple 51 = .ok (.getfield 246, 3) := by decide +kernel
theorem dX8_couple_54 : decode cX8_couple 54 = .ok (.aload_n 3, 1) := by decide +kernel
theorem dX8_couple_55 : decode cX8_couple 55 = .ok (.getfield 236, 3) := by decide +kernel
theorem dX8_couple_58 : decode cX8_couple 58 = .ok (.if_icmp .ne 7, 3) := by decide +kernel
theorem dX8_couple_61 : decode cX8_couple 61 = .ok (.iconst 1, 1) := by decide +kernel
theorem dX8_couple_62 : decode cX8_couple 62 = .ok (.goto 4, 3) := by decide +kernel
theorem dX8_couple_65 : decode cX8_couple 65 = .ok (.iconst 0, 1) := by decide +kernel
theorem dX8_couple_66 : decode cX8_couple 66 = .ok (.invokestatic 95, 3) := by decide +kernel
theorem dX8_couple_69 : decode cX8_couple 69 = .ok (.aload_n 0, 1) := by decide +kernel
theorem dX8_couple_70 : decode cX8_couple 70 = .ok (.aload 4, 2) := by decide +kernel
theorem dX8_couple_72 : decode cX8_couple 72 = .ok (.getfield 246, 3) := by decide +kernel
theorem dX8_couple_75 : decode cX8_couple 75 = .ok (.invokevirtual 83, 3) := by decide +kernel
theorem dX8_couple_78 : decode cX8_couple 78 = .ok (.getfield 200, 3) := by decide +kernel
theorem dX8_couple_81 : decode cX8_couple 81 = .ok (.iload_n 2, 1) := by decide +kernel
theorem dX8_couple_82 : decode cX8_couple 82 = .ok (.invokevirtual 247, 3) := by decide +kernel
theorem dX8_couple_85 : decode cX8_couple 85 = .ok (.aload_n 3, 1) := by decide +kernel
theorem dX8_couple_86 : decode cX8_couple 86 = .ok (.getfield 228, 3) := by decide +kernel
theorem dX8_couple_89 : decode cX8_couple 89 = .ok (.iload_n 2, 1) := by decide +kernel
theorem dX8_couple_90 : decode cX8_couple 90 = .ok (.invokevirtual 203, 3) := by decide +kernel
theorem dX8_couple_93 : decode cX8_couple 93 = .ok (.aload_n 3, 1) := by decide +kernel
theorem dX8_couple_94 : decode cX8_couple 94 = .ok (.dup, 1) := by decide +kernel
theorem dX8_couple_95 : decode cX8_couple 95 = .ok (.getfield 250, 3) := by decide +kernel
theorem dX8_couple_98 : decode cX8_couple 98 = .ok (.aload 4, 2) := by decide +kernel
theorem dX8_couple_100 : decode cX8_couple 100 = .ok (.invokevirtual 253, 3) := by decide +kernel
theorem dX8_couple_103 : decode cX8_couple 103 = .ok (.iadd, 1) := by decide +kernel
theorem dX8_couple_104 : decode cX8_couple 104 = .ok (.putfield 250, 3) := by decide +kernel
theorem dX8_couple_107 : decode cX8_couple 107 = .ok (.aload 4, 2) := by decide +kernel
theorem dX8_couple_109 : decode cX8_couple 109 = .ok (.iload_n 1, 1) := by decide +kernel
theorem dX8_couple_110 : decode cX8_couple 110 = .ok (.putfield 245, 3) := by decide +kernel
theorem dX8_couple_113 : decode cX8_couple 113 = .ok (.aload 4, 2) := by decide +kernel
theorem dX8_couple_115 : decode cX8_couple 115 = .ok (.iconst 1, 1) := by decide +kernel
theorem dX8_couple_116 : decode cX8_couple 116 = .ok (.iload_n 1, 1) := by decide +kernel
theorem dX8_couple_117 : decode cX8_couple 117 = .ok (.invokevirtual 197, 3) := by decide +kernel
theorem dX8_couple_120 : decode cX8_couple 120 = .ok (.aload_n 3, 1) := by decide +kernel
theorem dX8_couple_121 : decode cX8_couple 121 = .ok (.getfield 228, 3) := by decide +kernel
theorem dX8_couple_124 : decode cX8_couple 124 = .ok (.getfield 230, 3) := by decide +kernel
theorem dX8_couple_127 : decode cX8_couple 127 = .ok (.ireturn, 1) := by decide +kernel
theorem dX8_leg_0 : decode cX8_leg 0 = .ok (.aload_n 0, 1) := by decide +kernel
theorem dX8_leg_1 : decode cX8_leg 1 = .ok (.iload_n 1, 1) := by decide +kernel
theorem dX8_leg_2 : decode cX8_leg 2 = .ok (.invokevirtual 163, 3) := by decide +kernel
theorem dX8_leg_5 : decode cX8_leg 5 = .ok (.aload_n 0, 1) := by decide +kernel
theorem dX8_leg_6 : decode cX8_leg 6 = .ok (.getfield 52, 3) := by decide +kernel
theorem dX8_leg_9 : decode cX8_leg 9 = .ok (.getfield 230, 3) := by decide +kernel
theorem dX8_leg_12 : decode cX8_leg 12 = .ok (.bipush 8, 2) := by decide +kernel
theorem dX8_leg_14 : decode cX8_leg 14 = .ok (.if_icmp .ge 7, 3) := by decide +kernel
theorem dX8_leg_17 : decode cX8_leg 17 = .ok (.iconst 1, 1) := by decide +kernel
theorem dX8_leg_18 : decode cX8_leg 18 = .ok (.goto 4, 3) := by decide +kernel
theorem dX8_leg_21 : decode cX8_leg 21 = .ok (.iconst 0, 1) := by decide +kernel
theorem dX8_leg_22 : decode cX8_leg 22 = .ok (.invokestatic 95, 3) := by decide +kernel
theorem dX8_leg_25 : decode cX8_leg 25 = .ok (.aload_n 0, 1) := by decide +kernel
theorem dX8_leg_26 : decode cX8_leg 26 = .ok (.getfield 52, 3) := by decide +kernel
theorem dX8_leg_29 : decode cX8_leg 29 = .ok (.iload_n 1, 1) := by decide +kernel
theorem dX8_leg_30 : decode cX8_leg 30 = .ok (.invokevirtual 203, 3) := by decide +kernel
theorem dX8_leg_33 : decode cX8_leg 33 = .ok (.aload_n 0, 1) := by decide +kernel
theorem dX8_leg_34 : decode cX8_leg 34 = .ok (.getfield 52, 3) := by decide +kernel
theorem dX8_leg_37 : decode cX8_leg 37 = .ok (.getfield 230, 3) := by decide +kernel
theorem dX8_leg_40 : decode cX8_leg 40 = .ok (.ireturn, 1) := by decide +kernel
theorem dX8_plan_0 : decode cX8_plan 0 = .ok (.aload_n 0, 1) := by decide +kernel
theorem dX8_plan_1 : decode cX8_plan 1 = .ok (.iload_n 1, 1) := by decide +kernel
theorem dX8_plan_2 : decode cX8_plan 2 = .ok (.invokevirtual 180, 3) := by decide +kernel
theorem dX8_plan_5 : decode cX8_plan 5 = .ok (.astore 4, 2) := by decide +kernel
theorem dX8_plan_7 : decode cX8_plan 7 = .ok (.iload_n 2, 1) := by decide +kernel
theorem dX8_plan_8 : decode cX8_plan 8 = .ok (.iconst 0, 1) := by decide +kernel
theorem dX8_plan_9 : decode cX8_plan 9 = .ok (.sipush 20000, 3) := by decide +kernel
theorem dX8_plan_12 : decode cX8_plan 12 = .ok (.invokestatic 87, 3) := by decide +kernel
theorem dX8_plan_15 : decode cX8_plan 15 = .ok (.iload_n 3, 1) := by decide +kernel
theorem dX8_plan_16 : decode cX8_plan 16 = .ok (.iconst 0, 1) := by decide +kernel
theorem dX8_plan_17 : decode cX8_plan 17 = .ok (.bipush 9, 2) := by decide +kernel
theorem dX8_plan_19 : decode cX8_plan 19 = .ok (.invokestatic 87, 3) := by decide +kernel
theorem dX8_plan_22 : decode cX8_plan 22 = .ok (.aload 4, 2) := by decide +kernel
theorem dX8_plan_24 : decode cX8_plan 24 = .ok (.invokevirtual 184, 3) := by decide +kernel
theorem dX8_plan_27 : decode cX8_plan 27 = .ok (.ifCond .eq 17, 3) := by decide +kernel
theorem dX8_plan_30 : decode cX8_plan 30 = .ok (.aload_n 0, 1) := by decide +kernel
theorem dX8_plan_31 : decode cX8_plan 31 = .ok (.getfield 52, 3) := by decide +kernel
theorem dX8_plan_34 : decode cX8_plan 34 = .ok (.getfield 230, 3) := by decide +kernel
theorem dX8_plan_37 : decode cX8_plan 37 = .ok (.ifCond .le 7, 3) := by decide +kernel
theorem dX8_plan_40 : decode cX8_plan 40 = .ok (.iconst 1, 1) := by decide +kernel
theorem dX8_plan_41 : decode cX8_plan 41 = .ok (.goto 4, 3) := by decide +kernel
theorem dX8_plan_44 : decode cX8_plan 44 = .ok (.iconst 0, 1) := by decide +kernel
theorem dX8_plan_45 : decode cX8_plan 45 = .ok (.invokestatic 95, 3) := by decide +kernel
theorem dX8_plan_48 : decode cX8_plan 48 = .ok (.aload_n 0, 1) := by decide +kernel
theorem dX8_plan_49 : decode cX8_plan 49 = .ok (.aload 4, 2) := by decide +kernel
theorem dX8_plan_51 : decode cX8_plan 51 = .ok (.getfield 236, 3) := by decide +kernel
theorem dX8_plan_54 : decode cX8_plan 54 = .ok (.invokevirtual 258, 3) := by decide +kernel
theorem dX8_plan_57 : decode cX8_plan 57 = .ok (.istore 5, 2) := by decide +kernel
theorem dX8_plan_59 : decode cX8_plan 59 = .ok (.iload 5, 2) := by decide +kernel
theorem dX8_plan_61 : decode cX8_plan 61 = .ok (.iconst (-1), 1) := by decide +kernel
theorem dX8_plan_62 : decode cX8_plan 62 = .ok (.if_icmp .eq 7, 3) := by decide +kernel
theorem dX8_plan_65 : decode cX8_plan 65 = .ok (.iconst 1, 1) := by decide +kernel
theorem dX8_plan_66 : decode cX8_plan 66 = .ok (.goto 4, 3) := by decide +kernel
theorem dX8_plan_69 : decode cX8_plan 69 = .ok (.iconst 0, 1) := by decide +kernel
theorem dX8_plan_70 : decode cX8_plan 70 = .ok (.invokestatic 95, 3) := by decide +kernel
theorem dX8_plan_73 : decode cX8_plan 73 = .ok (.aload 4, 2) := by decide +kernel
theorem dX8_plan_75 : decode cX8_plan 75 = .ok (.getfield 261, 3) := by decide +kernel
theorem dX8_plan_78 : decode cX8_plan 78 = .ok (.aload_n 0, 1) := by decide +kernel
theorem dX8_plan_79 : decode cX8_plan 79 = .ok (.getfield 52, 3) := by decide +kernel
theorem dX8_plan_82 : decode cX8_plan 82 = .ok (.invokevirtual 264, 3) := by decide +kernel
theorem dX8_plan_85 : decode cX8_plan 85 = .ok (.aload 4, 2) := by decide +kernel
theorem dX8_plan_87 : decode cX8_plan 87 = .ok (.iconst 0, 1) := by decide +kernel
theorem dX8_plan_88 : decode cX8_plan 88 = .ok (.putfield 268, 3) := by decide +kernel
theorem dX8_plan_91 : decode cX8_plan 91 = .ok (.aload 4, 2) := by decide +kernel
theorem dX8_plan_93 : decode cX8_plan 93 = .ok (.iload_n 2, 1) := by decide +kernel
theorem dX8_plan_94 : decode cX8_plan 94 = .ok (.putfield 271, 3) := by decide +kernel
theorem dX8_plan_97 : decode cX8_plan 97 = .ok (.aload 4, 2) := by decide +kernel
theorem dX8_plan_99 : decode cX8_plan 99 = .ok (.iload_n 3, 1) := by decide +kernel
theorem dX8_plan_100 : decode cX8_plan 100 = .ok (.putfield 274, 3) := by decide +kernel
theorem dX8_plan_103 : decode cX8_plan 103 = .ok (.aload 4, 2) := by decide +kernel
theorem dX8_plan_105 : decode cX8_plan 105 = .ok (.iconst 1, 1) := by decide +kernel
theorem dX8_plan_106 : decode cX8_plan 106 = .ok (.putfield 277, 3) := by decide +kernel
theorem dX8_plan_109 : decode cX8_plan 109 = .ok (.aload_n 0, 1) := by decide +kernel
theorem dX8_plan_110 : decode cX8_plan 110 = .ok (.getfield 52, 3) := by decide +kernel
theorem dX8_plan_113 : decode cX8_plan 113 = .ok (.invokevirtual 280, 3) := by decide +kernel
theorem dX8_plan_116 : decode cX8_plan 116 = .ok (.iload 5, 2) := by decide +kernel
theorem dX8_plan_118 : decode cX8_plan 118 = .ok (.ireturn, 1) := by decide +kernel
theorem dX8_await_0 : decode cX8_await 0 = .ok (.aload_n 0, 1) := by decide +kernel
theorem dX8_await_1 : decode cX8_await 1 = .ok (.iload_n 1, 1) := by decide +kernel
theorem dX8_await_2 : decode cX8_await 2 = .ok (.invokevirtual 180, 3) := by decide +kernel
theorem dX8_await_5 : decode cX8_await 5 = .ok (.astore 4, 2) := by decide +kernel
theorem dX8_await_7 : decode cX8_await 7 = .ok (.iload_n 2, 1) := by decide +kernel
theorem dX8_await_8 : decode cX8_await 8 = .ok (.iconst (-1), 1) := by decide +kernel
theorem dX8_await_9 : decode cX8_await 9 = .ok (.if_icmp .eq 8, 3) := by decide +kernel
theorem dX8_await_12 : decode cX8_await 12 = .ok (.aload_n 0, 1) := by decide +kernel
theorem dX8_await_13 : decode cX8_await 13 = .ok (.iload_n 2, 1) := by decide +kernel
theorem dX8_await_14 : decode cX8_await 14 = .ok (.invokevirtual 283, 3) := by decide +kernel
theorem dX8_await_17 : decode cX8_await 17 = .ok (.aload_n 0, 1) := by decide +kernel
theorem dX8_await_18 : decode cX8_await 18 = .ok (.iload_n 3, 1) := by decide +kernel
theorem dX8_await_19 : decode cX8_await 19 = .ok (.invokevirtual 102, 3) := by decide +kernel
theorem dX8_await_22 : decode cX8_await 22 = .ok (.iload_n 1, 1) := by decide +kernel
theorem dX8_await_23 : decode cX8_await 23 = .ok (.iload_n 2, 1) := by decide +kernel
theorem dX8_await_24 : decode cX8_await 24 = .ok (.if_icmp .eq 7, 3) := by decide +kernel
theorem dX8_await_27 : decode cX8_await 27 = .ok (.iconst 1, 1) := by decide +kernel
theorem dX8_await_28 : decode cX8_await 28 = .ok (.goto 4, 3) := by decide +kernel
theorem dX8_await_31 : decode cX8_await 31 = .ok (.iconst 0, 1) := by decide +kernel
theorem dX8_await_32 : decode cX8_await 32 = .ok (.invokestatic 95, 3) := by decide +kernel
theorem dX8_await_35 : decode cX8_await 35 = .ok (.aload 4, 2) := by decide +kernel
theorem dX8_await_37 : decode cX8_await 37 = .ok (.iload_n 2, 1) := by decide +kernel
theorem dX8_await_38 : decode cX8_await 38 = .ok (.putfield 286, 3) := by decide +kernel
theorem dX8_await_41 : decode cX8_await 41 = .ok (.aload 4, 2) := by decide +kernel
theorem dX8_await_43 : decode cX8_await 43 = .ok (.iload_n 3, 1) := by decide +kernel
theorem dX8_await_44 : decode cX8_await 44 = .ok (.putfield 289, 3) := by decide +kernel
theorem dX8_await_47 : decode cX8_await 47 = .ok (.return_, 1) := by decide +kernel
theorem dX8_run_0 : decode cX8_run 0 = .ok (.iload_n 1, 1) := by decide +kernel
theorem dX8_run_1 : decode cX8_run 1 = .ok (.iconst 1, 1) := by decide +kernel
theorem dX8_run_2 : decode cX8_run 2 = .ok (.sipush 300, 3) := by decide +kernel
theorem dX8_run_5 : decode cX8_run 5 = .ok (.invokestatic 87, 3) := by decide +kernel
theorem dX8_run_8 : decode cX8_run 8 = .ok (.aload_n 0, 1) := by decide +kernel
theorem dX8_run_9 : decode cX8_run 9 = .ok (.getfield 62, 3) := by decide +kernel
theorem dX8_run_12 : decode cX8_run 12 = .ok (.iload_n 1, 1) := by decide +kernel
theorem dX8_run_13 : decode cX8_run 13 = .ok (.iadd, 1) := by decide +kernel
theorem dX8_run_14 : decode cX8_run 14 = .ok (.sipush 20000, 3) := by decide +kernel
theorem dX8_run_17 : decode cX8_run 17 = .ok (.if_icmp .gt 7, 3) := by decide +kernel
theorem dX8_run_20 : decode cX8_run 20 = .ok (.iconst 1, 1) := by decide +kernel
theorem dX8_run_21 : decode cX8_run 21 = .ok (.goto 4, 3) := by decide +kernel
theorem dX8_run_24 : decode cX8_run 24 = .ok (.iconst 0, 1) := by decide +kernel
theorem dX8_run_25 : decode cX8_run 25 = .ok (.invokestatic 95, 3) := by decide +kernel
theorem dX8_run_28 : decode cX8_run 28 = .ok (.iconst 0, 1) := by decide +kernel
theorem dX8_run_29 : decode cX8_run 29 = .ok (.istore_n 2, 1) := by decide +kernel
theorem dX8_run_30 : decode cX8_run 30 = .ok (.iconst 0, 1) := by decide +kernel
theorem dX8_run_31 : decode cX8_run 31 = .ok (.istore_n 3, 1) := by decide +kernel
theorem dX8_run_32 : decode cX8_run 32 = .ok (.iload_n 3, 1) := by decide +kernel
theorem dX8_run_33 : decode cX8_run 33 = .ok (.iload_n 1, 1) := by decide +kernel
theorem dX8_run_34 : decode cX8_run 34 = .ok (.if_icmp .ge 45, 3) := by decide +kernel
theorem dX8_run_37 : decode cX8_run 37 = .ok (.aload_n 0, 1) := by decide +kernel
theorem dX8_run_38 : decode cX8_run 38 = .ok (.dup, 1) := by decide +kernel
theorem dX8_run_39 : decode cX8_run 39 = .ok (.getfield 62, 3) := by decide +kernel
theorem dX8_run_42 : decode cX8_run 42 = .ok (.iconst 1, 1) := by decide +kernel
theorem dX8_run_43 : decode cX8_run 43 = .ok (.iadd, 1) := by decide +kernel
theorem dX8_run_44 : decode cX8_run 44 = .ok (.putfield 62, 3) := by decide +kernel
theorem dX8_run_47 : decode cX8_run 47 = .ok (.aload_n 0, 1) := by decide +kernel
theorem dX8_run_48 : decode cX8_run 48 = .ok (.invokevirtual 292, 3) := by decide +kernel
theorem dX8_run_51 : decode cX8_run 51 = .ok (.aload_n 0, 1) := by decide +kernel
theorem dX8_run_52 : decode cX8_run 52 = .ok (.getfield 62, 3) := by decide +kernel
theorem dX8_run_55 : decode cX8_run 55 = .ok (.sipush 1440, 3) := by decide +kernel
theorem dX8_run_58 : decode cX8_run 58 = .ok (.irem, 1) := by decide +kernel
theorem dX8_run_59 : decode cX8_run 59 = .ok (.ifCond .ne 7, 3) := by decide +kernel
theorem dX8_run_62 : decode cX8_run 62 = .ok (.aload_n 0, 1) := by decide +kernel
theorem dX8_run_63 : decode cX8_run 63 = .ok (.invokevirtual 295, 3) := by decide +kernel
theorem dX8_run_66 : decode cX8_run 66 = .ok (.iload_n 2, 1) := by decide +kernel
theorem dX8_run_67 : decode cX8_run 67 = .ok (.aload_n 0, 1) := by decide +kernel
theorem dX8_run_68 : decode cX8_run 68 = .ok (.invokevirtual 298, 3) := by decide +kernel
theorem dX8_run_71 : decode cX8_run 71 = .ok (.iadd, 1) := by decide +kernel
theorem dX8_run_72 : decode cX8_run 72 = .ok (.istore_n 2, 1) := by decide +kernel
theorem dX8_run_73 : decode cX8_run 73 = .ok (.iinc 3 1, 3) := by decide +kernel
theorem dX8_run_76 : decode cX8_run 76 = .ok (.goto (-44), 3) := by decide +kernel
theorem dX8_run_79 : decode cX8_run 79 = .ok (.iload_n 2, 1) := by decide +kernel
theorem dX8_run_80 : decode cX8_run 80 = .ok (.ireturn, 1) := by decide +kernel
theorem dX8_clock_0 : decode cX8_clock 0 = .ok (.aload_n 0, 1) := by decide +kernel
theorem dX8_clock_1 : decode cX8_clock 1 = .ok (.getfield 62, 3) := by decide +kernel
theorem dX8_clock_4 : decode cX8_clock 4 = .ok (.ireturn, 1) := by decide +kernel
theorem dX8_cash_0 : decode cX8_cash 0 = .ok (.aload_n 0, 1) := by decide +kernel
theorem dX8_cash_1 : decode cX8_cash 1 = .ok (.getfield 66, 3) := by decide +kernel
theorem dX8_cash_4 : decode cX8_cash 4 = .ok (.ireturn, 1) := by decide +kernel
theorem dX8_freeTracks_0 : decode cX8_freeTracks 0 = .ok (.aload_n 0, 1) := by decide +kernel
theorem dX8_freeTracks_1 : decode cX8_freeTracks 1 = .ok (.iload_n 1, 1) := by decide +kernel
theorem dX8_freeTracks_2 : decode cX8_freeTracks 2 = .ok (.invokevirtual 216, 3) := by decide +kernel
theorem dX8_freeTracks_5 : decode cX8_freeTracks 5 = .ok (.ireturn, 1) := by decide +kernel
theorem dX8_holder_0 : decode cX8_holder 0 = .ok (.aload_n 0, 1) := by decide +kernel
theorem dX8_holder_1 : decode cX8_holder 1 = .ok (.iload_n 1, 1) := by decide +kernel
theorem dX8_holder_2 : decode cX8_holder 2 = .ok (.invokevirtual 121, 3) := by decide +kernel
theorem dX8_holder_5 : decode cX8_holder 5 = .ok (.aload_n 0, 1) := by decide +kernel
theorem dX8_holder_6 : decode cX8_holder 6 = .ok (.getfield 62, 3) := by decide +kernel
theorem dX8_holder_9 : decode cX8_holder 9 = .ok (.invokevirtual 138, 3) := by decide +kernel
theorem dX8_holder_12 : decode cX8_holder 12 = .ok (.ireturn, 1) := by decide +kernel
theorem dX8_holderByTrains_0 : decode cX8_holderByTrains 0 = .ok (.aload_n 0, 1) := by decide +kernel
theorem dX8_holderByTrains_1 : decode cX8_holderByTrains 1 = .ok (.iload_n 1, 1) := by decide +kernel
theorem dX8_holderByTrains_2 : decode cX8_holderByTrains 2 = .ok (.invokevirtual 163, 3) := by decide +kernel
theorem dX8_holderByTrains_5 : decode cX8_holderByTrains 5 = .ok (.iconst 0, 1) := by decide +kernel
theorem dX8_holderByTrains_6 : decode cX8_holderByTrains 6 = .ok (.istore_n 2, 1) := by decide +kernel
theorem dX8_holderByTrains_7 : decode cX8_holderByTrains 7 = .ok (.iload_n 2, 1) := by decide +kernel
theorem dX8_holderByTrains_8 : decode cX8_holderByTrains 8 = .ok (.aload_n 0, 1) := by decide +kernel
theorem dX8_holderByTrains_9 : decode cX8_holderByTrains 9 = .ok (.getfield 36, 3) := by decide +kernel
theorem dX8_holderByTrains_12 : decode cX8_holderByTrains 12 = .ok (.arraylength, 1) := by decide +kernel
theorem dX8_holderByTrains_13 : decode cX8_holderByTrains 13 = .ok (.if_icmp .ge 28, 3) := by decide +kernel
theorem dX8_holderByTrains_16 : decode cX8_holderByTrains 16 = .ok (.aload_n 0, 1) := by decide +kernel
theorem dX8_holderByTrains_17 : decode cX8_holderByTrains 17 = .ok (.getfield 36, 3) := by decide +kernel
theorem dX8_holderByTrains_20 : decode cX8_holderByTrains 20 = .ok (.iload_n 2, 1) := by decide +kernel
theorem dX8_holderByTrains_21 : decode cX8_holderByTrains 21 = .ok (.aaload, 1) := by decide +kernel
theorem dX8_holderByTrains_22 : decode cX8_holderByTrains 22 = .ok (.iload_n 1, 1) := by decide +kernel
theorem dX8_holderByTrains_23 : decode cX8_holderByTrains 23 = .ok (.aload_n 0, 1) := by decide +kernel
theorem dX8_holderByTrains_24 : decode cX8_holderByTrains 24 = .ok (.getfield 62, 3) := by decide +kernel
theorem dX8_holderByTrains_27 : decode cX8_holderByTrains 27 = .ok (.invokevirtual 361, 3) := by decide +kernel
theorem dX8_holderByTrains_30 : decode cX8_holderByTrains 30 = .ok (.ifCond .eq 5, 3) := by decide +kernel
theorem dX8_holderByTrains_33 : decode cX8_holderByTrains 33 = .ok (.iload_n 2, 1) := by decide +kernel
theorem dX8_holderByTrains_34 : decode cX8_holderByTrains 34 = .ok (.ireturn, 1) := by decide +kernel
theorem dX8_holderByTrains_35 : decode cX8_holderByTrains 35 = .ok (.iinc 2 1, 3) := by decide +kernel
theorem dX8_holderByTrains_38 : decode cX8_holderByTrains 38 = .ok (.goto (-31), 3) := by decide +kernel
theorem dX8_holderByTrains_41 : decode cX8_holderByTrains 41 = .ok (.iconst (-1), 1) := by decide +kernel
theorem dX8_holderByTrains_42 : decode cX8_holderByTrains 42 = .ok (.ireturn, 1) := by decide +kernel
theorem dX8_block_0 : decode cX8_block 0 = .ok (.aload_n 0, 1) := by decide +kernel
theorem dX8_block_1 : decode cX8_block 1 = .ok (.iload_n 1, 1) := by decide +kernel
theorem dX8_block_2 : decode cX8_block 2 = .ok (.invokevirtual 121, 3) := by decide +kernel
theorem dX8_block_5 : decode cX8_block 5 = .ok (.astore_n 3, 1) := by decide +kernel
theorem dX8_block_6 : decode cX8_block 6 = .ok (.iload_n 2, 1) := by decide +kernel
theorem dX8_block_7 : decode cX8_block 7 = .ok (.iconst 3, 1) := by decide +kernel
theorem dX8_block_8 : decode cX8_block 8 = .ok (.invokestatic 365, 3) := by decide +kernel
theorem dX8_block_11 : decode cX8_block 11 = .ok (.iload_n 2, 1) := by decide +kernel
theorem dX8_block_12 : decode cX8_block 12 = .ok (.ifCond .ne 8, 3) := by decide +kernel
theorem dX8_block_15 : decode cX8_block 15 = .ok (.aload_n 3, 1) := by decide +kernel
theorem dX8_block_16 : decode cX8_block 16 = .ok (.getfield 145, 3) := by decide +kernel
theorem dX8_block_19 : decode cX8_block 19 = .ok (.ireturn, 1) := by decide +kernel
theorem dX8_block_20 : decode cX8_block 20 = .ok (.iload_n 2, 1) := by decide +kernel
theorem dX8_block_21 : decode cX8_block 21 = .ok (.iconst 1, 1) := by decide +kernel
theorem dX8_block_22 : decode cX8_block 22 = .ok (.if_icmp .ne 14, 3) := by decide +kernel
theorem dX8_block_25 : decode cX8_block 25 = .ok (.aload_n 3, 1) := by decide +kernel
theorem dX8_block_26 : decode cX8_block 26 = .ok (.aload_n 0, 1) := by decide +kernel
theorem dX8_block_27 : decode cX8_block 27 = .ok (.getfield 62, 3) := by decide +kernel
theorem dX8_block_30 : decode cX8_block 30 = .ok (.invokevirtual 141, 3) := by decide +kernel
theorem dX8_block_33 : decode cX8_block 33 = .ok (.goto 7, 3) := by decide +kernel
theorem dX8_block_36 : decode cX8_block 36 = .ok (.aload_n 3, 1) := by decide +kernel
theorem dX8_block_37 : decode cX8_block 37 = .ok (.getfield 129, 3) := by decide +kernel
theorem dX8_block_40 : decode cX8_block 40 = .ok (.istore 4, 2) := by decide +kernel
theorem dX8_block_42 : decode cX8_block 42 = .ok (.iload 4, 2) := by decide +kernel
theorem dX8_block_44 : decode cX8_block 44 = .ok (.ifCond .eq 7, 3) := by decide +kernel
theorem dX8_block_47 : decode cX8_block 47 = .ok (.iconst 1, 1) := by decide +kernel
theorem dX8_block_48 : decode cX8_block 48 = .ok (.goto 4, 3) := by decide +kernel
theorem dX8_block_51 : decode cX8_block 51 = .ok (.iconst 0, 1) := by decide +kernel
theorem dX8_block_52 : decode cX8_block 52 = .ok (.ireturn, 1) := by decide +kernel
theorem dX8_train_0 : decode cX8_train 0 = .ok (.aload_n 0, 1) := by decide +kernel
theorem dX8_train_1 : decode cX8_train 1 = .ok (.iload_n 1, 1) := by decide +kernel
theorem dX8_train_2 : decode cX8_train 2 = .ok (.invokevirtual 180, 3) := by decide +kernel
theorem dX8_train_5 : decode cX8_train 5 = .ok (.astore_n 3, 1) := by decide +kernel
theorem dX8_train_6 : decode cX8_train 6 = .ok (.iload_n 2, 1) := by decide +kernel
theorem dX8_train_7 : decode cX8_train 7 = .ok (.bipush 7, 2) := by decide +kernel
theorem dX8_train_9 : decode cX8_train 9 = .ok (.invokestatic 365, 3) := by decide +kernel
theorem dX8_train_12 : decode cX8_train 12 = .ok (.iload_n 2, 1) := by decide +kernel
theorem dX8_train_13 : decode cX8_train 13 = .ok (.tableswitch 80 0 5 #[39, 44, 49, 54, 59, 67], 39) := by decide +kernel
theorem dX8_train_52 : decode cX8_train 52 = .ok (.aload_n 3, 1) := by decide +kernel
theorem dX8_train_53 : decode cX8_train 53 = .ok (.getfield 277, 3) := by decide +kernel
theorem dX8_train_56 : decode cX8_train 56 = .ok (.ireturn, 1) := by decide +kernel
theorem dX8_train_57 : decode cX8_train 57 = .ok (.aload_n 3, 1) := by decide +kernel
theorem dX8_train_58 : decode cX8_train 58 = .ok (.getfield 236, 3) := by decide +kernel
theorem dX8_train_61 : decode cX8_train 61 = .ok (.ireturn, 1) := by decide +kernel
theorem dX8_train_62 : decode cX8_train 62 = .ok (.aload_n 3, 1) := by decide +kernel
theorem dX8_train_63 : decode cX8_train 63 = .ok (.getfield 322, 3) := by decide +kernel
theorem dX8_train_66 : decode cX8_train 66 = .ok (.ireturn, 1) := by decide +kernel
theorem dX8_train_67 : decode cX8_train 67 = .ok (.aload_n 3, 1) := by decide +kernel
theorem dX8_train_68 : decode cX8_train 68 = .ok (.getfield 250, 3) := by decide +kernel
theorem dX8_train_71 : decode cX8_train 71 = .ok (.ireturn, 1) := by decide +kernel
theorem dX8_train_72 : decode cX8_train 72 = .ok (.aload_n 3, 1) := by decide +kernel
theorem dX8_train_73 : decode cX8_train 73 = .ok (.getfield 228, 3) := by decide +kernel
theorem dX8_train_76 : decode cX8_train 76 = .ok (.getfield 230, 3) := by decide +kernel
theorem dX8_train_79 : decode cX8_train 79 = .ok (.ireturn, 1) := by decide +kernel
theorem dX8_train_80 : decode cX8_train 80 = .ok (.aload_n 3, 1) := by decide +kernel
theorem dX8_train_81 : decode cX8_train 81 = .ok (.getfield 261, 3) := by decide +kernel
theorem dX8_train_84 : decode cX8_train 84 = .ok (.getfield 230, 3) := by decide +kernel
theorem dX8_train_87 : decode cX8_train 87 = .ok (.aload_n 3, 1) := by decide +kernel
theorem dX8_train_88 : decode cX8_train 88 = .ok (.getfield 268, 3) := by decide +kernel
theorem dX8_train_91 : decode cX8_train 91 = .ok (.isub, 1) := by decide +kernel
theorem dX8_train_92 : decode cX8_train 92 = .ok (.ireturn, 1) := by decide +kernel
theorem dX8_train_93 : decode cX8_train 93 = .ok (.aload_n 3, 1) := by decide +kernel
theorem dX8_train_94 : decode cX8_train 94 = .ok (.getfield 277, 3) := by decide +kernel
theorem dX8_train_97 : decode cX8_train 97 = .ok (.iconst 2, 1) := by decide +kernel
theorem dX8_train_98 : decode cX8_train 98 = .ok (.if_icmp .ne 10, 3) := by decide +kernel
theorem dX8_train_101 : decode cX8_train 101 = .ok (.aload_n 3, 1) := by decide +kernel
theorem dX8_train_102 : decode cX8_train 102 = .ok (.getfield 368, 3) := by decide +kernel
theorem dX8_train_105 : decode cX8_train 105 = .ok (.goto 4, 3) := by decide +kernel
theorem dX8_train_108 : decode cX8_train 108 = .ok (.iconst (-1), 1) := by decide +kernel
theorem dX8_train_109 : decode cX8_train 109 = .ok (.ireturn, 1) := by decide +kernel
theorem dX8_barred_0 : decode cX8_barred 0 = .ok (.aload_n 0, 1) := by decide +kernel
theorem dX8_barred_1 : decode cX8_barred 1 = .ok (.iload_n 1, 1) := by decide +kernel
theorem dX8_barred_2 : decode cX8_barred 2 = .ok (.invokevirtual 180, 3) := by decide +kernel
theorem dX8_barred_5 : decode cX8_barred 5 = .ok (.astore_n 2, 1) := by decide +kernel
theorem dX8_barred_6 : decode cX8_barred 6 = .ok (.aload_n 2, 1) := by decide +kernel
theorem dX8_barred_7 : decode cX8_barred 7 = .ok (.getfield 277, 3) := by decide +kernel
theorem dX8_barred_10 : decode cX8_barred 10 = .ok (.iconst 1, 1) := by decide +kernel
theorem dX8_barred_11 : decode cX8_barred 11 = .ok (.if_icmp .ne 11, 3) := by decide +kernel
theorem dX8_barred_14 : decode cX8_barred 14 = .ok (.aload_n 0, 1) := by decide +kernel
theorem dX8_barred_15 : decode cX8_barred 15 = .ok (.aload_n 2, 1) := by decide +kernel
theorem dX8_barred_16 : decode cX8_barred 16 = .ok (.invokevirtual 371, 3) := by decide +kernel
theorem dX8_barred_19 : decode cX8_barred 19 = .ok (.goto 4, 3) := by decide +kernel
theorem dX8_barred_22 : decode cX8_barred 22 = .ok (.iconst (-1), 1) := by decide +kernel
theorem dX8_barred_23 : decode cX8_barred 23 = .ok (.ireturn, 1) := by decide +kernel
theorem dX8_duty_0 : decode cX8_duty 0 = .ok (.aload_n 0, 1) := by decide +kernel
theorem dX8_duty_1 : decode cX8_duty 1 = .ok (.iload_n 1, 1) := by decide +kernel
theorem dX8_duty_2 : decode cX8_duty 2 = .ok (.invokevirtual 159, 3) := by decide +kernel
theorem dX8_duty_5 : decode cX8_duty 5 = .ok (.astore_n 2, 1) := by decide +kernel
theorem dX8_duty_6 : decode cX8_duty 6 = .ok (.aload_n 2, 1) := by decide +kernel
theorem dX8_duty_7 : decode cX8_duty 7 = .ok (.aload_n 0, 1) := by decide +kernel
theorem dX8_duty_8 : decode cX8_duty 8 = .ok (.getfield 62, 3) := by decide +kernel
theorem dX8_duty_11 : decode cX8_duty 11 = .ok (.invokevirtual 174, 3) := by decide +kernel
theorem dX8_duty_14 : decode cX8_duty 14 = .ok (.ifCond .eq 7, 3) := by decide +kernel
theorem dX8_duty_17 : decode cX8_duty 17 = .ok (.iconst (-1), 1) := by decide +kernel
theorem dX8_duty_18 : decode cX8_duty 18 = .ok (.goto 7, 3) := by decide +kernel
theorem dX8_duty_21 : decode cX8_duty 21 = .ok (.aload_n 2, 1) := by decide +kernel
theorem dX8_duty_22 : decode cX8_duty 22 = .ok (.getfield 188, 3) := by decide +kernel
theorem dX8_duty_25 : decode cX8_duty 25 = .ok (.ireturn, 1) := by decide +kernel
theorem dX8_requireArgument_0 : decode cX8_requireArgument 0 = .ok (.iload_n 0, 1) := by decide +kernel
theorem dX8_requireArgument_1 : decode cX8_requireArgument 1 = .ok (.ifCond .ne 14, 3) := by decide +kernel
theorem dX8_requireArgument_4 : decode cX8_requireArgument 4 = .ok (.new 390, 3) := by decide +kernel
theorem dX8_requireArgument_7 : decode cX8_requireArgument 7 = .ok (.dup, 1) := by decide +kernel
theorem dX8_requireArgument_8 : decode cX8_requireArgument 8 = .ok (.ldc_w 392, 3) := by decide +kernel
theorem dX8_requireArgument_11 : decode cX8_requireArgument 11 = .ok (.invokespecial 394, 3) := by decide +kernel
theorem dX8_requireArgument_14 : decode cX8_requireArgument 14 = .ok (.athrow, 1) := by decide +kernel
theorem dX8_requireArgument_15 : decode cX8_requireArgument 15 = .ok (.return_, 1) := by decide +kernel
theorem dX8_requireRange_0 : decode cX8_requireRange 0 = .ok (.iload_n 0, 1) := by decide +kernel
theorem dX8_requireRange_1 : decode cX8_requireRange 1 = .ok (.iload_n 1, 1) := by decide +kernel
theorem dX8_requireRange_2 : decode cX8_requireRange 2 = .ok (.if_icmp .lt 12, 3) := by decide +kernel
theorem dX8_requireRange_5 : decode cX8_requireRange 5 = .ok (.iload_n 0, 1) := by decide +kernel
theorem dX8_requireRange_6 : decode cX8_requireRange 6 = .ok (.iload_n 2, 1) := by decide +kernel
theorem dX8_requireRange_7 : decode cX8_requireRange 7 = .ok (.if_icmp .gt 7, 3) := by decide +kernel
theorem dX8_requireRange_10 : decode cX8_requireRange 10 = .ok (.iconst 1, 1) := by decide +kernel
theorem dX8_requireRange_11 : decode cX8_requireRange 11 = .ok (.goto 4, 3) := by decide +kernel
theorem dX8_requireRange_14 : decode cX8_requireRange 14 = .ok (.iconst 0, 1) := by decide +kernel
theorem dX8_requireRange_15 : decode cX8_requireRange 15 = .ok (.invokestatic 105, 3) := by decide +kernel
theorem dX8_requireRange_18 : decode cX8_requireRange 18 = .ok (.return_, 1) := by decide +kernel
theorem dX8_requireState_0 : decode cX8_requireState 0 = .ok (.iload_n 0, 1) := by decide +kernel
theorem dX8_requireState_1 : decode cX8_requireState 1 = .ok (.ifCond .ne 14, 3) := by decide +kernel
theorem dX8_requireState_4 : decode cX8_requireState 4 = .ok (.new 397, 3) := by decide +kernel
theorem dX8_requireState_7 : decode cX8_requireState 7 = .ok (.dup, 1) := by decide +kernel
theorem dX8_requireState_8 : decode cX8_requireState 8 = .ok (.ldc_w 399, 3) := by decide +kernel
theorem dX8_requireState_11 : decode cX8_requireState 11 = .ok (.invokespecial 401, 3) := by decide +kernel
theorem dX8_requireState_14 : decode cX8_requireState 14 = .ok (.athrow, 1) := by decide +kernel
theorem dX8_requireState_15 : decode cX8_requireState 15 = .ok (.return_, 1) := by decide +kernel
theorem dX8_requireIndex_0 : decode cX8_requireIndex 0 = .ok (.iload_n 0, 1) := by decide +kernel
theorem dX8_requireIndex_1 : decode cX8_requireIndex 1 = .ok (.ifCond .lt 8, 3) := by decide +kernel
theorem dX8_requireIndex_4 : decode cX8_requireIndex 4 = .ok (.iload_n 0, 1) := by decide +kernel
theorem dX8_requireIndex_5 : decode cX8_requireIndex 5 = .ok (.iload_n 1, 1) := by decide +kernel
theorem dX8_requireIndex_6 : decode cX8_requireIndex 6 = .ok (.if_icmp .lt 14, 3) := by decide +kernel
theorem dX8_requireIndex_9 : decode cX8_requireIndex 9 = .ok (.new 402, 3) := by decide +kernel
theorem dX8_requireIndex_12 : decode cX8_requireIndex 12 = .ok (.dup, 1) := by decide +kernel
theorem dX8_requireIndex_13 : decode cX8_requireIndex 13 = .ok (.ldc_w 404, 3) := by decide +kernel
theorem dX8_requireIndex_16 : decode cX8_requireIndex 16 = .ok (.invokespecial 406, 3) := by decide +kernel
theorem dX8_requireIndex_19 : decode cX8_requireIndex 19 = .ok (.athrow, 1) := by decide +kernel
theorem dX8_requireIndex_20 : decode cX8_requireIndex 20 = .ok (.return_, 1) := by decide +kernel
theorem dX8_requireStation_0 : decode cX8_requireStation 0 = .ok (.iload_n 1, 1) := by decide +kernel
theorem dX8_requireStation_1 : decode cX8_requireStation 1 = .ok (.aload_n 0, 1) := by decide +kernel
theorem dX8_requireStation_2 : decode cX8_requireStation 2 = .ok (.getfield 11, 3) := by decide +kernel
theorem dX8_requireStation_5 : decode cX8_requireStation 5 = .ok (.arraylength, 1) := by decide +kernel
theorem dX8_requireStation_6 : decode cX8_requireStation 6 = .ok (.invokestatic 365, 3) := by decide +kernel
theorem dX8_requireStation_9 : decode cX8_requireStation 9 = .ok (.return_, 1) := by decide +kernel
theorem dX8_requireBlock_0 : decode cX8_requireBlock 0 = .ok (.iload_n 1, 1) := by decide +kernel
theorem dX8_requireBlock_1 : decode cX8_requireBlock 1 = .ok (.aload_n 0, 1) := by decide +kernel
theorem dX8_requireBlock_2 : decode cX8_requireBlock 2 = .ok (.getfield 18, 3) := by decide +kernel
theorem dX8_requireBlock_5 : decode cX8_requireBlock 5 = .ok (.invokevirtual 108, 3) := by decide +kernel
theorem dX8_requireBlock_8 : decode cX8_requireBlock 8 = .ok (.invokestatic 365, 3) := by decide +kernel
theorem dX8_requireBlock_11 : decode cX8_requireBlock 11 = .ok (.return_, 1) := by decide +kernel
theorem dX8_requireTrain_0 : decode cX8_requireTrain 0 = .ok (.iload_n 1, 1) := by decide +kernel
theorem dX8_requireTrain_1 : decode cX8_requireTrain 1 = .ok (.aload_n 0, 1) := by decide +kernel
theorem dX8_requireTrain_2 : decode cX8_requireTrain 2 = .ok (.getfield 36, 3) := by decide +kernel
theorem dX8_requireTrain_5 : decode cX8_requireTrain 5 = .ok (.arraylength, 1) := by decide +kernel
theorem dX8_requireTrain_6 : decode cX8_requireTrain 6 = .ok (.invokestatic 365, 3) := by decide +kernel
theorem dX8_requireTrain_9 : decode cX8_requireTrain 9 = .ok (.aload_n 0, 1) := by decide +kernel
theorem dX8_requireTrain_10 : decode cX8_requireTrain 10 = .ok (.getfield 36, 3) := by decide +kernel
theorem dX8_requireTrain_13 : decode cX8_requireTrain 13 = .ok (.iload_n 1, 1) := by decide +kernel
theorem dX8_requireTrain_14 : decode cX8_requireTrain 14 = .ok (.aaload, 1) := by decide +kernel
theorem dX8_requireTrain_15 : decode cX8_requireTrain 15 = .ok (.getfield 277, 3) := by decide +kernel
theorem dX8_requireTrain_18 : decode cX8_requireTrain 18 = .ok (.iconst (-1), 1) := by decide +kernel
theorem dX8_requireTrain_19 : decode cX8_requireTrain 19 = .ok (.if_icmp .ne 14, 3) := by decide +kernel
theorem dX8_requireTrain_22 : decode cX8_requireTrain 22 = .ok (.new 402, 3) := by decide +kernel
theorem dX8_requireTrain_25 : decode cX8_requireTrain 25 = .ok (.dup, 1) := by decide +kernel
theorem dX8_requireTrain_26 : decode cX8_requireTrain 26 = .ok (.ldc_w 409, 3) := by decide +kernel
theorem dX8_requireTrain_29 : decode cX8_requireTrain 29 = .ok (.invokespecial 406, 3) := by decide +kernel
theorem dX8_requireTrain_32 : decode cX8_requireTrain 32 = .ok (.athrow, 1) := by decide +kernel
theorem dX8_requireTrain_33 : decode cX8_requireTrain 33 = .ok (.return_, 1) := by decide +kernel
theorem dX8_stationOf_0 : decode cX8_stationOf 0 = .ok (.iload_n 1, 1) := by decide +kernel
theorem dX8_stationOf_1 : decode cX8_stationOf 1 = .ok (.aload_n 0, 1) := by decide +kernel
theorem dX8_stationOf_2 : decode cX8_stationOf 2 = .ok (.getfield 11, 3) := by decide +kernel
theorem dX8_stationOf_5 : decode cX8_stationOf 5 = .ok (.arraylength, 1) := by decide +kernel
theorem dX8_stationOf_6 : decode cX8_stationOf 6 = .ok (.invokestatic 365, 3) := by decide +kernel
theorem dX8_stationOf_9 : decode cX8_stationOf 9 = .ok (.aload_n 0, 1) := by decide +kernel
theorem dX8_stationOf_10 : decode cX8_stationOf 10 = .ok (.getfield 11, 3) := by decide +kernel
theorem dX8_stationOf_13 : decode cX8_stationOf 13 = .ok (.iload_n 1, 1) := by decide +kernel
theorem dX8_stationOf_14 : decode cX8_stationOf 14 = .ok (.aaload, 1) := by decide +kernel
theorem dX8_stationOf_15 : decode cX8_stationOf 15 = .ok (.areturn, 1) := by decide +kernel
theorem dX8_blockOf_0 : decode cX8_blockOf 0 = .ok (.iload_n 1, 1) := by decide +kernel
theorem dX8_blockOf_1 : decode cX8_blockOf 1 = .ok (.aload_n 0, 1) := by decide +kernel
theorem dX8_blockOf_2 : decode cX8_blockOf 2 = .ok (.getfield 18, 3) := by decide +kernel
theorem dX8_blockOf_5 : decode cX8_blockOf 5 = .ok (.invokevirtual 108, 3) := by decide +kernel
theorem dX8_blockOf_8 : decode cX8_blockOf 8 = .ok (.invokestatic 365, 3) := by decide +kernel
theorem dX8_blockOf_11 : decode cX8_blockOf 11 = .ok (.aload_n 0, 1) := by decide +kernel
theorem dX8_blockOf_12 : decode cX8_blockOf 12 = .ok (.getfield 18, 3) := by decide +kernel
theorem dX8_blockOf_15 : decode cX8_blockOf 15 = .ok (.iload_n 1, 1) := by decide +kernel
theorem dX8_blockOf_16 : decode cX8_blockOf 16 = .ok (.invokevirtual 411, 3) := by decide +kernel
theorem dX8_blockOf_19 : decode cX8_blockOf 19 = .ok (.checkcast 112, 3) := by decide +kernel
theorem dX8_blockOf_22 : decode cX8_blockOf 22 = .ok (.areturn, 1) := by decide +kernel
theorem dX8_engineOf_0 : decode cX8_engineOf 0 = .ok (.iload_n 1, 1) := by decide +kernel
theorem dX8_engineOf_1 : decode cX8_engineOf 1 = .ok (.aload_n 0, 1) := by decide +kernel
theorem dX8_engineOf_2 : decode cX8_engineOf 2 = .ok (.getfield 22, 3) := by decide +kernel
theorem dX8_engineOf_5 : decode cX8_engineOf 5 = .ok (.invokevirtual 108, 3) := by decide +kernel
theorem dX8_engineOf_8 : decode cX8_engineOf 8 = .ok (.invokestatic 365, 3) := by decide +kernel
theorem dX8_engineOf_11 : decode cX8_engineOf 11 = .ok (.aload_n 0, 1) := by decide +kernel
theorem dX8_engineOf_12 : decode cX8_engineOf 12 = .ok (.getfield 22, 3) := by decide +kernel
theorem dX8_engineOf_15 : decode cX8_engineOf 15 = .ok (.iload_n 1, 1) := by decide +kernel
theorem dX8_engineOf_16 : decode cX8_engineOf 16 = .ok (.invokevirtual 411, 3) := by decide +kernel
theorem dX8_engineOf_19 : decode cX8_engineOf 19 = .ok (.checkcast 151, 3) := by decide +kernel
theorem dX8_engineOf_22 : decode cX8_engineOf 22 = .ok (.areturn, 1) := by decide +kernel
theorem dX8_crewOf_0 : decode cX8_crewOf 0 = .ok (.iload_n 1, 1) := by decide +kernel
theorem dX8_crewOf_1 : decode cX8_crewOf 1 = .ok (.aload_n 0, 1) := by decide +kernel
theorem dX8_crewOf_2 : decode cX8_crewOf 2 = .ok (.getfield 25, 3) := by decide +kernel
theorem dX8_crewOf_5 : decode cX8_crewOf 5 = .ok (.invokevirtual 108, 3) := by decide +kernel
theorem dX8_crewOf_8 : decode cX8_crewOf 8 = .ok (.invokestatic 365, 3) := by decide +kernel
theorem dX8_crewOf_11 : decode cX8_crewOf 11 = .ok (.aload_n 0, 1) := by decide +kernel
theorem dX8_crewOf_12 : decode cX8_crewOf 12 = .ok (.getfield 25, 3) := by decide +kernel
theorem dX8_crewOf_15 : decode cX8_crewOf 15 = .ok (.iload_n 1, 1) := by decide +kernel
theorem dX8_crewOf_16 : decode cX8_crewOf 16 = .ok (.invokevirtual 411, 3) := by decide +kernel
theorem dX8_crewOf_19 : decode cX8_crewOf 19 = .ok (.checkcast 156, 3) := by decide +kernel
theorem dX8_crewOf_22 : decode cX8_crewOf 22 = .ok (.areturn, 1) := by decide +kernel
theorem dX8_carOf_0 : decode cX8_carOf 0 = .ok (.iload_n 1, 1) := by decide +kernel
theorem dX8_carOf_1 : decode cX8_carOf 1 = .ok (.aload_n 0, 1) := by decide +kernel
theorem dX8_carOf_2 : decode cX8_carOf 2 = .ok (.getfield 28, 3) := by decide +kernel
theorem dX8_carOf_5 : decode cX8_carOf 5 = .ok (.invokevirtual 108, 3) := by decide +kernel
theorem dX8_carOf_8 : decode cX8_carOf 8 = .ok (.invokestatic 365, 3) := by decide +kernel
theorem dX8_carOf_11 : decode cX8_carOf 11 = .ok (.aload_n 0, 1) := by decide +kernel
theorem dX8_carOf_12 : decode cX8_carOf 12 = .ok (.getfield 28, 3) := by decide +kernel
theorem dX8_carOf_15 : decode cX8_carOf 15 = .ok (.iload_n 1, 1) := by decide +kernel
theorem dX8_carOf_16 : decode cX8_carOf 16 = .ok (.invokevirtual 411, 3) := by decide +kernel
theorem dX8_carOf_19 : decode cX8_carOf 19 = .ok (.checkcast 194, 3) := by decide +kernel
theorem dX8_carOf_22 : decode cX8_carOf 22 = .ok (.areturn, 1) := by decide +kernel
theorem dX8_billNumbered_0 : decode cX8_billNumbered 0 = .ok (.iload_n 1, 1) := by decide +kernel
theorem dX8_billNumbered_1 : decode cX8_billNumbered 1 = .ok (.aload_n 0, 1) := by decide +kernel
theorem dX8_billNumbered_2 : decode cX8_billNumbered 2 = .ok (.getfield 31, 3) := by decide +kernel
theorem dX8_billNumbered_5 : decode cX8_billNumbered 5 = .ok (.invokevirtual 108, 3) := by decide +kernel
theorem dX8_billNumbered_8 : decode cX8_billNumbered 8 = .ok (.invokestatic 365, 3) := by decide +kernel
theorem dX8_billNumbered_11 : decode cX8_billNumbered 11 = .ok (.aload_n 0, 1) := by decide +kernel
theorem dX8_billNumbered_12 : decode cX8_billNumbered 12 = .ok (.getfield 31, 3) := by decide +kernel
theorem dX8_billNumbered_15 : decode cX8_billNumbered 15 = .ok (.iload_n 1, 1) := by decide +kernel
theorem dX8_billNumbered_16 : decode cX8_billNumbered 16 = .ok (.invokevirtual 411, 3) := by decide +kernel
theorem dX8_billNumbered_19 : decode cX8_billNumbered 19 = .ok (.checkcast 331, 3) := by decide +kernel
theorem dX8_billNumbered_22 : decode cX8_billNumbered 22 = .ok (.areturn, 1) := by decide +kernel
theorem dX8_trainOf_0 : decode cX8_trainOf 0 = .ok (.aload_n 0, 1) := by decide +kernel
theorem dX8_trainOf_1 : decode cX8_trainOf 1 = .ok (.iload_n 1, 1) := by decide +kernel
theorem dX8_trainOf_2 : decode cX8_trainOf 2 = .ok (.invokevirtual 283, 3) := by decide +kernel
theorem dX8_trainOf_5 : decode cX8_trainOf 5 = .ok (.aload_n 0, 1) := by decide +kernel
theorem dX8_trainOf_6 : decode cX8_trainOf 6 = .ok (.getfield 36, 3) := by decide +kernel
theorem dX8_trainOf_9 : decode cX8_trainOf 9 = .ok (.iload_n 1, 1) := by decide +kernel
theorem dX8_trainOf_10 : decode cX8_trainOf 10 = .ok (.aaload, 1) := by decide +kernel
theorem dX8_trainOf_11 : decode cX8_trainOf 11 = .ok (.areturn, 1) := by decide +kernel
theorem dX8_takenTracks_0 : decode cX8_takenTracks 0 = .ok (.iconst 0, 1) := by decide +kernel
theorem dX8_takenTracks_1 : decode cX8_takenTracks 1 = .ok (.istore_n 2, 1) := by decide +kernel
theorem dX8_takenTracks_2 : decode cX8_takenTracks 2 = .ok (.iconst 0, 1) := by decide +kernel
theorem dX8_takenTracks_3 : decode cX8_takenTracks 3 = .ok (.istore_n 3, 1) := by decide +kernel
theorem dX8_takenTracks_4 : decode cX8_takenTracks 4 = .ok (.iload_n 3, 1) := by decide +kernel
theorem dX8_takenTracks_5 : decode cX8_takenTracks 5 = .ok (.aload_n 0, 1) := by decide +kernel
theorem dX8_takenTracks_6 : decode cX8_takenTracks 6 = .ok (.getfield 36, 3) := by decide +kernel
theorem dX8_takenTracks_9 : decode cX8_takenTracks 9 = .ok (.arraylength, 1) := by decide +kernel
theorem dX8_takenTracks_10 : decode cX8_takenTracks 10 = .ok (.if_icmp .ge 25, 3) := by decide +kernel
theorem dX8_takenTracks_13 : decode cX8_takenTracks 13 = .ok (.aload_n 0, 1) := by decide +kernel
theorem dX8_takenTracks_14 : decode cX8_takenTracks 14 = .ok (.getfield 36, 3) := by decide +kernel
theorem dX8_takenTracks_17 : decode cX8_takenTracks 17 = .ok (.iload_n 3, 1) := by decide +kernel
theorem dX8_takenTracks_18 : decode cX8_takenTracks 18 = .ok (.aaload, 1) := by decide +kernel
theorem dX8_takenTracks_19 : decode cX8_takenTracks 19 = .ok (.iload_n 1, 1) := by decide +kernel
theorem dX8_takenTracks_20 : decode cX8_takenTracks 20 = .ok (.invokevirtual 415, 3) := by decide +kernel
theorem dX8_takenTracks_23 : decode cX8_takenTracks 23 = .ok (.ifCond .eq 6, 3) := by decide +kernel
theorem dX8_takenTracks_26 : decode cX8_takenTracks 26 = .ok (.iinc 2 1, 3) := by decide +kernel
theorem dX8_takenTracks_29 : decode cX8_takenTracks 29 = .ok (.iinc 3 1, 3) := by decide +kernel
theorem dX8_takenTracks_32 : decode cX8_takenTracks 32 = .ok (.goto (-28), 3) := by decide +kernel
theorem dX8_takenTracks_35 : decode cX8_takenTracks 35 = .ok (.iload_n 2, 1) := by decide +kernel
theorem dX8_takenTracks_36 : decode cX8_takenTracks 36 = .ok (.ireturn, 1) := by decide +kernel
theorem dX8_freeTracksAt_0 : decode cX8_freeTracksAt 0 = .ok (.aload_n 0, 1) := by decide +kernel
theorem dX8_freeTracksAt_1 : decode cX8_freeTracksAt 1 = .ok (.iload_n 1, 1) := by decide +kernel
theorem dX8_freeTracksAt_2 : decode cX8_freeTracksAt 2 = .ok (.invokevirtual 83, 3) := by decide +kernel
theorem dX8_freeTracksAt_5 : decode cX8_freeTracksAt 5 = .ok (.getfield 99, 3) := by decide +kernel
theorem dX8_freeTracksAt_8 : decode cX8_freeTracksAt 8 = .ok (.aload_n 0, 1) := by decide +kernel
theorem dX8_freeTracksAt_9 : decode cX8_freeTracksAt 9 = .ok (.iload_n 1, 1) := by decide +kernel
theorem dX8_freeTracksAt_10 : decode cX8_freeTracksAt 10 = .ok (.invokevirtual 91, 3) := by decide +kernel
theorem dX8_freeTracksAt_13 : decode cX8_freeTracksAt 13 = .ok (.isub, 1) := by decide +kernel
theorem dX8_freeTracksAt_14 : decode cX8_freeTracksAt 14 = .ok (.ireturn, 1) := by decide +kernel
theorem dX8_leastFreeNumber_0 : decode cX8_leastFreeNumber 0 = .ok (.iconst 0, 1) := by decide +kernel
theorem dX8_leastFreeNumber_1 : decode cX8_leastFreeNumber 1 = .ok (.istore_n 1, 1) := by decide +kernel
theorem dX8_leastFreeNumber_2 : decode cX8_leastFreeNumber 2 = .ok (.iload_n 1, 1) := by decide +kernel
theorem dX8_leastFreeNumber_3 : decode cX8_leastFreeNumber 3 = .ok (.aload_n 0, 1) := by decide +kernel
theorem dX8_leastFreeNumber_4 : decode cX8_leastFreeNumber 4 = .ok (.getfield 36, 3) := by decide +kernel
theorem dX8_leastFreeNumber_7 : decode cX8_leastFreeNumber 7 = .ok (.arraylength, 1) := by decide +kernel
theorem dX8_leastFreeNumber_8 : decode cX8_leastFreeNumber 8 = .ok (.if_icmp .ge 24, 3) := by decide +kernel
theorem dX8_leastFreeNumber_11 : decode cX8_leastFreeNumber 11 = .ok (.aload_n 0, 1) := by decide +kernel
theorem dX8_leastFreeNumber_12 : decode cX8_leastFreeNumber 12 = .ok (.getfield 36, 3) := by decide +kernel
theorem dX8_leastFreeNumber_15 : decode cX8_leastFreeNumber 15 = .ok (.iload_n 1, 1) := by decide +kernel
theorem dX8_leastFreeNumber_16 : decode cX8_leastFreeNumber 16 = .ok (.aaload, 1) := by decide +kernel
theorem dX8_leastFreeNumber_17 : decode cX8_leastFreeNumber 17 = .ok (.getfield 277, 3) := by decide +kernel
theorem dX8_leastFreeNumber_20 : decode cX8_leastFreeNumber 20 = .ok (.iconst (-1), 1) := by decide +kernel
theorem dX8_leastFreeNumber_21 : decode cX8_leastFreeNumber 21 = .ok (.if_icmp .ne 5, 3) := by decide +kernel
theorem dX8_leastFreeNumber_24 : decode cX8_leastFreeNumber 24 = .ok (.iload_n 1, 1) := by decide +kernel
theorem dX8_leastFreeNumber_25 : decode cX8_leastFreeNumber 25 = .ok (.ireturn, 1) := by decide +kernel
theorem dX8_leastFreeNumber_26 : decode cX8_leastFreeNumber 26 = .ok (.iinc 1 1, 3) := by decide +kernel
theorem dX8_leastFreeNumber_29 : decode cX8_leastFreeNumber 29 = .ok (.goto (-27), 3) := by decide +kernel
theorem dX8_leastFreeNumber_32 : decode cX8_leastFreeNumber 32 = .ok (.iconst (-1), 1) := by decide +kernel
theorem dX8_leastFreeNumber_33 : decode cX8_leastFreeNumber 33 = .ok (.ireturn, 1) := by decide +kernel
theorem dX8_endOfDraft_0 : decode cX8_endOfDraft 0 = .ok (.iload_n 1, 1) := by decide +kernel
theorem dX8_endOfDraft_1 : decode cX8_endOfDraft 1 = .ok (.istore_n 2, 1) := by decide +kernel
theorem dX8_endOfDraft_2 : decode cX8_endOfDraft 2 = .ok (.iconst 0, 1) := by decide +kernel
theorem dX8_endOfDraft_3 : decode cX8_endOfDraft 3 = .ok (.istore_n 3, 1) := by decide +kernel
theorem dX8_endOfDraft_4 : decode cX8_endOfDraft 4 = .ok (.iload_n 3, 1) := by decide +kernel
theorem dX8_endOfDraft_5 : decode cX8_endOfDraft 5 = .ok (.aload_n 0, 1) := by decide +kernel
theorem dX8_endOfDraft_6 : decode cX8_endOfDraft 6 = .ok (.getfield 52, 3) := by decide +kernel
theorem dX8_endOfDraft_9 : decode cX8_endOfDraft 9 = .ok (.getfield 230, 3) := by decide +kernel
theorem dX8_endOfDraft_12 : decode cX8_endOfDraft 12 = .ok (.if_icmp .ge 31, 3) := by decide +kernel
theorem dX8_endOfDraft_15 : decode cX8_endOfDraft 15 = .ok (.iload_n 2, 1) := by decide +kernel
theorem dX8_endOfDraft_16 : decode cX8_endOfDraft 16 = .ok (.iconst (-1), 1) := by decide +kernel
theorem dX8_endOfDraft_17 : decode cX8_endOfDraft 17 = .ok (.if_icmp .eq 26, 3) := by decide +kernel
theorem dX8_endOfDraft_20 : decode cX8_endOfDraft 20 = .ok (.aload_n 0, 1) := by decide +kernel
theorem dX8_endOfDraft_21 : decode cX8_endOfDraft 21 = .ok (.aload_n 0, 1) := by decide +kernel
theorem dX8_endOfDraft_22 : decode cX8_endOfDraft 22 = .ok (.getfield 52, 3) := by decide +kernel
theorem dX8_endOfDraft_25 : decode cX8_endOfDraft 25 = .ok (.iload_n 3, 1) := by decide +kernel
theorem dX8_endOfDraft_26 : decode cX8_endOfDraft 26 = .ok (.invokevirtual 358, 3) := by decide +kernel
theorem dX8_endOfDraft_29 : decode cX8_endOfDraft 29 = .ok (.invokevirtual 121, 3) := by decide +kernel
theorem dX8_endOfDraft_32 : decode cX8_endOfDraft 32 = .ok (.iload_n 2, 1) := by decide +kernel
theorem dX8_endOfDraft_33 : decode cX8_endOfDraft 33 = .ok (.invokevirtual 427, 3) := by decide +kernel
theorem dX8_endOfDraft_36 : decode cX8_endOfDraft 36 = .ok (.istore_n 2, 1) := by decide +kernel
theorem dX8_endOfDraft_37 : decode cX8_endOfDraft 37 = .ok (.iinc 3 1, 3) := by decide +kernel
theorem dX8_endOfDraft_40 : decode cX8_endOfDraft 40 = .ok (.goto (-36), 3) := by decide +kernel
theorem dX8_endOfDraft_43 : decode cX8_endOfDraft 43 = .ok (.iload_n 2, 1) := by decide +kernel
theorem dX8_endOfDraft_44 : decode cX8_endOfDraft 44 = .ok (.ireturn, 1) := by decide +kernel
theorem dX8_arriveAll_0 : decode cX8_arriveAll 0 = .ok (.iconst 0, 1) := by decide +kernel
theorem dX8_arriveAll_1 : decode cX8_arriveAll 1 = .ok (.istore_n 1, 1) := by decide +kernel
theorem dX8_arriveAll_2 : decode cX8_arriveAll 2 = .ok (.iload_n 1, 1) := by decide +kernel
theorem dX8_arriveAll_3 : decode cX8_arriveAll 3 = .ok (.aload_n 0, 1) := by decide +kernel
theorem dX8_arriveAll_4 : decode cX8_arriveAll 4 = .ok (.getfield 36, 3) := by decide +kernel
theorem dX8_arriveAll_7 : decode cX8_arriveAll 7 = .ok (.arraylength, 1) := by decide +kernel
theorem dX8_arriveAll_8 : decode cX8_arriveAll 8 = .ok (.if_icmp .ge 48, 3) := by decide +kernel
theorem dX8_arriveAll_11 : decode cX8_arriveAll 11 = .ok (.aload_n 0, 1) := by decide +kernel
theorem dX8_arriveAll_12 : decode cX8_arriveAll 12 = .ok (.getfield 36, 3) := by decide +kernel
theorem dX8_arriveAll_15 : decode cX8_arriveAll 15 = .ok (.iload_n 1, 1) := by decide +kernel
theorem dX8_arriveAll_16 : decode cX8_arriveAll 16 = .ok (.aaload, 1) := by decide +kernel
theorem dX8_arriveAll_17 : decode cX8_arriveAll 17 = .ok (.getfield 277, 3) := by decide +kernel
theorem dX8_arriveAll_20 : decode cX8_arriveAll 20 = .ok (.iconst 2, 1) := by decide +kernel
theorem dX8_arriveAll_21 : decode cX8_arriveAll 21 = .ok (.if_icmp .ne 29, 3) := by decide +kernel
theorem dX8_arriveAll_24 : decode cX8_arriveAll 24 = .ok (.aload_n 0, 1) := by decide +kernel
theorem dX8_arriveAll_25 : decode cX8_arriveAll 25 = .ok (.getfield 36, 3) := by decide +kernel
theorem dX8_arriveAll_28 : decode cX8_arriveAll 28 = .ok (.iload_n 1, 1) := by decide +kernel
theorem dX8_arriveAll_29 : decode cX8_arriveAll 29 = .ok (.aaload, 1) := by decide +kernel
theorem dX8_arriveAll_30 : decode cX8_arriveAll 30 = .ok (.getfield 368, 3) := by decide +kernel
theorem dX8_arriveAll_33 : decode cX8_arriveAll 33 = .ok (.aload_n 0, 1) := by decide +kernel
theorem dX8_arriveAll_34 : decode cX8_arriveAll 34 = .ok (.getfield 62, 3) := by decide +kernel
theorem dX8_arriveAll_37 : decode cX8_arriveAll 37 = .ok (.if_icmp .gt 13, 3) := by decide +kernel
theorem dX8_arriveAll_40 : decode cX8_arriveAll 40 = .ok (.aload_n 0, 1) := by decide +kernel
theorem dX8_arriveAll_41 : decode cX8_arriveAll 41 = .ok (.aload_n 0, 1) := by decide +kernel
theorem dX8_arriveAll_42 : decode cX8_arriveAll 42 = .ok (.getfield 36, 3) := by decide +kernel
theorem dX8_arriveAll_45 : decode cX8_arriveAll 45 = .ok (.iload_n 1, 1) := by decide +kernel
theorem dX8_arriveAll_46 : decode cX8_arriveAll 46 = .ok (.aaload, 1) := by decide +kernel
theorem dX8_arriveAll_47 : decode cX8_arriveAll 47 = .ok (.invokevirtual 447, 3) := by decide +kernel
theorem dX8_arriveAll_50 : decode cX8_arriveAll 50 = .ok (.iinc 1 1, 3) := by decide +kernel
theorem dX8_arriveAll_53 : decode cX8_arriveAll 53 = .ok (.goto (-51), 3) := by decide +kernel
theorem dX8_arriveAll_56 : decode cX8_arriveAll 56 = .ok (.return_, 1) := by decide +kernel
theorem dX8_arrive_0 : decode cX8_arrive 0 = .ok (.aload_n 0, 1) := by decide +kernel
theorem dX8_arrive_1 : decode cX8_arrive 1 = .ok (.aload_n 1, 1) := by decide +kernel
theorem dX8_arrive_2 : decode cX8_arrive 2 = .ok (.getfield 322, 3) := by decide +kernel
theorem dX8_arrive_5 : decode cX8_arrive 5 = .ok (.invokevirtual 121, 3) := by decide +kernel
theorem dX8_arrive_8 : decode cX8_arrive 8 = .ok (.dup, 1) := by decide +kernel
theorem dX8_arrive_9 : decode cX8_arrive 9 = .ok (.getfield 145, 3) := by decide +kernel
theorem dX8_arrive_12 : decode cX8_arrive 12 = .ok (.iconst 1, 1) := by decide +kernel
theorem dX8_arrive_13 : decode cX8_arrive 13 = .ok (.aload_n 1, 1) := by decide +kernel
theorem dX8_arrive_14 : decode cX8_arrive 14 = .ok (.getfield 228, 3) := by decide +kernel
theorem dX8_arrive_17 : decode cX8_arrive 17 = .ok (.getfield 230, 3) := by decide +kernel
theorem dX8_arrive_20 : decode cX8_arrive 20 = .ok (.iadd, 1) := by decide +kernel
theorem dX8_arrive_21 : decode cX8_arrive 21 = .ok (.iadd, 1) := by decide +kernel
theorem dX8_arrive_22 : decode cX8_arrive 22 = .ok (.putfield 145, 3) := by decide +kernel
theorem dX8_arrive_25 : decode cX8_arrive 25 = .ok (.aload_n 1, 1) := by decide +kernel
theorem dX8_arrive_26 : decode cX8_arrive 26 = .ok (.aload_n 1, 1) := by decide +kernel
theorem dX8_arrive_27 : decode cX8_arrive 27 = .ok (.getfield 322, 3) := by decide +kernel
theorem dX8_arrive_30 : decode cX8_arrive 30 = .ok (.aload_n 0, 1) := by decide +kernel
theorem dX8_arrive_31 : decode cX8_arrive 31 = .ok (.getfield 62, 3) := by decide +kernel
theorem dX8_arrive_34 : decode cX8_arrive 34 = .ok (.aload_n 1, 1) := by decide +kernel
theorem dX8_arrive_35 : decode cX8_arrive 35 = .ok (.invokevirtual 451, 3) := by decide +kernel
theorem dX8_arrive_38 : decode cX8_arrive 38 = .ok (.iadd, 1) := by decide +kernel
theorem dX8_arrive_39 : decode cX8_arrive 39 = .ok (.invokevirtual 454, 3) := by decide +kernel
theorem dX8_arrive_42 : decode cX8_arrive 42 = .ok (.aload_n 1, 1) := by decide +kernel
theorem dX8_arrive_43 : decode cX8_arrive 43 = .ok (.iconst (-1), 1) := by decide +kernel
theorem dX8_arrive_44 : decode cX8_arrive 44 = .ok (.putfield 322, 3) := by decide +kernel
theorem dX8_arrive_47 : decode cX8_arrive 47 = .ok (.aload_n 1, 1) := by decide +kernel
theorem dX8_arrive_48 : decode cX8_arrive 48 = .ok (.aload_n 1, 1) := by decide +kernel
theorem dX8_arrive_49 : decode cX8_arrive 49 = .ok (.invokevirtual 301, 3) := by decide +kernel
theorem dX8_arrive_52 : decode cX8_arrive 52 = .ok (.iconst (-1), 1) := by decide +kernel
theorem dX8_arrive_53 : decode cX8_arrive 53 = .ok (.if_icmp .ne 7, 3) := by decide +kernel
theorem dX8_arrive_56 : decode cX8_arrive 56 = .ok (.iconst 0, 1) := by decide +kernel
theorem dX8_arrive_57 : decode cX8_arrive 57 = .ok (.goto 4, 3) := by decide +kernel
theorem dX8_arrive_60 : decode cX8_arrive 60 = .ok (.iconst 1, 1) := by decide +kernel
theorem dX8_arrive_61 : decode cX8_arrive 61 = .ok (.putfield 277, 3) := by decide +kernel
theorem dX8_arrive_64 : decode cX8_arrive 64 = .ok (.return_, 1) := by decide +kernel
theorem dX8_beginDay_0 : decode cX8_beginDay 0 = .ok (.aload_n 0, 1) := by decide +kernel
theorem dX8_beginDay_1 : decode cX8_beginDay 1 = .ok (.dup, 1) := by decide +kernel
theorem dX8_beginDay_2 : decode cX8_beginDay 2 = .ok (.getfield 66, 3) := by decide +kernel
theorem dX8_beginDay_5 : decode cX8_beginDay 5 = .ok (.aload_n 0, 1) := by decide +kernel
theorem dX8_beginDay_6 : decode cX8_beginDay 6 = .ok (.getfield 69, 3) := by decide +kernel
theorem dX8_beginDay_9 : decode cX8_beginDay 9 = .ok (.sipush 200, 3) := by decide +kernel
theorem dX8_beginDay_12 : decode cX8_beginDay 12 = .ok (.idiv, 1) := by decide +kernel
theorem dX8_beginDay_13 : decode cX8_beginDay 13 = .ok (.isub, 1) := by decide +kernel
theorem dX8_beginDay_14 : decode cX8_beginDay 14 = .ok (.putfield 66, 3) := by decide +kernel
theorem dX8_beginDay_17 : decode cX8_beginDay 17 = .ok (.iconst 0, 1) := by decide +kernel
theorem dX8_beginDay_18 : decode cX8_beginDay 18 = .ok (.istore_n 1, 1) := by decide +kernel
theorem dX8_beginDay_19 : decode cX8_beginDay 19 = .ok (.iload_n 1, 1) := by decide +kernel
theorem dX8_beginDay_20 : decode cX8_beginDay 20 = .ok (.aload_n 0, 1) := by decide +kernel
theorem dX8_beginDay_21 : decode cX8_beginDay 21 = .ok (.getfield 28, 3) := by decide +kernel
theorem dX8_beginDay_24 : decode cX8_beginDay 24 = .ok (.invokevirtual 108, 3) := by decide +kernel
theorem dX8_beginDay_27 : decode cX8_beginDay 27 = .ok (.if_icmp .ge 65, 3) := by decide +kernel
theorem dX8_beginDay_30 : decode cX8_beginDay 30 = .ok (.aload_n 0, 1) := by decide +kernel
theorem dX8_beginDay_31 : decode cX8_beginDay 31 = .ok (.getfield 28, 3) := by decide +kernel
theorem dX8_beginDay_34 : decode cX8_beginDay 34 = .ok (.iload_n 1, 1) := by decide +kernel
theorem dX8_beginDay_35 : decode cX8_beginDay 35 = .ok (.invokevirtual 411, 3) := by decide +kernel
theorem dX8_beginDay_38 : decode cX8_beginDay 38 = .ok (.checkcast 194, 3) := by decide +kernel
theorem dX8_beginDay_41 : decode cX8_beginDay 41 = .ok (.astore_n 2, 1) := by decide +kernel
theorem dX8_beginDay_42 : decode cX8_beginDay 42 = .ok (.aload_n 2, 1) := by decide +kernel
theorem dX8_beginDay_43 : decode cX8_beginDay 43 = .ok (.getfield 245, 3) := by decide +kernel
theorem dX8_beginDay_46 : decode cX8_beginDay 46 = .ok (.iconst (-1), 1) := by decide +kernel
theorem dX8_beginDay_47 : decode cX8_beginDay 47 = .ok (.if_icmp .ne 39, 3) := by decide +kernel
theorem dX8_beginDay_50 : decode cX8_beginDay 50 = .ok (.aload_n 2, 1) := by decide +kernel
theorem dX8_beginDay_51 : decode cX8_beginDay 51 = .ok (.getfield 339, 3) := by decide +kernel
theorem dX8_beginDay_54 : decode cX8_beginDay 54 = .ok (.iconst (-1), 1) := by decide +kernel
theorem dX8_beginDay_55 : decode cX8_beginDay 55 = .ok (.if_icmp .eq 31, 3) := by decide +kernel
theorem dX8_beginDay_58 : decode cX8_beginDay 58 = .ok (.aload_n 0, 1) := by decide +kernel
theorem dX8_beginDay_59 : decode cX8_beginDay 59 = .ok (.aload_n 2, 1) := by decide +kernel
theorem dX8_beginDay_60 : decode cX8_beginDay 60 = .ok (.getfield 339, 3) := by decide +kernel
theorem dX8_beginDay_63 : decode cX8_beginDay 63 = .ok (.invokevirtual 335, 3) := by decide +kernel
theorem dX8_beginDay_66 : decode cX8_beginDay 66 = .ok (.getfield 348, 3) := by decide +kernel
theorem dX8_beginDay_69 : decode cX8_beginDay 69 = .ok (.aload_n 2, 1) := by decide +kernel
theorem dX8_beginDay_70 : decode cX8_beginDay 70 = .ok (.getfield 246, 3) := by decide +kernel
theorem dX8_beginDay_73 : decode cX8_beginDay 73 = .ok (.if_icmp .ne 13, 3) := by decide +kernel
theorem dX8_beginDay_76 : decode cX8_beginDay 76 = .ok (.aload_n 0, 1) := by decide +kernel
theorem dX8_beginDay_77 : decode cX8_beginDay 77 = .ok (.dup, 1) := by decide +kernel
theorem dX8_beginDay_78 : decode cX8_beginDay 78 = .ok (.getfield 66, 3) := by decide +kernel
theorem dX8_beginDay_81 : decode cX8_beginDay 81 = .ok (.iconst 2, 1) := by decide +kernel
theorem dX8_beginDay_82 : decode cX8_beginDay 82 = .ok (.iadd, 1) := by decide +kernel
theorem dX8_beginDay_83 : decode cX8_beginDay 83 = .ok (.putfield 66, 3) := by decide +kernel
theorem dX8_beginDay_86 : decode cX8_beginDay 86 = .ok (.iinc 1 1, 3) := by decide +kernel
theorem dX8_beginDay_89 : decode cX8_beginDay 89 = .ok (.goto (-70), 3) := by decide +kernel
theorem dX8_beginDay_92 : decode cX8_beginDay 92 = .ok (.return_, 1) := by decide +kernel
theorem dX8_enterAll_0 : decode cX8_enterAll 0 = .ok (.iconst 0, 1) := by decide +kernel
theorem dX8_enterAll_1 : decode cX8_enterAll 1 = .ok (.istore_n 1, 1) := by decide +kernel
theorem dX8_enterAll_2 : decode cX8_enterAll 2 = .ok (.iconst 0, 1) := by decide +kernel
theorem dX8_enterAll_3 : decode cX8_enterAll 3 = .ok (.istore_n 2, 1) := by decide +kernel
theorem dX8_enterAll_4 : decode cX8_enterAll 4 = .ok (.iconst 0, 1) := by decide +kernel
theorem dX8_enterAll_5 : decode cX8_enterAll 5 = .ok (.istore_n 3, 1) := by decide +kernel
theorem dX8_enterAll_6 : decode cX8_enterAll 6 = .ok (.iload_n 3, 1) := by decide +kernel
theorem dX8_enterAll_7 : decode cX8_enterAll 7 = .ok (.aload_n 0, 1) := by decide +kernel
theorem dX8_enterAll_8 : decode cX8_enterAll 8 = .ok (.getfield 36, 3) := by decide +kernel
theorem dX8_enterAll_11 : decode cX8_enterAll 11 = .ok (.arraylength, 1) := by decide +kernel
theorem dX8_enterAll_12 : decode cX8_enterAll 12 = .ok (.if_icmp .ge 73, 3) := by decide +kernel
theorem dX8_enterAll_15 : decode cX8_enterAll 15 = .ok (.aload_n 0, 1) := by decide +kernel
theorem dX8_enterAll_16 : decode cX8_enterAll 16 = .ok (.iload_n 2, 1) := by decide +kernel
theorem dX8_enterAll_17 : decode cX8_enterAll 17 = .ok (.invokevirtual 457, 3) := by decide +kernel
theorem dX8_enterAll_20 : decode cX8_enterAll 20 = .ok (.istore 4, 2) := by decide +kernel
theorem dX8_enterAll_22 : decode cX8_enterAll 22 = .ok (.iload 4, 2) := by decide +kernel
theorem dX8_enterAll_24 : decode cX8_enterAll 24 = .ok (.iconst (-1), 1) := by decide +kernel
theorem dX8_enterAll_25 : decode cX8_enterAll 25 = .ok (.if_icmp .ne 6, 3) := by decide +kernel
theorem dX8_enterAll_28 : decode cX8_enterAll 28 = .ok (.goto 57, 3) := by decide +kernel
theorem dX8_enterAll_31 : decode cX8_enterAll 31 = .ok (.iload_n 2, 1) := by decide +kernel
theorem dX8_enterAll_32 : decode cX8_enterAll 32 = .ok (.iconst 1, 1) := by decide +kernel
theorem dX8_enterAll_33 : decode cX8_enterAll 33 = .ok (.iload 4, 2) := by decide +kernel
theorem dX8_enterAll_35 : decode cX8_enterAll 35 = .ok (.ishl, 1) := by decide +kernel
theorem dX8_enterAll_36 : decode cX8_enterAll 36 = .ok (.ior, 1) := by decide +kernel
theorem dX8_enterAll_37 : decode cX8_enterAll 37 = .ok (.istore_n 2, 1) := by decide +kernel
theorem dX8_enterAll_38 : decode cX8_enterAll 38 = .ok (.aload_n 0, 1) := by decide +kernel
theorem dX8_enterAll_39 : decode cX8_enterAll 39 = .ok (.getfield 36, 3) := by decide +kernel
theorem dX8_enterAll_42 : decode cX8_enterAll 42 = .ok (.iload 4, 2) := by decide +kernel
theorem dX8_enterAll_44 : decode cX8_enterAll 44 = .ok (.aaload, 1) := by decide +kernel
theorem dX8_enterAll_45 : decode cX8_enterAll 45 = .ok (.astore 5, 2) := by decide +kernel
theorem dX8_enterAll_47 : decode cX8_enterAll 47 = .ok (.aload_n 0, 1) := by decide +kernel
theorem dX8_enterAll_48 : decode cX8_enterAll 48 = .ok (.aload 5, 2) := by decide +kernel
theorem dX8_enterAll_50 : decode cX8_enterAll 50 = .ok (.invokevirtual 371, 3) := by decide +kernel
theorem dX8_enterAll_53 : decode cX8_enterAll 53 = .ok (.ifCond .ne 26, 3) := by decide +kernel
theorem dX8_enterAll_56 : decode cX8_enterAll 56 = .ok (.aload_n 0, 1) := by decide +kernel
theorem dX8_enterAll_57 : decode cX8_enterAll 57 = .ok (.aload 5, 2) := by decide +kernel
theorem dX8_enterAll_59 : decode cX8_enterAll 59 = .ok (.aload_n 0, 1) := by decide +kernel
theorem dX8_enterAll_60 : decode cX8_enterAll 60 = .ok (.aload 5, 2) := by decide +kernel
theorem dX8_enterAll_62 : decode cX8_enterAll 62 = .ok (.invokevirtual 301, 3) := by decide +kernel
theorem dX8_enterAll_65 : decode cX8_enterAll 65 = .ok (.invokevirtual 121, 3) := by decide +kernel
theorem dX8_enterAll_68 : decode cX8_enterAll 68 = .ok (.aload 5, 2) := by decide +kernel
theorem dX8_enterAll_70 : decode cX8_enterAll 70 = .ok (.invokevirtual 301, 3) := by decide +kernel
theorem dX8_enterAll_73 : decode cX8_enterAll 73 = .ok (.invokevirtual 318, 3) := by decide +kernel
theorem dX8_enterAll_76 : decode cX8_enterAll 76 = .ok (.iinc 1 1, 3) := by decide +kernel
theorem dX8_enterAll_79 : decode cX8_enterAll 79 = .ok (.iinc 3 1, 3) := by decide +kernel
theorem dX8_enterAll_82 : decode cX8_enterAll 82 = .ok (.goto (-76), 3) := by decide +kernel
theorem dX8_enterAll_85 : decode cX8_enterAll 85 = .ok (.iload_n 1, 1) := by decide +kernel
theorem dX8_enterAll_86 : decode cX8_enterAll 86 = .ok (.ireturn, 1) := by decide +kernel
theorem dX8_nextToEnter_0 : decode cX8_nextToEnter 0 = .ok (.iconst (-1), 1) := by decide +kernel
theorem dX8_nextToEnter_1 : decode cX8_nextToEnter 1 = .ok (.istore_n 2, 1) := by decide +kernel
theorem dX8_nextToEnter_2 : decode cX8_nextToEnter 2 = .ok (.iconst (-1), 1) := by decide +kernel
theorem dX8_nextToEnter_3 : decode cX8_nextToEnter 3 = .ok (.istore_n 3, 1) := by decide +kernel
theorem dX8_nextToEnter_4 : decode cX8_nextToEnter 4 = .ok (.iconst 0, 1) := by decide +kernel
theorem dX8_nextToEnter_5 : decode cX8_nextToEnter 5 = .ok (.istore 4, 2) := by decide +kernel
theorem dX8_nextToEnter_7 : decode cX8_nextToEnter 7 = .ok (.iload 4, 2) := by decide +kernel
theorem dX8_nextToEnter_9 : decode cX8_nextToEnter 9 = .ok (.aload_n 0, 1) := by decide +kernel
theorem dX8_nextToEnter_10 : decode cX8_nextToEnter 10 = .ok (.getfield 36, 3) := by decide +kernel
theorem dX8_nextToEnter_13 : decode cX8_nextToEnter 13 = .ok (.arraylength, 1) := by decide +kernel
theorem dX8_nextToEnter_14 : decode cX8_nextToEnter 14 = .ok (.if_icmp .ge 72, 3) := by decide +kernel
theorem dX8_nextToEnter_17 : decode cX8_nextToEnter 17 = .ok (.iload_n 1, 1) := by decide +kernel
theorem dX8_nextToEnter_18 : decode cX8_nextToEnter 18 = .ok (.iconst 1, 1) := by decide +kernel
theorem dX8_nextToEnter_19 : decode cX8_nextToEnter 19 = .ok (.iload 4, 2) := by decide +kernel
theorem dX8_nextToEnter_21 : decode cX8_nextToEnter 21 = .ok (.ishl, 1) := by decide +kernel
theorem dX8_nextToEnter_22 : decode cX8_nextToEnter 22 = .ok (.iand, 1) := by decide +kernel
theorem dX8_nextToEnter_23 : decode cX8_nextToEnter 23 = .ok (.ifCond .eq 7, 3) := by decide +kernel
theorem dX8_nextToEnter_26 : decode cX8_nextToEnter 26 = .ok (.iconst 1, 1) := by decide +kernel
theorem dX8_nextToEnter_27 : decode cX8_nextToEnter 27 = .ok (.goto 4, 3) := by decide +kernel
theorem dX8_nextToEnter_30 : decode cX8_nextToEnter 30 = .ok (.iconst 0, 1) := by decide +kernel
theorem dX8_nextToEnter_31 : decode cX8_nextToEnter 31 = .ok (.istore 5, 2) := by decide +kernel
theorem dX8_nextToEnter_33 : decode cX8_nextToEnter 33 = .ok (.aload_n 0, 1) := by decide +kernel
theorem dX8_nextToEnter_34 : decode cX8_nextToEnter 34 = .ok (.getfield 36, 3) := by decide +kernel
theorem dX8_nextToEnter_37 : decode cX8_nextToEnter 37 = .ok (.iload 4, 2) := by decide +kernel
theorem dX8_nextToEnter_39 : decode cX8_nextToEnter 39 = .ok (.aaload, 1) := by decide +kernel
theorem dX8_nextToEnter_40 : decode cX8_nextToEnter 40 = .ok (.getfield 277, 3) := by decide +kernel
theorem dX8_nextToEnter_43 : decode cX8_nextToEnter 43 = .ok (.iconst 1, 1) := by decide +kernel
theorem dX8_nextToEnter_44 : decode cX8_nextToEnter 44 = .ok (.if_icmp .ne 36, 3) := by decide +kernel
theorem dX8_nextToEnter_47 : decode cX8_nextToEnter 47 = .ok (.iload 5, 2) := by decide +kernel
theorem dX8_nextToEnter_49 : decode cX8_nextToEnter 49 = .ok (.ifCond .ne 31, 3) := by decide +kernel
theorem dX8_nextToEnter_52 : decode cX8_nextToEnter 52 = .ok (.aload_n 0, 1) := by decide +kernel
theorem dX8_nextToEnter_53 : decode cX8_nextToEnter 53 = .ok (.getfield 36, 3) := by decide +kernel
theorem dX8_nextToEnter_56 : decode cX8_nextToEnter 56 = .ok (.iload 4, 2) := by decide +kernel
theorem dX8_nextToEnter_58 : decode cX8_nextToEnter 58 = .ok (.aaload, 1) := by decide +kernel
theorem dX8_nextToEnter_59 : decode cX8_nextToEnter 59 = .ok (.getfield 274, 3) := by decide +kernel
theorem dX8_nextToEnter_62 : decode cX8_nextToEnter 62 = .ok (.iload_n 3, 1) := by decide +kernel
theorem dX8_nextToEnter_63 : decode cX8_nextToEnter 63 = .ok (.if_icmp .le 17, 3) := by decide +kernel
theorem dX8_nextToEnter_66 : decode cX8_nextToEnter 66 = .ok (.iload 4, 2) := by decide +kernel
theorem dX8_nextToEnter_68 : decode cX8_nextToEnter 68 = .ok (.istore_n 2, 1) := by decide +kernel
theorem dX8_nextToEnter_69 : decode cX8_nextToEnter 69 = .ok (.aload_n 0, 1) := by decide +kernel
theorem dX8_nextToEnter_70 : decode cX8_nextToEnter 70 = .ok (.getfield 36, 3) := by decide +kernel
theorem dX8_nextToEnter_73 : decode cX8_nextToEnter 73 = .ok (.iload 4, 2) := by decide +kernel
theorem dX8_nextToEnter_75 : decode cX8_nextToEnter 75 = .ok (.aaload, 1) := by decide +kernel
theorem dX8_nextToEnter_76 : decode cX8_nextToEnter 76 = .ok (.getfield 274, 3) := by decide +kernel
theorem dX8_nextToEnter_79 : decode cX8_nextToEnter 79 = .ok (.istore_n 3, 1) := by decide +kernel
theorem dX8_nextToEnter_80 : decode cX8_nextToEnter 80 = .ok (.iinc 4 1, 3) := by decide +kernel
theorem dX8_nextToEnter_83 : decode cX8_nextToEnter 83 = .ok (.goto (-76), 3) := by decide +kernel
theorem dX8_nextToEnter_86 : decode cX8_nextToEnter 86 = .ok (.iload_n 2, 1) := by decide +kernel
theorem dX8_nextToEnter_87 : decode cX8_nextToEnter 87 = .ok (.ireturn, 1) := by decide +kernel
theorem dX8_enter_0 : decode cX8_enter 0 = .ok (.aload_n 1, 1) := by decide +kernel
theorem dX8_enter_1 : decode cX8_enter 1 = .ok (.aload_n 2, 1) := by decide +kernel
theorem dX8_enter_2 : decode cX8_enter 2 = .ok (.invokestatic 460, 3) := by decide +kernel
theorem dX8_enter_5 : decode cX8_enter 5 = .ok (.istore 4, 2) := by decide +kernel
theorem dX8_enter_7 : decode cX8_enter 7 = .ok (.aload_n 0, 1) := by decide +kernel
theorem dX8_enter_8 : decode cX8_enter 8 = .ok (.aload_n 1, 1) := by decide +kernel
theorem dX8_enter_9 : decode cX8_enter 9 = .ok (.getfield 421, 3) := by decide +kernel
theorem dX8_enter_12 : decode cX8_enter 12 = .ok (.invokevirtual 159, 3) := by decide +kernel
theorem dX8_enter_15 : decode cX8_enter 15 = .ok (.dup, 1) := by decide +kernel
theorem dX8_enter_16 : decode cX8_enter 16 = .ok (.getfield 188, 3) := by decide +kernel
theorem dX8_enter_19 : decode cX8_enter 19 = .ok (.iload 4, 2) := by decide +kernel
theorem dX8_enter_21 : decode cX8_enter 21 = .ok (.iadd, 1) := by decide +kernel
theorem dX8_enter_22 : decode cX8_enter 22 = .ok (.putfield 188, 3) := by decide +kernel
theorem dX8_enter_25 : decode cX8_enter 25 = .ok (.aload_n 1, 1) := by decide +kernel
theorem dX8_enter_26 : decode cX8_enter 26 = .ok (.getfield 289, 3) := by decide +kernel
theorem dX8_enter_29 : decode cX8_enter 29 = .ok (.aload_n 1, 1) := by decide +kernel
theorem dX8_enter_30 : decode cX8_enter 30 = .ok (.getfield 236, 3) := by decide +kernel
theorem dX8_enter_33 : decode cX8_enter 33 = .ok (.if_icmp .ne 8, 3) := by decide +kernel
theorem dX8_enter_36 : decode cX8_enter 36 = .ok (.aload_n 1, 1) := by decide +kernel
theorem dX8_enter_37 : decode cX8_enter 37 = .ok (.iconst (-1), 1) := by decide +kernel
theorem dX8_enter_38 : decode cX8_enter 38 = .ok (.putfield 286, 3) := by decide +kernel
theorem dX8_enter_41 : decode cX8_enter 41 = .ok (.aload_n 1, 1) := by decide +kernel
theorem dX8_enter_42 : decode cX8_enter 42 = .ok (.aload_n 2, 1) := by decide +kernel
theorem dX8_enter_43 : decode cX8_enter 43 = .ok (.aload_n 1, 1) := by decide +kernel
theorem dX8_enter_44 : decode cX8_enter 44 = .ok (.getfield 236, 3) := by decide +kernel
theorem dX8_enter_47 : decode cX8_enter 47 = .ok (.invokevirtual 427, 3) := by decide +kernel
theorem dX8_enter_50 : decode cX8_enter 50 = .ok (.putfield 236, 3) := by decide +kernel
theorem dX8_enter_53 : decode cX8_enter 53 = .ok (.aload_n 1, 1) := by decide +kernel
theorem dX8_enter_54 : decode cX8_enter 54 = .ok (.iload_n 3, 1) := by decide +kernel
theorem dX8_enter_55 : decode cX8_enter 55 = .ok (.putfield 322, 3) := by decide +kernel
theorem dX8_enter_58 : decode cX8_enter 58 = .ok (.aload_n 1, 1) := by decide +kernel
theorem dX8_enter_59 : decode cX8_enter 59 = .ok (.dup, 1) := by decide +kernel
theorem dX8_enter_60 : decode cX8_enter 60 = .ok (.getfield 268, 3) := by decide +kernel
theorem dX8_enter_63 : decode cX8_enter 63 = .ok (.iconst 1, 1) := by decide +kernel
theorem dX8_enter_64 : decode cX8_enter 64 = .ok (.iadd, 1) := by decide +kernel
theorem dX8_enter_65 : decode cX8_enter 65 = .ok (.putfield 268, 3) := by decide +kernel
theorem dX8_enter_68 : decode cX8_enter 68 = .ok (.aload_n 1, 1) := by decide +kernel
theorem dX8_enter_69 : decode cX8_enter 69 = .ok (.aload_n 0, 1) := by decide +kernel
theorem dX8_enter_70 : decode cX8_enter 70 = .ok (.getfield 62, 3) := by decide +kernel
theorem dX8_enter_73 : decode cX8_enter 73 = .ok (.iload 4, 2) := by decide +kernel
theorem dX8_enter_75 : decode cX8_enter 75 = .ok (.iadd, 1) := by decide +kernel
theorem dX8_enter_76 : decode cX8_enter 76 = .ok (.putfield 368, 3) := by decide +kernel
theorem dX8_enter_79 : decode cX8_enter 79 = .ok (.aload_n 1, 1) := by decide +kernel
theorem dX8_enter_80 : decode cX8_enter 80 = .ok (.iconst 2, 1) := by decide +kernel
theorem dX8_enter_81 : decode cX8_enter 81 = .ok (.putfield 277, 3) := by decide +kernel
theorem dX8_enter_84 : decode cX8_enter 84 = .ok (.aload_n 2, 1) := by decide +kernel
theorem dX8_enter_85 : decode cX8_enter 85 = .ok (.iconst 0, 1) := by decide +kernel
theorem dX8_enter_86 : decode cX8_enter 86 = .ok (.putfield 129, 3) := by decide +kernel
theorem dX8_enter_89 : decode cX8_enter 89 = .ok (.aload_n 2, 1) := by decide +kernel
theorem dX8_enter_90 : decode cX8_enter 90 = .ok (.aload_n 1, 1) := by decide +kernel
theorem dX8_enter_91 : decode cX8_enter 91 = .ok (.getfield 463, 3) := by decide +kernel
theorem dX8_enter_94 : decode cX8_enter 94 = .ok (.putfield 466, 3) := by decide +kernel
theorem dX8_enter_97 : decode cX8_enter 97 = .ok (.aload_n 2, 1) := by decide +kernel
theorem dX8_enter_98 : decode cX8_enter 98 = .ok (.aload_n 1, 1) := by decide +kernel
theorem dX8_enter_99 : decode cX8_enter 99 = .ok (.getfield 368, 3) := by decide +kernel
theorem dX8_enter_102 : decode cX8_enter 102 = .ok (.aload_n 1, 1) := by decide +kernel
theorem dX8_enter_103 : decode cX8_enter 103 = .ok (.invokevirtual 451, 3) := by decide +kernel
theorem dX8_enter_106 : decode cX8_enter 106 = .ok (.iadd, 1) := by decide +kernel
theorem dX8_enter_107 : decode cX8_enter 107 = .ok (.putfield 469, 3) := by decide +kernel
theorem dX8_enter_110 : decode cX8_enter 110 = .ok (.return_, 1) := by decide +kernel
theorem dX8_barOf_0 : decode cX8_barOf 0 = .ok (.aload_n 1, 1) := by decide +kernel
theorem dX8_barOf_1 : decode cX8_barOf 1 = .ok (.invokevirtual 301, 3) := by decide +kernel
theorem dX8_barOf_4 : decode cX8_barOf 4 = .ok (.istore_n 2, 1) := by decide +kernel
theorem dX8_barOf_5 : decode cX8_barOf 5 = .ok (.aload_n 0, 1) := by decide +kernel
theorem dX8_barOf_6 : decode cX8_barOf 6 = .ok (.iload_n 2, 1) := by decide +kernel
theorem dX8_barOf_7 : decode cX8_barOf 7 = .ok (.invokevirtual 121, 3) := by decide +kernel
theorem dX8_barOf_10 : decode cX8_barOf 10 = .ok (.astore_n 3, 1) := by decide +kernel
theorem dX8_barOf_11 : decode cX8_barOf 11 = .ok (.aload_n 0, 1) := by decide +kernel
theorem dX8_barOf_12 : decode cX8_barOf 12 = .ok (.aload_n 1, 1) := by decide +kernel
theorem dX8_barOf_13 : decode cX8_barOf 13 = .ok (.aload_n 3, 1) := by decide +kernel
theorem dX8_barOf_14 : decode cX8_barOf 14 = .ok (.invokevirtual 304, 3) := by decide +kernel
theorem dX8_barOf_17 : decode cX8_barOf 17 = .ok (.istore 4, 2) := by decide +kernel
theorem dX8_barOf_19 : decode cX8_barOf 19 = .ok (.iload 4, 2) := by decide +kernel
theorem dX8_barOf_21 : decode cX8_barOf 21 = .ok (.ifCond .eq 8, 3) := by decide +kernel
theorem dX8_barOf_24 : decode cX8_barOf 24 = .ok (.iload 4, 2) := by decide +kernel
theorem dX8_barOf_26 : decode cX8_barOf 26 = .ok (.goto 10, 3) := by decide +kernel
theorem dX8_barOf_29 : decode cX8_barOf 29 = .ok (.aload_n 0, 1) := by decide +kernel
theorem dX8_barOf_30 : decode cX8_barOf 30 = .ok (.aload_n 1, 1) := by decide +kernel
theorem dX8_barOf_31 : decode cX8_barOf 31 = .ok (.aload_n 3, 1) := by decide +kernel
theorem dX8_barOf_32 : decode cX8_barOf 32 = .ok (.iload_n 2, 1) := by decide +kernel
theorem dX8_barOf_33 : decode cX8_barOf 33 = .ok (.invokevirtual 308, 3) := by decide +kernel
theorem dX8_barOf_36 : decode cX8_barOf 36 = .ok (.ireturn, 1) := by decide +kernel
theorem dX8_barOfStart_0 : decode cX8_barOfStart 0 = .ok (.aload_n 1, 1) := by decide +kernel
theorem dX8_barOfStart_1 : decode cX8_barOfStart 1 = .ok (.getfield 268, 3) := by decide +kernel
theorem dX8_barOfStart_4 : decode cX8_barOfStart 4 = .ok (.ifCond .ne 16, 3) := by decide +kernel
theorem dX8_barOfStart_7 : decode cX8_barOfStart 7 = .ok (.aload_n 0, 1) := by decide +kernel
theorem dX8_barOfStart_8 : decode cX8_barOfStart 8 = .ok (.getfield 62, 3) := by decide +kernel
theorem dX8_barOfStart_11 : decode cX8_barOfStart 11 = .ok (.aload_n 1, 1) := by decide +kernel
theorem dX8_barOfStart_12 : decode cX8_barOfStart 12 = .ok (.getfield 271, 3) := by decide +kernel
theorem dX8_barOfStart_15 : decode cX8_barOfStart 15 = .ok (.if_icmp .ge 5, 3) := by decide +kernel
theorem dX8_barOfStart_18 : decode cX8_barOfStart 18 = .ok (.iconst 1, 1) := by decide +kernel
theorem dX8_barOfStart_19 : decode cX8_barOfStart 19 = .ok (.ireturn, 1) := by decide +kernel
theorem dX8_barOfStart_20 : decode cX8_barOfStart 20 = .ok (.aload_n 0, 1) := by decide +kernel
theorem dX8_barOfStart_21 : decode cX8_barOfStart 21 = .ok (.aload_n 1, 1) := by decide +kernel
theorem dX8_barOfStart_22 : decode cX8_barOfStart 22 = .ok (.invokevirtual 475, 3) := by decide +kernel
theorem dX8_barOfStart_25 : decode cX8_barOfStart 25 = .ok (.ifCond .eq 5, 3) := by decide +kernel
theorem dX8_barOfStart_28 : decode cX8_barOfStart 28 = .ok (.iconst 2, 1) := by decide +kernel
theorem dX8_barOfStart_29 : decode cX8_barOfStart 29 = .ok (.ireturn, 1) := by decide +kernel
theorem dX8_barOfStart_30 : decode cX8_barOfStart 30 = .ok (.aload_n 2, 1) := by decide +kernel
theorem dX8_barOfStart_31 : decode cX8_barOfStart 31 = .ok (.aload_n 0, 1) := by decide +kernel
theorem dX8_barOfStart_32 : decode cX8_barOfStart 32 = .ok (.getfield 62, 3) := by decide +kernel
theorem dX8_barOfStart_35 : decode cX8_barOfStart 35 = .ok (.invokevirtual 138, 3) := by decide +kernel
theorem dX8_barOfStart_38 : decode cX8_barOfStart 38 = .ok (.iconst (-1), 1) := by decide +kernel
theorem dX8_barOfStart_39 : decode cX8_barOfStart 39 = .ok (.if_icmp .eq 5, 3) := by decide +kernel
theorem dX8_barOfStart_42 : decode cX8_barOfStart 42 = .ok (.iconst 3, 1) := by decide +kernel
theorem dX8_barOfStart_43 : decode cX8_barOfStart 43 = .ok (.ireturn, 1) := by decide +kernel
theorem dX8_barOfStart_44 : decode cX8_barOfStart 44 = .ok (.aload_n 2, 1) := by decide +kernel
theorem dX8_barOfStart_45 : decode cX8_barOfStart 45 = .ok (.aload_n 0, 1) := by decide +kernel
theorem dX8_barOfStart_46 : decode cX8_barOfStart 46 = .ok (.getfield 62, 3) := by decide +kernel
theorem dX8_barOfStart_49 : decode cX8_barOfStart 49 = .ok (.invokevirtual 141, 3) := by decide +kernel
theorem dX8_barOfStart_52 : decode cX8_barOfStart 52 = .ok (.ifCond .eq 5, 3) := by decide +kernel
theorem dX8_barOfStart_55 : decode cX8_barOfStart 55 = .ok (.iconst 4, 1) := by decide +kernel
theorem dX8_barOfStart_56 : decode cX8_barOfStart 56 = .ok (.ireturn, 1) := by decide +kernel
theorem dX8_barOfStart_57 : decode cX8_barOfStart 57 = .ok (.aload_n 2, 1) := by decide +kernel
theorem dX8_barOfStart_58 : decode cX8_barOfStart 58 = .ok (.getfield 125, 3) := by decide +kernel
theorem dX8_barOfStart_61 : decode cX8_barOfStart 61 = .ok (.ifCond .eq 14, 3) := by decide +kernel
theorem dX8_barOfStart_64 : decode cX8_barOfStart 64 = .ok (.aload_n 2, 1) := by decide +kernel
theorem dX8_barOfStart_65 : decode cX8_barOfStart 65 = .ok (.getfield 129, 3) := by decide +kernel
theorem dX8_barOfStart_68 : decode cX8_barOfStart 68 = .ok (.ifCond .ne 7, 3) := by decide +kernel
theorem dX8_barOfStart_71 : decode cX8_barOfStart 71 = .ok (.iconst 5, 1) := by decide +kernel
theorem dX8_barOfStart_72 : decode cX8_barOfStart 72 = .ok (.goto 4, 3) := by decide +kernel
theorem dX8_barOfStart_75 : decode cX8_barOfStart 75 = .ok (.iconst 0, 1) := by decide +kernel
theorem dX8_barOfStart_76 : decode cX8_barOfStart 76 = .ok (.ireturn, 1) := by decide +kernel
theorem dX8_barOfRun_0 : decode cX8_barOfRun 0 = .ok (.aload_n 1, 1) := by decide +kernel
theorem dX8_barOfRun_1 : decode cX8_barOfRun 1 = .ok (.aload_n 2, 1) := by decide +kernel
theorem dX8_barOfRun_2 : decode cX8_barOfRun 2 = .ok (.invokestatic 460, 3) := by decide +kernel
theorem dX8_barOfRun_5 : decode cX8_barOfRun 5 = .ok (.istore 4, 2) := by decide +kernel
theorem dX8_barOfRun_7 : decode cX8_barOfRun 7 = .ok (.aload_n 2, 1) := by decide +kernel
theorem dX8_barOfRun_8 : decode cX8_barOfRun 8 = .ok (.aload_n 0, 1) := by decide +kernel
theorem dX8_barOfRun_9 : decode cX8_barOfRun 9 = .ok (.getfield 62, 3) := by decide +kernel
theorem dX8_barOfRun_12 : decode cX8_barOfRun 12 = .ok (.aload_n 0, 1) := by decide +kernel
theorem dX8_barOfRun_13 : decode cX8_barOfRun 13 = .ok (.getfield 62, 3) := by decide +kernel
theorem dX8_barOfRun_16 : decode cX8_barOfRun 16 = .ok (.iload 4, 2) := by decide +kernel
theorem dX8_barOfRun_18 : decode cX8_barOfRun 18 = .ok (.iadd, 1) := by decide +kernel
theorem dX8_barOfRun_19 : decode cX8_barOfRun 19 = .ok (.aload_n 1, 1) := by decide +kernel
theorem dX8_barOfRun_20 : decode cX8_barOfRun 20 = .ok (.invokevirtual 451, 3) := by decide +kernel
theorem dX8_barOfRun_23 : decode cX8_barOfRun 23 = .ok (.iadd, 1) := by decide +kernel
theorem dX8_barOfRun_24 : decode cX8_barOfRun 24 = .ok (.invokevirtual 479, 3) := by decide +kernel
theorem dX8_barOfRun_27 : decode cX8_barOfRun 27 = .ok (.ifCond .eq 6, 3) := by decide +kernel
theorem dX8_barOfRun_30 : decode cX8_barOfRun 30 = .ok (.bipush 6, 2) := by decide +kernel
theorem dX8_barOfRun_32 : decode cX8_barOfRun 32 = .ok (.ireturn, 1) := by decide +kernel
theorem dX8_barOfRun_33 : decode cX8_barOfRun 33 = .ok (.aload_n 1, 1) := by decide +kernel
theorem dX8_barOfRun_34 : decode cX8_barOfRun 34 = .ok (.getfield 250, 3) := by decide +kernel
theorem dX8_barOfRun_37 : decode cX8_barOfRun 37 = .ok (.aload_n 1, 1) := by decide +kernel
theorem dX8_barOfRun_38 : decode cX8_barOfRun 38 = .ok (.getfield 482, 3) := by decide +kernel
theorem dX8_barOfRun_41 : decode cX8_barOfRun 41 = .ok (.bipush 8, 2) := by decide +kernel
theorem dX8_barOfRun_43 : decode cX8_barOfRun 43 = .ok (.iconst 2, 1) := by decide +kernel
theorem dX8_barOfRun_44 : decode cX8_barOfRun 44 = .ok (.aload_n 2, 1) := by decide +kernel
theorem dX8_barOfRun_45 : decode cX8_barOfRun 45 = .ok (.getfield 483, 3) := by decide +kernel
theorem dX8_barOfRun_48 : decode cX8_barOfRun 48 = .ok (.imul, 1) := by decide +kernel
theorem dX8_barOfRun_49 : decode cX8_barOfRun 49 = .ok (.isub, 1) := by decide +kernel
theorem dX8_barOfRun_50 : decode cX8_barOfRun 50 = .ok (.imul, 1) := by decide +kernel
theorem dX8_barOfRun_51 : decode cX8_barOfRun 51 = .ok (.if_icmp .le 6, 3) := by decide +kernel
theorem dX8_barOfRun_54 : decode cX8_barOfRun 54 = .ok (.bipush 7, 2) := by decide +kernel
theorem dX8_barOfRun_56 : decode cX8_barOfRun 56 = .ok (.ireturn, 1) := by decide +kernel
theorem dX8_barOfRun_57 : decode cX8_barOfRun 57 = .ok (.aload_n 0, 1) := by decide +kernel
theorem dX8_barOfRun_58 : decode cX8_barOfRun 58 = .ok (.aload_n 1, 1) := by decide +kernel
theorem dX8_barOfRun_59 : decode cX8_barOfRun 59 = .ok (.getfield 421, 3) := by decide +kernel
theorem dX8_barOfRun_62 : decode cX8_barOfRun 62 = .ok (.invokevirtual 159, 3) := by decide +kernel
theorem dX8_barOfRun_65 : decode cX8_barOfRun 65 = .ok (.astore 5, 2) := by decide +kernel
theorem dX8_barOfRun_67 : decode cX8_barOfRun 67 = .ok (.aload 5, 2) := by decide +kernel
theorem dX8_barOfRun_69 : decode cX8_barOfRun 69 = .ok (.getfield 166, 3) := by decide +kernel
theorem dX8_barOfRun_72 : decode cX8_barOfRun 72 = .ok (.iconst 1, 1) := by decide +kernel
theorem dX8_barOfRun_73 : decode cX8_barOfRun 73 = .ok (.iload_n 3, 1) := by decide +kernel
theorem dX8_barOfRun_74 : decode cX8_barOfRun 74 = .ok (.ishl, 1) := by decide +kernel
theorem dX8_barOfRun_75 : decode cX8_barOfRun 75 = .ok (.iand, 1) := by decide +kernel
theorem dX8_barOfRun_76 : decode cX8_barOfRun 76 = .ok (.ifCond .ne 6, 3) := by decide +kernel
theorem dX8_barOfRun_79 : decode cX8_barOfRun 79 = .ok (.bipush 8, 2) := by decide +kernel
theorem dX8_barOfRun_81 : decode cX8_barOfRun 81 = .ok (.ireturn, 1) := by decide +kernel
theorem dX8_barOfRun_82 : decode cX8_barOfRun 82 = .ok (.aload 5, 2) := by decide +kernel
theorem dX8_barOfRun_84 : decode cX8_barOfRun 84 = .ok (.aload_n 0, 1) := by decide +kernel
theorem dX8_barOfRun_85 : decode cX8_barOfRun 85 = .ok (.getfield 62, 3) := by decide +kernel
theorem dX8_barOfRun_88 : decode cX8_barOfRun 88 = .ok (.invokevirtual 174, 3) := by decide +kernel
theorem dX8_barOfRun_91 : decode cX8_barOfRun 91 = .ok (.ifCond .ne 17, 3) := by decide +kernel
theorem dX8_barOfRun_94 : decode cX8_barOfRun 94 = .ok (.aload 5, 2) := by decide +kernel
theorem dX8_barOfRun_96 : decode cX8_barOfRun 96 = .ok (.getfield 188, 3) := by decide +kernel
theorem dX8_barOfRun_99 : decode cX8_barOfRun 99 = .ok (.iload 4, 2) := by decide +kernel
theorem dX8_barOfRun_101 : decode cX8_barOfRun 101 = .ok (.iadd, 1) := by decide +kernel
theorem dX8_barOfRun_102 : decode cX8_barOfRun 102 = .ok (.sipush 600, 3) := by decide +kernel
theorem dX8_barOfRun_105 : decode cX8_barOfRun 105 = .ok (.if_icmp .le 6, 3) := by decide +kernel
theorem dX8_barOfRun_108 : decode cX8_barOfRun 108 = .ok (.bipush 9, 2) := by decide +kernel
theorem dX8_barOfRun_110 : decode cX8_barOfRun 110 = .ok (.ireturn, 1) := by decide +kernel
theorem dX8_barOfRun_111 : decode cX8_barOfRun 111 = .ok (.aload_n 0, 1) := by decide +kernel
theorem dX8_barOfRun_112 : decode cX8_barOfRun 112 = .ok (.aload_n 2, 1) := by decide +kernel
theorem dX8_barOfRun_113 : decode cX8_barOfRun 113 = .ok (.aload_n 1, 1) := by decide +kernel
theorem dX8_barOfRun_114 : decode cX8_barOfRun 114 = .ok (.getfield 236, 3) := by decide +kernel
theorem dX8_barOfRun_117 : decode cX8_barOfRun 117 = .ok (.invokevirtual 427, 3) := by decide +kernel
theorem dX8_barOfRun_120 : decode cX8_barOfRun 120 = .ok (.invokevirtual 216, 3) := by decide +kernel
theorem dX8_barOfRun_123 : decode cX8_barOfRun 123 = .ok (.ifCond .le 7, 3) := by decide +kernel
theorem dX8_barOfRun_126 : decode cX8_barOfRun 126 = .ok (.iconst 0, 1) := by decide +kernel
theorem dX8_barOfRun_127 : decode cX8_barOfRun 127 = .ok (.goto 5, 3) := by decide +kernel
theorem dX8_barOfRun_130 : decode cX8_barOfRun 130 = .ok (.bipush 10, 2) := by decide +kernel
theorem dX8_barOfRun_132 : decode cX8_barOfRun 132 = .ok (.ireturn, 1) := by decide +kernel
theorem dX8_isWaiting_0 : decode cX8_isWaiting 0 = .ok (.aload_n 1, 1) := by decide +kernel
theorem dX8_isWaiting_1 : decode cX8_isWaiting 1 = .ok (.getfield 286, 3) := by decide +kernel
theorem dX8_isWaiting_4 : decode cX8_isWaiting 4 = .ok (.istore_n 2, 1) := by decide +kernel
theorem dX8_isWaiting_5 : decode cX8_isWaiting 5 = .ok (.iload_n 2, 1) := by decide +kernel
theorem dX8_isWaiting_6 : decode cX8_isWaiting 6 = .ok (.ifCond .lt 23, 3) := by decide +kernel
theorem dX8_isWaiting_9 : decode cX8_isWaiting 9 = .ok (.iload_n 2, 1) := by decide +kernel
theorem dX8_isWaiting_10 : decode cX8_isWaiting 10 = .ok (.aload_n 0, 1) := by decide +kernel
theorem dX8_isWaiting_11 : decode cX8_isWaiting 11 = .ok (.getfield 36, 3) := by decide +kernel
theorem dX8_isWaiting_14 : decode cX8_isWaiting 14 = .ok (.arraylength, 1) := by decide +kernel
theorem dX8_isWaiting_15 : decode cX8_isWaiting 15 = .ok (.if_icmp .ge 14, 3) := by decide +kernel
theorem dX8_isWaiting_18 : decode cX8_isWaiting 18 = .ok (.aload_n 1, 1) := by decide +kernel
theorem dX8_isWaiting_19 : decode cX8_isWaiting 19 = .ok (.getfield 289, 3) := by decide +kernel
theorem dX8_isWaiting_22 : decode cX8_isWaiting 22 = .ok (.aload_n 1, 1) := by decide +kernel
theorem dX8_isWaiting_23 : decode cX8_isWaiting 23 = .ok (.getfield 236, 3) := by decide +kernel
theorem dX8_isWaiting_26 : decode cX8_isWaiting 26 = .ok (.if_icmp .eq 5, 3) := by decide +kernel
theorem dX8_isWaiting_29 : decode cX8_isWaiting 29 = .ok (.iconst 0, 1) := by decide +kernel
theorem dX8_isWaiting_30 : decode cX8_isWaiting 30 = .ok (.ireturn, 1) := by decide +kernel
theorem dX8_isWaiting_31 : decode cX8_isWaiting 31 = .ok (.aload_n 0, 1) := by decide +kernel
theorem dX8_isWaiting_32 : decode cX8_isWaiting 32 = .ok (.getfield 36, 3) := by decide +kernel
theorem dX8_isWaiting_35 : decode cX8_isWaiting 35 = .ok (.iload_n 2, 1) := by decide +kernel
theorem dX8_isWaiting_36 : decode cX8_isWaiting 36 = .ok (.aaload, 1) := by decide +kernel
theorem dX8_isWaiting_37 : decode cX8_isWaiting 37 = .ok (.invokevirtual 184, 3) := by decide +kernel
theorem dX8_isWaiting_40 : decode cX8_isWaiting 40 = .ok (.ifCond .eq 19, 3) := by decide +kernel
theorem dX8_isWaiting_43 : decode cX8_isWaiting 43 = .ok (.aload_n 0, 1) := by decide +kernel
theorem dX8_isWaiting_44 : decode cX8_isWaiting 44 = .ok (.getfield 36, 3) := by decide +kernel
theorem dX8_isWaiting_47 : decode cX8_isWaiting 47 = .ok (.iload_n 2, 1) := by decide +kernel
theorem dX8_isWaiting_48 : decode cX8_isWaiting 48 = .ok (.aaload, 1) := by decide +kernel
theorem dX8_isWaiting_49 : decode cX8_isWaiting 49 = .ok (.getfield 236, 3) := by decide +kernel
theorem dX8_isWaiting_52 : decode cX8_isWaiting 52 = .ok (.aload_n 1, 1) := by decide +kernel
theorem dX8_isWaiting_53 : decode cX8_isWaiting 53 = .ok (.getfield 236, 3) := by decide +kernel
theorem dX8_isWaiting_56 : decode cX8_isWaiting 56 = .ok (.if_icmp .eq 7, 3) := by decide +kernel
theorem dX8_isWaiting_59 : decode cX8_isWaiting 59 = .ok (.iconst 1, 1) := by decide +kernel
theorem dX8_isWaiting_60 : decode cX8_isWaiting 60 = .ok (.goto 4, 3) := by decide +kernel
theorem dX8_isWaiting_63 : decode cX8_isWaiting 63 = .ok (.iconst 0, 1) := by decide +kernel
theorem dX8_isWaiting_64 : decode cX8_isWaiting 64 = .ok (.ireturn, 1) := by decide +kernel
theorem dX8_runningMinutes_0 : decode cX8_runningMinutes 0 = .ok (.aload_n 1, 1) := by decide +kernel
theorem dX8_runningMinutes_1 : decode cX8_runningMinutes 1 = .ok (.getfield 438, 3) := by decide +kernel
theorem dX8_runningMinutes_4 : decode cX8_runningMinutes 4 = .ok (.istore_n 2, 1) := by decide +kernel
theorem dX8_runningMinutes_5 : decode cX8_runningMinutes 5 = .ok (.aload_n 0, 1) := by decide +kernel
theorem dX8_runningMinutes_6 : decode cX8_runningMinutes 6 = .ok (.getfield 482, 3) := by decide +kernel
theorem dX8_runningMinutes_9 : decode cX8_runningMinutes 9 = .ok (.ifCond .le 23, 3) := by decide +kernel
theorem dX8_runningMinutes_12 : decode cX8_runningMinutes 12 = .ok (.iload_n 2, 1) := by decide +kernel
theorem dX8_runningMinutes_13 : decode cX8_runningMinutes 13 = .ok (.aload_n 1, 1) := by decide +kernel
theorem dX8_runningMinutes_14 : decode cX8_runningMinutes 14 = .ok (.getfield 438, 3) := by decide +kernel
theorem dX8_runningMinutes_17 : decode cX8_runningMinutes 17 = .ok (.aload_n 0, 1) := by decide +kernel
theorem dX8_runningMinutes_18 : decode cX8_runningMinutes 18 = .ok (.getfield 250, 3) := by decide +kernel
theorem dX8_runningMinutes_21 : decode cX8_runningMinutes 21 = .ok (.imul, 1) := by decide +kernel
theorem dX8_runningMinutes_22 : decode cX8_runningMinutes 22 = .ok (.bipush 10, 2) := by decide +kernel
theorem dX8_runningMinutes_24 : decode cX8_runningMinutes 24 = .ok (.aload_n 0, 1) := by decide +kernel
theorem dX8_runningMinutes_25 : decode cX8_runningMinutes 25 = .ok (.getfield 482, 3) := by decide +kernel
theorem dX8_runningMinutes_28 : decode cX8_runningMinutes 28 = .ok (.imul, 1) := by decide +kernel
theorem dX8_runningMinutes_29 : decode cX8_runningMinutes 29 = .ok (.idiv, 1) := by decide +kernel
theorem dX8_runningMinutes_30 : decode cX8_runningMinutes 30 = .ok (.iadd, 1) := by decide +kernel
theorem dX8_runningMinutes_31 : decode cX8_runningMinutes 31 = .ok (.istore_n 2, 1) := by decide +kernel
theorem dX8_runningMinutes_32 : decode cX8_runningMinutes 32 = .ok (.aload_n 1, 1) := by decide +kernel
theorem dX8_runningMinutes_33 : decode cX8_runningMinutes 33 = .ok (.getfield 145, 3) := by decide +kernel
theorem dX8_runningMinutes_36 : decode cX8_runningMinutes 36 = .ok (.bipush 60, 2) := by decide +kernel
theorem dX8_runningMinutes_38 : decode cX8_runningMinutes 38 = .ok (.if_icmp .lt 10, 3) := by decide +kernel
theorem dX8_runningMinutes_41 : decode cX8_runningMinutes 41 = .ok (.iload_n 2, 1) := by decide +kernel
theorem dX8_runningMinutes_42 : decode cX8_runningMinutes 42 = .ok (.aload_n 1, 1) := by decide +kernel
theorem dX8_runningMinutes_43 : decode cX8_runningMinutes 43 = .ok (.getfield 438, 3) := by decide +kernel
theorem dX8_runningMinutes_46 : decode cX8_runningMinutes 46 = .ok (.iadd, 1) := by decide +kernel
theorem dX8_runningMinutes_47 : decode cX8_runningMinutes 47 = .ok (.istore_n 2, 1) := by decide +kernel
theorem dX8_runningMinutes_48 : decode cX8_runningMinutes 48 = .ok (.aload_n 1, 1) := by decide +kernel
theorem dX8_runningMinutes_49 : decode cX8_runningMinutes 49 = .ok (.getfield 125, 3) := by decide +kernel
theorem dX8_runningMinutes_52 : decode cX8_runningMinutes 52 = .ok (.ifCond .eq 9, 3) := by decide +kernel
theorem dX8_runningMinutes_55 : decode cX8_runningMinutes 55 = .ok (.iconst 2, 1) := by decide +kernel
theorem dX8_runningMinutes_56 : decode cX8_runningMinutes 56 = .ok (.iload_n 2, 1) := by decide +kernel
theorem dX8_runningMinutes_57 : decode cX8_runningMinutes 57 = .ok (.imul, 1) := by decide +kernel
theorem dX8_runningMinutes_58 : decode cX8_runningMinutes 58 = .ok (.goto 4, 3) := by decide +kernel
theorem dX8_runningMinutes_61 : decode cX8_runningMinutes 61 = .ok (.iload_n 2, 1) := by decide +kernel
theorem dX8_runningMinutes_62 : decode cX8_runningMinutes 62 = .ok (.ireturn, 1) := by decide +kernel
theorem dJ6_bitCount_0f7a4_0 : decode cJ6_bitCount_0f7a4 0 = .ok (.iload_n 0, 1) := by decide +kernel
theorem dJ6_bitCount_0f7a4_1 : decode cJ6_bitCount_0f7a4 1 = .ok (.iload_n 0, 1) := by decide +kernel
theorem dJ6_bitCount_0f7a4_2 : decode cJ6_bitCount_0f7a4 2 = .ok (.iconst 1, 1) := by decide +kernel
theorem dJ6_bitCount_0f7a4_3 : decode cJ6_bitCount_0f7a4 3 = .ok (.iushr, 1) := by decide +kernel
theorem dJ6_bitCount_0f7a4_4 : decode cJ6_bitCount_0f7a4 4 = .ok (.ldc_w 265, 3) := by decide +kernel
theorem dJ6_bitCount_0f7a4_7 : decode cJ6_bitCount_0f7a4 7 = .ok (.iand, 1) := by decide +kernel
theorem dJ6_bitCount_0f7a4_8 : decode cJ6_bitCount_0f7a4 8 = .ok (.isub, 1) := by decide +kernel
theorem dJ6_bitCount_0f7a4_9 : decode cJ6_bitCount_0f7a4 9 = .ok (.istore_n 0, 1) := by decide +kernel
theorem dJ6_bitCount_0f7a4_10 : decode cJ6_bitCount_0f7a4 10 = .ok (.iload_n 0, 1) := by decide +kernel
theorem dJ6_bitCount_0f7a4_11 : decode cJ6_bitCount_0f7a4 11 = .ok (.ldc_w 266, 3) := by decide +kernel
theorem dJ6_bitCount_0f7a4_14 : decode cJ6_bitCount_0f7a4 14 = .ok (.iand, 1) := by decide +kernel
theorem dJ6_bitCount_0f7a4_15 : decode cJ6_bitCount_0f7a4 15 = .ok (.iload_n 0, 1) := by decide +kernel
theorem dJ6_bitCount_0f7a4_16 : decode cJ6_bitCount_0f7a4 16 = .ok (.iconst 2, 1) := by decide +kernel
theorem dJ6_bitCount_0f7a4_17 : decode cJ6_bitCount_0f7a4 17 = .ok (.iushr, 1) := by decide +kernel
theorem dJ6_bitCount_0f7a4_18 : decode cJ6_bitCount_0f7a4 18 = .ok (.ldc_w 266, 3) := by decide +kernel
theorem dJ6_bitCount_0f7a4_21 : decode cJ6_bitCount_0f7a4 21 = .ok (.iand, 1) := by decide +kernel
theorem dJ6_bitCount_0f7a4_22 : decode cJ6_bitCount_0f7a4 22 = .ok (.iadd, 1) := by decide +kernel
theorem dJ6_bitCount_0f7a4_23 : decode cJ6_bitCount_0f7a4 23 = .ok (.istore_n 0, 1) := by decide +kernel
theorem dJ6_bitCount_0f7a4_24 : decode cJ6_bitCount_0f7a4 24 = .ok (.iload_n 0, 1) := by decide +kernel
theorem dJ6_bitCount_0f7a4_25 : decode cJ6_bitCount_0f7a4 25 = .ok (.iload_n 0, 1) := by decide +kernel
theorem dJ6_bitCount_0f7a4_26 : decode cJ6_bitCount_0f7a4 26 = .ok (.iconst 4, 1) := by decide +kernel
theorem dJ6_bitCount_0f7a4_27 : decode cJ6_bitCount_0f7a4 27 = .ok (.iushr, 1) := by decide +kernel
theorem dJ6_bitCount_0f7a4_28 : decode cJ6_bitCount_0f7a4 28 = .ok (.iadd, 1) := by decide +kernel
theorem dJ6_bitCount_0f7a4_29 : decode cJ6_bitCount_0f7a4 29 = .ok (.ldc_w 267, 3) := by decide +kernel
theorem dJ6_bitCount_0f7a4_32 : decode cJ6_bitCount_0f7a4 32 = .ok (.iand, 1) := by decide +kernel
theorem dJ6_bitCount_0f7a4_33 : decode cJ6_bitCount_0f7a4 33 = .ok (.istore_n 0, 1) := by decide +kernel
theorem dJ6_bitCount_0f7a4_34 : decode cJ6_bitCount_0f7a4 34 = .ok (.iload_n 0, 1) := by decide +kernel
theorem dJ6_bitCount_0f7a4_35 : decode cJ6_bitCount_0f7a4 35 = .ok (.iload_n 0, 1) := by decide +kernel
theorem dJ6_bitCount_0f7a4_36 : decode cJ6_bitCount_0f7a4 36 = .ok (.bipush 8, 2) := by decide +kernel
theorem dJ6_bitCount_0f7a4_38 : decode cJ6_bitCount_0f7a4 38 = .ok (.iushr, 1) := by decide +kernel
theorem dJ6_bitCount_0f7a4_39 : decode cJ6_bitCount_0f7a4 39 = .ok (.iadd, 1) := by decide +kernel
theorem dJ6_bitCount_0f7a4_40 : decode cJ6_bitCount_0f7a4 40 = .ok (.istore_n 0, 1) := by decide +kernel
theorem dJ6_bitCount_0f7a4_41 : decode cJ6_bitCount_0f7a4 41 = .ok (.iload_n 0, 1) := by decide +kernel
theorem dJ6_bitCount_0f7a4_42 : decode cJ6_bitCount_0f7a4 42 = .ok (.iload_n 0, 1) := by decide +kernel
theorem dJ6_bitCount_0f7a4_43 : decode cJ6_bitCount_0f7a4 43 = .ok (.bipush 16, 2) := by decide +kernel
theorem dJ6_bitCount_0f7a4_45 : decode cJ6_bitCount_0f7a4 45 = .ok (.iushr, 1) := by decide +kernel
theorem dJ6_bitCount_0f7a4_46 : decode cJ6_bitCount_0f7a4 46 = .ok (.iadd, 1) := by decide +kernel
theorem dJ6_bitCount_0f7a4_47 : decode cJ6_bitCount_0f7a4 47 = .ok (.istore_n 0, 1) := by decide +kernel
theorem dJ6_bitCount_0f7a4_48 : decode cJ6_bitCount_0f7a4 48 = .ok (.iload_n 0, 1) := by decide +kernel
theorem dJ6_bitCount_0f7a4_49 : decode cJ6_bitCount_0f7a4 49 = .ok (.bipush 63, 2) := by decide +kernel
theorem dJ6_bitCount_0f7a4_51 : decode cJ6_bitCount_0f7a4 51 = .ok (.iand, 1) := by decide +kernel
theorem dJ6_bitCount_0f7a4_52 : decode cJ6_bitCount_0f7a4 52 = .ok (.ireturn, 1) := by decide +kernel
theorem dJ9_max_7cf53_0 : decode cJ9_max_7cf53 0 = .ok (.iload_n 0, 1) := by decide +kernel
theorem dJ9_max_7cf53_1 : decode cJ9_max_7cf53 1 = .ok (.iload_n 1, 1) := by decide +kernel
theorem dJ9_max_7cf53_2 : decode cJ9_max_7cf53 2 = .ok (.if_icmp .lt 7, 3) := by decide +kernel
theorem dJ9_max_7cf53_5 : decode cJ9_max_7cf53 5 = .ok (.iload_n 0, 1) := by decide +kernel
theorem dJ9_max_7cf53_6 : decode cJ9_max_7cf53 6 = .ok (.goto 4, 3) := by decide +kernel
theorem dJ9_max_7cf53_9 : decode cJ9_max_7cf53 9 = .ok (.iload_n 1, 1) := by decide +kernel
theorem dJ9_max_7cf53_10 : decode cJ9_max_7cf53 10 = .ok (.ireturn, 1) := by decide +kernel
theorem dJ9_min_7cf53_0 : decode cJ9_min_7cf53 0 = .ok (.iload_n 0, 1) := by decide +kernel
theorem dJ9_min_7cf53_1 : decode cJ9_min_7cf53 1 = .ok (.iload_n 1, 1) := by decide +kernel
theorem dJ9_min_7cf53_2 : decode cJ9_min_7cf53 2 = .ok (.if_icmp .gt 7, 3) := by decide +kernel
theorem dJ9_min_7cf53_5 : decode cJ9_min_7cf53 5 = .ok (.iload_n 0, 1) := by decide +kernel
theorem dJ9_min_7cf53_6 : decode cJ9_min_7cf53 6 = .ok (.goto 4, 3) := by decide +kernel
theorem dJ9_min_7cf53_9 : decode cJ9_min_7cf53 9 = .ok (.iload_n 1, 1) := by decide +kernel
theorem dJ9_min_7cf53_10 : decode cJ9_min_7cf53 10 = .ok (.ireturn, 1) := by decide +kernel
theorem dJxa1e45_init_da8c8_0 : decode cJxa1e45_init_da8c8 0 = .ok (.aload_n 0, 1) := by decide +kernel
theorem dJxa1e45_init_da8c8_1 : decode cJxa1e45_init_da8c8 1 = .ok (.invokespecial 1, 3) := by decide +kernel
theorem dJxa1e45_init_da8c8_4 : decode cJxa1e45_init_da8c8 4 = .ok (.return_, 1) := by decide +kernel
theorem dJxc12de_init_da8c8_0 : decode cJxc12de_init_da8c8 0 = .ok (.aload_n 0, 1) := by decide +kernel
theorem dJxc12de_init_da8c8_1 : decode cJxc12de_init_da8c8 1 = .ok (.invokespecial 1, 3) := by decide +kernel
theorem dJxc12de_init_da8c8_4 : decode cJxc12de_init_da8c8 4 = .ok (.aload_n 0, 1) := by decide +kernel
theorem dJxc12de_init_da8c8_5 : decode cJxc12de_init_da8c8 5 = .ok (.iconst 0, 1) := by decide +kernel
theorem dJxc12de_init_da8c8_6 : decode cJxc12de_init_da8c8 6 = .ok (.putfield 7, 3) := by decide +kernel
theorem dJxc12de_init_da8c8_9 : decode cJxc12de_init_da8c8 9 = .ok (.return_, 1) := by decide +kernel
theorem dJx4a65c_init_da8c8_0 : decode cJx4a65c_init_da8c8 0 = .ok (.aload_n 0, 1) := by decide +kernel
theorem dJx4a65c_init_da8c8_1 : decode cJx4a65c_init_da8c8 1 = .ok (.invokespecial 1, 3) := by decide +kernel
theorem dJx4a65c_init_da8c8_4 : decode cJx4a65c_init_da8c8 4 = .ok (.aload_n 0, 1) := by decide +kernel
theorem dJx4a65c_init_da8c8_5 : decode cJx4a65c_init_da8c8 5 = .ok (.getstatic 39, 3) := by decide +kernel
theorem dJx4a65c_init_da8c8_8 : decode cJx4a65c_init_da8c8 8 = .ok (.putfield 9, 3) := by decide +kernel
theorem dJx4a65c_init_da8c8_11 : decode cJx4a65c_init_da8c8 11 = .ok (.return_, 1) := by decide +kernel
theorem dJx4a65c_grow_92f84_0 : decode cJx4a65c_grow_92f84 0 = .ok (.aload_n 0, 1) := by decide +kernel
theorem dJx4a65c_grow_92f84_1 : decode cJx4a65c_grow_92f84 1 = .ok (.getfield 9, 3) := by decide +kernel
theorem dJx4a65c_grow_92f84_4 : decode cJx4a65c_grow_92f84 4 = .ok (.arraylength, 1) := by decide +kernel
theorem dJx4a65c_grow_92f84_5 : decode cJx4a65c_grow_92f84 5 = .ok (.istore_n 2, 1) := by decide +kernel
theorem dJx4a65c_grow_92f84_6 : decode cJx4a65c_grow_92f84 6 = .ok (.iload_n 2, 1) := by decide +kernel
theorem dJx4a65c_grow_92f84_7 : decode cJx4a65c_grow_92f84 7 = .ok (.ifCond .gt 13, 3) := by decide +kernel
theorem dJx4a65c_grow_92f84_10 : decode cJx4a65c_grow_92f84 10 = .ok (.aload_n 0, 1) := by decide +kernel
theorem dJx4a65c_grow_92f84_11 : decode cJx4a65c_grow_92f84 11 = .ok (.getfield 9, 3) := by decide +kernel
theorem dJx4a65c_grow_92f84_14 : decode cJx4a65c_grow_92f84 14 = .ok (.getstatic 39, 3) := by decide +kernel
theorem dJx4a65c_grow_92f84_17 : decode cJx4a65c_grow_92f84 17 = .ok (.if_acmp .eq 28, 3) := by decide +kernel
theorem dJx4a65c_grow_92f84_20 : decode cJx4a65c_grow_92f84 20 = .ok (.iload_n 2, 1) := by decide +kernel
theorem dJx4a65c_grow_92f84_21 : decode cJx4a65c_grow_92f84 21 = .ok (.iload_n 1, 1) := by decide +kernel
theorem dJx4a65c_grow_92f84_22 : decode cJx4a65c_grow_92f84 22 = .ok (.iload_n 2, 1) := by decide +kernel
theorem dJx4a65c_grow_92f84_23 : decode cJx4a65c_grow_92f84 23 = .ok (.isub, 1) := by decide +kernel
theorem dJx4a65c_grow_92f84_24 : decode cJx4a65c_grow_92f84 24 = .ok (.iload_n 2, 1) := by decide +kernel
theorem dJx4a65c_grow_92f84_25 : decode cJx4a65c_grow_92f84 25 = .ok (.iconst 1, 1) := by decide +kernel
theorem dJx4a65c_grow_92f84_26 : decode cJx4a65c_grow_92f84 26 = .ok (.ishr, 1) := by decide +kernel
theorem dJx4a65c_grow_92f84_27 : decode cJx4a65c_grow_92f84 27 = .ok (.invokestatic 73, 3) := by decide +kernel
theorem dJx4a65c_grow_92f84_30 : decode cJx4a65c_grow_92f84 30 = .ok (.istore_n 3, 1) := by decide +kernel
theorem dJx4a65c_grow_92f84_31 : decode cJx4a65c_grow_92f84 31 = .ok (.aload_n 0, 1) := by decide +kernel
theorem dJx4a65c_grow_92f84_32 : decode cJx4a65c_grow_92f84 32 = .ok (.aload_n 0, 1) := by decide +kernel
theorem dJx4a65c_grow_92f84_33 : decode cJx4a65c_grow_92f84 33 = .ok (.getfield 9, 3) := by decide +kernel
theorem dJx4a65c_grow_92f84_36 : decode cJx4a65c_grow_92f84 36 = .ok (.iload_n 3, 1) := by decide +kernel
theorem dJx4a65c_grow_92f84_37 : decode cJx4a65c_grow_92f84 37 = .ok (.invokestatic 66, 3) := by decide +kernel
theorem dJx4a65c_grow_92f84_40 : decode cJx4a65c_grow_92f84 40 = .ok (.dup_x1, 1) := by decide +kernel
theorem dJx4a65c_grow_92f84_41 : decode cJx4a65c_grow_92f84 41 = .ok (.putfield 9, 3) := by decide +kernel
theorem dJx4a65c_grow_92f84_44 : decode cJx4a65c_grow_92f84 44 = .ok (.areturn, 1) := by decide +kernel
theorem dJx4a65c_grow_92f84_45 : decode cJx4a65c_grow_92f84 45 = .ok (.aload_n 0, 1) := by decide +kernel
theorem dJx4a65c_grow_92f84_46 : decode cJx4a65c_grow_92f84 46 = .ok (.bipush 10, 2) := by decide +kernel
theorem dJx4a65c_grow_92f84_48 : decode cJx4a65c_grow_92f84 48 = .ok (.iload_n 1, 1) := by decide +kernel
theorem dJx4a65c_grow_92f84_49 : decode cJx4a65c_grow_92f84 49 = .ok (.invokestatic 79, 3) := by decide +kernel
theorem dJx4a65c_grow_92f84_52 : decode cJx4a65c_grow_92f84 52 = .ok (.anewarray 7, 3) := by decide +kernel
theorem dJx4a65c_grow_92f84_55 : decode cJx4a65c_grow_92f84 55 = .ok (.dup_x1, 1) := by decide +kernel
theorem dJx4a65c_grow_92f84_56 : decode cJx4a65c_grow_92f84 56 = .ok (.putfield 9, 3) := by decide +kernel
theorem dJx4a65c_grow_92f84_59 : decode cJx4a65c_grow_92f84 59 = .ok (.areturn, 1) := by decide +kernel
theorem dJx4a65c_grow_d5877_0 : decode cJx4a65c_grow_d5877 0 = .ok (.aload_n 0, 1) := by decide +kernel
theorem dJx4a65c_grow_d5877_1 : decode cJx4a65c_grow_d5877 1 = .ok (.aload_n 0, 1) := by decide +kernel
theorem dJx4a65c_grow_d5877_2 : decode cJx4a65c_grow_d5877 2 = .ok (.getfield 48, 3) := by decide +kernel
theorem dJx4a65c_grow_d5877_5 : decode cJx4a65c_grow_d5877 5 = .ok (.iconst 1, 1) := by decide +kernel
theorem dJx4a65c_grow_d5877_6 : decode cJx4a65c_grow_d5877 6 = .ok (.iadd, 1) := by decide +kernel
theorem dJx4a65c_grow_d5877_7 : decode cJx4a65c_grow_d5877 7 = .ok (.invokevirtual 69, 3) := by decide +kernel
theorem dJx4a65c_grow_d5877_10 : decode cJx4a65c_grow_d5877 10 = .ok (.areturn, 1) := by decide +kernel
theorem dJx4a65c_size_8abf5_0 : decode cJx4a65c_size_8abf5 0 = .ok (.aload_n 0, 1) := by decide +kernel
theorem dJx4a65c_size_8abf5_1 : decode cJx4a65c_size_8abf5 1 = .ok (.getfield 48, 3) := by decide +kernel
theorem dJx4a65c_size_8abf5_4 : decode cJx4a65c_size_8abf5 4 = .ok (.ireturn, 1) := by decide +kernel
theorem dJx4a65c_elementData_915e3_0 : decode cJx4a65c_elementData_915e3 0 = .ok (.aload_n 0, 1) := by decide +kernel
theorem dJx4a65c_elementData_915e3_1 : decode cJx4a65c_elementData_915e3 1 = .ok (.getfield 9, 3) := by decide +kernel
theorem dJx4a65c_elementData_915e3_4 : decode cJx4a65c_elementData_915e3 4 = .ok (.iload_n 1, 1) := by decide +kernel
theorem dJx4a65c_elementData_915e3_5 : decode cJx4a65c_elementData_915e3 5 = .ok (.aaload, 1) := by decide +kernel
theorem dJx4a65c_elementData_915e3_6 : decode cJx4a65c_elementData_915e3 6 = .ok (.areturn, 1) := by decide +kernel
theorem dJx4a65c_get_915e3_0 : decode cJx4a65c_get_915e3 0 = .ok (.iload_n 1, 1) := by decide +kernel
theorem dJx4a65c_get_915e3_1 : decode cJx4a65c_get_915e3 1 = .ok (.aload_n 0, 1) := by decide +kernel
theorem dJx4a65c_get_915e3_2 : decode cJx4a65c_get_915e3 2 = .ok (.getfield 48, 3) := by decide +kernel
theorem dJx4a65c_get_915e3_5 : decode cJx4a65c_get_915e3 5 = .ok (.invokestatic 118, 3) := by decide +kernel
theorem dJx4a65c_get_915e3_8 : decode cJx4a65c_get_915e3 8 = .ok (.pop, 1) := by decide +kernel
theorem dJx4a65c_get_915e3_9 : decode cJx4a65c_get_915e3 9 = .ok (.aload_n 0, 1) := by decide +kernel
theorem dJx4a65c_get_915e3_10 : decode cJx4a65c_get_915e3 10 = .ok (.iload_n 1, 1) := by decide +kernel
theorem dJx4a65c_get_915e3_11 : decode cJx4a65c_get_915e3 11 = .ok (.invokevirtual 123, 3) := by decide +kernel
theorem dJx4a65c_get_915e3_14 : decode cJx4a65c_get_915e3 14 = .ok (.areturn, 1) := by decide +kernel
theorem dJx4a65c_add_72be8_0 : decode cJx4a65c_add_72be8 0 = .ok (.iload_n 3, 1) := by decide +kernel
theorem dJx4a65c_add_72be8_1 : decode cJx4a65c_add_72be8 1 = .ok (.aload_n 2, 1) := by decide +kernel
theorem dJx4a65c_add_72be8_2 : decode cJx4a65c_add_72be8 2 = .ok (.arraylength, 1) := by decide +kernel
theorem dJx4a65c_add_72be8_3 : decode cJx4a65c_add_72be8 3 = .ok (.if_icmp .ne 8, 3) := by decide +kernel
theorem dJx4a65c_add_72be8_6 : decode cJx4a65c_add_72be8 6 = .ok (.aload_n 0, 1) := by decide +kernel
theorem dJx4a65c_add_72be8_7 : decode cJx4a65c_add_72be8 7 = .ok (.invokevirtual 129, 3) := by decide +kernel
theorem dJx4a65c_add_72be8_10 : decode cJx4a65c_add_72be8 10 = .ok (.astore_n 2, 1) := by decide +kernel
theorem dJx4a65c_add_72be8_11 : decode cJx4a65c_add_72be8 11 = .ok (.aload_n 2, 1) := by decide +kernel
theorem dJx4a65c_add_72be8_12 : decode cJx4a65c_add_72be8 12 = .ok (.iload_n 3, 1) := by decide +kernel
theorem dJx4a65c_add_72be8_13 : decode cJx4a65c_add_72be8 13 = .ok (.aload_n 1, 1) := by decide +kernel
theorem dJx4a65c_add_72be8_14 : decode cJx4a65c_add_72be8 14 = .ok (.aastore, 1) := by decide +kernel
theorem dJx4a65c_add_72be8_15 : decode cJx4a65c_add_72be8 15 = .ok (.aload_n 0, 1) := by decide +kernel
theorem dJx4a65c_add_72be8_16 : decode cJx4a65c_add_72be8 16 = .ok (.iload_n 3, 1) := by decide +kernel
theorem dJx4a65c_add_72be8_17 : decode cJx4a65c_add_72be8 17 = .ok (.iconst 1, 1) := by decide +kernel
theorem dJx4a65c_add_72be8_18 : decode cJx4a65c_add_72be8 18 = .ok (.iadd, 1) := by decide +kernel
theorem dJx4a65c_add_72be8_19 : decode cJx4a65c_add_72be8 19 = .ok (.putfield 48, 3) := by decide +kernel
theorem dJx4a65c_add_72be8_22 : decode cJx4a65c_add_72be8 22 = .ok (.return_, 1) := by decide +kernel
theorem dJx4a65c_add_9ea2d_0 : decode cJx4a65c_add_9ea2d 0 = .ok (.aload_n 0, 1) := by decide +kernel
theorem dJx4a65c_add_9ea2d_1 : decode cJx4a65c_add_9ea2d 1 = .ok (.dup, 1) := by decide +kernel
theorem dJx4a65c_add_9ea2d_2 : decode cJx4a65c_add_9ea2d 2 = .ok (.getfield 63, 3) := by decide +kernel
theorem dJx4a65c_add_9ea2d_5 : decode cJx4a65c_add_9ea2d 5 = .ok (.iconst 1, 1) := by decide +kernel
theorem dJx4a65c_add_9ea2d_6 : decode cJx4a65c_add_9ea2d 6 = .ok (.iadd, 1) := by decide +kernel
theorem dJx4a65c_add_9ea2d_7 : decode cJx4a65c_add_9ea2d 7 = .ok (.putfield 63, 3) := by decide +kernel
theorem dJx4a65c_add_9ea2d_10 : decode cJx4a65c_add_9ea2d 10 = .ok (.aload_n 0, 1) := by decide +kernel
theorem dJx4a65c_add_9ea2d_11 : decode cJx4a65c_add_9ea2d 11 = .ok (.aload_n 1, 1) := by decide +kernel
theorem dJx4a65c_add_9ea2d_12 : decode cJx4a65c_add_9ea2d 12 = .ok (.aload_n 0, 1) := by decide +kernel
theorem dJx4a65c_add_9ea2d_13 : decode cJx4a65c_add_9ea2d 13 = .ok (.getfield 9, 3) := by decide +kernel
theorem dJx4a65c_add_9ea2d_16 : decode cJx4a65c_add_9ea2d 16 = .ok (.aload_n 0, 1) := by decide +kernel
theorem dJx4a65c_add_9ea2d_17 : decode cJx4a65c_add_9ea2d 17 = .ok (.getfield 48, 3) := by decide +kernel
theorem dJx4a65c_add_9ea2d_20 : decode cJx4a65c_add_9ea2d 20 = .ok (.invokevirtual 131, 3) := by decide +kernel
theorem dJx4a65c_add_9ea2d_23 : decode cJx4a65c_add_9ea2d 23 = .ok (.iconst 1, 1) := by decide +kernel
theorem dJx4a65c_add_9ea2d_24 : decode cJx4a65c_add_9ea2d 24 = .ok (.ireturn, 1) := by decide +kernel
theorem dJ7_fill_53178_0 : decode cJ7_fill_53178 0 = .ok (.iconst 0, 1) := by decide +kernel
theorem dJ7_fill_53178_1 : decode cJ7_fill_53178 1 = .ok (.istore_n 2, 1) := by decide +kernel
theorem dJ7_fill_53178_2 : decode cJ7_fill_53178 2 = .ok (.aload_n 0, 1) := by decide +kernel
theorem dJ7_fill_53178_3 : decode cJ7_fill_53178 3 = .ok (.arraylength, 1) := by decide +kernel
theorem dJ7_fill_53178_4 : decode cJ7_fill_53178 4 = .ok (.istore_n 3, 1) := by decide +kernel
theorem dJ7_fill_53178_5 : decode cJ7_fill_53178 5 = .ok (.iload_n 2, 1) := by decide +kernel
theorem dJ7_fill_53178_6 : decode cJ7_fill_53178 6 = .ok (.iload_n 3, 1) := by decide +kernel
theorem dJ7_fill_53178_7 : decode cJ7_fill_53178 7 = .ok (.if_icmp .ge 13, 3) := by decide +kernel
theorem dJ7_fill_53178_10 : decode cJ7_fill_53178 10 = .ok (.aload_n 0, 1) := by decide +kernel
theorem dJ7_fill_53178_11 : decode cJ7_fill_53178 11 = .ok (.iload_n 2, 1) := by decide +kernel
theorem dJ7_fill_53178_12 : decode cJ7_fill_53178 12 = .ok (.iload_n 1, 1) := by decide +kernel
theorem dJ7_fill_53178_13 : decode cJ7_fill_53178 13 = .ok (.iastore, 1) := by decide +kernel
theorem dJ7_fill_53178_14 : decode cJ7_fill_53178 14 = .ok (.iinc 2 1, 3) := by decide +kernel
theorem dJ7_fill_53178_17 : decode cJ7_fill_53178 17 = .ok (.goto (-12), 3) := by decide +kernel
theorem dJ7_fill_53178_20 : decode cJ7_fill_53178 20 = .ok (.return_, 1) := by decide +kernel
theorem dJ7_copyOf_1904c_0 : decode cJ7_copyOf_1904c 0 = .ok (.aload_n 0, 1) := by decide +kernel
theorem dJ7_copyOf_1904c_1 : decode cJ7_copyOf_1904c 1 = .ok (.iload_n 1, 1) := by decide +kernel
theorem dJ7_copyOf_1904c_2 : decode cJ7_copyOf_1904c 2 = .ok (.aload_n 0, 1) := by decide +kernel
theorem dJ7_copyOf_1904c_3 : decode cJ7_copyOf_1904c 3 = .ok (.invokevirtual 86, 3) := by decide +kernel
theorem dJ7_copyOf_1904c_6 : decode cJ7_copyOf_1904c 6 = .ok (.invokestatic 300, 3) := by decide +kernel
theorem dJ7_copyOf_1904c_9 : decode cJ7_copyOf_1904c 9 = .ok (.areturn, 1) := by decide +kernel
theorem dJ7_copyOf_6403c_0 : decode cJ7_copyOf_6403c 0 = .ok (.aload_n 2, 1) := by decide +kernel
theorem dJ7_copyOf_6403c_1 : decode cJ7_copyOf_6403c 1 = .ok (.ldc 110, 2) := by decide +kernel
theorem dJ7_copyOf_6403c_3 : decode cJ7_copyOf_6403c 3 = .ok (.if_acmp .ne 10, 3) := by decide +kernel
theorem dJ7_copyOf_6403c_6 : decode cJ7_copyOf_6403c 6 = .ok (.iload_n 1, 1) := by decide +kernel
theorem dJ7_copyOf_6403c_7 : decode cJ7_copyOf_6403c 7 = .ok (.anewarray 2, 3) := by decide +kernel
theorem dJ7_copyOf_6403c_10 : decode cJ7_copyOf_6403c 10 = .ok (.goto 14, 3) := by decide +kernel
theorem dJ7_copyOf_6403c_13 : decode cJ7_copyOf_6403c 13 = .ok (.aload_n 2, 1) := by decide +kernel
theorem dJ7_copyOf_6403c_14 : decode cJ7_copyOf_6403c 14 = .ok (.invokevirtual 90, 3) := by decide +kernel
theorem dJ7_copyOf_6403c_17 : decode cJ7_copyOf_6403c 17 = .ok (.iload_n 1, 1) := by decide +kernel
theorem dJ7_copyOf_6403c_18 : decode cJ7_copyOf_6403c 18 = .ok (.invokestatic 95, 3) := by decide +kernel
theorem dJ7_copyOf_6403c_21 : decode cJ7_copyOf_6403c 21 = .ok (.checkcast 110, 3) := by decide +kernel
theorem dJ7_copyOf_6403c_24 : decode cJ7_copyOf_6403c 24 = .ok (.astore_n 3, 1) := by decide +kernel
theorem dJ7_copyOf_6403c_25 : decode cJ7_copyOf_6403c 25 = .ok (.aload_n 0, 1) := by decide +kernel
theorem dJ7_copyOf_6403c_26 : decode cJ7_copyOf_6403c 26 = .ok (.iconst 0, 1) := by decide +kernel
theorem dJ7_copyOf_6403c_27 : decode cJ7_copyOf_6403c 27 = .ok (.aload_n 3, 1) := by decide +kernel
theorem dJ7_copyOf_6403c_28 : decode cJ7_copyOf_6403c 28 = .ok (.iconst 0, 1) := by decide +kernel
theorem dJ7_copyOf_6403c_29 : decode cJ7_copyOf_6403c 29 = .ok (.aload_n 0, 1) := by decide +kernel
theorem dJ7_copyOf_6403c_30 : decode cJ7_copyOf_6403c 30 = .ok (.arraylength, 1) := by decide +kernel
theorem dJ7_copyOf_6403c_31 : decode cJ7_copyOf_6403c 31 = .ok (.iload_n 1, 1) := by decide +kernel
theorem dJ7_copyOf_6403c_32 : decode cJ7_copyOf_6403c 32 = .ok (.invokestatic 304, 3) := by decide +kernel
theorem dJ7_copyOf_6403c_35 : decode cJ7_copyOf_6403c 35 = .ok (.invokestatic 150, 3) := by decide +kernel
theorem dJ7_copyOf_6403c_38 : decode cJ7_copyOf_6403c 38 = .ok (.aload_n 3, 1) := by decide +kernel
theorem dJ7_copyOf_6403c_39 : decode cJ7_copyOf_6403c 39 = .ok (.areturn, 1) := by decide +kernel
theorem dJ7_copyOf_59c91_0 : decode cJ7_copyOf_59c91 0 = .ok (.iload_n 1, 1) := by decide +kernel
theorem dJ7_copyOf_59c91_1 : decode cJ7_copyOf_59c91 1 = .ok (.aload_n 0, 1) := by decide +kernel
theorem dJ7_copyOf_59c91_2 : decode cJ7_copyOf_59c91 2 = .ok (.arraylength, 1) := by decide +kernel
theorem dJ7_copyOf_59c91_3 : decode cJ7_copyOf_59c91 3 = .ok (.if_icmp .ne 11, 3) := by decide +kernel
theorem dJ7_copyOf_59c91_6 : decode cJ7_copyOf_59c91 6 = .ok (.aload_n 0, 1) := by decide +kernel
theorem dJ7_copyOf_59c91_7 : decode cJ7_copyOf_59c91 7 = .ok (.invokevirtual 316, 3) := by decide +kernel
theorem dJ7_copyOf_59c91_10 : decode cJ7_copyOf_59c91 10 = .ok (.checkcast 317, 3) := by decide +kernel
theorem dJ7_copyOf_59c91_13 : decode cJ7_copyOf_59c91 13 = .ok (.areturn, 1) := by decide +kernel
theorem dJ7_copyOf_59c91_14 : decode cJ7_copyOf_59c91 14 = .ok (.iload_n 1, 1) := by decide +kernel
theorem dJ7_copyOf_59c91_15 : decode cJ7_copyOf_59c91 15 = .ok (.newarray .int, 2) := by decide +kernel
theorem dJ7_copyOf_59c91_17 : decode cJ7_copyOf_59c91 17 = .ok (.astore_n 2, 1) := by decide +kernel
theorem dJ7_copyOf_59c91_18 : decode cJ7_copyOf_59c91 18 = .ok (.aload_n 0, 1) := by decide +kernel
theorem dJ7_copyOf_59c91_19 : decode cJ7_copyOf_59c91 19 = .ok (.iconst 0, 1) := by decide +kernel
theorem dJ7_copyOf_59c91_20 : decode cJ7_copyOf_59c91 20 = .ok (.aload_n 2, 1) := by decide +kernel
theorem dJ7_copyOf_59c91_21 : decode cJ7_copyOf_59c91 21 = .ok (.iconst 0, 1) := by decide +kernel
theorem dJ7_copyOf_59c91_22 : decode cJ7_copyOf_59c91 22 = .ok (.aload_n 0, 1) := by decide +kernel
theorem dJ7_copyOf_59c91_23 : decode cJ7_copyOf_59c91 23 = .ok (.arraylength, 1) := by decide +kernel
theorem dJ7_copyOf_59c91_24 : decode cJ7_copyOf_59c91 24 = .ok (.iload_n 1, 1) := by decide +kernel
theorem dJ7_copyOf_59c91_25 : decode cJ7_copyOf_59c91 25 = .ok (.invokestatic 304, 3) := by decide +kernel
theorem dJ7_copyOf_59c91_28 : decode cJ7_copyOf_59c91 28 = .ok (.invokestatic 150, 3) := by decide +kernel
theorem dJ7_copyOf_59c91_31 : decode cJ7_copyOf_59c91 31 = .ok (.aload_n 2, 1) := by decide +kernel
theorem dJ7_copyOf_59c91_32 : decode cJ7_copyOf_59c91 32 = .ok (.areturn, 1) := by decide +kernel
theorem dJ15_checkIndex_7cf53_0 : decode cJ15_checkIndex_7cf53 0 = .ok (.iload_n 0, 1) := by decide +kernel
theorem dJ15_checkIndex_7cf53_1 : decode cJ15_checkIndex_7cf53 1 = .ok (.iload_n 1, 1) := by decide +kernel
theorem dJ15_checkIndex_7cf53_2 : decode cJ15_checkIndex_7cf53 2 = .ok (.aconst_null, 1) := by decide +kernel
theorem dJ15_checkIndex_7cf53_3 : decode cJ15_checkIndex_7cf53 3 = .ok (.invokestatic 105, 3) := by decide +kernel
theorem dJ15_checkIndex_7cf53_6 : decode cJ15_checkIndex_7cf53 6 = .ok (.ireturn, 1) := by decide +kernel
theorem dJ8_newLength_cabcc_0 : decode cJ8_newLength_cabcc 0 = .ok (.iload_n 0, 1) := by decide +kernel
theorem dJ8_newLength_cabcc_1 : decode cJ8_newLength_cabcc 1 = .ok (.iload_n 1, 1) := by decide +kernel
theorem dJ8_newLength_cabcc_2 : decode cJ8_newLength_cabcc 2 = .ok (.iload_n 2, 1) := by decide +kernel
theorem dJ8_newLength_cabcc_3 : decode cJ8_newLength_cabcc 3 = .ok (.invokestatic 194, 3) := by decide +kernel
theorem dJ8_newLength_cabcc_6 : decode cJ8_newLength_cabcc 6 = .ok (.iadd, 1) := by decide +kernel
theorem dJ8_newLength_cabcc_7 : decode cJ8_newLength_cabcc 7 = .ok (.istore_n 3, 1) := by decide +kernel
theorem dJ8_newLength_cabcc_8 : decode cJ8_newLength_cabcc 8 = .ok (.iconst 0, 1) := by decide +kernel
theorem dJ8_newLength_cabcc_9 : decode cJ8_newLength_cabcc 9 = .ok (.iload_n 3, 1) := by decide +kernel
theorem dJ8_newLength_cabcc_10 : decode cJ8_newLength_cabcc 10 = .ok (.if_icmp .ge 11, 3) := by decide +kernel
theorem dJ8_newLength_cabcc_13 : decode cJ8_newLength_cabcc 13 = .ok (.iload_n 3, 1) := by decide +kernel
theorem dJ8_newLength_cabcc_14 : decode cJ8_newLength_cabcc 14 = .ok (.ldc 200, 2) := by decide +kernel
theorem dJ8_newLength_cabcc_16 : decode cJ8_newLength_cabcc 16 = .ok (.if_icmp .gt 5, 3) := by decide +kernel
theorem dJ8_newLength_cabcc_19 : decode cJ8_newLength_cabcc 19 = .ok (.iload_n 3, 1) := by decide +kernel
theorem dJ8_newLength_cabcc_20 : decode cJ8_newLength_cabcc 20 = .ok (.ireturn, 1) := by decide +kernel
theorem dJ8_newLength_cabcc_21 : decode cJ8_newLength_cabcc 21 = .ok (.iload_n 0, 1) := by decide +kernel
theorem dJ8_newLength_cabcc_22 : decode cJ8_newLength_cabcc 22 = .ok (.iload_n 1, 1) := by decide +kernel
theorem dJ8_newLength_cabcc_23 : decode cJ8_newLength_cabcc 23 = .ok (.invokestatic 201, 3) := by decide +kernel
theorem dJ8_newLength_cabcc_26 : decode cJ8_newLength_cabcc 26 = .ok (.ireturn, 1) := by decide +kernel
theorem dJ8_hugeLength_7cf53_0 : decode cJ8_hugeLength_7cf53 0 = .ok (.iload_n 0, 1) := by decide +kernel
theorem dJ8_hugeLength_7cf53_1 : decode cJ8_hugeLength_7cf53 1 = .ok (.iload_n 1, 1) := by decide +kernel
theorem dJ8_hugeLength_7cf53_2 : decode cJ8_hugeLength_7cf53 2 = .ok (.iadd, 1) := by decide +kernel
theorem dJ8_hugeLength_7cf53_3 : decode cJ8_hugeLength_7cf53 3 = .ok (.istore_n 2, 1) := by decide +kernel
theorem dJ8_hugeLength_7cf53_4 : decode cJ8_hugeLength_7cf53 4 = .ok (.iload_n 2, 1) := by decide +kernel
theorem dJ8_hugeLength_7cf53_5 : decode cJ8_hugeLength_7cf53 5 = .ok (.ifCond .ge 44, 3) := by decide +kernel
theorem dJ8_hugeLength_7cf53_8 : decode cJ8_hugeLength_7cf53 8 = .ok (.new 204, 3) := by decide +kernel
theorem dJ8_hugeLength_7cf53_11 : decode cJ8_hugeLength_7cf53 11 = .ok (.dup, 1) := by decide +kernel
theorem dJ8_hugeLength_7cf53_12 : decode cJ8_hugeLength_7cf53 12 = .ok (.new 89, 3) := by decide +kernel
theorem dJ8_hugeLength_7cf53_15 : decode cJ8_hugeLength_7cf53 15 = .ok (.dup, 1) := by decide +kernel
theorem dJ8_hugeLength_7cf53_16 : decode cJ8_hugeLength_7cf53 16 = .ok (.invokespecial 91, 3) := by decide +kernel
theorem dJ8_hugeLength_7cf53_19 : decode cJ8_hugeLength_7cf53 19 = .ok (.ldc 206, 2) := by decide +kernel
theorem dJ8_hugeLength_7cf53_21 : decode cJ8_hugeLength_7cf53 21 = .ok (.invokevirtual 94, 3) := by decide +kernel
theorem dJ8_hugeLength_7cf53_24 : decode cJ8_hugeLength_7cf53 24 = .ok (.iload_n 0, 1) := by decide +kernel
theorem dJ8_hugeLength_7cf53_25 : decode cJ8_hugeLength_7cf53 25 = .ok (.invokevirtual 98, 3) := by decide +kernel
theorem dJ8_hugeLength_7cf53_28 : decode cJ8_hugeLength_7cf53 28 = .ok (.ldc 208, 2) := by decide +kernel
theorem dJ8_hugeLength_7cf53_30 : decode cJ8_hugeLength_7cf53 30 = .ok (.invokevirtual 94, 3) := by decide +kernel
theorem dJ8_hugeLength_7cf53_33 : decode cJ8_hugeLength_7cf53 33 = .ok (.iload_n 1, 1) := by decide +kernel
theorem dJ8_hugeLength_7cf53_34 : decode cJ8_hugeLength_7cf53 34 = .ok (.invokevirtual 98, 3) := by decide +kernel
theorem dJ8_hugeLength_7cf53_37 : decode cJ8_hugeLength_7cf53 37 = .ok (.ldc 210, 2) := by decide +kernel
theorem dJ8_hugeLength_7cf53_39 : decode cJ8_hugeLength_7cf53 39 = .ok (.invokevirtual 94, 3) := by decide +kernel
theorem dJ8_hugeLength_7cf53_42 : decode cJ8_hugeLength_7cf53 42 = .ok (.invokevirtual 101, 3) := by decide +kernel
theorem dJ8_hugeLength_7cf53_45 : decode cJ8_hugeLength_7cf53 45 = .ok (.invokespecial 212, 3) := by decide +kernel
theorem dJ8_hugeLength_7cf53_48 : decode cJ8_hugeLength_7cf53 48 = .ok (.athrow, 1) := by decide +kernel
theorem dJ8_hugeLength_7cf53_49 : decode cJ8_hugeLength_7cf53 49 = .ok (.iload_n 2, 1) := by decide +kernel
theorem dJ8_hugeLength_7cf53_50 : decode cJ8_hugeLength_7cf53 50 = .ok (.ldc 200, 2) := by decide +kernel
theorem dJ8_hugeLength_7cf53_52 : decode cJ8_hugeLength_7cf53 52 = .ok (.if_icmp .gt 6, 3) := by decide +kernel
theorem dJ8_hugeLength_7cf53_55 : decode cJ8_hugeLength_7cf53 55 = .ok (.ldc 200, 2) := by decide +kernel
theorem dJ8_hugeLength_7cf53_57 : decode cJ8_hugeLength_7cf53 57 = .ok (.ireturn, 1) := by decide +kernel
theorem dJ8_hugeLength_7cf53_58 : decode cJ8_hugeLength_7cf53 58 = .ok (.iload_n 2, 1) := by decide +kernel
theorem dJ8_hugeLength_7cf53_59 : decode cJ8_hugeLength_7cf53 59 = .ok (.ireturn, 1) := by decide +kernel
theorem dJ3_checkIndex_8e157_0 : decode cJ3_checkIndex_8e157 0 = .ok (.iload_n 0, 1) := by decide +kernel
theorem dJ3_checkIndex_8e157_1 : decode cJ3_checkIndex_8e157 1 = .ok (.ifCond .lt 8, 3) := by decide +kernel
theorem dJ3_checkIndex_8e157_4 : decode cJ3_checkIndex_8e157 4 = .ok (.iload_n 0, 1) := by decide +kernel
theorem dJ3_checkIndex_8e157_5 : decode cJ3_checkIndex_8e157 5 = .ok (.iload_n 1, 1) := by decide +kernel
theorem dJ3_checkIndex_8e157_6 : decode cJ3_checkIndex_8e157 6 = .ok (.if_icmp .lt 10, 3) := by decide +kernel
theorem dJ3_checkIndex_8e157_9 : decode cJ3_checkIndex_8e157 9 = .ok (.aload_n 2, 1) := by decide +kernel
theorem dJ3_checkIndex_8e157_10 : decode cJ3_checkIndex_8e157 10 = .ok (.iload_n 0, 1) := by decide +kernel
theorem dJ3_checkIndex_8e157_11 : decode cJ3_checkIndex_8e157 11 = .ok (.iload_n 1, 1) := by decide +kernel
theorem dJ3_checkIndex_8e157_12 : decode cJ3_checkIndex_8e157 12 = .ok (.invokestatic 95, 3) := by decide +kernel
theorem dJ3_checkIndex_8e157_15 : decode cJ3_checkIndex_8e157 15 = .ok (.athrow, 1) := by decide +kernel
theorem dJ3_checkIndex_8e157_16 : decode cJ3_checkIndex_8e157 16 = .ok (.iload_n 0, 1) := by decide +kernel
theorem dJ3_checkIndex_8e157_17 : decode cJ3_checkIndex_8e157 17 = .ok (.ireturn, 1) := by decide +kernel
