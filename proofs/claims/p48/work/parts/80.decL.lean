theorem dL_cell_0 : decode cL_cell 0 = .ok (.iload_n 1, 1) := by decide +kernel
theorem dL_cell_1 : decode cL_cell 1 = .ok (.aload_n 0, 1) := by decide +kernel
theorem dL_cell_2 : decode cL_cell 2 = .ok (.arraylength, 1) := by decide +kernel
theorem dL_cell_3 : decode cL_cell 3 = .ok (.if_icmp .ge 9, 3) := by decide +kernel
theorem dL_cell_6 : decode cL_cell 6 = .ok (.aload_n 0, 1) := by decide +kernel
theorem dL_cell_7 : decode cL_cell 7 = .ok (.iload_n 1, 1) := by decide +kernel
theorem dL_cell_8 : decode cL_cell 8 = .ok (.iaload, 1) := by decide +kernel
theorem dL_cell_9 : decode cL_cell 9 = .ok (.goto 13, 3) := by decide +kernel
theorem dL_cell_12 : decode cL_cell 12 = .ok (.ldc 7, 2) := by decide +kernel
theorem dL_cell_14 : decode cL_cell 14 = .ok (.iload_n 1, 1) := by decide +kernel
theorem dL_cell_15 : decode cL_cell 15 = .ok (.bipush 19, 2) := by decide +kernel
theorem dL_cell_17 : decode cL_cell 17 = .ok (.iadd, 1) := by decide +kernel
theorem dL_cell_18 : decode cL_cell 18 = .ok (.imul, 1) := by decide +kernel
theorem dL_cell_19 : decode cL_cell 19 = .ok (.ldc 8, 2) := by decide +kernel
theorem dL_cell_21 : decode cL_cell 21 = .ok (.iadd, 1) := by decide +kernel
theorem dL_cell_22 : decode cL_cell 22 = .ok (.ireturn, 1) := by decide +kernel
theorem dL_low_0 : decode cL_low 0 = .ok (.iload_n 0, 1) := by decide +kernel
theorem dL_low_1 : decode cL_low 1 = .ok (.ldc 9, 2) := by decide +kernel
theorem dL_low_3 : decode cL_low 3 = .ok (.iand, 1) := by decide +kernel
theorem dL_low_4 : decode cL_low 4 = .ok (.iload_n 1, 1) := by decide +kernel
theorem dL_low_5 : decode cL_low 5 = .ok (.irem, 1) := by decide +kernel
theorem dL_low_6 : decode cL_low 6 = .ok (.ireturn, 1) := by decide +kernel
theorem dL_calls_0 : decode cL_calls 0 = .ok (.iload_n 1, 1) := by decide +kernel
theorem dL_calls_1 : decode cL_calls 1 = .ok (.ifCond .ne 12, 3) := by decide +kernel
theorem dL_calls_4 : decode cL_calls 4 = .ok (.aload_n 0, 1) := by decide +kernel
theorem dL_calls_5 : decode cL_calls 5 = .ok (.iload_n 2, 1) := by decide +kernel
theorem dL_calls_6 : decode cL_calls 6 = .ok (.iload_n 3, 1) := by decide +kernel
theorem dL_calls_7 : decode cL_calls 7 = .ok (.invokevirtual 10, 3) := by decide +kernel
theorem dL_calls_10 : decode cL_calls 10 = .ok (.goto 65, 3) := by decide +kernel
theorem dL_calls_13 : decode cL_calls 13 = .ok (.iload_n 1, 1) := by decide +kernel
theorem dL_calls_14 : decode cL_calls 14 = .ok (.iconst 1, 1) := by decide +kernel
theorem dL_calls_15 : decode cL_calls 15 = .ok (.if_icmp .ne 14, 3) := by decide +kernel
theorem dL_calls_18 : decode cL_calls 18 = .ok (.aload_n 0, 1) := by decide +kernel
theorem dL_calls_19 : decode cL_calls 19 = .ok (.iload_n 2, 1) := by decide +kernel
theorem dL_calls_20 : decode cL_calls 20 = .ok (.iload_n 3, 1) := by decide +kernel
theorem dL_calls_21 : decode cL_calls 21 = .ok (.iload 4, 2) := by decide +kernel
theorem dL_calls_23 : decode cL_calls 23 = .ok (.invokevirtual 16, 3) := by decide +kernel
theorem dL_calls_26 : decode cL_calls 26 = .ok (.goto 49, 3) := by decide +kernel
theorem dL_calls_29 : decode cL_calls 29 = .ok (.iload_n 1, 1) := by decide +kernel
theorem dL_calls_30 : decode cL_calls 30 = .ok (.iconst 2, 1) := by decide +kernel
theorem dL_calls_31 : decode cL_calls 31 = .ok (.if_icmp .ne 11, 3) := by decide +kernel
theorem dL_calls_34 : decode cL_calls 34 = .ok (.aload_n 0, 1) := by decide +kernel
theorem dL_calls_35 : decode cL_calls 35 = .ok (.iload_n 2, 1) := by decide +kernel
theorem dL_calls_36 : decode cL_calls 36 = .ok (.invokevirtual 20, 3) := by decide +kernel
theorem dL_calls_39 : decode cL_calls 39 = .ok (.goto 36, 3) := by decide +kernel
theorem dL_calls_42 : decode cL_calls 42 = .ok (.iload_n 1, 1) := by decide +kernel
theorem dL_calls_43 : decode cL_calls 43 = .ok (.iconst 3, 1) := by decide +kernel
theorem dL_calls_44 : decode cL_calls 44 = .ok (.if_icmp .ne 11, 3) := by decide +kernel
theorem dL_calls_47 : decode cL_calls 47 = .ok (.aload_n 0, 1) := by decide +kernel
theorem dL_calls_48 : decode cL_calls 48 = .ok (.iload_n 2, 1) := by decide +kernel
theorem dL_calls_49 : decode cL_calls 49 = .ok (.invokevirtual 24, 3) := by decide +kernel
theorem dL_calls_52 : decode cL_calls 52 = .ok (.goto 23, 3) := by decide +kernel
theorem dL_calls_55 : decode cL_calls 55 = .ok (.iload_n 1, 1) := by decide +kernel
theorem dL_calls_56 : decode cL_calls 56 = .ok (.iconst 4, 1) := by decide +kernel
theorem dL_calls_57 : decode cL_calls 57 = .ok (.if_icmp .ne 12, 3) := by decide +kernel
theorem dL_calls_60 : decode cL_calls 60 = .ok (.aload_n 0, 1) := by decide +kernel
theorem dL_calls_61 : decode cL_calls 61 = .ok (.iload_n 2, 1) := by decide +kernel
theorem dL_calls_62 : decode cL_calls 62 = .ok (.iload_n 3, 1) := by decide +kernel
theorem dL_calls_63 : decode cL_calls 63 = .ok (.invokevirtual 27, 3) := by decide +kernel
theorem dL_calls_66 : decode cL_calls 66 = .ok (.goto 9, 3) := by decide +kernel
theorem dL_calls_69 : decode cL_calls 69 = .ok (.aload_n 0, 1) := by decide +kernel
theorem dL_calls_70 : decode cL_calls 70 = .ok (.iload_n 2, 1) := by decide +kernel
theorem dL_calls_71 : decode cL_calls 71 = .ok (.iload_n 3, 1) := by decide +kernel
theorem dL_calls_72 : decode cL_calls 72 = .ok (.invokevirtual 30, 3) := by decide +kernel
theorem dL_calls_75 : decode cL_calls 75 = .ok (.ireturn, 1) := by decide +kernel
theorem dL_calls_76 : decode cL_calls 76 = .ok (.astore 5, 2) := by decide +kernel
theorem dL_calls_78 : decode cL_calls 78 = .ok (.sipush (-1003), 3) := by decide +kernel
theorem dL_calls_81 : decode cL_calls 81 = .ok (.ireturn, 1) := by decide +kernel
theorem dL_flags_0 : decode cL_flags 0 = .ok (.aload_n 0, 1) := by decide +kernel
theorem dL_flags_1 : decode cL_flags 1 = .ok (.iload_n 1, 1) := by decide +kernel
theorem dL_flags_2 : decode cL_flags 2 = .ok (.iconst 2, 1) := by decide +kernel
theorem dL_flags_3 : decode cL_flags 3 = .ok (.invokevirtual 35, 3) := by decide +kernel
theorem dL_flags_6 : decode cL_flags 6 = .ok (.ireturn, 1) := by decide +kernel
theorem dL_other_0 : decode cL_other 0 = .ok (.iload_n 1, 1) := by decide +kernel
theorem dL_other_1 : decode cL_other 1 = .ok (.iload_n 0, 1) := by decide +kernel
theorem dL_other_2 : decode cL_other 2 = .ok (.if_icmp .ne 11, 3) := by decide +kernel
theorem dL_other_5 : decode cL_other 5 = .ok (.iload_n 0, 1) := by decide +kernel
theorem dL_other_6 : decode cL_other 6 = .ok (.iconst 1, 1) := by decide +kernel
theorem dL_other_7 : decode cL_other 7 = .ok (.iadd, 1) := by decide +kernel
theorem dL_other_8 : decode cL_other 8 = .ok (.iconst 4, 1) := by decide +kernel
theorem dL_other_9 : decode cL_other 9 = .ok (.irem, 1) := by decide +kernel
theorem dL_other_10 : decode cL_other 10 = .ok (.goto 17, 3) := by decide +kernel
theorem dL_other_13 : decode cL_other 13 = .ok (.iload_n 1, 1) := by decide +kernel
theorem dL_other_14 : decode cL_other 14 = .ok (.iload_n 0, 1) := by decide +kernel
theorem dL_other_15 : decode cL_other 15 = .ok (.iconst 1, 1) := by decide +kernel
theorem dL_other_16 : decode cL_other 16 = .ok (.iadd, 1) := by decide +kernel
theorem dL_other_17 : decode cL_other 17 = .ok (.iconst 4, 1) := by decide +kernel
theorem dL_other_18 : decode cL_other 18 = .ok (.irem, 1) := by decide +kernel
theorem dL_other_19 : decode cL_other 19 = .ok (.if_icmp .ne 7, 3) := by decide +kernel
theorem dL_other_22 : decode cL_other 22 = .ok (.iload_n 0, 1) := by decide +kernel
theorem dL_other_23 : decode cL_other 23 = .ok (.goto 4, 3) := by decide +kernel
theorem dL_other_26 : decode cL_other 26 = .ok (.iconst (-1), 1) := by decide +kernel
theorem dL_other_27 : decode cL_other 27 = .ok (.ireturn, 1) := by decide +kernel
theorem dL_taken_0 : decode cL_taken 0 = .ok (.iconst 0, 1) := by decide +kernel
theorem dL_taken_1 : decode cL_taken 1 = .ok (.istore_n 2, 1) := by decide +kernel
theorem dL_taken_2 : decode cL_taken 2 = .ok (.iconst 0, 1) := by decide +kernel
theorem dL_taken_3 : decode cL_taken 3 = .ok (.istore_n 3, 1) := by decide +kernel
theorem dL_taken_4 : decode cL_taken 4 = .ok (.iload_n 3, 1) := by decide +kernel
theorem dL_taken_5 : decode cL_taken 5 = .ok (.bipush 48, 2) := by decide +kernel
theorem dL_taken_7 : decode cL_taken 7 = .ok (.if_icmp .ge 33, 3) := by decide +kernel
theorem dL_taken_10 : decode cL_taken 10 = .ok (.iload_n 2, 1) := by decide +kernel
theorem dL_taken_11 : decode cL_taken 11 = .ok (.aload_n 1, 1) := by decide +kernel
theorem dL_taken_12 : decode cL_taken 12 = .ok (.iload_n 3, 1) := by decide +kernel
theorem dL_taken_13 : decode cL_taken 13 = .ok (.iaload, 1) := by decide +kernel
theorem dL_taken_14 : decode cL_taken 14 = .ok (.iconst 1, 1) := by decide +kernel
theorem dL_taken_15 : decode cL_taken 15 = .ok (.if_icmp .ne 16, 3) := by decide +kernel
theorem dL_taken_18 : decode cL_taken 18 = .ok (.aload_n 1, 1) := by decide +kernel
theorem dL_taken_19 : decode cL_taken 19 = .ok (.iload_n 3, 1) := by decide +kernel
theorem dL_taken_20 : decode cL_taken 20 = .ok (.iconst 4, 1) := by decide +kernel
theorem dL_taken_21 : decode cL_taken 21 = .ok (.iadd, 1) := by decide +kernel
theorem dL_taken_22 : decode cL_taken 22 = .ok (.iaload, 1) := by decide +kernel
theorem dL_taken_23 : decode cL_taken 23 = .ok (.iload_n 0, 1) := by decide +kernel
theorem dL_taken_24 : decode cL_taken 24 = .ok (.if_icmp .ne 7, 3) := by decide +kernel
theorem dL_taken_27 : decode cL_taken 27 = .ok (.iconst 1, 1) := by decide +kernel
theorem dL_taken_28 : decode cL_taken 28 = .ok (.goto 4, 3) := by decide +kernel
theorem dL_taken_31 : decode cL_taken 31 = .ok (.iconst 0, 1) := by decide +kernel
theorem dL_taken_32 : decode cL_taken 32 = .ok (.iadd, 1) := by decide +kernel
theorem dL_taken_33 : decode cL_taken 33 = .ok (.istore_n 2, 1) := by decide +kernel
theorem dL_taken_34 : decode cL_taken 34 = .ok (.iinc 3 16, 3) := by decide +kernel
theorem dL_taken_37 : decode cL_taken 37 = .ok (.goto (-33), 3) := by decide +kernel
theorem dL_taken_40 : decode cL_taken 40 = .ok (.iload_n 2, 1) := by decide +kernel
theorem dL_taken_41 : decode cL_taken 41 = .ok (.ireturn, 1) := by decide +kernel
theorem dL_runs_0 : decode cL_runs 0 = .ok (.aload_n 2, 1) := by decide +kernel
theorem dL_runs_1 : decode cL_runs 1 = .ok (.iload_n 1, 1) := by decide +kernel
theorem dL_runs_2 : decode cL_runs 2 = .ok (.iaload, 1) := by decide +kernel
theorem dL_runs_3 : decode cL_runs 3 = .ok (.aload_n 2, 1) := by decide +kernel
theorem dL_runs_4 : decode cL_runs 4 = .ok (.iload_n 1, 1) := by decide +kernel
theorem dL_runs_5 : decode cL_runs 5 = .ok (.iaload, 1) := by decide +kernel
theorem dL_runs_6 : decode cL_runs 6 = .ok (.iconst 2, 1) := by decide +kernel
theorem dL_runs_7 : decode cL_runs 7 = .ok (.imul, 1) := by decide +kernel
theorem dL_runs_8 : decode cL_runs 8 = .ok (.aload_n 3, 1) := by decide +kernel
theorem dL_runs_9 : decode cL_runs 9 = .ok (.iload_n 0, 1) := by decide +kernel
theorem dL_runs_10 : decode cL_runs 10 = .ok (.iconst 2, 1) := by decide +kernel
theorem dL_runs_11 : decode cL_runs 11 = .ok (.iadd, 1) := by decide +kernel
theorem dL_runs_12 : decode cL_runs 12 = .ok (.iaload, 1) := by decide +kernel
theorem dL_runs_13 : decode cL_runs 13 = .ok (.imul, 1) := by decide +kernel
theorem dL_runs_14 : decode cL_runs 14 = .ok (.bipush 10, 2) := by decide +kernel
theorem dL_runs_16 : decode cL_runs 16 = .ok (.aload_n 3, 1) := by decide +kernel
theorem dL_runs_17 : decode cL_runs 17 = .ok (.iload_n 0, 1) := by decide +kernel
theorem dL_runs_18 : decode cL_runs 18 = .ok (.iconst 1, 1) := by decide +kernel
theorem dL_runs_19 : decode cL_runs 19 = .ok (.iadd, 1) := by decide +kernel
theorem dL_runs_20 : decode cL_runs 20 = .ok (.iaload, 1) := by decide +kernel
theorem dL_runs_21 : decode cL_runs 21 = .ok (.imul, 1) := by decide +kernel
theorem dL_runs_22 : decode cL_runs 22 = .ok (.idiv, 1) := by decide +kernel
theorem dL_runs_23 : decode cL_runs 23 = .ok (.iadd, 1) := by decide +kernel
theorem dL_runs_24 : decode cL_runs 24 = .ok (.istore 4, 2) := by decide +kernel
theorem dL_runs_26 : decode cL_runs 26 = .ok (.iload 4, 2) := by decide +kernel
theorem dL_runs_28 : decode cL_runs 28 = .ok (.aload_n 2, 1) := by decide +kernel
theorem dL_runs_29 : decode cL_runs 29 = .ok (.bipush 8, 2) := by decide +kernel
theorem dL_runs_31 : decode cL_runs 31 = .ok (.iload_n 1, 1) := by decide +kernel
theorem dL_runs_32 : decode cL_runs 32 = .ok (.iadd, 1) := by decide +kernel
theorem dL_runs_33 : decode cL_runs 33 = .ok (.iaload, 1) := by decide +kernel
theorem dL_runs_34 : decode cL_runs 34 = .ok (.bipush 59, 2) := by decide +kernel
theorem dL_runs_36 : decode cL_runs 36 = .ok (.if_icmp .le 9, 3) := by decide +kernel
theorem dL_runs_39 : decode cL_runs 39 = .ok (.aload_n 2, 1) := by decide +kernel
theorem dL_runs_40 : decode cL_runs 40 = .ok (.iload_n 1, 1) := by decide +kernel
theorem dL_runs_41 : decode cL_runs 41 = .ok (.iaload, 1) := by decide +kernel
theorem dL_runs_42 : decode cL_runs 42 = .ok (.goto 4, 3) := by decide +kernel
theorem dL_runs_45 : decode cL_runs 45 = .ok (.iconst 0, 1) := by decide +kernel
theorem dL_runs_46 : decode cL_runs 46 = .ok (.iadd, 1) := by decide +kernel
theorem dL_runs_47 : decode cL_runs 47 = .ok (.istore 4, 2) := by decide +kernel
theorem dL_runs_49 : decode cL_runs 49 = .ok (.aload_n 2, 1) := by decide +kernel
theorem dL_runs_50 : decode cL_runs 50 = .ok (.bipush 12, 2) := by decide +kernel
theorem dL_runs_52 : decode cL_runs 52 = .ok (.iload_n 1, 1) := by decide +kernel
theorem dL_runs_53 : decode cL_runs 53 = .ok (.iadd, 1) := by decide +kernel
theorem dL_runs_54 : decode cL_runs 54 = .ok (.iaload, 1) := by decide +kernel
theorem dL_runs_55 : decode cL_runs 55 = .ok (.iconst 1, 1) := by decide +kernel
theorem dL_runs_56 : decode cL_runs 56 = .ok (.if_icmp .ne 10, 3) := by decide +kernel
theorem dL_runs_59 : decode cL_runs 59 = .ok (.iload 4, 2) := by decide +kernel
theorem dL_runs_61 : decode cL_runs 61 = .ok (.iconst 2, 1) := by decide +kernel
theorem dL_runs_62 : decode cL_runs 62 = .ok (.imul, 1) := by decide +kernel
theorem dL_runs_63 : decode cL_runs 63 = .ok (.goto 5, 3) := by decide +kernel
theorem dL_runs_66 : decode cL_runs 66 = .ok (.iload 4, 2) := by decide +kernel
theorem dL_runs_68 : decode cL_runs 68 = .ok (.ireturn, 1) := by decide +kernel
theorem dL_bars_0 : decode cL_bars 0 = .ok (.aload_n 3, 1) := by decide +kernel
theorem dL_bars_1 : decode cL_bars 1 = .ok (.iload_n 0, 1) := by decide +kernel
theorem dL_bars_2 : decode cL_bars 2 = .ok (.iconst 2, 1) := by decide +kernel
theorem dL_bars_3 : decode cL_bars 3 = .ok (.idiv, 1) := by decide +kernel
theorem dL_bars_4 : decode cL_bars 4 = .ok (.aload_n 2, 1) := by decide +kernel
theorem dL_bars_5 : decode cL_bars 5 = .ok (.iload_n 0, 1) := by decide +kernel
theorem dL_bars_6 : decode cL_bars 6 = .ok (.bipush 7, 2) := by decide +kernel
theorem dL_bars_8 : decode cL_bars 8 = .ok (.iadd, 1) := by decide +kernel
theorem dL_bars_9 : decode cL_bars 9 = .ok (.iaload, 1) := by decide +kernel
theorem dL_bars_10 : decode cL_bars 10 = .ok (.iadd, 1) := by decide +kernel
theorem dL_bars_11 : decode cL_bars 11 = .ok (.iaload, 1) := by decide +kernel
theorem dL_bars_12 : decode cL_bars 12 = .ok (.istore 5, 2) := by decide +kernel
theorem dL_bars_14 : decode cL_bars 14 = .ok (.iload_n 0, 1) := by decide +kernel
theorem dL_bars_15 : decode cL_bars 15 = .ok (.iload 5, 2) := by decide +kernel
theorem dL_bars_17 : decode cL_bars 17 = .ok (.aload_n 1, 1) := by decide +kernel
theorem dL_bars_18 : decode cL_bars 18 = .ok (.aload_n 2, 1) := by decide +kernel
theorem dL_bars_19 : decode cL_bars 19 = .ok (.invokestatic 38, 3) := by decide +kernel
theorem dL_bars_22 : decode cL_bars 22 = .ok (.istore 6, 2) := by decide +kernel
theorem dL_bars_24 : decode cL_bars 24 = .ok (.aload_n 2, 1) := by decide +kernel
theorem dL_bars_25 : decode cL_bars 25 = .ok (.iload_n 0, 1) := by decide +kernel
theorem dL_bars_26 : decode cL_bars 26 = .ok (.bipush 7, 2) := by decide +kernel
theorem dL_bars_28 : decode cL_bars 28 = .ok (.iadd, 1) := by decide +kernel
theorem dL_bars_29 : decode cL_bars 29 = .ok (.iaload, 1) := by decide +kernel
theorem dL_bars_30 : decode cL_bars 30 = .ok (.ifCond .ne 18, 3) := by decide +kernel
theorem dL_bars_33 : decode cL_bars 33 = .ok (.aload 4, 2) := by decide +kernel
theorem dL_bars_35 : decode cL_bars 35 = .ok (.iconst 0, 1) := by decide +kernel
theorem dL_bars_36 : decode cL_bars 36 = .ok (.iaload, 1) := by decide +kernel
theorem dL_bars_37 : decode cL_bars 37 = .ok (.aload_n 2, 1) := by decide +kernel
theorem dL_bars_38 : decode cL_bars 38 = .ok (.iload_n 0, 1) := by decide +kernel
theorem dL_bars_39 : decode cL_bars 39 = .ok (.bipush 9, 2) := by decide +kernel
theorem dL_bars_41 : decode cL_bars 41 = .ok (.iadd, 1) := by decide +kernel
theorem dL_bars_42 : decode cL_bars 42 = .ok (.iaload, 1) := by decide +kernel
theorem dL_bars_43 : decode cL_bars 43 = .ok (.if_icmp .ge 5, 3) := by decide +kernel
theorem dL_bars_46 : decode cL_bars 46 = .ok (.iconst 1, 1) := by decide +kernel
theorem dL_bars_47 : decode cL_bars 47 = .ok (.ireturn, 1) := by decide +kernel
theorem dL_bars_48 : decode cL_bars 48 = .ok (.bipush 16, 2) := by decide +kernel
theorem dL_bars_50 : decode cL_bars 50 = .ok (.aload_n 2, 1) := by decide +kernel
theorem dL_bars_51 : decode cL_bars 51 = .ok (.iload_n 0, 1) := by decide +kernel
theorem dL_bars_52 : decode cL_bars 52 = .ok (.bipush 11, 2) := by decide +kernel
theorem dL_bars_54 : decode cL_bars 54 = .ok (.iadd, 1) := by decide +kernel
theorem dL_bars_55 : decode cL_bars 55 = .ok (.iaload, 1) := by decide +kernel
theorem dL_bars_56 : decode cL_bars 56 = .ok (.imul, 1) := by decide +kernel
theorem dL_bars_57 : decode cL_bars 57 = .ok (.istore 7, 2) := by decide +kernel
theorem dL_bars_59 : decode cL_bars 59 = .ok (.iload 7, 2) := by decide +kernel
theorem dL_bars_61 : decode cL_bars 61 = .ok (.ifCond .lt 50, 3) := by decide +kernel
theorem dL_bars_64 : decode cL_bars 64 = .ok (.aload_n 2, 1) := by decide +kernel
theorem dL_bars_65 : decode cL_bars 65 = .ok (.iload_n 0, 1) := by decide +kernel
theorem dL_bars_66 : decode cL_bars 66 = .ok (.bipush 12, 2) := by decide +kernel
theorem dL_bars_68 : decode cL_bars 68 = .ok (.iadd, 1) := by decide +kernel
theorem dL_bars_69 : decode cL_bars 69 = .ok (.iaload, 1) := by decide +kernel
theorem dL_bars_70 : decode cL_bars 70 = .ok (.aload_n 2, 1) := by decide +kernel
theorem dL_bars_71 : decode cL_bars 71 = .ok (.iload_n 0, 1) := by decide +kernel
theorem dL_bars_72 : decode cL_bars 72 = .ok (.iconst 4, 1) := by decide +kernel
theorem dL_bars_73 : decode cL_bars 73 = .ok (.iadd, 1) := by decide +kernel
theorem dL_bars_74 : decode cL_bars 74 = .ok (.iaload, 1) := by decide +kernel
theorem dL_bars_75 : decode cL_bars 75 = .ok (.if_icmp .ne 36, 3) := by decide +kernel
theorem dL_bars_78 : decode cL_bars 78 = .ok (.aload_n 2, 1) := by decide +kernel
theorem dL_bars_79 : decode cL_bars 79 = .ok (.iload 7, 2) := by decide +kernel
theorem dL_bars_81 : decode cL_bars 81 = .ok (.iaload, 1) := by decide +kernel
theorem dL_bars_82 : decode cL_bars 82 = .ok (.ifCond .eq 27, 3) := by decide +kernel
theorem dL_bars_85 : decode cL_bars 85 = .ok (.aload_n 2, 1) := by decide +kernel
theorem dL_bars_86 : decode cL_bars 86 = .ok (.iload 7, 2) := by decide +kernel
theorem dL_bars_88 : decode cL_bars 88 = .ok (.iconst 3, 1) := by decide +kernel
theorem dL_bars_89 : decode cL_bars 89 = .ok (.iadd, 1) := by decide +kernel
theorem dL_bars_90 : decode cL_bars 90 = .ok (.iaload, 1) := by decide +kernel
theorem dL_bars_91 : decode cL_bars 91 = .ok (.iconst 2, 1) := by decide +kernel
theorem dL_bars_92 : decode cL_bars 92 = .ok (.if_icmp .eq 17, 3) := by decide +kernel
theorem dL_bars_95 : decode cL_bars 95 = .ok (.aload_n 2, 1) := by decide +kernel
theorem dL_bars_96 : decode cL_bars 96 = .ok (.iload 7, 2) := by decide +kernel
theorem dL_bars_98 : decode cL_bars 98 = .ok (.iconst 4, 1) := by decide +kernel
theorem dL_bars_99 : decode cL_bars 99 = .ok (.iadd, 1) := by decide +kernel
theorem dL_bars_100 : decode cL_bars 100 = .ok (.iaload, 1) := by decide +kernel
theorem dL_bars_101 : decode cL_bars 101 = .ok (.aload_n 2, 1) := by decide +kernel
theorem dL_bars_102 : decode cL_bars 102 = .ok (.iload_n 0, 1) := by decide +kernel
theorem dL_bars_103 : decode cL_bars 103 = .ok (.iconst 4, 1) := by decide +kernel
theorem dL_bars_104 : decode cL_bars 104 = .ok (.iadd, 1) := by decide +kernel
theorem dL_bars_105 : decode cL_bars 105 = .ok (.iaload, 1) := by decide +kernel
theorem dL_bars_106 : decode cL_bars 106 = .ok (.if_icmp .eq 5, 3) := by decide +kernel
theorem dL_bars_109 : decode cL_bars 109 = .ok (.iconst 2, 1) := by decide +kernel
theorem dL_bars_110 : decode cL_bars 110 = .ok (.ireturn, 1) := by decide +kernel
theorem dL_bars_111 : decode cL_bars 111 = .ok (.aload_n 1, 1) := by decide +kernel
theorem dL_bars_112 : decode cL_bars 112 = .ok (.bipush 28, 2) := by decide +kernel
theorem dL_bars_114 : decode cL_bars 114 = .ok (.iload 5, 2) := by decide +kernel
theorem dL_bars_116 : decode cL_bars 116 = .ok (.iadd, 1) := by decide +kernel
theorem dL_bars_117 : decode cL_bars 117 = .ok (.iaload, 1) := by decide +kernel
theorem dL_bars_118 : decode cL_bars 118 = .ok (.ifCond .ge 17, 3) := by decide +kernel
theorem dL_bars_121 : decode cL_bars 121 = .ok (.aload_n 1, 1) := by decide +kernel
theorem dL_bars_122 : decode cL_bars 122 = .ok (.bipush 36, 2) := by decide +kernel
theorem dL_bars_124 : decode cL_bars 124 = .ok (.iload 5, 2) := by decide +kernel
theorem dL_bars_126 : decode cL_bars 126 = .ok (.iadd, 1) := by decide +kernel
theorem dL_bars_127 : decode cL_bars 127 = .ok (.iaload, 1) := by decide +kernel
theorem dL_bars_128 : decode cL_bars 128 = .ok (.aload 4, 2) := by decide +kernel
theorem dL_bars_130 : decode cL_bars 130 = .ok (.iconst 0, 1) := by decide +kernel
theorem dL_bars_131 : decode cL_bars 131 = .ok (.iaload, 1) := by decide +kernel
theorem dL_bars_132 : decode cL_bars 132 = .ok (.if_icmp .le 19, 3) := by decide +kernel
theorem dL_bars_135 : decode cL_bars 135 = .ok (.aload_n 1, 1) := by decide +kernel
theorem dL_bars_136 : decode cL_bars 136 = .ok (.bipush 28, 2) := by decide +kernel
theorem dL_bars_138 : decode cL_bars 138 = .ok (.iload 5, 2) := by decide +kernel
theorem dL_bars_140 : decode cL_bars 140 = .ok (.iadd, 1) := by decide +kernel
theorem dL_bars_141 : decode cL_bars 141 = .ok (.iaload, 1) := by decide +kernel
theorem dL_bars_142 : decode cL_bars 142 = .ok (.ifCond .lt 7, 3) := by decide +kernel
theorem dL_bars_145 : decode cL_bars 145 = .ok (.iconst 3, 1) := by decide +kernel
theorem dL_bars_146 : decode cL_bars 146 = .ok (.goto 4, 3) := by decide +kernel
theorem dL_bars_149 : decode cL_bars 149 = .ok (.iconst 4, 1) := by decide +kernel
theorem dL_bars_150 : decode cL_bars 150 = .ok (.ireturn, 1) := by decide +kernel
theorem dL_bars_151 : decode cL_bars 151 = .ok (.aload_n 1, 1) := by decide +kernel
theorem dL_bars_152 : decode cL_bars 152 = .ok (.bipush 12, 2) := by decide +kernel
theorem dL_bars_154 : decode cL_bars 154 = .ok (.iload 5, 2) := by decide +kernel
theorem dL_bars_156 : decode cL_bars 156 = .ok (.iadd, 1) := by decide +kernel
theorem dL_bars_157 : decode cL_bars 157 = .ok (.iaload, 1) := by decide +kernel
theorem dL_bars_158 : decode cL_bars 158 = .ok (.iconst 1, 1) := by decide +kernel
theorem dL_bars_159 : decode cL_bars 159 = .ok (.if_icmp .ne 15, 3) := by decide +kernel
theorem dL_bars_162 : decode cL_bars 162 = .ok (.aload_n 1, 1) := by decide +kernel
theorem dL_bars_163 : decode cL_bars 163 = .ok (.bipush 16, 2) := by decide +kernel
theorem dL_bars_165 : decode cL_bars 165 = .ok (.iload 5, 2) := by decide +kernel
theorem dL_bars_167 : decode cL_bars 167 = .ok (.iadd, 1) := by decide +kernel
theorem dL_bars_168 : decode cL_bars 168 = .ok (.iaload, 1) := by decide +kernel
theorem dL_bars_169 : decode cL_bars 169 = .ok (.ifCond .ne 5, 3) := by decide +kernel
theorem dL_bars_172 : decode cL_bars 172 = .ok (.iconst 5, 1) := by decide +kernel
theorem dL_bars_173 : decode cL_bars 173 = .ok (.ireturn, 1) := by decide +kernel
theorem dL_bars_174 : decode cL_bars 174 = .ok (.aload 4, 2) := by decide +kernel
theorem dL_bars_176 : decode cL_bars 176 = .ok (.iconst 0, 1) := by decide +kernel
theorem dL_bars_177 : decode cL_bars 177 = .ok (.iaload, 1) := by decide +kernel
theorem dL_bars_178 : decode cL_bars 178 = .ok (.istore 8, 2) := by decide +kernel
theorem dL_bars_180 : decode cL_bars 180 = .ok (.iload 8, 2) := by decide +kernel
theorem dL_bars_182 : decode cL_bars 182 = .ok (.aload 4, 2) := by decide +kernel
theorem dL_bars_184 : decode cL_bars 184 = .ok (.iconst 0, 1) := by decide +kernel
theorem dL_bars_185 : decode cL_bars 185 = .ok (.iaload, 1) := by decide +kernel
theorem dL_bars_186 : decode cL_bars 186 = .ok (.iload 6, 2) := by decide +kernel
theorem dL_bars_188 : decode cL_bars 188 = .ok (.iadd, 1) := by decide +kernel
theorem dL_bars_189 : decode cL_bars 189 = .ok (.iconst 1, 1) := by decide +kernel
theorem dL_bars_190 : decode cL_bars 190 = .ok (.iadd, 1) := by decide +kernel
theorem dL_bars_191 : decode cL_bars 191 = .ok (.aload_n 2, 1) := by decide +kernel
theorem dL_bars_192 : decode cL_bars 192 = .ok (.iload_n 0, 1) := by decide +kernel
theorem dL_bars_193 : decode cL_bars 193 = .ok (.iconst 2, 1) := by decide +kernel
theorem dL_bars_194 : decode cL_bars 194 = .ok (.iadd, 1) := by decide +kernel
theorem dL_bars_195 : decode cL_bars 195 = .ok (.iaload, 1) := by decide +kernel
theorem dL_bars_196 : decode cL_bars 196 = .ok (.iconst 4, 1) := by decide +kernel
theorem dL_bars_197 : decode cL_bars 197 = .ok (.idiv, 1) := by decide +kernel
theorem dL_bars_198 : decode cL_bars 198 = .ok (.iadd, 1) := by decide +kernel
theorem dL_bars_199 : decode cL_bars 199 = .ok (.if_icmp .ge 44, 3) := by decide +kernel
theorem dL_bars_202 : decode cL_bars 202 = .ok (.iload 8, 2) := by decide +kernel
theorem dL_bars_204 : decode cL_bars 204 = .ok (.sipush 1440, 3) := by decide +kernel
theorem dL_bars_207 : decode cL_bars 207 = .ok (.irem, 1) := by decide +kernel
theorem dL_bars_208 : decode cL_bars 208 = .ok (.aload_n 1, 1) := by decide +kernel
theorem dL_bars_209 : decode cL_bars 209 = .ok (.bipush 20, 2) := by decide +kernel
theorem dL_bars_211 : decode cL_bars 211 = .ok (.iload 5, 2) := by decide +kernel
theorem dL_bars_213 : decode cL_bars 213 = .ok (.iadd, 1) := by decide +kernel
theorem dL_bars_214 : decode cL_bars 214 = .ok (.iaload, 1) := by decide +kernel
theorem dL_bars_215 : decode cL_bars 215 = .ok (.if_icmp .lt 22, 3) := by decide +kernel
theorem dL_bars_218 : decode cL_bars 218 = .ok (.iload 8, 2) := by decide +kernel
theorem dL_bars_220 : decode cL_bars 220 = .ok (.sipush 1440, 3) := by decide +kernel
theorem dL_bars_223 : decode cL_bars 223 = .ok (.irem, 1) := by decide +kernel
theorem dL_bars_224 : decode cL_bars 224 = .ok (.aload_n 1, 1) := by decide +kernel
theorem dL_bars_225 : decode cL_bars 225 = .ok (.bipush 24, 2) := by decide +kernel
theorem dL_bars_227 : decode cL_bars 227 = .ok (.iload 5, 2) := by decide +kernel
theorem dL_bars_229 : decode cL_bars 229 = .ok (.iadd, 1) := by decide +kernel
theorem dL_bars_230 : decode cL_bars 230 = .ok (.iaload, 1) := by decide +kernel
theorem dL_bars_231 : decode cL_bars 231 = .ok (.if_icmp .ge 6, 3) := by decide +kernel
theorem dL_bars_234 : decode cL_bars 234 = .ok (.bipush 6, 2) := by decide +kernel
theorem dL_bars_236 : decode cL_bars 236 = .ok (.ireturn, 1) := by decide +kernel
theorem dL_bars_237 : decode cL_bars 237 = .ok (.iinc 8 1, 3) := by decide +kernel
theorem dL_bars_240 : decode cL_bars 240 = .ok (.goto (-60), 3) := by decide +kernel
theorem dL_bars_243 : decode cL_bars 243 = .ok (.iconst 2, 1) := by decide +kernel
theorem dL_bars_244 : decode cL_bars 244 = .ok (.aload_n 2, 1) := by decide +kernel
theorem dL_bars_245 : decode cL_bars 245 = .ok (.iload_n 0, 1) := by decide +kernel
theorem dL_bars_246 : decode cL_bars 246 = .ok (.iconst 2, 1) := by decide +kernel
theorem dL_bars_247 : decode cL_bars 247 = .ok (.iadd, 1) := by decide +kernel
theorem dL_bars_248 : decode cL_bars 248 = .ok (.iaload, 1) := by decide +kernel
theorem dL_bars_249 : decode cL_bars 249 = .ok (.imul, 1) := by decide +kernel
theorem dL_bars_250 : decode cL_bars 250 = .ok (.aload_n 2, 1) := by decide +kernel
theorem dL_bars_251 : decode cL_bars 251 = .ok (.iload_n 0, 1) := by decide +kernel
theorem dL_bars_252 : decode cL_bars 252 = .ok (.iconst 1, 1) := by decide +kernel
theorem dL_bars_253 : decode cL_bars 253 = .ok (.iadd, 1) := by decide +kernel
theorem dL_bars_254 : decode cL_bars 254 = .ok (.iaload, 1) := by decide +kernel
theorem dL_bars_255 : decode cL_bars 255 = .ok (.bipush 8, 2) := by decide +kernel
theorem dL_bars_257 : decode cL_bars 257 = .ok (.iconst 2, 1) := by decide +kernel
theorem dL_bars_258 : decode cL_bars 258 = .ok (.aload_n 1, 1) := by decide +kernel
theorem dL_bars_259 : decode cL_bars 259 = .ok (.iconst 4, 1) := by decide +kernel
theorem dL_bars_260 : decode cL_bars 260 = .ok (.iload 5, 2) := by decide +kernel
theorem dL_bars_262 : decode cL_bars 262 = .ok (.iadd, 1) := by decide +kernel
theorem dL_bars_263 : decode cL_bars 263 = .ok (.iaload, 1) := by decide +kernel
theorem dL_bars_264 : decode cL_bars 264 = .ok (.imul, 1) := by decide +kernel
theorem dL_bars_265 : decode cL_bars 265 = .ok (.isub, 1) := by decide +kernel
theorem dL_bars_266 : decode cL_bars 266 = .ok (.imul, 1) := by decide +kernel
theorem dL_bars_267 : decode cL_bars 267 = .ok (.if_icmp .le 6, 3) := by decide +kernel
theorem dL_bars_270 : decode cL_bars 270 = .ok (.bipush 7, 2) := by decide +kernel
theorem dL_bars_272 : decode cL_bars 272 = .ok (.ireturn, 1) := by decide +kernel
theorem dL_bars_273 : decode cL_bars 273 = .ok (.aload_n 2, 1) := by decide +kernel
theorem dL_bars_274 : decode cL_bars 274 = .ok (.iload_n 0, 1) := by decide +kernel
theorem dL_bars_275 : decode cL_bars 275 = .ok (.bipush 15, 2) := by decide +kernel
theorem dL_bars_277 : decode cL_bars 277 = .ok (.iadd, 1) := by decide +kernel
theorem dL_bars_278 : decode cL_bars 278 = .ok (.iaload, 1) := by decide +kernel
theorem dL_bars_279 : decode cL_bars 279 = .ok (.iload 5, 2) := by decide +kernel
theorem dL_bars_281 : decode cL_bars 281 = .ok (.ishr, 1) := by decide +kernel
theorem dL_bars_282 : decode cL_bars 282 = .ok (.iconst 1, 1) := by decide +kernel
theorem dL_bars_283 : decode cL_bars 283 = .ok (.iand, 1) := by decide +kernel
theorem dL_bars_284 : decode cL_bars 284 = .ok (.ifCond .ne 6, 3) := by decide +kernel
theorem dL_bars_287 : decode cL_bars 287 = .ok (.bipush 8, 2) := by decide +kernel
theorem dL_bars_289 : decode cL_bars 289 = .ok (.ireturn, 1) := by decide +kernel
theorem dL_bars_290 : decode cL_bars 290 = .ok (.aload_n 2, 1) := by decide +kernel
theorem dL_bars_291 : decode cL_bars 291 = .ok (.iload_n 0, 1) := by decide +kernel
theorem dL_bars_292 : decode cL_bars 292 = .ok (.bipush 14, 2) := by decide +kernel
theorem dL_bars_294 : decode cL_bars 294 = .ok (.iadd, 1) := by decide +kernel
theorem dL_bars_295 : decode cL_bars 295 = .ok (.iaload, 1) := by decide +kernel
theorem dL_bars_296 : decode cL_bars 296 = .ok (.aload 4, 2) := by decide +kernel
theorem dL_bars_298 : decode cL_bars 298 = .ok (.iconst 0, 1) := by decide +kernel
theorem dL_bars_299 : decode cL_bars 299 = .ok (.iaload, 1) := by decide +kernel
theorem dL_bars_300 : decode cL_bars 300 = .ok (.if_icmp .gt 18, 3) := by decide +kernel
theorem dL_bars_303 : decode cL_bars 303 = .ok (.aload_n 2, 1) := by decide +kernel
theorem dL_bars_304 : decode cL_bars 304 = .ok (.iload_n 0, 1) := by decide +kernel
theorem dL_bars_305 : decode cL_bars 305 = .ok (.bipush 13, 2) := by decide +kernel
theorem dL_bars_307 : decode cL_bars 307 = .ok (.iadd, 1) := by decide +kernel
theorem dL_bars_308 : decode cL_bars 308 = .ok (.iaload, 1) := by decide +kernel
theorem dL_bars_309 : decode cL_bars 309 = .ok (.iload 6, 2) := by decide +kernel
theorem dL_bars_311 : decode cL_bars 311 = .ok (.iadd, 1) := by decide +kernel
theorem dL_bars_312 : decode cL_bars 312 = .ok (.sipush 600, 3) := by decide +kernel
theorem dL_bars_315 : decode cL_bars 315 = .ok (.if_icmp .le 6, 3) := by decide +kernel
theorem dL_bars_318 : decode cL_bars 318 = .ok (.bipush 9, 2) := by decide +kernel
theorem dL_bars_320 : decode cL_bars 320 = .ok (.ireturn, 1) := by decide +kernel
theorem dL_bars_321 : decode cL_bars 321 = .ok (.iload 5, 2) := by decide +kernel
theorem dL_bars_323 : decode cL_bars 323 = .ok (.aload_n 2, 1) := by decide +kernel
theorem dL_bars_324 : decode cL_bars 324 = .ok (.iload_n 0, 1) := by decide +kernel
theorem dL_bars_325 : decode cL_bars 325 = .ok (.iconst 4, 1) := by decide +kernel
theorem dL_bars_326 : decode cL_bars 326 = .ok (.iadd, 1) := by decide +kernel
theorem dL_bars_327 : decode cL_bars 327 = .ok (.iaload, 1) := by decide +kernel
theorem dL_bars_328 : decode cL_bars 328 = .ok (.invokestatic 44, 3) := by decide +kernel
theorem dL_bars_331 : decode cL_bars 331 = .ok (.istore 8, 2) := by decide +kernel
theorem dL_bars_333 : decode cL_bars 333 = .ok (.iload 8, 2) := by decide +kernel
theorem dL_bars_335 : decode cL_bars 335 = .ok (.aload_n 2, 1) := by decide +kernel
theorem dL_bars_336 : decode cL_bars 336 = .ok (.invokestatic 47, 3) := by decide +kernel
theorem dL_bars_339 : decode cL_bars 339 = .ok (.aload 4, 2) := by decide +kernel
theorem dL_bars_341 : decode cL_bars 341 = .ok (.iconst 4, 1) := by decide +kernel
theorem dL_bars_342 : decode cL_bars 342 = .ok (.iload 8, 2) := by decide +kernel
theorem dL_bars_344 : decode cL_bars 344 = .ok (.iadd, 1) := by decide +kernel
theorem dL_bars_345 : decode cL_bars 345 = .ok (.iaload, 1) := by decide +kernel
theorem dL_bars_346 : decode cL_bars 346 = .ok (.if_icmp .lt 8, 3) := by decide +kernel
theorem dL_bars_349 : decode cL_bars 349 = .ok (.bipush 10, 2) := by decide +kernel
theorem dL_bars_351 : decode cL_bars 351 = .ok (.goto 4, 3) := by decide +kernel
theorem dL_bars_354 : decode cL_bars 354 = .ok (.iconst 0, 1) := by decide +kernel
theorem dL_bars_355 : decode cL_bars 355 = .ok (.ireturn, 1) := by decide +kernel
theorem dL_enters_0 : decode cL_enters 0 = .ok (.aload_n 3, 1) := by decide +kernel
theorem dL_enters_1 : decode cL_enters 1 = .ok (.iload_n 0, 1) := by decide +kernel
theorem dL_enters_2 : decode cL_enters 2 = .ok (.iconst 2, 1) := by decide +kernel
theorem dL_enters_3 : decode cL_enters 3 = .ok (.idiv, 1) := by decide +kernel
theorem dL_enters_4 : decode cL_enters 4 = .ok (.aload_n 2, 1) := by decide +kernel
theorem dL_enters_5 : decode cL_enters 5 = .ok (.iload_n 0, 1) := by decide +kernel
theorem dL_enters_6 : decode cL_enters 6 = .ok (.bipush 7, 2) := by decide +kernel
theorem dL_enters_8 : decode cL_enters 8 = .ok (.iadd, 1) := by decide +kernel
theorem dL_enters_9 : decode cL_enters 9 = .ok (.iaload, 1) := by decide +kernel
theorem dL_enters_10 : decode cL_enters 10 = .ok (.iadd, 1) := by decide +kernel
theorem dL_enters_11 : decode cL_enters 11 = .ok (.iaload, 1) := by decide +kernel
theorem dL_enters_12 : decode cL_enters 12 = .ok (.istore 5, 2) := by decide +kernel
theorem dL_enters_14 : decode cL_enters 14 = .ok (.iload_n 0, 1) := by decide +kernel
theorem dL_enters_15 : decode cL_enters 15 = .ok (.iload 5, 2) := by decide +kernel
theorem dL_enters_17 : decode cL_enters 17 = .ok (.aload_n 1, 1) := by decide +kernel
theorem dL_enters_18 : decode cL_enters 18 = .ok (.aload_n 2, 1) := by decide +kernel
theorem dL_enters_19 : decode cL_enters 19 = .ok (.invokestatic 38, 3) := by decide +kernel
theorem dL_enters_22 : decode cL_enters 22 = .ok (.istore 6, 2) := by decide +kernel
theorem dL_enters_24 : decode cL_enters 24 = .ok (.aload_n 1, 1) := by decide +kernel
theorem dL_enters_25 : decode cL_enters 25 = .ok (.bipush 28, 2) := by decide +kernel
theorem dL_enters_27 : decode cL_enters 27 = .ok (.iload 5, 2) := by decide +kernel
theorem dL_enters_29 : decode cL_enters 29 = .ok (.iadd, 1) := by decide +kernel
theorem dL_enters_30 : decode cL_enters 30 = .ok (.iload_n 0, 1) := by decide +kernel
theorem dL_enters_31 : decode cL_enters 31 = .ok (.bipush 16, 2) := by decide +kernel
theorem dL_enters_33 : decode cL_enters 33 = .ok (.idiv, 1) := by decide +kernel
theorem dL_enters_34 : decode cL_enters 34 = .ok (.iastore, 1) := by decide +kernel
theorem dL_enters_35 : decode cL_enters 35 = .ok (.aload_n 1, 1) := by decide +kernel
theorem dL_enters_36 : decode cL_enters 36 = .ok (.bipush 32, 2) := by decide +kernel
theorem dL_enters_38 : decode cL_enters 38 = .ok (.iload 5, 2) := by decide +kernel
theorem dL_enters_40 : decode cL_enters 40 = .ok (.iadd, 1) := by decide +kernel
theorem dL_enters_41 : decode cL_enters 41 = .ok (.aload 4, 2) := by decide +kernel
theorem dL_enters_43 : decode cL_enters 43 = .ok (.iconst 0, 1) := by decide +kernel
theorem dL_enters_44 : decode cL_enters 44 = .ok (.iaload, 1) := by decide +kernel
theorem dL_enters_45 : decode cL_enters 45 = .ok (.iload 6, 2) := by decide +kernel
theorem dL_enters_47 : decode cL_enters 47 = .ok (.iadd, 1) := by decide +kernel
theorem dL_enters_48 : decode cL_enters 48 = .ok (.iconst 1, 1) := by decide +kernel
theorem dL_enters_49 : decode cL_enters 49 = .ok (.iadd, 1) := by decide +kernel
theorem dL_enters_50 : decode cL_enters 50 = .ok (.aload_n 2, 1) := by decide +kernel
theorem dL_enters_51 : decode cL_enters 51 = .ok (.iload_n 0, 1) := by decide +kernel
theorem dL_enters_52 : decode cL_enters 52 = .ok (.iconst 2, 1) := by decide +kernel
theorem dL_enters_53 : decode cL_enters 53 = .ok (.iadd, 1) := by decide +kernel
theorem dL_enters_54 : decode cL_enters 54 = .ok (.iaload, 1) := by decide +kernel
theorem dL_enters_55 : decode cL_enters 55 = .ok (.iconst 4, 1) := by decide +kernel
theorem dL_enters_56 : decode cL_enters 56 = .ok (.idiv, 1) := by decide +kernel
theorem dL_enters_57 : decode cL_enters 57 = .ok (.iadd, 1) := by decide +kernel
theorem dL_enters_58 : decode cL_enters 58 = .ok (.iastore, 1) := by decide +kernel
theorem dL_enters_59 : decode cL_enters 59 = .ok (.aload_n 1, 1) := by decide +kernel
theorem dL_enters_60 : decode cL_enters 60 = .ok (.bipush 16, 2) := by decide +kernel
theorem dL_enters_62 : decode cL_enters 62 = .ok (.iload 5, 2) := by decide +kernel
theorem dL_enters_64 : decode cL_enters 64 = .ok (.iadd, 1) := by decide +kernel
theorem dL_enters_65 : decode cL_enters 65 = .ok (.iconst 0, 1) := by decide +kernel
theorem dL_enters_66 : decode cL_enters 66 = .ok (.iastore, 1) := by decide +kernel
theorem dL_enters_67 : decode cL_enters 67 = .ok (.aload_n 2, 1) := by decide +kernel
theorem dL_enters_68 : decode cL_enters 68 = .ok (.iload_n 0, 1) := by decide +kernel
theorem dL_enters_69 : decode cL_enters 69 = .ok (.bipush 11, 2) := by decide +kernel
theorem dL_enters_71 : decode cL_enters 71 = .ok (.iadd, 1) := by decide +kernel
theorem dL_enters_72 : decode cL_enters 72 = .ok (.aload_n 2, 1) := by decide +kernel
theorem dL_enters_73 : decode cL_enters 73 = .ok (.iload_n 0, 1) := by decide +kernel
theorem dL_enters_74 : decode cL_enters 74 = .ok (.bipush 12, 2) := by decide +kernel
theorem dL_enters_76 : decode cL_enters 76 = .ok (.iadd, 1) := by decide +kernel
theorem dL_enters_77 : decode cL_enters 77 = .ok (.iaload, 1) := by decide +kernel
theorem dL_enters_78 : decode cL_enters 78 = .ok (.aload_n 2, 1) := by decide +kernel
theorem dL_enters_79 : decode cL_enters 79 = .ok (.iload_n 0, 1) := by decide +kernel
theorem dL_enters_80 : decode cL_enters 80 = .ok (.iconst 4, 1) := by decide +kernel
theorem dL_enters_81 : decode cL_enters 81 = .ok (.iadd, 1) := by decide +kernel
theorem dL_enters_82 : decode cL_enters 82 = .ok (.iaload, 1) := by decide +kernel
theorem dL_enters_83 : decode cL_enters 83 = .ok (.if_icmp .ne 7, 3) := by decide +kernel
theorem dL_enters_86 : decode cL_enters 86 = .ok (.iconst (-1), 1) := by decide +kernel
theorem dL_enters_87 : decode cL_enters 87 = .ok (.goto 9, 3) := by decide +kernel
theorem dL_enters_90 : decode cL_enters 90 = .ok (.aload_n 2, 1) := by decide +kernel
theorem dL_enters_91 : decode cL_enters 91 = .ok (.iload_n 0, 1) := by decide +kernel
theorem dL_enters_92 : decode cL_enters 92 = .ok (.bipush 11, 2) := by decide +kernel
theorem dL_enters_94 : decode cL_enters 94 = .ok (.iadd, 1) := by decide +kernel
theorem dL_enters_95 : decode cL_enters 95 = .ok (.iaload, 1) := by decide +kernel
theorem dL_enters_96 : decode cL_enters 96 = .ok (.iastore, 1) := by decide +kernel
theorem dL_enters_97 : decode cL_enters 97 = .ok (.aload_n 2, 1) := by decide +kernel
theorem dL_enters_98 : decode cL_enters 98 = .ok (.iload_n 0, 1) := by decide +kernel
theorem dL_enters_99 : decode cL_enters 99 = .ok (.iconst 3, 1) := by decide +kernel
theorem dL_enters_100 : decode cL_enters 100 = .ok (.iadd, 1) := by decide +kernel
theorem dL_enters_101 : decode cL_enters 101 = .ok (.iconst 2, 1) := by decide +kernel
theorem dL_enters_102 : decode cL_enters 102 = .ok (.iastore, 1) := by decide +kernel
theorem dL_enters_103 : decode cL_enters 103 = .ok (.aload_n 2, 1) := by decide +kernel
theorem dL_enters_104 : decode cL_enters 104 = .ok (.iload_n 0, 1) := by decide +kernel
theorem dL_enters_105 : decode cL_enters 105 = .ok (.iconst 4, 1) := by decide +kernel
theorem dL_enters_106 : decode cL_enters 106 = .ok (.iadd, 1) := by decide +kernel
theorem dL_enters_107 : decode cL_enters 107 = .ok (.iload 5, 2) := by decide +kernel
theorem dL_enters_109 : decode cL_enters 109 = .ok (.aload_n 2, 1) := by decide +kernel
theorem dL_enters_110 : decode cL_enters 110 = .ok (.iload_n 0, 1) := by decide +kernel
theorem dL_enters_111 : decode cL_enters 111 = .ok (.iconst 4, 1) := by decide +kernel
theorem dL_enters_112 : decode cL_enters 112 = .ok (.iadd, 1) := by decide +kernel
theorem dL_enters_113 : decode cL_enters 113 = .ok (.iaload, 1) := by decide +kernel
theorem dL_enters_114 : decode cL_enters 114 = .ok (.invokestatic 44, 3) := by decide +kernel
theorem dL_enters_117 : decode cL_enters 117 = .ok (.iastore, 1) := by decide +kernel
theorem dL_enters_118 : decode cL_enters 118 = .ok (.aload_n 2, 1) := by decide +kernel
theorem dL_enters_119 : decode cL_enters 119 = .ok (.iload_n 0, 1) := by decide +kernel
theorem dL_enters_120 : decode cL_enters 120 = .ok (.iconst 5, 1) := by decide +kernel
theorem dL_enters_121 : decode cL_enters 121 = .ok (.iadd, 1) := by decide +kernel
theorem dL_enters_122 : decode cL_enters 122 = .ok (.iload 5, 2) := by decide +kernel
theorem dL_enters_124 : decode cL_enters 124 = .ok (.iastore, 1) := by decide +kernel
theorem dL_enters_125 : decode cL_enters 125 = .ok (.aload_n 2, 1) := by decide +kernel
theorem dL_enters_126 : decode cL_enters 126 = .ok (.iload_n 0, 1) := by decide +kernel
theorem dL_enters_127 : decode cL_enters 127 = .ok (.bipush 6, 2) := by decide +kernel
theorem dL_enters_129 : decode cL_enters 129 = .ok (.iadd, 1) := by decide +kernel
theorem dL_enters_130 : decode cL_enters 130 = .ok (.aload 4, 2) := by decide +kernel
theorem dL_enters_132 : decode cL_enters 132 = .ok (.iconst 0, 1) := by decide +kernel
theorem dL_enters_133 : decode cL_enters 133 = .ok (.iaload, 1) := by decide +kernel
theorem dL_enters_134 : decode cL_enters 134 = .ok (.iload 6, 2) := by decide +kernel
theorem dL_enters_136 : decode cL_enters 136 = .ok (.iadd, 1) := by decide +kernel
theorem dL_enters_137 : decode cL_enters 137 = .ok (.iastore, 1) := by decide +kernel
theorem dL_enters_138 : decode cL_enters 138 = .ok (.aload_n 2, 1) := by decide +kernel
theorem dL_enters_139 : decode cL_enters 139 = .ok (.iload_n 0, 1) := by decide +kernel
theorem dL_enters_140 : decode cL_enters 140 = .ok (.bipush 7, 2) := by decide +kernel
theorem dL_enters_142 : decode cL_enters 142 = .ok (.iadd, 1) := by decide +kernel
theorem dL_enters_143 : decode cL_enters 143 = .ok (.dup2, 1) := by decide +kernel
theorem dL_enters_144 : decode cL_enters 144 = .ok (.iaload, 1) := by decide +kernel
theorem dL_enters_145 : decode cL_enters 145 = .ok (.iconst 1, 1) := by decide +kernel
theorem dL_enters_146 : decode cL_enters 146 = .ok (.iadd, 1) := by decide +kernel
theorem dL_enters_147 : decode cL_enters 147 = .ok (.iastore, 1) := by decide +kernel
theorem dL_enters_148 : decode cL_enters 148 = .ok (.aload_n 2, 1) := by decide +kernel
theorem dL_enters_149 : decode cL_enters 149 = .ok (.iload_n 0, 1) := by decide +kernel
theorem dL_enters_150 : decode cL_enters 150 = .ok (.bipush 13, 2) := by decide +kernel
theorem dL_enters_152 : decode cL_enters 152 = .ok (.iadd, 1) := by decide +kernel
theorem dL_enters_153 : decode cL_enters 153 = .ok (.dup2, 1) := by decide +kernel
theorem dL_enters_154 : decode cL_enters 154 = .ok (.iaload, 1) := by decide +kernel
theorem dL_enters_155 : decode cL_enters 155 = .ok (.iload 6, 2) := by decide +kernel
theorem dL_enters_157 : decode cL_enters 157 = .ok (.iadd, 1) := by decide +kernel
theorem dL_enters_158 : decode cL_enters 158 = .ok (.iastore, 1) := by decide +kernel
theorem dL_enters_159 : decode cL_enters 159 = .ok (.aload 4, 2) := by decide +kernel
theorem dL_enters_161 : decode cL_enters 161 = .ok (.iconst 2, 1) := by decide +kernel
theorem dL_enters_162 : decode cL_enters 162 = .ok (.dup2, 1) := by decide +kernel
theorem dL_enters_163 : decode cL_enters 163 = .ok (.iaload, 1) := by decide +kernel
theorem dL_enters_164 : decode cL_enters 164 = .ok (.iconst 1, 1) := by decide +kernel
theorem dL_enters_165 : decode cL_enters 165 = .ok (.iadd, 1) := by decide +kernel
theorem dL_enters_166 : decode cL_enters 166 = .ok (.iastore, 1) := by decide +kernel
theorem dL_enters_167 : decode cL_enters 167 = .ok (.return_, 1) := by decide +kernel
theorem dL_minute_0 : decode cL_minute 0 = .ok (.aload_n 3, 1) := by decide +kernel
theorem dL_minute_1 : decode cL_minute 1 = .ok (.iconst 0, 1) := by decide +kernel
theorem dL_minute_2 : decode cL_minute 2 = .ok (.dup2, 1) := by decide +kernel
theorem dL_minute_3 : decode cL_minute 3 = .ok (.iaload, 1) := by decide +kernel
theorem dL_minute_4 : decode cL_minute 4 = .ok (.iconst 1, 1) := by decide +kernel
theorem dL_minute_5 : decode cL_minute 5 = .ok (.iadd, 1) := by decide +kernel
theorem dL_minute_6 : decode cL_minute 6 = .ok (.iastore, 1) := by decide +kernel
theorem dL_minute_7 : decode cL_minute 7 = .ok (.iconst 0, 1) := by decide +kernel
theorem dL_minute_8 : decode cL_minute 8 = .ok (.istore 4, 2) := by decide +kernel
theorem dL_minute_10 : decode cL_minute 10 = .ok (.iload 4, 2) := by decide +kernel
theorem dL_minute_12 : decode cL_minute 12 = .ok (.iconst 4, 1) := by decide +kernel
theorem dL_minute_13 : decode cL_minute 13 = .ok (.if_icmp .ge 50, 3) := by decide +kernel
theorem dL_minute_16 : decode cL_minute 16 = .ok (.aload_n 0, 1) := by decide +kernel
theorem dL_minute_17 : decode cL_minute 17 = .ok (.bipush 28, 2) := by decide +kernel
theorem dL_minute_19 : decode cL_minute 19 = .ok (.iload 4, 2) := by decide +kernel
theorem dL_minute_21 : decode cL_minute 21 = .ok (.iadd, 1) := by decide +kernel
theorem dL_minute_22 : decode cL_minute 22 = .ok (.aload_n 0, 1) := by decide +kernel
theorem dL_minute_23 : decode cL_minute 23 = .ok (.bipush 28, 2) := by decide +kernel
theorem dL_minute_25 : decode cL_minute 25 = .ok (.iload 4, 2) := by decide +kernel
theorem dL_minute_27 : decode cL_minute 27 = .ok (.iadd, 1) := by decide +kernel
theorem dL_minute_28 : decode cL_minute 28 = .ok (.iaload, 1) := by decide +kernel
theorem dL_minute_29 : decode cL_minute 29 = .ok (.ifCond .lt 20, 3) := by decide +kernel
theorem dL_minute_32 : decode cL_minute 32 = .ok (.aload_n 0, 1) := by decide +kernel
theorem dL_minute_33 : decode cL_minute 33 = .ok (.bipush 32, 2) := by decide +kernel
theorem dL_minute_35 : decode cL_minute 35 = .ok (.iload 4, 2) := by decide +kernel
theorem dL_minute_37 : decode cL_minute 37 = .ok (.iadd, 1) := by decide +kernel
theorem dL_minute_38 : decode cL_minute 38 = .ok (.iaload, 1) := by decide +kernel
theorem dL_minute_39 : decode cL_minute 39 = .ok (.aload_n 3, 1) := by decide +kernel
theorem dL_minute_40 : decode cL_minute 40 = .ok (.iconst 0, 1) := by decide +kernel
theorem dL_minute_41 : decode cL_minute 41 = .ok (.iaload, 1) := by decide +kernel
theorem dL_minute_42 : decode cL_minute 42 = .ok (.if_icmp .gt 7, 3) := by decide +kernel
theorem dL_minute_45 : decode cL_minute 45 = .ok (.iconst (-1), 1) := by decide +kernel
theorem dL_minute_46 : decode cL_minute 46 = .ok (.goto 10, 3) := by decide +kernel
theorem dL_minute_49 : decode cL_minute 49 = .ok (.aload_n 0, 1) := by decide +kernel
theorem dL_minute_50 : decode cL_minute 50 = .ok (.bipush 28, 2) := by decide +kernel
theorem dL_minute_52 : decode cL_minute 52 = .ok (.iload 4, 2) := by decide +kernel
theorem dL_minute_54 : decode cL_minute 54 = .ok (.iadd, 1) := by decide +kernel
theorem dL_minute_55 : decode cL_minute 55 = .ok (.iaload, 1) := by decide +kernel
theorem dL_minute_56 : decode cL_minute 56 = .ok (.iastore, 1) := by decide +kernel
theorem dL_minute_57 : decode cL_minute 57 = .ok (.iinc 4 1, 3) := by decide +kernel
theorem dL_minute_60 : decode cL_minute 60 = .ok (.goto (-50), 3) := by decide +kernel
theorem dL_minute_63 : decode cL_minute 63 = .ok (.iconst 0, 1) := by decide +kernel
theorem dL_minute_64 : decode cL_minute 64 = .ok (.istore 4, 2) := by decide +kernel
theorem dL_minute_66 : decode cL_minute 66 = .ok (.iload 4, 2) := by decide +kernel
theorem dL_minute_68 : decode cL_minute 68 = .ok (.bipush 48, 2) := by decide +kernel
theorem dL_minute_70 : decode cL_minute 70 = .ok (.if_icmp .ge 97, 3) := by decide +kernel
theorem dL_minute_73 : decode cL_minute 73 = .ok (.aload_n 1, 1) := by decide +kernel
theorem dL_minute_74 : decode cL_minute 74 = .ok (.iload 4, 2) := by decide +kernel
theorem dL_minute_76 : decode cL_minute 76 = .ok (.iaload, 1) := by decide +kernel
theorem dL_minute_77 : decode cL_minute 77 = .ok (.iconst 1, 1) := by decide +kernel
theorem dL_minute_78 : decode cL_minute 78 = .ok (.if_icmp .ne 83, 3) := by decide +kernel
theorem dL_minute_81 : decode cL_minute 81 = .ok (.aload_n 1, 1) := by decide +kernel
theorem dL_minute_82 : decode cL_minute 82 = .ok (.iload 4, 2) := by decide +kernel
theorem dL_minute_84 : decode cL_minute 84 = .ok (.iconst 3, 1) := by decide +kernel
theorem dL_minute_85 : decode cL_minute 85 = .ok (.iadd, 1) := by decide +kernel
theorem dL_minute_86 : decode cL_minute 86 = .ok (.iaload, 1) := by decide +kernel
theorem dL_minute_87 : decode cL_minute 87 = .ok (.iconst 2, 1) := by decide +kernel
theorem dL_minute_88 : decode cL_minute 88 = .ok (.if_icmp .ne 73, 3) := by decide +kernel
theorem dL_minute_91 : decode cL_minute 91 = .ok (.aload_n 1, 1) := by decide +kernel
theorem dL_minute_92 : decode cL_minute 92 = .ok (.iload 4, 2) := by decide +kernel
theorem dL_minute_94 : decode cL_minute 94 = .ok (.bipush 6, 2) := by decide +kernel
theorem dL_minute_96 : decode cL_minute 96 = .ok (.iadd, 1) := by decide +kernel
theorem dL_minute_97 : decode cL_minute 97 = .ok (.iaload, 1) := by decide +kernel
theorem dL_minute_98 : decode cL_minute 98 = .ok (.aload_n 3, 1) := by decide +kernel
theorem dL_minute_99 : decode cL_minute 99 = .ok (.iconst 0, 1) := by decide +kernel
theorem dL_minute_100 : decode cL_minute 100 = .ok (.iaload, 1) := by decide +kernel
theorem dL_minute_101 : decode cL_minute 101 = .ok (.if_icmp .ne 60, 3) := by decide +kernel
theorem dL_minute_104 : decode cL_minute 104 = .ok (.aload_n 0, 1) := by decide +kernel
theorem dL_minute_105 : decode cL_minute 105 = .ok (.bipush 8, 2) := by decide +kernel
theorem dL_minute_107 : decode cL_minute 107 = .ok (.aload_n 1, 1) := by decide +kernel
theorem dL_minute_108 : decode cL_minute 108 = .ok (.iload 4, 2) := by decide +kernel
theorem dL_minute_110 : decode cL_minute 110 = .ok (.iconst 5, 1) := by decide +kernel
theorem dL_minute_111 : decode cL_minute 111 = .ok (.iadd, 1) := by decide +kernel
theorem dL_minute_112 : decode cL_minute 112 = .ok (.iaload, 1) := by decide +kernel
theorem dL_minute_113 : decode cL_minute 113 = .ok (.iadd, 1) := by decide +kernel
theorem dL_minute_114 : decode cL_minute 114 = .ok (.dup2, 1) := by decide +kernel
theorem dL_minute_115 : decode cL_minute 115 = .ok (.iaload, 1) := by decide +kernel
theorem dL_minute_116 : decode cL_minute 116 = .ok (.iconst 1, 1) := by decide +kernel
theorem dL_minute_117 : decode cL_minute 117 = .ok (.aload_n 1, 1) := by decide +kernel
theorem dL_minute_118 : decode cL_minute 118 = .ok (.iload 4, 2) := by decide +kernel
theorem dL_minute_120 : decode cL_minute 120 = .ok (.iconst 2, 1) := by decide +kernel
theorem dL_minute_121 : decode cL_minute 121 = .ok (.iadd, 1) := by decide +kernel
theorem dL_minute_122 : decode cL_minute 122 = .ok (.iaload, 1) := by decide +kernel
theorem dL_minute_123 : decode cL_minute 123 = .ok (.iadd, 1) := by decide +kernel
theorem dL_minute_124 : decode cL_minute 124 = .ok (.iadd, 1) := by decide +kernel
theorem dL_minute_125 : decode cL_minute 125 = .ok (.iastore, 1) := by decide +kernel
theorem dL_minute_126 : decode cL_minute 126 = .ok (.aload_n 1, 1) := by decide +kernel
theorem dL_minute_127 : decode cL_minute 127 = .ok (.iload 4, 2) := by decide +kernel
theorem dL_minute_129 : decode cL_minute 129 = .ok (.iconst 5, 1) := by decide +kernel
theorem dL_minute_130 : decode cL_minute 130 = .ok (.iadd, 1) := by decide +kernel
theorem dL_minute_131 : decode cL_minute 131 = .ok (.iconst (-1), 1) := by decide +kernel
theorem dL_minute_132 : decode cL_minute 132 = .ok (.iastore, 1) := by decide +kernel
theorem dL_minute_133 : decode cL_minute 133 = .ok (.aload_n 1, 1) := by decide +kernel
theorem dL_minute_134 : decode cL_minute 134 = .ok (.iload 4, 2) := by decide +kernel
theorem dL_minute_136 : decode cL_minute 136 = .ok (.iconst 3, 1) := by decide +kernel
theorem dL_minute_137 : decode cL_minute 137 = .ok (.iadd, 1) := by decide +kernel
theorem dL_minute_138 : decode cL_minute 138 = .ok (.aload_n 1, 1) := by decide +kernel
theorem dL_minute_139 : decode cL_minute 139 = .ok (.iload 4, 2) := by decide +kernel
theorem dL_minute_141 : decode cL_minute 141 = .ok (.bipush 7, 2) := by decide +kernel
theorem dL_minute_143 : decode cL_minute 143 = .ok (.iadd, 1) := by decide +kernel
theorem dL_minute_144 : decode cL_minute 144 = .ok (.iaload, 1) := by decide +kernel
theorem dL_minute_145 : decode cL_minute 145 = .ok (.aload_n 1, 1) := by decide +kernel
theorem dL_minute_146 : decode cL_minute 146 = .ok (.iload 4, 2) := by decide +kernel
theorem dL_minute_148 : decode cL_minute 148 = .ok (.bipush 8, 2) := by decide +kernel
theorem dL_minute_150 : decode cL_minute 150 = .ok (.iadd, 1) := by decide +kernel
theorem dL_minute_151 : decode cL_minute 151 = .ok (.iaload, 1) := by decide +kernel
theorem dL_minute_152 : decode cL_minute 152 = .ok (.if_icmp .ge 7, 3) := by decide +kernel
theorem dL_minute_155 : decode cL_minute 155 = .ok (.iconst 1, 1) := by decide +kernel
theorem dL_minute_156 : decode cL_minute 156 = .ok (.goto 4, 3) := by decide +kernel
theorem dL_minute_159 : decode cL_minute 159 = .ok (.iconst 0, 1) := by decide +kernel
theorem dL_minute_160 : decode cL_minute 160 = .ok (.iastore, 1) := by decide +kernel
theorem dL_minute_161 : decode cL_minute 161 = .ok (.iinc 4 16, 3) := by decide +kernel
theorem dL_minute_164 : decode cL_minute 164 = .ok (.goto (-98), 3) := by decide +kernel
theorem dL_minute_167 : decode cL_minute 167 = .ok (.bipush 9, 2) := by decide +kernel
theorem dL_minute_169 : decode cL_minute 169 = .ok (.istore 4, 2) := by decide +kernel
theorem dL_minute_171 : decode cL_minute 171 = .ok (.iload 4, 2) := by decide +kernel
theorem dL_minute_173 : decode cL_minute 173 = .ok (.ifCond .lt 76, 3) := by decide +kernel
theorem dL_minute_176 : decode cL_minute 176 = .ok (.iconst 0, 1) := by decide +kernel
theorem dL_minute_177 : decode cL_minute 177 = .ok (.istore 5, 2) := by decide +kernel
theorem dL_minute_179 : decode cL_minute 179 = .ok (.iload 5, 2) := by decide +kernel
theorem dL_minute_181 : decode cL_minute 181 = .ok (.bipush 48, 2) := by decide +kernel
theorem dL_minute_183 : decode cL_minute 183 = .ok (.if_icmp .ge 60, 3) := by decide +kernel
theorem dL_minute_186 : decode cL_minute 186 = .ok (.aload_n 1, 1) := by decide +kernel
theorem dL_minute_187 : decode cL_minute 187 = .ok (.iload 5, 2) := by decide +kernel
theorem dL_minute_189 : decode cL_minute 189 = .ok (.iaload, 1) := by decide +kernel
theorem dL_minute_190 : decode cL_minute 190 = .ok (.iconst 1, 1) := by decide +kernel
theorem dL_minute_191 : decode cL_minute 191 = .ok (.if_icmp .ne 46, 3) := by decide +kernel
theorem dL_minute_194 : decode cL_minute 194 = .ok (.aload_n 1, 1) := by decide +kernel
theorem dL_minute_195 : decode cL_minute 195 = .ok (.iload 5, 2) := by decide +kernel
theorem dL_minute_197 : decode cL_minute 197 = .ok (.iconst 3, 1) := by decide +kernel
theorem dL_minute_198 : decode cL_minute 198 = .ok (.iadd, 1) := by decide +kernel
theorem dL_minute_199 : decode cL_minute 199 = .ok (.iaload, 1) := by decide +kernel
theorem dL_minute_200 : decode cL_minute 200 = .ok (.iconst 1, 1) := by decide +kernel
theorem dL_minute_201 : decode cL_minute 201 = .ok (.if_icmp .ne 36, 3) := by decide +kernel
theorem dL_minute_204 : decode cL_minute 204 = .ok (.aload_n 1, 1) := by decide +kernel
theorem dL_minute_205 : decode cL_minute 205 = .ok (.iload 5, 2) := by decide +kernel
theorem dL_minute_207 : decode cL_minute 207 = .ok (.bipush 10, 2) := by decide +kernel
theorem dL_minute_209 : decode cL_minute 209 = .ok (.iadd, 1) := by decide +kernel
theorem dL_minute_210 : decode cL_minute 210 = .ok (.iaload, 1) := by decide +kernel
theorem dL_minute_211 : decode cL_minute 211 = .ok (.iload 4, 2) := by decide +kernel
theorem dL_minute_213 : decode cL_minute 213 = .ok (.if_icmp .ne 24, 3) := by decide +kernel
theorem dL_minute_216 : decode cL_minute 216 = .ok (.iload 5, 2) := by decide +kernel
theorem dL_minute_218 : decode cL_minute 218 = .ok (.aload_n 0, 1) := by decide +kernel
theorem dL_minute_219 : decode cL_minute 219 = .ok (.aload_n 1, 1) := by decide +kernel
theorem dL_minute_220 : decode cL_minute 220 = .ok (.aload_n 2, 1) := by decide +kernel
theorem dL_minute_221 : decode cL_minute 221 = .ok (.aload_n 3, 1) := by decide +kernel
theorem dL_minute_222 : decode cL_minute 222 = .ok (.invokestatic 51, 3) := by decide +kernel
theorem dL_minute_225 : decode cL_minute 225 = .ok (.ifCond .ne 12, 3) := by decide +kernel
theorem dL_minute_228 : decode cL_minute 228 = .ok (.iload 5, 2) := by decide +kernel
theorem dL_minute_230 : decode cL_minute 230 = .ok (.aload_n 0, 1) := by decide +kernel
theorem dL_minute_231 : decode cL_minute 231 = .ok (.aload_n 1, 1) := by decide +kernel
theorem dL_minute_232 : decode cL_minute 232 = .ok (.aload_n 2, 1) := by decide +kernel
theorem dL_minute_233 : decode cL_minute 233 = .ok (.aload_n 3, 1) := by decide +kernel
theorem dL_minute_234 : decode cL_minute 234 = .ok (.invokestatic 55, 3) := by decide +kernel
theorem dL_minute_237 : decode cL_minute 237 = .ok (.iinc 5 16, 3) := by decide +kernel
theorem dL_minute_240 : decode cL_minute 240 = .ok (.goto (-61), 3) := by decide +kernel
theorem dL_minute_243 : decode cL_minute 243 = .ok (.iinc 4 (-1), 3) := by decide +kernel
theorem dL_minute_246 : decode cL_minute 246 = .ok (.goto (-75), 3) := by decide +kernel
theorem dL_minute_249 : decode cL_minute 249 = .ok (.return_, 1) := by decide +kernel
theorem dL_shows_0 : decode cL_shows 0 = .ok (.aload_n 0, 1) := by decide +kernel
theorem dL_shows_1 : decode cL_shows 1 = .ok (.invokevirtual 59, 3) := by decide +kernel
theorem dL_shows_4 : decode cL_shows 4 = .ok (.aload 4, 2) := by decide +kernel
theorem dL_shows_6 : decode cL_shows 6 = .ok (.iconst 0, 1) := by decide +kernel
theorem dL_shows_7 : decode cL_shows 7 = .ok (.iaload, 1) := by decide +kernel
theorem dL_shows_8 : decode cL_shows 8 = .ok (.if_icmp .ne 18, 3) := by decide +kernel
theorem dL_shows_11 : decode cL_shows 11 = .ok (.aload_n 0, 1) := by decide +kernel
theorem dL_shows_12 : decode cL_shows 12 = .ok (.invokevirtual 63, 3) := by decide +kernel
theorem dL_shows_15 : decode cL_shows 15 = .ok (.aload 4, 2) := by decide +kernel
theorem dL_shows_17 : decode cL_shows 17 = .ok (.iconst 1, 1) := by decide +kernel
theorem dL_shows_18 : decode cL_shows 18 = .ok (.iaload, 1) := by decide +kernel
theorem dL_shows_19 : decode cL_shows 19 = .ok (.if_icmp .ne 7, 3) := by decide +kernel
theorem dL_shows_22 : decode cL_shows 22 = .ok (.iconst 1, 1) := by decide +kernel
theorem dL_shows_23 : decode cL_shows 23 = .ok (.goto 4, 3) := by decide +kernel
theorem dL_shows_26 : decode cL_shows 26 = .ok (.iconst 0, 1) := by decide +kernel
theorem dL_shows_27 : decode cL_shows 27 = .ok (.istore 5, 2) := by decide +kernel
theorem dL_shows_29 : decode cL_shows 29 = .ok (.iconst 0, 1) := by decide +kernel
theorem dL_shows_30 : decode cL_shows 30 = .ok (.istore 6, 2) := by decide +kernel
theorem dL_shows_32 : decode cL_shows 32 = .ok (.iload 6, 2) := by decide +kernel
theorem dL_shows_34 : decode cL_shows 34 = .ok (.iconst 4, 1) := by decide +kernel
theorem dL_shows_35 : decode cL_shows 35 = .ok (.if_icmp .ge 138, 3) := by decide +kernel
theorem dL_shows_38 : decode cL_shows 38 = .ok (.iload 5, 2) := by decide +kernel
theorem dL_shows_40 : decode cL_shows 40 = .ok (.ifCond .eq 133, 3) := by decide +kernel
theorem dL_shows_43 : decode cL_shows 43 = .ok (.aload_n 0, 1) := by decide +kernel
theorem dL_shows_44 : decode cL_shows 44 = .ok (.iload 6, 2) := by decide +kernel
theorem dL_shows_46 : decode cL_shows 46 = .ok (.invokevirtual 66, 3) := by decide +kernel
theorem dL_shows_49 : decode cL_shows 49 = .ok (.aload_n 1, 1) := by decide +kernel
theorem dL_shows_50 : decode cL_shows 50 = .ok (.bipush 28, 2) := by decide +kernel
theorem dL_shows_52 : decode cL_shows 52 = .ok (.iload 6, 2) := by decide +kernel
theorem dL_shows_54 : decode cL_shows 54 = .ok (.iadd, 1) := by decide +kernel
theorem dL_shows_55 : decode cL_shows 55 = .ok (.iaload, 1) := by decide +kernel
theorem dL_shows_56 : decode cL_shows 56 = .ok (.if_icmp .ne 108, 3) := by decide +kernel
theorem dL_shows_59 : decode cL_shows 59 = .ok (.aload_n 0, 1) := by decide +kernel
theorem dL_shows_60 : decode cL_shows 60 = .ok (.iload 6, 2) := by decide +kernel
theorem dL_shows_62 : decode cL_shows 62 = .ok (.invokevirtual 69, 3) := by decide +kernel
theorem dL_shows_65 : decode cL_shows 65 = .ok (.aload_n 1, 1) := by decide +kernel
theorem dL_shows_66 : decode cL_shows 66 = .ok (.bipush 28, 2) := by decide +kernel
theorem dL_shows_68 : decode cL_shows 68 = .ok (.iload 6, 2) := by decide +kernel
theorem dL_shows_70 : decode cL_shows 70 = .ok (.iadd, 1) := by decide +kernel
theorem dL_shows_71 : decode cL_shows 71 = .ok (.iaload, 1) := by decide +kernel
theorem dL_shows_72 : decode cL_shows 72 = .ok (.if_icmp .ne 92, 3) := by decide +kernel
theorem dL_shows_75 : decode cL_shows 75 = .ok (.aload_n 0, 1) := by decide +kernel
theorem dL_shows_76 : decode cL_shows 76 = .ok (.iload 6, 2) := by decide +kernel
theorem dL_shows_78 : decode cL_shows 78 = .ok (.iconst 0, 1) := by decide +kernel
theorem dL_shows_79 : decode cL_shows 79 = .ok (.invokevirtual 35, 3) := by decide +kernel
theorem dL_shows_82 : decode cL_shows 82 = .ok (.aload_n 1, 1) := by decide +kernel
theorem dL_shows_83 : decode cL_shows 83 = .ok (.bipush 8, 2) := by decide +kernel
theorem dL_shows_85 : decode cL_shows 85 = .ok (.iload 6, 2) := by decide +kernel
theorem dL_shows_87 : decode cL_shows 87 = .ok (.iadd, 1) := by decide +kernel
theorem dL_shows_88 : decode cL_shows 88 = .ok (.iaload, 1) := by decide +kernel
theorem dL_shows_89 : decode cL_shows 89 = .ok (.if_icmp .ne 75, 3) := by decide +kernel
theorem dL_shows_92 : decode cL_shows 92 = .ok (.aload_n 0, 1) := by decide +kernel
theorem dL_shows_93 : decode cL_shows 93 = .ok (.iload 6, 2) := by decide +kernel
theorem dL_shows_95 : decode cL_shows 95 = .ok (.iconst 1, 1) := by decide +kernel
theorem dL_shows_96 : decode cL_shows 96 = .ok (.invokevirtual 35, 3) := by decide +kernel
theorem dL_shows_99 : decode cL_shows 99 = .ok (.aload_n 1, 1) := by decide +kernel
theorem dL_shows_100 : decode cL_shows 100 = .ok (.bipush 36, 2) := by decide +kernel
theorem dL_shows_102 : decode cL_shows 102 = .ok (.iload 6, 2) := by decide +kernel
theorem dL_shows_104 : decode cL_shows 104 = .ok (.iadd, 1) := by decide +kernel
theorem dL_shows_105 : decode cL_shows 105 = .ok (.iaload, 1) := by decide +kernel
theorem dL_shows_106 : decode cL_shows 106 = .ok (.aload 4, 2) := by decide +kernel
theorem dL_shows_108 : decode cL_shows 108 = .ok (.iconst 0, 1) := by decide +kernel
theorem dL_shows_109 : decode cL_shows 109 = .ok (.iaload, 1) := by decide +kernel
theorem dL_shows_110 : decode cL_shows 110 = .ok (.if_icmp .le 7, 3) := by decide +kernel
theorem dL_shows_113 : decode cL_shows 113 = .ok (.iconst 1, 1) := by decide +kernel
theorem dL_shows_114 : decode cL_shows 114 = .ok (.goto 4, 3) := by decide +kernel
theorem dL_shows_117 : decode cL_shows 117 = .ok (.iconst 0, 1) := by decide +kernel
theorem dL_shows_118 : decode cL_shows 118 = .ok (.if_icmp .ne 46, 3) := by decide +kernel
theorem dL_shows_121 : decode cL_shows 121 = .ok (.aload_n 0, 1) := by decide +kernel
theorem dL_shows_122 : decode cL_shows 122 = .ok (.iload 6, 2) := by decide +kernel
theorem dL_shows_124 : decode cL_shows 124 = .ok (.invokestatic 72, 3) := by decide +kernel
theorem dL_shows_127 : decode cL_shows 127 = .ok (.aload_n 1, 1) := by decide +kernel
theorem dL_shows_128 : decode cL_shows 128 = .ok (.bipush 16, 2) := by decide +kernel
theorem dL_shows_130 : decode cL_shows 130 = .ok (.iload 6, 2) := by decide +kernel
theorem dL_shows_132 : decode cL_shows 132 = .ok (.iadd, 1) := by decide +kernel
theorem dL_shows_133 : decode cL_shows 133 = .ok (.iaload, 1) := by decide +kernel
theorem dL_shows_134 : decode cL_shows 134 = .ok (.if_icmp .ne 30, 3) := by decide +kernel
theorem dL_shows_137 : decode cL_shows 137 = .ok (.aload_n 0, 1) := by decide +kernel
theorem dL_shows_138 : decode cL_shows 138 = .ok (.iload 6, 2) := by decide +kernel
theorem dL_shows_140 : decode cL_shows 140 = .ok (.invokevirtual 76, 3) := by decide +kernel
theorem dL_shows_143 : decode cL_shows 143 = .ok (.aload 4, 2) := by decide +kernel
theorem dL_shows_145 : decode cL_shows 145 = .ok (.iconst 4, 1) := by decide +kernel
theorem dL_shows_146 : decode cL_shows 146 = .ok (.iload 6, 2) := by decide +kernel
theorem dL_shows_148 : decode cL_shows 148 = .ok (.iadd, 1) := by decide +kernel
theorem dL_shows_149 : decode cL_shows 149 = .ok (.iaload, 1) := by decide +kernel
theorem dL_shows_150 : decode cL_shows 150 = .ok (.iload 6, 2) := by decide +kernel
theorem dL_shows_152 : decode cL_shows 152 = .ok (.aload_n 2, 1) := by decide +kernel
theorem dL_shows_153 : decode cL_shows 153 = .ok (.invokestatic 47, 3) := by decide +kernel
theorem dL_shows_156 : decode cL_shows 156 = .ok (.isub, 1) := by decide +kernel
theorem dL_shows_157 : decode cL_shows 157 = .ok (.if_icmp .ne 7, 3) := by decide +kernel
theorem dL_shows_160 : decode cL_shows 160 = .ok (.iconst 1, 1) := by decide +kernel
theorem dL_shows_161 : decode cL_shows 161 = .ok (.goto 4, 3) := by decide +kernel
theorem dL_shows_164 : decode cL_shows 164 = .ok (.iconst 0, 1) := by decide +kernel
theorem dL_shows_165 : decode cL_shows 165 = .ok (.istore 5, 2) := by decide +kernel
theorem dL_shows_167 : decode cL_shows 167 = .ok (.iinc 6 1, 3) := by decide +kernel
theorem dL_shows_170 : decode cL_shows 170 = .ok (.goto (-138), 3) := by decide +kernel
theorem dL_shows_173 : decode cL_shows 173 = .ok (.iconst 0, 1) := by decide +kernel
theorem dL_shows_174 : decode cL_shows 174 = .ok (.istore 6, 2) := by decide +kernel
theorem dL_shows_176 : decode cL_shows 176 = .ok (.iload 6, 2) := by decide +kernel
theorem dL_shows_178 : decode cL_shows 178 = .ok (.bipush 48, 2) := by decide +kernel
theorem dL_shows_180 : decode cL_shows 180 = .ok (.if_icmp .ge 242, 3) := by decide +kernel
theorem dL_shows_183 : decode cL_shows 183 = .ok (.iload 5, 2) := by decide +kernel
theorem dL_shows_185 : decode cL_shows 185 = .ok (.ifCond .eq 237, 3) := by decide +kernel
theorem dL_shows_188 : decode cL_shows 188 = .ok (.aload_n 2, 1) := by decide +kernel
theorem dL_shows_189 : decode cL_shows 189 = .ok (.iload 6, 2) := by decide +kernel
theorem dL_shows_191 : decode cL_shows 191 = .ok (.iaload, 1) := by decide +kernel
theorem dL_shows_192 : decode cL_shows 192 = .ok (.iconst 1, 1) := by decide +kernel
theorem dL_shows_193 : decode cL_shows 193 = .ok (.if_icmp .ne 223, 3) := by decide +kernel
theorem dL_shows_196 : decode cL_shows 196 = .ok (.iload 6, 2) := by decide +kernel
theorem dL_shows_198 : decode cL_shows 198 = .ok (.bipush 16, 2) := by decide +kernel
theorem dL_shows_200 : decode cL_shows 200 = .ok (.idiv, 1) := by decide +kernel
theorem dL_shows_201 : decode cL_shows 201 = .ok (.istore 7, 2) := by decide +kernel
theorem dL_shows_203 : decode cL_shows 203 = .ok (.aload_n 0, 1) := by decide +kernel
theorem dL_shows_204 : decode cL_shows 204 = .ok (.iload 7, 2) := by decide +kernel
theorem dL_shows_206 : decode cL_shows 206 = .ok (.iconst 0, 1) := by decide +kernel
theorem dL_shows_207 : decode cL_shows 207 = .ok (.invokevirtual 79, 3) := by decide +kernel
theorem dL_shows_210 : decode cL_shows 210 = .ok (.aload_n 2, 1) := by decide +kernel
theorem dL_shows_211 : decode cL_shows 211 = .ok (.iload 6, 2) := by decide +kernel
theorem dL_shows_213 : decode cL_shows 213 = .ok (.iconst 3, 1) := by decide +kernel
theorem dL_shows_214 : decode cL_shows 214 = .ok (.iadd, 1) := by decide +kernel
theorem dL_shows_215 : decode cL_shows 215 = .ok (.iaload, 1) := by decide +kernel
theorem dL_shows_216 : decode cL_shows 216 = .ok (.if_icmp .ne 197, 3) := by decide +kernel
theorem dL_shows_219 : decode cL_shows 219 = .ok (.aload_n 0, 1) := by decide +kernel
theorem dL_shows_220 : decode cL_shows 220 = .ok (.iload 7, 2) := by decide +kernel
theorem dL_shows_222 : decode cL_shows 222 = .ok (.iconst 1, 1) := by decide +kernel
theorem dL_shows_223 : decode cL_shows 223 = .ok (.invokevirtual 79, 3) := by decide +kernel
theorem dL_shows_226 : decode cL_shows 226 = .ok (.aload_n 2, 1) := by decide +kernel
theorem dL_shows_227 : decode cL_shows 227 = .ok (.iload 6, 2) := by decide +kernel
theorem dL_shows_229 : decode cL_shows 229 = .ok (.iconst 4, 1) := by decide +kernel
theorem dL_shows_230 : decode cL_shows 230 = .ok (.iadd, 1) := by decide +kernel
theorem dL_shows_231 : decode cL_shows 231 = .ok (.iaload, 1) := by decide +kernel
theorem dL_shows_232 : decode cL_shows 232 = .ok (.if_icmp .ne 181, 3) := by decide +kernel
theorem dL_shows_235 : decode cL_shows 235 = .ok (.aload_n 0, 1) := by decide +kernel
theorem dL_shows_236 : decode cL_shows 236 = .ok (.iload 7, 2) := by decide +kernel
theorem dL_shows_238 : decode cL_shows 238 = .ok (.iconst 2, 1) := by decide +kernel
theorem dL_shows_239 : decode cL_shows 239 = .ok (.invokevirtual 79, 3) := by decide +kernel
theorem dL_shows_242 : decode cL_shows 242 = .ok (.aload_n 2, 1) := by decide +kernel
theorem dL_shows_243 : decode cL_shows 243 = .ok (.iload 6, 2) := by decide +kernel
theorem dL_shows_245 : decode cL_shows 245 = .ok (.iconst 5, 1) := by decide +kernel
theorem dL_shows_246 : decode cL_shows 246 = .ok (.iadd, 1) := by decide +kernel
theorem dL_shows_247 : decode cL_shows 247 = .ok (.iaload, 1) := by decide +kernel
theorem dL_shows_248 : decode cL_shows 248 = .ok (.if_icmp .ne 165, 3) := by decide +kernel
theorem dL_shows_251 : decode cL_shows 251 = .ok (.aload_n 0, 1) := by decide +kernel
theorem dL_shows_252 : decode cL_shows 252 = .ok (.iload 7, 2) := by decide +kernel
theorem dL_shows_254 : decode cL_shows 254 = .ok (.iconst 3, 1) := by decide +kernel
theorem dL_shows_255 : decode cL_shows 255 = .ok (.invokevirtual 79, 3) := by decide +kernel
theorem dL_shows_258 : decode cL_shows 258 = .ok (.iconst 2, 1) := by decide +kernel
theorem dL_shows_259 : decode cL_shows 259 = .ok (.aload_n 2, 1) := by decide +kernel
theorem dL_shows_260 : decode cL_shows 260 = .ok (.iload 6, 2) := by decide +kernel
theorem dL_shows_262 : decode cL_shows 262 = .ok (.iconst 2, 1) := by decide +kernel
theorem dL_shows_263 : decode cL_shows 263 = .ok (.iadd, 1) := by decide +kernel
theorem dL_shows_264 : decode cL_shows 264 = .ok (.iaload, 1) := by decide +kernel
theorem dL_shows_265 : decode cL_shows 265 = .ok (.imul, 1) := by decide +kernel
theorem dL_shows_266 : decode cL_shows 266 = .ok (.if_icmp .ne 147, 3) := by decide +kernel
theorem dL_shows_269 : decode cL_shows 269 = .ok (.aload_n 0, 1) := by decide +kernel
theorem dL_shows_270 : decode cL_shows 270 = .ok (.iload 7, 2) := by decide +kernel
theorem dL_shows_272 : decode cL_shows 272 = .ok (.iconst 4, 1) := by decide +kernel
theorem dL_shows_273 : decode cL_shows 273 = .ok (.invokevirtual 79, 3) := by decide +kernel
theorem dL_shows_276 : decode cL_shows 276 = .ok (.aload_n 2, 1) := by decide +kernel
theorem dL_shows_277 : decode cL_shows 277 = .ok (.iload 6, 2) := by decide +kernel
theorem dL_shows_279 : decode cL_shows 279 = .ok (.iconst 2, 1) := by decide +kernel
theorem dL_shows_280 : decode cL_shows 280 = .ok (.iadd, 1) := by decide +kernel
theorem dL_shows_281 : decode cL_shows 281 = .ok (.iaload, 1) := by decide +kernel
theorem dL_shows_282 : decode cL_shows 282 = .ok (.if_icmp .ne 131, 3) := by decide +kernel
theorem dL_shows_285 : decode cL_shows 285 = .ok (.aload_n 0, 1) := by decide +kernel
theorem dL_shows_286 : decode cL_shows 286 = .ok (.iload 7, 2) := by decide +kernel
theorem dL_shows_288 : decode cL_shows 288 = .ok (.iconst 5, 1) := by decide +kernel
theorem dL_shows_289 : decode cL_shows 289 = .ok (.invokevirtual 79, 3) := by decide +kernel
theorem dL_shows_292 : decode cL_shows 292 = .ok (.aload_n 2, 1) := by decide +kernel
theorem dL_shows_293 : decode cL_shows 293 = .ok (.iload 6, 2) := by decide +kernel
theorem dL_shows_295 : decode cL_shows 295 = .ok (.bipush 8, 2) := by decide +kernel
theorem dL_shows_297 : decode cL_shows 297 = .ok (.iadd, 1) := by decide +kernel
theorem dL_shows_298 : decode cL_shows 298 = .ok (.iaload, 1) := by decide +kernel
theorem dL_shows_299 : decode cL_shows 299 = .ok (.aload_n 2, 1) := by decide +kernel
theorem dL_shows_300 : decode cL_shows 300 = .ok (.iload 6, 2) := by decide +kernel
theorem dL_shows_302 : decode cL_shows 302 = .ok (.bipush 7, 2) := by decide +kernel
theorem dL_shows_304 : decode cL_shows 304 = .ok (.iadd, 1) := by decide +kernel
theorem dL_shows_305 : decode cL_shows 305 = .ok (.iaload, 1) := by decide +kernel
theorem dL_shows_306 : decode cL_shows 306 = .ok (.isub, 1) := by decide +kernel
theorem dL_shows_307 : decode cL_shows 307 = .ok (.if_icmp .ne 106, 3) := by decide +kernel
theorem dL_shows_310 : decode cL_shows 310 = .ok (.aload_n 0, 1) := by decide +kernel
theorem dL_shows_311 : decode cL_shows 311 = .ok (.iload 7, 2) := by decide +kernel
theorem dL_shows_313 : decode cL_shows 313 = .ok (.bipush 6, 2) := by decide +kernel
theorem dL_shows_315 : decode cL_shows 315 = .ok (.invokevirtual 79, 3) := by decide +kernel
theorem dL_shows_318 : decode cL_shows 318 = .ok (.aload_n 2, 1) := by decide +kernel
theorem dL_shows_319 : decode cL_shows 319 = .ok (.iload 6, 2) := by decide +kernel
theorem dL_shows_321 : decode cL_shows 321 = .ok (.iconst 3, 1) := by decide +kernel
theorem dL_shows_322 : decode cL_shows 322 = .ok (.iadd, 1) := by decide +kernel
theorem dL_shows_323 : decode cL_shows 323 = .ok (.iaload, 1) := by decide +kernel
theorem dL_shows_324 : decode cL_shows 324 = .ok (.iconst 2, 1) := by decide +kernel
theorem dL_shows_325 : decode cL_shows 325 = .ok (.if_icmp .ne 13, 3) := by decide +kernel
theorem dL_shows_328 : decode cL_shows 328 = .ok (.aload_n 2, 1) := by decide +kernel
theorem dL_shows_329 : decode cL_shows 329 = .ok (.iload 6, 2) := by decide +kernel
theorem dL_shows_331 : decode cL_shows 331 = .ok (.bipush 6, 2) := by decide +kernel
theorem dL_shows_333 : decode cL_shows 333 = .ok (.iadd, 1) := by decide +kernel
theorem dL_shows_334 : decode cL_shows 334 = .ok (.iaload, 1) := by decide +kernel
theorem dL_shows_335 : decode cL_shows 335 = .ok (.goto 4, 3) := by decide +kernel
theorem dL_shows_338 : decode cL_shows 338 = .ok (.iconst (-1), 1) := by decide +kernel
theorem dL_shows_339 : decode cL_shows 339 = .ok (.if_icmp .ne 74, 3) := by decide +kernel
theorem dL_shows_342 : decode cL_shows 342 = .ok (.aload_n 0, 1) := by decide +kernel
theorem dL_shows_343 : decode cL_shows 343 = .ok (.iload 7, 2) := by decide +kernel
theorem dL_shows_345 : decode cL_shows 345 = .ok (.invokevirtual 82, 3) := by decide +kernel
theorem dL_shows_348 : decode cL_shows 348 = .ok (.aload_n 2, 1) := by decide +kernel
theorem dL_shows_349 : decode cL_shows 349 = .ok (.iload 6, 2) := by decide +kernel
theorem dL_shows_351 : decode cL_shows 351 = .ok (.iconst 3, 1) := by decide +kernel
theorem dL_shows_352 : decode cL_shows 352 = .ok (.iadd, 1) := by decide +kernel
theorem dL_shows_353 : decode cL_shows 353 = .ok (.iaload, 1) := by decide +kernel
theorem dL_shows_354 : decode cL_shows 354 = .ok (.iconst 1, 1) := by decide +kernel
theorem dL_shows_355 : decode cL_shows 355 = .ok (.if_icmp .ne 16, 3) := by decide +kernel
theorem dL_shows_358 : decode cL_shows 358 = .ok (.iload 6, 2) := by decide +kernel
theorem dL_shows_360 : decode cL_shows 360 = .ok (.aload_n 1, 1) := by decide +kernel
theorem dL_shows_361 : decode cL_shows 361 = .ok (.aload_n 2, 1) := by decide +kernel
theorem dL_shows_362 : decode cL_shows 362 = .ok (.aload_n 3, 1) := by decide +kernel
theorem dL_shows_363 : decode cL_shows 363 = .ok (.aload 4, 2) := by decide +kernel
theorem dL_shows_365 : decode cL_shows 365 = .ok (.invokestatic 51, 3) := by decide +kernel
theorem dL_shows_368 : decode cL_shows 368 = .ok (.goto 4, 3) := by decide +kernel
theorem dL_shows_371 : decode cL_shows 371 = .ok (.iconst (-1), 1) := by decide +kernel
theorem dL_shows_372 : decode cL_shows 372 = .ok (.if_icmp .ne 41, 3) := by decide +kernel
theorem dL_shows_375 : decode cL_shows 375 = .ok (.aload_n 0, 1) := by decide +kernel
theorem dL_shows_376 : decode cL_shows 376 = .ok (.iload 7, 2) := by decide +kernel
theorem dL_shows_378 : decode cL_shows 378 = .ok (.invokevirtual 85, 3) := by decide +kernel
theorem dL_shows_381 : decode cL_shows 381 = .ok (.aload_n 2, 1) := by decide +kernel
theorem dL_shows_382 : decode cL_shows 382 = .ok (.iload 6, 2) := by decide +kernel
theorem dL_shows_384 : decode cL_shows 384 = .ok (.bipush 14, 2) := by decide +kernel
theorem dL_shows_386 : decode cL_shows 386 = .ok (.iadd, 1) := by decide +kernel
theorem dL_shows_387 : decode cL_shows 387 = .ok (.iaload, 1) := by decide +kernel
theorem dL_shows_388 : decode cL_shows 388 = .ok (.aload 4, 2) := by decide +kernel
theorem dL_shows_390 : decode cL_shows 390 = .ok (.iconst 0, 1) := by decide +kernel
theorem dL_shows_391 : decode cL_shows 391 = .ok (.iaload, 1) := by decide +kernel
theorem dL_shows_392 : decode cL_shows 392 = .ok (.if_icmp .le 7, 3) := by decide +kernel
theorem dL_shows_395 : decode cL_shows 395 = .ok (.iconst (-1), 1) := by decide +kernel
theorem dL_shows_396 : decode cL_shows 396 = .ok (.goto 10, 3) := by decide +kernel
theorem dL_shows_399 : decode cL_shows 399 = .ok (.aload_n 2, 1) := by decide +kernel
theorem dL_shows_400 : decode cL_shows 400 = .ok (.iload 6, 2) := by decide +kernel
theorem dL_shows_402 : decode cL_shows 402 = .ok (.bipush 13, 2) := by decide +kernel
theorem dL_shows_404 : decode cL_shows 404 = .ok (.iadd, 1) := by decide +kernel
theorem dL_shows_405 : decode cL_shows 405 = .ok (.iaload, 1) := by decide +kernel
theorem dL_shows_406 : decode cL_shows 406 = .ok (.if_icmp .ne 7, 3) := by decide +kernel
theorem dL_shows_409 : decode cL_shows 409 = .ok (.iconst 1, 1) := by decide +kernel
theorem dL_shows_410 : decode cL_shows 410 = .ok (.goto 4, 3) := by decide +kernel
theorem dL_shows_413 : decode cL_shows 413 = .ok (.iconst 0, 1) := by decide +kernel
theorem dL_shows_414 : decode cL_shows 414 = .ok (.istore 5, 2) := by decide +kernel
theorem dL_shows_416 : decode cL_shows 416 = .ok (.iinc 6 16, 3) := by decide +kernel
theorem dL_shows_419 : decode cL_shows 419 = .ok (.goto (-243), 3) := by decide +kernel
theorem dL_shows_422 : decode cL_shows 422 = .ok (.iload 5, 2) := by decide +kernel
theorem dL_shows_424 : decode cL_shows 424 = .ok (.ireturn, 1) := by decide +kernel
theorem dL_plans_0 : decode cL_plans 0 = .ok (.bipush 16, 2) := by decide +kernel
theorem dL_plans_2 : decode cL_plans 2 = .ok (.iload_n 1, 1) := by decide +kernel
theorem dL_plans_3 : decode cL_plans 3 = .ok (.imul, 1) := by decide +kernel
theorem dL_plans_4 : decode cL_plans 4 = .ok (.istore 6, 2) := by decide +kernel
theorem dL_plans_6 : decode cL_plans 6 = .ok (.iconst 1, 1) := by decide +kernel
theorem dL_plans_7 : decode cL_plans 7 = .ok (.iload_n 2, 1) := by decide +kernel
theorem dL_plans_8 : decode cL_plans 8 = .ok (.iconst 5, 1) := by decide +kernel
theorem dL_plans_9 : decode cL_plans 9 = .ok (.invokestatic 88, 3) := by decide +kernel
theorem dL_plans_12 : decode cL_plans 12 = .ok (.iadd, 1) := by decide +kernel
theorem dL_plans_13 : decode cL_plans 13 = .ok (.istore 7, 2) := by decide +kernel
theorem dL_plans_15 : decode cL_plans 15 = .ok (.aload_n 3, 1) := by decide +kernel
theorem dL_plans_16 : decode cL_plans 16 = .ok (.iload 6, 2) := by decide +kernel
theorem dL_plans_18 : decode cL_plans 18 = .ok (.iconst 4, 1) := by decide +kernel
theorem dL_plans_19 : decode cL_plans 19 = .ok (.iadd, 1) := by decide +kernel
theorem dL_plans_20 : decode cL_plans 20 = .ok (.iaload, 1) := by decide +kernel
theorem dL_plans_21 : decode cL_plans 21 = .ok (.istore 8, 2) := by decide +kernel
theorem dL_plans_23 : decode cL_plans 23 = .ok (.iconst 1, 1) := by decide +kernel
theorem dL_plans_24 : decode cL_plans 24 = .ok (.istore 9, 2) := by decide +kernel
theorem dL_plans_26 : decode cL_plans 26 = .ok (.bipush 8, 2) := by decide +kernel
theorem dL_plans_28 : decode cL_plans 28 = .ok (.newarray .int, 2) := by decide +kernel
theorem dL_plans_30 : decode cL_plans 30 = .ok (.astore 10, 2) := by decide +kernel
theorem dL_plans_32 : decode cL_plans 32 = .ok (.iconst 0, 1) := by decide +kernel
theorem dL_plans_33 : decode cL_plans 33 = .ok (.istore 11, 2) := by decide +kernel
theorem dL_plans_35 : decode cL_plans 35 = .ok (.iload 11, 2) := by decide +kernel
theorem dL_plans_37 : decode cL_plans 37 = .ok (.iload 7, 2) := by decide +kernel
theorem dL_plans_39 : decode cL_plans 39 = .ok (.if_icmp .ge 142, 3) := by decide +kernel
theorem dL_plans_42 : decode cL_plans 42 = .ok (.iload_n 2, 1) := by decide +kernel
theorem dL_plans_43 : decode cL_plans 43 = .ok (.iconst 3, 1) := by decide +kernel
theorem dL_plans_44 : decode cL_plans 44 = .ok (.iload 11, 2) := by decide +kernel
theorem dL_plans_46 : decode cL_plans 46 = .ok (.iadd, 1) := by decide +kernel
theorem dL_plans_47 : decode cL_plans 47 = .ok (.ishr, 1) := by decide +kernel
theorem dL_plans_48 : decode cL_plans 48 = .ok (.iconst 2, 1) := by decide +kernel
theorem dL_plans_49 : decode cL_plans 49 = .ok (.invokestatic 88, 3) := by decide +kernel
theorem dL_plans_52 : decode cL_plans 52 = .ok (.ifCond .ne 8, 3) := by decide +kernel
theorem dL_plans_55 : decode cL_plans 55 = .ok (.iload 8, 2) := by decide +kernel
theorem dL_plans_57 : decode cL_plans 57 = .ok (.goto 9, 3) := by decide +kernel
theorem dL_plans_60 : decode cL_plans 60 = .ok (.iload 8, 2) := by decide +kernel
theorem dL_plans_62 : decode cL_plans 62 = .ok (.iconst 3, 1) := by decide +kernel
theorem dL_plans_63 : decode cL_plans 63 = .ok (.iadd, 1) := by decide +kernel
theorem dL_plans_64 : decode cL_plans 64 = .ok (.iconst 4, 1) := by decide +kernel
theorem dL_plans_65 : decode cL_plans 65 = .ok (.irem, 1) := by decide +kernel
theorem dL_plans_66 : decode cL_plans 66 = .ok (.istore 12, 2) := by decide +kernel
theorem dL_plans_68 : decode cL_plans 68 = .ok (.iload_n 2, 1) := by decide +kernel
theorem dL_plans_69 : decode cL_plans 69 = .ok (.bipush 9, 2) := by decide +kernel
theorem dL_plans_71 : decode cL_plans 71 = .ok (.ishr, 1) := by decide +kernel
theorem dL_plans_72 : decode cL_plans 72 = .ok (.bipush 40, 2) := by decide +kernel
theorem dL_plans_74 : decode cL_plans 74 = .ok (.invokestatic 88, 3) := by decide +kernel
theorem dL_plans_77 : decode cL_plans 77 = .ok (.ifCond .ne 18, 3) := by decide +kernel
theorem dL_plans_80 : decode cL_plans 80 = .ok (.iload 11, 2) := by decide +kernel
theorem dL_plans_82 : decode cL_plans 82 = .ok (.iconst 1, 1) := by decide +kernel
theorem dL_plans_83 : decode cL_plans 83 = .ok (.if_icmp .ne 12, 3) := by decide +kernel
theorem dL_plans_86 : decode cL_plans 86 = .ok (.iload 8, 2) := by decide +kernel
theorem dL_plans_88 : decode cL_plans 88 = .ok (.iconst 1, 1) := by decide +kernel
theorem dL_plans_89 : decode cL_plans 89 = .ok (.iadd, 1) := by decide +kernel
theorem dL_plans_90 : decode cL_plans 90 = .ok (.iconst 4, 1) := by decide +kernel
theorem dL_plans_91 : decode cL_plans 91 = .ok (.irem, 1) := by decide +kernel
theorem dL_plans_92 : decode cL_plans 92 = .ok (.goto 5, 3) := by decide +kernel
theorem dL_plans_95 : decode cL_plans 95 = .ok (.iload 12, 2) := by decide +kernel
theorem dL_plans_97 : decode cL_plans 97 = .ok (.istore 12, 2) := by decide +kernel
theorem dL_plans_99 : decode cL_plans 99 = .ok (.aload 10, 2) := by decide +kernel
theorem dL_plans_101 : decode cL_plans 101 = .ok (.iload 11, 2) := by decide +kernel
theorem dL_plans_103 : decode cL_plans 103 = .ok (.iload 12, 2) := by decide +kernel
theorem dL_plans_105 : decode cL_plans 105 = .ok (.iastore, 1) := by decide +kernel
theorem dL_plans_106 : decode cL_plans 106 = .ok (.iload 9, 2) := by decide +kernel
theorem dL_plans_108 : decode cL_plans 108 = .ok (.ifCond .eq 20, 3) := by decide +kernel
theorem dL_plans_111 : decode cL_plans 111 = .ok (.aload_n 0, 1) := by decide +kernel
theorem dL_plans_112 : decode cL_plans 112 = .ok (.iload 12, 2) := by decide +kernel
theorem dL_plans_114 : decode cL_plans 114 = .ok (.invokevirtual 91, 3) := by decide +kernel
theorem dL_plans_117 : decode cL_plans 117 = .ok (.iload 11, 2) := by decide +kernel
theorem dL_plans_119 : decode cL_plans 119 = .ok (.iconst 1, 1) := by decide +kernel
theorem dL_plans_120 : decode cL_plans 120 = .ok (.iadd, 1) := by decide +kernel
theorem dL_plans_121 : decode cL_plans 121 = .ok (.if_icmp .ne 7, 3) := by decide +kernel
theorem dL_plans_124 : decode cL_plans 124 = .ok (.iconst 1, 1) := by decide +kernel
theorem dL_plans_125 : decode cL_plans 125 = .ok (.goto 4, 3) := by decide +kernel
theorem dL_plans_128 : decode cL_plans 128 = .ok (.iconst 0, 1) := by decide +kernel
theorem dL_plans_129 : decode cL_plans 129 = .ok (.istore 9, 2) := by decide +kernel
theorem dL_plans_131 : decode cL_plans 131 = .ok (.iload 8, 2) := by decide +kernel
theorem dL_plans_133 : decode cL_plans 133 = .ok (.ifCond .ge 8, 3) := by decide +kernel
theorem dL_plans_136 : decode cL_plans 136 = .ok (.iload 8, 2) := by decide +kernel
theorem dL_plans_138 : decode cL_plans 138 = .ok (.goto 10, 3) := by decide +kernel
theorem dL_plans_141 : decode cL_plans 141 = .ok (.iload 12, 2) := by decide +kernel
theorem dL_plans_143 : decode cL_plans 143 = .ok (.iload 8, 2) := by decide +kernel
theorem dL_plans_145 : decode cL_plans 145 = .ok (.invokestatic 44, 3) := by decide +kernel
theorem dL_plans_148 : decode cL_plans 148 = .ok (.istore 8, 2) := by decide +kernel
theorem dL_plans_150 : decode cL_plans 150 = .ok (.iload 8, 2) := by decide +kernel
theorem dL_plans_152 : decode cL_plans 152 = .ok (.ifCond .ge 8, 3) := by decide +kernel
theorem dL_plans_155 : decode cL_plans 155 = .ok (.bipush (-20), 2) := by decide +kernel
theorem dL_plans_157 : decode cL_plans 157 = .ok (.goto 5, 3) := by decide +kernel
theorem dL_plans_160 : decode cL_plans 160 = .ok (.iload 8, 2) := by decide +kernel
theorem dL_plans_162 : decode cL_plans 162 = .ok (.istore 8, 2) := by decide +kernel
theorem dL_plans_164 : decode cL_plans 164 = .ok (.iload 8, 2) := by decide +kernel
theorem dL_plans_166 : decode cL_plans 166 = .ok (.ifCond .ge 9, 3) := by decide +kernel
theorem dL_plans_169 : decode cL_plans 169 = .ok (.iload 11, 2) := by decide +kernel
theorem dL_plans_171 : decode cL_plans 171 = .ok (.iconst 1, 1) := by decide +kernel
theorem dL_plans_172 : decode cL_plans 172 = .ok (.iadd, 1) := by decide +kernel
theorem dL_plans_173 : decode cL_plans 173 = .ok (.istore 7, 2) := by decide +kernel
theorem dL_plans_175 : decode cL_plans 175 = .ok (.iinc 11 1, 3) := by decide +kernel
theorem dL_plans_178 : decode cL_plans 178 = .ok (.goto (-143), 3) := by decide +kernel
theorem dL_plans_181 : decode cL_plans 181 = .ok (.aload 5, 2) := by decide +kernel
theorem dL_plans_183 : decode cL_plans 183 = .ok (.iconst 0, 1) := by decide +kernel
theorem dL_plans_184 : decode cL_plans 184 = .ok (.iaload, 1) := by decide +kernel
theorem dL_plans_185 : decode cL_plans 185 = .ok (.iload_n 2, 1) := by decide +kernel
theorem dL_plans_186 : decode cL_plans 186 = .ok (.bipush 6, 2) := by decide +kernel
theorem dL_plans_188 : decode cL_plans 188 = .ok (.ishr, 1) := by decide +kernel
theorem dL_plans_189 : decode cL_plans 189 = .ok (.iconst 3, 1) := by decide +kernel
theorem dL_plans_190 : decode cL_plans 190 = .ok (.invokestatic 88, 3) := by decide +kernel
theorem dL_plans_193 : decode cL_plans 193 = .ok (.iload_n 2, 1) := by decide +kernel
theorem dL_plans_194 : decode cL_plans 194 = .ok (.bipush 8, 2) := by decide +kernel
theorem dL_plans_196 : decode cL_plans 196 = .ok (.ishr, 1) := by decide +kernel
theorem dL_plans_197 : decode cL_plans 197 = .ok (.bipush 20, 2) := by decide +kernel
theorem dL_plans_199 : decode cL_plans 199 = .ok (.invokestatic 88, 3) := by decide +kernel
theorem dL_plans_202 : decode cL_plans 202 = .ok (.imul, 1) := by decide +kernel
theorem dL_plans_203 : decode cL_plans 203 = .ok (.iadd, 1) := by decide +kernel
theorem dL_plans_204 : decode cL_plans 204 = .ok (.istore 11, 2) := by decide +kernel
theorem dL_plans_206 : decode cL_plans 206 = .ok (.iload_n 2, 1) := by decide +kernel
theorem dL_plans_207 : decode cL_plans 207 = .ok (.bipush 11, 2) := by decide +kernel
theorem dL_plans_209 : decode cL_plans 209 = .ok (.ishr, 1) := by decide +kernel
theorem dL_plans_210 : decode cL_plans 210 = .ok (.bipush 10, 2) := by decide +kernel
theorem dL_plans_212 : decode cL_plans 212 = .ok (.invokestatic 88, 3) := by decide +kernel
theorem dL_plans_215 : decode cL_plans 215 = .ok (.istore 12, 2) := by decide +kernel
theorem dL_plans_217 : decode cL_plans 217 = .ok (.aload_n 3, 1) := by decide +kernel
theorem dL_plans_218 : decode cL_plans 218 = .ok (.iload 6, 2) := by decide +kernel
theorem dL_plans_220 : decode cL_plans 220 = .ok (.iconst 3, 1) := by decide +kernel
theorem dL_plans_221 : decode cL_plans 221 = .ok (.iadd, 1) := by decide +kernel
theorem dL_plans_222 : decode cL_plans 222 = .ok (.iaload, 1) := by decide +kernel
theorem dL_plans_223 : decode cL_plans 223 = .ok (.iconst 2, 1) := by decide +kernel
theorem dL_plans_224 : decode cL_plans 224 = .ok (.if_icmp .ge 12, 3) := by decide +kernel
theorem dL_plans_227 : decode cL_plans 227 = .ok (.iload 8, 2) := by decide +kernel
theorem dL_plans_229 : decode cL_plans 229 = .ok (.ifCond .lt 7, 3) := by decide +kernel
theorem dL_plans_232 : decode cL_plans 232 = .ok (.iconst 1, 1) := by decide +kernel
theorem dL_plans_233 : decode cL_plans 233 = .ok (.goto 4, 3) := by decide +kernel
theorem dL_plans_236 : decode cL_plans 236 = .ok (.iconst 0, 1) := by decide +kernel
theorem dL_plans_237 : decode cL_plans 237 = .ok (.istore 13, 2) := by decide +kernel
theorem dL_plans_239 : decode cL_plans 239 = .ok (.iload 9, 2) := by decide +kernel
theorem dL_plans_241 : decode cL_plans 241 = .ok (.ifCond .eq 33, 3) := by decide +kernel
theorem dL_plans_244 : decode cL_plans 244 = .ok (.aload_n 0, 1) := by decide +kernel
theorem dL_plans_245 : decode cL_plans 245 = .ok (.iconst 1, 1) := by decide +kernel
theorem dL_plans_246 : decode cL_plans 246 = .ok (.iload_n 1, 1) := by decide +kernel
theorem dL_plans_247 : decode cL_plans 247 = .ok (.iload 11, 2) := by decide +kernel
theorem dL_plans_249 : decode cL_plans 249 = .ok (.iload 12, 2) := by decide +kernel
theorem dL_plans_251 : decode cL_plans 251 = .ok (.invokestatic 94, 3) := by decide +kernel
theorem dL_plans_254 : decode cL_plans 254 = .ok (.iload 13, 2) := by decide +kernel
theorem dL_plans_256 : decode cL_plans 256 = .ok (.ifCond .eq 8, 3) := by decide +kernel
theorem dL_plans_259 : decode cL_plans 259 = .ok (.iload 8, 2) := by decide +kernel
theorem dL_plans_261 : decode cL_plans 261 = .ok (.goto 6, 3) := by decide +kernel
theorem dL_plans_264 : decode cL_plans 264 = .ok (.sipush (-1003), 3) := by decide +kernel
theorem dL_plans_267 : decode cL_plans 267 = .ok (.if_icmp .ne 7, 3) := by decide +kernel
theorem dL_plans_270 : decode cL_plans 270 = .ok (.iconst 1, 1) := by decide +kernel
theorem dL_plans_271 : decode cL_plans 271 = .ok (.goto 4, 3) := by decide +kernel
theorem dL_plans_274 : decode cL_plans 274 = .ok (.iconst 0, 1) := by decide +kernel
theorem dL_plans_275 : decode cL_plans 275 = .ok (.istore 9, 2) := by decide +kernel
theorem dL_plans_277 : decode cL_plans 277 = .ok (.iconst 0, 1) := by decide +kernel
theorem dL_plans_278 : decode cL_plans 278 = .ok (.istore 14, 2) := by decide +kernel
theorem dL_plans_280 : decode cL_plans 280 = .ok (.iload 14, 2) := by decide +kernel
theorem dL_plans_282 : decode cL_plans 282 = .ok (.bipush 8, 2) := by decide +kernel
theorem dL_plans_284 : decode cL_plans 284 = .ok (.if_icmp .ge 29, 3) := by decide +kernel
theorem dL_plans_287 : decode cL_plans 287 = .ok (.iload 13, 2) := by decide +kernel
theorem dL_plans_289 : decode cL_plans 289 = .ok (.ifCond .eq 24, 3) := by decide +kernel
theorem dL_plans_292 : decode cL_plans 292 = .ok (.aload 4, 2) := by decide +kernel
theorem dL_plans_294 : decode cL_plans 294 = .ok (.bipush 8, 2) := by decide +kernel
theorem dL_plans_296 : decode cL_plans 296 = .ok (.iload_n 1, 1) := by decide +kernel
theorem dL_plans_297 : decode cL_plans 297 = .ok (.imul, 1) := by decide +kernel
theorem dL_plans_298 : decode cL_plans 298 = .ok (.iload 14, 2) := by decide +kernel
theorem dL_plans_300 : decode cL_plans 300 = .ok (.iadd, 1) := by decide +kernel
theorem dL_plans_301 : decode cL_plans 301 = .ok (.aload 10, 2) := by decide +kernel
theorem dL_plans_303 : decode cL_plans 303 = .ok (.iload 14, 2) := by decide +kernel
theorem dL_plans_305 : decode cL_plans 305 = .ok (.iaload, 1) := by decide +kernel
theorem dL_plans_306 : decode cL_plans 306 = .ok (.iastore, 1) := by decide +kernel
theorem dL_plans_307 : decode cL_plans 307 = .ok (.iinc 14 1, 3) := by decide +kernel
theorem dL_plans_310 : decode cL_plans 310 = .ok (.goto (-30), 3) := by decide +kernel
theorem dL_plans_313 : decode cL_plans 313 = .ok (.iload 13, 2) := by decide +kernel
theorem dL_plans_315 : decode cL_plans 315 = .ok (.ifCond .eq 45, 3) := by decide +kernel
theorem dL_plans_318 : decode cL_plans 318 = .ok (.aload_n 3, 1) := by decide +kernel
theorem dL_plans_319 : decode cL_plans 319 = .ok (.iload 6, 2) := by decide +kernel
theorem dL_plans_321 : decode cL_plans 321 = .ok (.iconst 3, 1) := by decide +kernel
theorem dL_plans_322 : decode cL_plans 322 = .ok (.iadd, 1) := by decide +kernel
theorem dL_plans_323 : decode cL_plans 323 = .ok (.iconst 1, 1) := by decide +kernel
theorem dL_plans_324 : decode cL_plans 324 = .ok (.iastore, 1) := by decide +kernel
theorem dL_plans_325 : decode cL_plans 325 = .ok (.aload_n 3, 1) := by decide +kernel
theorem dL_plans_326 : decode cL_plans 326 = .ok (.iload 6, 2) := by decide +kernel
theorem dL_plans_328 : decode cL_plans 328 = .ok (.bipush 7, 2) := by decide +kernel
theorem dL_plans_330 : decode cL_plans 330 = .ok (.iadd, 1) := by decide +kernel
theorem dL_plans_331 : decode cL_plans 331 = .ok (.iconst 0, 1) := by decide +kernel
theorem dL_plans_332 : decode cL_plans 332 = .ok (.iastore, 1) := by decide +kernel
theorem dL_plans_333 : decode cL_plans 333 = .ok (.aload_n 3, 1) := by decide +kernel
theorem dL_plans_334 : decode cL_plans 334 = .ok (.iload 6, 2) := by decide +kernel
theorem dL_plans_336 : decode cL_plans 336 = .ok (.bipush 8, 2) := by decide +kernel
theorem dL_plans_338 : decode cL_plans 338 = .ok (.iadd, 1) := by decide +kernel
theorem dL_plans_339 : decode cL_plans 339 = .ok (.iload 7, 2) := by decide +kernel
theorem dL_plans_341 : decode cL_plans 341 = .ok (.iastore, 1) := by decide +kernel
theorem dL_plans_342 : decode cL_plans 342 = .ok (.aload_n 3, 1) := by decide +kernel
theorem dL_plans_343 : decode cL_plans 343 = .ok (.iload 6, 2) := by decide +kernel
theorem dL_plans_345 : decode cL_plans 345 = .ok (.bipush 9, 2) := by decide +kernel
theorem dL_plans_347 : decode cL_plans 347 = .ok (.iadd, 1) := by decide +kernel
theorem dL_plans_348 : decode cL_plans 348 = .ok (.iload 11, 2) := by decide +kernel
theorem dL_plans_350 : decode cL_plans 350 = .ok (.iastore, 1) := by decide +kernel
theorem dL_plans_351 : decode cL_plans 351 = .ok (.aload_n 3, 1) := by decide +kernel
theorem dL_plans_352 : decode cL_plans 352 = .ok (.iload 6, 2) := by decide +kernel
theorem dL_plans_354 : decode cL_plans 354 = .ok (.bipush 10, 2) := by decide +kernel
theorem dL_plans_356 : decode cL_plans 356 = .ok (.iadd, 1) := by decide +kernel
theorem dL_plans_357 : decode cL_plans 357 = .ok (.iload 12, 2) := by decide +kernel
theorem dL_plans_359 : decode cL_plans 359 = .ok (.iastore, 1) := by decide +kernel
theorem dL_plans_360 : decode cL_plans 360 = .ok (.aload 5, 2) := by decide +kernel
theorem dL_plans_362 : decode cL_plans 362 = .ok (.iconst 3, 1) := by decide +kernel
theorem dL_plans_363 : decode cL_plans 363 = .ok (.iload 13, 2) := by decide +kernel
theorem dL_plans_365 : decode cL_plans 365 = .ok (.ifCond .eq 7, 3) := by decide +kernel
theorem dL_plans_368 : decode cL_plans 368 = .ok (.iconst 0, 1) := by decide +kernel
theorem dL_plans_369 : decode cL_plans 369 = .ok (.goto 5, 3) := by decide +kernel
theorem dL_plans_372 : decode cL_plans 372 = .ok (.iload 7, 2) := by decide +kernel
theorem dL_plans_374 : decode cL_plans 374 = .ok (.iastore, 1) := by decide +kernel
theorem dL_plans_375 : decode cL_plans 375 = .ok (.iload 9, 2) := by decide +kernel
theorem dL_plans_377 : decode cL_plans 377 = .ok (.ireturn, 1) := by decide +kernel
theorem dL_law_0 : decode cL_law 0 = .ok (.new 11, 3) := by decide +kernel
theorem dL_law_3 : decode cL_law 3 = .ok (.dup, 1) := by decide +kernel
theorem dL_law_4 : decode cL_law 4 = .ok (.invokespecial 98, 3) := by decide +kernel
theorem dL_law_7 : decode cL_law 7 = .ok (.astore_n 1, 1) := by decide +kernel
theorem dL_law_8 : decode cL_law 8 = .ok (.bipush 40, 2) := by decide +kernel
theorem dL_law_10 : decode cL_law 10 = .ok (.newarray .int, 2) := by decide +kernel
theorem dL_law_12 : decode cL_law 12 = .ok (.astore_n 2, 1) := by decide +kernel
theorem dL_law_13 : decode cL_law 13 = .ok (.bipush 48, 2) := by decide +kernel
theorem dL_law_15 : decode cL_law 15 = .ok (.newarray .int, 2) := by decide +kernel
theorem dL_law_17 : decode cL_law 17 = .ok (.astore_n 3, 1) := by decide +kernel
theorem dL_law_18 : decode cL_law 18 = .ok (.bipush 24, 2) := by decide +kernel
theorem dL_law_20 : decode cL_law 20 = .ok (.newarray .int, 2) := by decide +kernel
theorem dL_law_22 : decode cL_law 22 = .ok (.astore 4, 2) := by decide +kernel
theorem dL_law_24 : decode cL_law 24 = .ok (.bipush 8, 2) := by decide +kernel
theorem dL_law_26 : decode cL_law 26 = .ok (.newarray .int, 2) := by decide +kernel
theorem dL_law_28 : decode cL_law 28 = .ok (.astore 5, 2) := by decide +kernel
theorem dL_law_30 : decode cL_law 30 = .ok (.iconst 1, 1) := by decide +kernel
theorem dL_law_31 : decode cL_law 31 = .ok (.istore 6, 2) := by decide +kernel
theorem dL_law_33 : decode cL_law 33 = .ok (.aload 5, 2) := by decide +kernel
theorem dL_law_35 : decode cL_law 35 = .ok (.iconst 1, 1) := by decide +kernel
theorem dL_law_36 : decode cL_law 36 = .ok (.sipush 5000, 3) := by decide +kernel
theorem dL_law_39 : decode cL_law 39 = .ok (.iastore, 1) := by decide +kernel
theorem dL_law_40 : decode cL_law 40 = .ok (.iconst 0, 1) := by decide +kernel
theorem dL_law_41 : decode cL_law 41 = .ok (.istore 7, 2) := by decide +kernel
theorem dL_law_43 : decode cL_law 43 = .ok (.iload 7, 2) := by decide +kernel
theorem dL_law_45 : decode cL_law 45 = .ok (.iconst 4, 1) := by decide +kernel
theorem dL_law_46 : decode cL_law 46 = .ok (.if_icmp .ge 113, 3) := by decide +kernel
theorem dL_law_49 : decode cL_law 49 = .ok (.aload_n 0, 1) := by decide +kernel
theorem dL_law_50 : decode cL_law 50 = .ok (.iload 7, 2) := by decide +kernel
theorem dL_law_52 : decode cL_law 52 = .ok (.invokestatic 99, 3) := by decide +kernel
theorem dL_law_55 : decode cL_law 55 = .ok (.istore 8, 2) := by decide +kernel
theorem dL_law_57 : decode cL_law 57 = .ok (.aload_n 2, 1) := by decide +kernel
theorem dL_law_58 : decode cL_law 58 = .ok (.iload 7, 2) := by decide +kernel
theorem dL_law_60 : decode cL_law 60 = .ok (.iconst 2, 1) := by decide +kernel
theorem dL_law_61 : decode cL_law 61 = .ok (.iload 8, 2) := by decide +kernel
theorem dL_law_63 : decode cL_law 63 = .ok (.bipush 9, 2) := by decide +kernel
theorem dL_law_65 : decode cL_law 65 = .ok (.invokestatic 88, 3) := by decide +kernel
theorem dL_law_68 : decode cL_law 68 = .ok (.iadd, 1) := by decide +kernel
theorem dL_law_69 : decode cL_law 69 = .ok (.iastore, 1) := by decide +kernel
theorem dL_law_70 : decode cL_law 70 = .ok (.aload_n 2, 1) := by decide +kernel
theorem dL_law_71 : decode cL_law 71 = .ok (.iconst 4, 1) := by decide +kernel
theorem dL_law_72 : decode cL_law 72 = .ok (.iload 7, 2) := by decide +kernel
theorem dL_law_74 : decode cL_law 74 = .ok (.iadd, 1) := by decide +kernel
theorem dL_law_75 : decode cL_law 75 = .ok (.iload 8, 2) := by decide +kernel
theorem dL_law_77 : decode cL_law 77 = .ok (.iconst 4, 1) := by decide +kernel
theorem dL_law_78 : decode cL_law 78 = .ok (.ishr, 1) := by decide +kernel
theorem dL_law_79 : decode cL_law 79 = .ok (.iconst 4, 1) := by decide +kernel
theorem dL_law_80 : decode cL_law 80 = .ok (.invokestatic 88, 3) := by decide +kernel
theorem dL_law_83 : decode cL_law 83 = .ok (.iastore, 1) := by decide +kernel
theorem dL_law_84 : decode cL_law 84 = .ok (.aload_n 2, 1) := by decide +kernel
theorem dL_law_85 : decode cL_law 85 = .ok (.bipush 28, 2) := by decide +kernel
theorem dL_law_87 : decode cL_law 87 = .ok (.iload 7, 2) := by decide +kernel
theorem dL_law_89 : decode cL_law 89 = .ok (.iadd, 1) := by decide +kernel
theorem dL_law_90 : decode cL_law 90 = .ok (.iconst (-1), 1) := by decide +kernel
theorem dL_law_91 : decode cL_law 91 = .ok (.iastore, 1) := by decide +kernel
theorem dL_law_92 : decode cL_law 92 = .ok (.aload 5, 2) := by decide +kernel
theorem dL_law_94 : decode cL_law 94 = .ok (.iconst 4, 1) := by decide +kernel
theorem dL_law_95 : decode cL_law 95 = .ok (.iload 7, 2) := by decide +kernel
theorem dL_law_97 : decode cL_law 97 = .ok (.iadd, 1) := by decide +kernel
theorem dL_law_98 : decode cL_law 98 = .ok (.iconst 2, 1) := by decide +kernel
theorem dL_law_99 : decode cL_law 99 = .ok (.iastore, 1) := by decide +kernel
theorem dL_law_100 : decode cL_law 100 = .ok (.aload 5, 2) := by decide +kernel
theorem dL_law_102 : decode cL_law 102 = .ok (.iconst 1, 1) := by decide +kernel
theorem dL_law_103 : decode cL_law 103 = .ok (.dup2, 1) := by decide +kernel
theorem dL_law_104 : decode cL_law 104 = .ok (.iaload, 1) := by decide +kernel
theorem dL_law_105 : decode cL_law 105 = .ok (.bipush 100, 2) := by decide +kernel
theorem dL_law_107 : decode cL_law 107 = .ok (.aload_n 2, 1) := by decide +kernel
theorem dL_law_108 : decode cL_law 108 = .ok (.iload 7, 2) := by decide +kernel
theorem dL_law_110 : decode cL_law 110 = .ok (.iaload, 1) := by decide +kernel
theorem dL_law_111 : decode cL_law 111 = .ok (.imul, 1) := by decide +kernel
theorem dL_law_112 : decode cL_law 112 = .ok (.isub, 1) := by decide +kernel
theorem dL_law_113 : decode cL_law 113 = .ok (.iastore, 1) := by decide +kernel
theorem dL_law_114 : decode cL_law 114 = .ok (.iload 6, 2) := by decide +kernel
theorem dL_law_116 : decode cL_law 116 = .ok (.ifCond .eq 34, 3) := by decide +kernel
theorem dL_law_119 : decode cL_law 119 = .ok (.aload_n 1, 1) := by decide +kernel
theorem dL_law_120 : decode cL_law 120 = .ok (.iload 7, 2) := by decide +kernel
theorem dL_law_122 : decode cL_law 122 = .ok (.iload 7, 2) := by decide +kernel
theorem dL_law_124 : decode cL_law 124 = .ok (.iconst 1, 1) := by decide +kernel
theorem dL_law_125 : decode cL_law 125 = .ok (.iadd, 1) := by decide +kernel
theorem dL_law_126 : decode cL_law 126 = .ok (.iconst 4, 1) := by decide +kernel
theorem dL_law_127 : decode cL_law 127 = .ok (.irem, 1) := by decide +kernel
theorem dL_law_128 : decode cL_law 128 = .ok (.aload_n 2, 1) := by decide +kernel
theorem dL_law_129 : decode cL_law 129 = .ok (.iload 7, 2) := by decide +kernel
theorem dL_law_131 : decode cL_law 131 = .ok (.iaload, 1) := by decide +kernel
theorem dL_law_132 : decode cL_law 132 = .ok (.aload_n 2, 1) := by decide +kernel
theorem dL_law_133 : decode cL_law 133 = .ok (.iconst 4, 1) := by decide +kernel
theorem dL_law_134 : decode cL_law 134 = .ok (.iload 7, 2) := by decide +kernel
theorem dL_law_136 : decode cL_law 136 = .ok (.iadd, 1) := by decide +kernel
theorem dL_law_137 : decode cL_law 137 = .ok (.iaload, 1) := by decide +kernel
theorem dL_law_138 : decode cL_law 138 = .ok (.invokevirtual 103, 3) := by decide +kernel
theorem dL_law_141 : decode cL_law 141 = .ok (.iload 7, 2) := by decide +kernel
theorem dL_law_143 : decode cL_law 143 = .ok (.if_icmp .ne 7, 3) := by decide +kernel
theorem dL_law_146 : decode cL_law 146 = .ok (.iconst 1, 1) := by decide +kernel
theorem dL_law_147 : decode cL_law 147 = .ok (.goto 4, 3) := by decide +kernel
theorem dL_law_150 : decode cL_law 150 = .ok (.iconst 0, 1) := by decide +kernel
theorem dL_law_151 : decode cL_law 151 = .ok (.istore 6, 2) := by decide +kernel
theorem dL_law_153 : decode cL_law 153 = .ok (.iinc 7 1, 3) := by decide +kernel
theorem dL_law_156 : decode cL_law 156 = .ok (.goto (-113), 3) := by decide +kernel
theorem dL_law_159 : decode cL_law 159 = .ok (.iconst 0, 1) := by decide +kernel
theorem dL_law_160 : decode cL_law 160 = .ok (.istore 7, 2) := by decide +kernel
theorem dL_law_162 : decode cL_law 162 = .ok (.iload 7, 2) := by decide +kernel
theorem dL_law_164 : decode cL_law 164 = .ok (.iconst 3, 1) := by decide +kernel
theorem dL_law_165 : decode cL_law 165 = .ok (.if_icmp .ge 383, 3) := by decide +kernel
theorem dL_law_168 : decode cL_law 168 = .ok (.aload_n 0, 1) := by decide +kernel
theorem dL_law_169 : decode cL_law 169 = .ok (.iconst 4, 1) := by decide +kernel
theorem dL_law_170 : decode cL_law 170 = .ok (.iload 7, 2) := by decide +kernel
theorem dL_law_172 : decode cL_law 172 = .ok (.iadd, 1) := by decide +kernel
theorem dL_law_173 : decode cL_law 173 = .ok (.invokestatic 99, 3) := by decide +kernel
theorem dL_law_176 : decode cL_law 176 = .ok (.istore 8, 2) := by decide +kernel
theorem dL_law_178 : decode cL_law 178 = .ok (.bipush 16, 2) := by decide +kernel
theorem dL_law_180 : decode cL_law 180 = .ok (.iload 7, 2) := by decide +kernel
theorem dL_law_182 : decode cL_law 182 = .ok (.imul, 1) := by decide +kernel
theorem dL_law_183 : decode cL_law 183 = .ok (.istore 9, 2) := by decide +kernel
theorem dL_law_185 : decode cL_law 185 = .ok (.iload 8, 2) := by decide +kernel
theorem dL_law_187 : decode cL_law 187 = .ok (.iconst 4, 1) := by decide +kernel
theorem dL_law_188 : decode cL_law 188 = .ok (.invokestatic 88, 3) := by decide +kernel
theorem dL_law_191 : decode cL_law 191 = .ok (.istore 10, 2) := by decide +kernel
theorem dL_law_193 : decode cL_law 193 = .ok (.iload 10, 2) := by decide +kernel
theorem dL_law_195 : decode cL_law 195 = .ok (.aload_n 3, 1) := by decide +kernel
theorem dL_law_196 : decode cL_law 196 = .ok (.invokestatic 47, 3) := by decide +kernel
theorem dL_law_199 : decode cL_law 199 = .ok (.iconst 2, 1) := by decide +kernel
theorem dL_law_200 : decode cL_law 200 = .ok (.if_icmp .ge 7, 3) := by decide +kernel
theorem dL_law_203 : decode cL_law 203 = .ok (.iconst 1, 1) := by decide +kernel
theorem dL_law_204 : decode cL_law 204 = .ok (.goto 4, 3) := by decide +kernel
theorem dL_law_207 : decode cL_law 207 = .ok (.iconst 0, 1) := by decide +kernel
theorem dL_law_208 : decode cL_law 208 = .ok (.istore 11, 2) := by decide +kernel
theorem dL_law_210 : decode cL_law 210 = .ok (.aload_n 3, 1) := by decide +kernel
theorem dL_law_211 : decode cL_law 211 = .ok (.iload 9, 2) := by decide +kernel
theorem dL_law_213 : decode cL_law 213 = .ok (.iconst 1, 1) := by decide +kernel
theorem dL_law_214 : decode cL_law 214 = .ok (.iadd, 1) := by decide +kernel
theorem dL_law_215 : decode cL_law 215 = .ok (.iconst 1, 1) := by decide +kernel
theorem dL_law_216 : decode cL_law 216 = .ok (.iload 8, 2) := by decide +kernel
theorem dL_law_218 : decode cL_law 218 = .ok (.iconst 2, 1) := by decide +kernel
theorem dL_law_219 : decode cL_law 219 = .ok (.ishr, 1) := by decide +kernel
theorem dL_law_220 : decode cL_law 220 = .ok (.iconst 3, 1) := by decide +kernel
theorem dL_law_221 : decode cL_law 221 = .ok (.invokestatic 88, 3) := by decide +kernel
theorem dL_law_224 : decode cL_law 224 = .ok (.iadd, 1) := by decide +kernel
theorem dL_law_225 : decode cL_law 225 = .ok (.iastore, 1) := by decide +kernel
theorem dL_law_226 : decode cL_law 226 = .ok (.aload 5, 2) := by decide +kernel
theorem dL_law_228 : decode cL_law 228 = .ok (.iconst 1, 1) := by decide +kernel
theorem dL_law_229 : decode cL_law 229 = .ok (.dup2, 1) := by decide +kernel
theorem dL_law_230 : decode cL_law 230 = .ok (.iaload, 1) := by decide +kernel
theorem dL_law_231 : decode cL_law 231 = .ok (.bipush 100, 2) := by decide +kernel
theorem dL_law_233 : decode cL_law 233 = .ok (.aload_n 3, 1) := by decide +kernel
theorem dL_law_234 : decode cL_law 234 = .ok (.iload 9, 2) := by decide +kernel
theorem dL_law_236 : decode cL_law 236 = .ok (.iconst 1, 1) := by decide +kernel
theorem dL_law_237 : decode cL_law 237 = .ok (.iadd, 1) := by decide +kernel
theorem dL_law_238 : decode cL_law 238 = .ok (.iaload, 1) := by decide +kernel
theorem dL_law_239 : decode cL_law 239 = .ok (.imul, 1) := by decide +kernel
theorem dL_law_240 : decode cL_law 240 = .ok (.isub, 1) := by decide +kernel
theorem dL_law_241 : decode cL_law 241 = .ok (.iastore, 1) := by decide +kernel
theorem dL_law_242 : decode cL_law 242 = .ok (.iload 6, 2) := by decide +kernel
theorem dL_law_244 : decode cL_law 244 = .ok (.ifCond .eq 35, 3) := by decide +kernel
theorem dL_law_247 : decode cL_law 247 = .ok (.aload_n 1, 1) := by decide +kernel
theorem dL_law_248 : decode cL_law 248 = .ok (.iload 10, 2) := by decide +kernel
theorem dL_law_250 : decode cL_law 250 = .ok (.aload_n 3, 1) := by decide +kernel
theorem dL_law_251 : decode cL_law 251 = .ok (.iload 9, 2) := by decide +kernel
theorem dL_law_253 : decode cL_law 253 = .ok (.iconst 1, 1) := by decide +kernel
theorem dL_law_254 : decode cL_law 254 = .ok (.iadd, 1) := by decide +kernel
theorem dL_law_255 : decode cL_law 255 = .ok (.iaload, 1) := by decide +kernel
theorem dL_law_256 : decode cL_law 256 = .ok (.invokevirtual 107, 3) := by decide +kernel
theorem dL_law_259 : decode cL_law 259 = .ok (.iload 7, 2) := by decide +kernel
theorem dL_law_261 : decode cL_law 261 = .ok (.if_icmp .ne 18, 3) := by decide +kernel
theorem dL_law_264 : decode cL_law 264 = .ok (.aload_n 1, 1) := by decide +kernel
theorem dL_law_265 : decode cL_law 265 = .ok (.iload 10, 2) := by decide +kernel
theorem dL_law_267 : decode cL_law 267 = .ok (.invokevirtual 110, 3) := by decide +kernel
theorem dL_law_270 : decode cL_law 270 = .ok (.iload 7, 2) := by decide +kernel
theorem dL_law_272 : decode cL_law 272 = .ok (.if_icmp .ne 7, 3) := by decide +kernel
theorem dL_law_275 : decode cL_law 275 = .ok (.iconst 1, 1) := by decide +kernel
theorem dL_law_276 : decode cL_law 276 = .ok (.goto 4, 3) := by decide +kernel
theorem dL_law_279 : decode cL_law 279 = .ok (.iconst 0, 1) := by decide +kernel
theorem dL_law_280 : decode cL_law 280 = .ok (.istore 6, 2) := by decide +kernel
theorem dL_law_282 : decode cL_law 282 = .ok (.iconst 0, 1) := by decide +kernel
theorem dL_law_283 : decode cL_law 283 = .ok (.istore 12, 2) := by decide +kernel
theorem dL_law_285 : decode cL_law 285 = .ok (.iload 12, 2) := by decide +kernel
theorem dL_law_287 : decode cL_law 287 = .ok (.iconst 4, 1) := by decide +kernel
theorem dL_law_288 : decode cL_law 288 = .ok (.if_icmp .ge 82, 3) := by decide +kernel
theorem dL_law_291 : decode cL_law 291 = .ok (.iload 8, 2) := by decide +kernel
theorem dL_law_293 : decode cL_law 293 = .ok (.iconst 4, 1) := by decide +kernel
theorem dL_law_294 : decode cL_law 294 = .ok (.iload 12, 2) := by decide +kernel
theorem dL_law_296 : decode cL_law 296 = .ok (.iadd, 1) := by decide +kernel
theorem dL_law_297 : decode cL_law 297 = .ok (.ishr, 1) := by decide +kernel
theorem dL_law_298 : decode cL_law 298 = .ok (.bipush 6, 2) := by decide +kernel
theorem dL_law_300 : decode cL_law 300 = .ok (.invokestatic 88, 3) := by decide +kernel
theorem dL_law_303 : decode cL_law 303 = .ok (.ifCond .le 7, 3) := by decide +kernel
theorem dL_law_306 : decode cL_law 306 = .ok (.iconst 1, 1) := by decide +kernel
theorem dL_law_307 : decode cL_law 307 = .ok (.goto 4, 3) := by decide +kernel
theorem dL_law_310 : decode cL_law 310 = .ok (.iconst 0, 1) := by decide +kernel
theorem dL_law_311 : decode cL_law 311 = .ok (.istore 13, 2) := by decide +kernel
theorem dL_law_313 : decode cL_law 313 = .ok (.aload_n 3, 1) := by decide +kernel
theorem dL_law_314 : decode cL_law 314 = .ok (.iload 9, 2) := by decide +kernel
theorem dL_law_316 : decode cL_law 316 = .ok (.bipush 15, 2) := by decide +kernel
theorem dL_law_318 : decode cL_law 318 = .ok (.iadd, 1) := by decide +kernel
theorem dL_law_319 : decode cL_law 319 = .ok (.dup2, 1) := by decide +kernel
theorem dL_law_320 : decode cL_law 320 = .ok (.iaload, 1) := by decide +kernel
theorem dL_law_321 : decode cL_law 321 = .ok (.iload 13, 2) := by decide +kernel
theorem dL_law_323 : decode cL_law 323 = .ok (.ifCond .eq 10, 3) := by decide +kernel
theorem dL_law_326 : decode cL_law 326 = .ok (.iconst 1, 1) := by decide +kernel
theorem dL_law_327 : decode cL_law 327 = .ok (.iload 12, 2) := by decide +kernel
theorem dL_law_329 : decode cL_law 329 = .ok (.ishl, 1) := by decide +kernel
theorem dL_law_330 : decode cL_law 330 = .ok (.goto 4, 3) := by decide +kernel
theorem dL_law_333 : decode cL_law 333 = .ok (.iconst 0, 1) := by decide +kernel
theorem dL_law_334 : decode cL_law 334 = .ok (.ior, 1) := by decide +kernel
theorem dL_law_335 : decode cL_law 335 = .ok (.iastore, 1) := by decide +kernel
theorem dL_law_336 : decode cL_law 336 = .ok (.iload 6, 2) := by decide +kernel
theorem dL_law_338 : decode cL_law 338 = .ok (.ifCond .eq 23, 3) := by decide +kernel
theorem dL_law_341 : decode cL_law 341 = .ok (.iload 13, 2) := by decide +kernel
theorem dL_law_343 : decode cL_law 343 = .ok (.ifCond .eq 14, 3) := by decide +kernel
theorem dL_law_346 : decode cL_law 346 = .ok (.aload_n 1, 1) := by decide +kernel
theorem dL_law_347 : decode cL_law 347 = .ok (.iload 7, 2) := by decide +kernel
theorem dL_law_349 : decode cL_law 349 = .ok (.iload 12, 2) := by decide +kernel
theorem dL_law_351 : decode cL_law 351 = .ok (.invokevirtual 113, 3) := by decide +kernel
theorem dL_law_354 : decode cL_law 354 = .ok (.ifCond .le 7, 3) := by decide +kernel
theorem dL_law_357 : decode cL_law 357 = .ok (.iconst 1, 1) := by decide +kernel
theorem dL_law_358 : decode cL_law 358 = .ok (.goto 4, 3) := by decide +kernel
theorem dL_law_361 : decode cL_law 361 = .ok (.iconst 0, 1) := by decide +kernel
theorem dL_law_362 : decode cL_law 362 = .ok (.istore 6, 2) := by decide +kernel
theorem dL_law_364 : decode cL_law 364 = .ok (.iinc 12 1, 3) := by decide +kernel
theorem dL_law_367 : decode cL_law 367 = .ok (.goto (-82), 3) := by decide +kernel
theorem dL_law_370 : decode cL_law 370 = .ok (.aload_n 1, 1) := by decide +kernel
theorem dL_law_371 : decode cL_law 371 = .ok (.iconst 0, 1) := by decide +kernel
theorem dL_law_372 : decode cL_law 372 = .ok (.iload 7, 2) := by decide +kernel
theorem dL_law_374 : decode cL_law 374 = .ok (.iload 7, 2) := by decide +kernel
theorem dL_law_376 : decode cL_law 376 = .ok (.iconst 0, 1) := by decide +kernel
theorem dL_law_377 : decode cL_law 377 = .ok (.invokestatic 94, 3) := by decide +kernel
theorem dL_law_380 : decode cL_law 380 = .ok (.istore 12, 2) := by decide +kernel
theorem dL_law_382 : decode cL_law 382 = .ok (.iload 6, 2) := by decide +kernel
theorem dL_law_384 : decode cL_law 384 = .ok (.ifCond .eq 25, 3) := by decide +kernel
theorem dL_law_387 : decode cL_law 387 = .ok (.iload 12, 2) := by decide +kernel
theorem dL_law_389 : decode cL_law 389 = .ok (.iload 11, 2) := by decide +kernel
theorem dL_law_391 : decode cL_law 391 = .ok (.ifCond .eq 8, 3) := by decide +kernel
theorem dL_law_394 : decode cL_law 394 = .ok (.iload 7, 2) := by decide +kernel
theorem dL_law_396 : decode cL_law 396 = .ok (.goto 6, 3) := by decide +kernel
theorem dL_law_399 : decode cL_law 399 = .ok (.sipush (-1003), 3) := by decide +kernel
theorem dL_law_402 : decode cL_law 402 = .ok (.if_icmp .ne 7, 3) := by decide +kernel
theorem dL_law_405 : decode cL_law 405 = .ok (.iconst 1, 1) := by decide +kernel
theorem dL_law_406 : decode cL_law 406 = .ok (.goto 4, 3) := by decide +kernel
theorem dL_law_409 : decode cL_law 409 = .ok (.iconst 0, 1) := by decide +kernel
theorem dL_law_410 : decode cL_law 410 = .ok (.istore 6, 2) := by decide +kernel
theorem dL_law_412 : decode cL_law 412 = .ok (.aload_n 3, 1) := by decide +kernel
theorem dL_law_413 : decode cL_law 413 = .ok (.iload 9, 2) := by decide +kernel
theorem dL_law_415 : decode cL_law 415 = .ok (.iload 11, 2) := by decide +kernel
theorem dL_law_417 : decode cL_law 417 = .ok (.ifCond .eq 7, 3) := by decide +kernel
theorem dL_law_420 : decode cL_law 420 = .ok (.iconst 1, 1) := by decide +kernel
theorem dL_law_421 : decode cL_law 421 = .ok (.goto 4, 3) := by decide +kernel
theorem dL_law_424 : decode cL_law 424 = .ok (.iconst 0, 1) := by decide +kernel
theorem dL_law_425 : decode cL_law 425 = .ok (.iastore, 1) := by decide +kernel
theorem dL_law_426 : decode cL_law 426 = .ok (.aload_n 3, 1) := by decide +kernel
theorem dL_law_427 : decode cL_law 427 = .ok (.iload 9, 2) := by decide +kernel
theorem dL_law_429 : decode cL_law 429 = .ok (.iconst 4, 1) := by decide +kernel
theorem dL_law_430 : decode cL_law 430 = .ok (.iadd, 1) := by decide +kernel
theorem dL_law_431 : decode cL_law 431 = .ok (.iload 10, 2) := by decide +kernel
theorem dL_law_433 : decode cL_law 433 = .ok (.iastore, 1) := by decide +kernel
theorem dL_law_434 : decode cL_law 434 = .ok (.aload_n 3, 1) := by decide +kernel
theorem dL_law_435 : decode cL_law 435 = .ok (.iload 9, 2) := by decide +kernel
theorem dL_law_437 : decode cL_law 437 = .ok (.iconst 5, 1) := by decide +kernel
theorem dL_law_438 : decode cL_law 438 = .ok (.iadd, 1) := by decide +kernel
theorem dL_law_439 : decode cL_law 439 = .ok (.iconst (-1), 1) := by decide +kernel
theorem dL_law_440 : decode cL_law 440 = .ok (.iastore, 1) := by decide +kernel
theorem dL_law_441 : decode cL_law 441 = .ok (.aload_n 3, 1) := by decide +kernel
theorem dL_law_442 : decode cL_law 442 = .ok (.iload 9, 2) := by decide +kernel
theorem dL_law_444 : decode cL_law 444 = .ok (.bipush 11, 2) := by decide +kernel
theorem dL_law_446 : decode cL_law 446 = .ok (.iadd, 1) := by decide +kernel
theorem dL_law_447 : decode cL_law 447 = .ok (.iconst (-1), 1) := by decide +kernel
theorem dL_law_448 : decode cL_law 448 = .ok (.iastore, 1) := by decide +kernel
theorem dL_law_449 : decode cL_law 449 = .ok (.iconst 0, 1) := by decide +kernel
theorem dL_law_450 : decode cL_law 450 = .ok (.istore 13, 2) := by decide +kernel
theorem dL_law_452 : decode cL_law 452 = .ok (.iload 13, 2) := by decide +kernel
theorem dL_law_454 : decode cL_law 454 = .ok (.iconst 5, 1) := by decide +kernel
theorem dL_law_455 : decode cL_law 455 = .ok (.if_icmp .ge 87, 3) := by decide +kernel
theorem dL_law_458 : decode cL_law 458 = .ok (.iload 11, 2) := by decide +kernel
theorem dL_law_460 : decode cL_law 460 = .ok (.ifCond .eq 82, 3) := by decide +kernel
theorem dL_law_463 : decode cL_law 463 = .ok (.iload 8, 2) := by decide +kernel
theorem dL_law_465 : decode cL_law 465 = .ok (.bipush 9, 2) := by decide +kernel
theorem dL_law_467 : decode cL_law 467 = .ok (.ishr, 1) := by decide +kernel
theorem dL_law_468 : decode cL_law 468 = .ok (.bipush 6, 2) := by decide +kernel
theorem dL_law_470 : decode cL_law 470 = .ok (.invokestatic 88, 3) := by decide +kernel
theorem dL_law_473 : decode cL_law 473 = .ok (.iload 13, 2) := by decide +kernel
theorem dL_law_475 : decode cL_law 475 = .ok (.if_icmp .le 67, 3) := by decide +kernel
theorem dL_law_478 : decode cL_law 478 = .ok (.aload 5, 2) := by decide +kernel
theorem dL_law_480 : decode cL_law 480 = .ok (.iconst 1, 1) := by decide +kernel
theorem dL_law_481 : decode cL_law 481 = .ok (.dup2, 1) := by decide +kernel
theorem dL_law_482 : decode cL_law 482 = .ok (.iaload, 1) := by decide +kernel
theorem dL_law_483 : decode cL_law 483 = .ok (.bipush 50, 2) := by decide +kernel
theorem dL_law_485 : decode cL_law 485 = .ok (.isub, 1) := by decide +kernel
theorem dL_law_486 : decode cL_law 486 = .ok (.iastore, 1) := by decide +kernel
theorem dL_law_487 : decode cL_law 487 = .ok (.aload_n 1, 1) := by decide +kernel
theorem dL_law_488 : decode cL_law 488 = .ok (.iload 10, 2) := by decide +kernel
theorem dL_law_490 : decode cL_law 490 = .ok (.invokevirtual 116, 3) := by decide +kernel
theorem dL_law_493 : decode cL_law 493 = .ok (.istore 14, 2) := by decide +kernel
theorem dL_law_495 : decode cL_law 495 = .ok (.aload_n 3, 1) := by decide +kernel
theorem dL_law_496 : decode cL_law 496 = .ok (.iload 9, 2) := by decide +kernel
theorem dL_law_498 : decode cL_law 498 = .ok (.iconst 2, 1) := by decide +kernel
theorem dL_law_499 : decode cL_law 499 = .ok (.iadd, 1) := by decide +kernel
theorem dL_law_500 : decode cL_law 500 = .ok (.dup2, 1) := by decide +kernel
theorem dL_law_501 : decode cL_law 501 = .ok (.iaload, 1) := by decide +kernel
theorem dL_law_502 : decode cL_law 502 = .ok (.iconst 1, 1) := by decide +kernel
theorem dL_law_503 : decode cL_law 503 = .ok (.iadd, 1) := by decide +kernel
theorem dL_law_504 : decode cL_law 504 = .ok (.iastore, 1) := by decide +kernel
theorem dL_law_505 : decode cL_law 505 = .ok (.iload 6, 2) := by decide +kernel
theorem dL_law_507 : decode cL_law 507 = .ok (.ifCond .eq 26, 3) := by decide +kernel
theorem dL_law_510 : decode cL_law 510 = .ok (.aload_n 1, 1) := by decide +kernel
theorem dL_law_511 : decode cL_law 511 = .ok (.iconst 5, 1) := by decide +kernel
theorem dL_law_512 : decode cL_law 512 = .ok (.iload 7, 2) := by decide +kernel
theorem dL_law_514 : decode cL_law 514 = .ok (.iload 14, 2) := by decide +kernel
theorem dL_law_516 : decode cL_law 516 = .ok (.iconst 0, 1) := by decide +kernel
theorem dL_law_517 : decode cL_law 517 = .ok (.invokestatic 94, 3) := by decide +kernel
theorem dL_law_520 : decode cL_law 520 = .ok (.aload_n 3, 1) := by decide +kernel
theorem dL_law_521 : decode cL_law 521 = .ok (.iload 9, 2) := by decide +kernel
theorem dL_law_523 : decode cL_law 523 = .ok (.iconst 2, 1) := by decide +kernel
theorem dL_law_524 : decode cL_law 524 = .ok (.iadd, 1) := by decide +kernel
theorem dL_law_525 : decode cL_law 525 = .ok (.iaload, 1) := by decide +kernel
theorem dL_law_526 : decode cL_law 526 = .ok (.if_icmp .ne 7, 3) := by decide +kernel
theorem dL_law_529 : decode cL_law 529 = .ok (.iconst 1, 1) := by decide +kernel
theorem dL_law_530 : decode cL_law 530 = .ok (.goto 4, 3) := by decide +kernel
theorem dL_law_533 : decode cL_law 533 = .ok (.iconst 0, 1) := by decide +kernel
theorem dL_law_534 : decode cL_law 534 = .ok (.istore 6, 2) := by decide +kernel
theorem dL_law_536 : decode cL_law 536 = .ok (.iinc 13 1, 3) := by decide +kernel
theorem dL_law_539 : decode cL_law 539 = .ok (.goto (-87), 3) := by decide +kernel
theorem dL_law_542 : decode cL_law 542 = .ok (.iinc 7 1, 3) := by decide +kernel
theorem dL_law_545 : decode cL_law 545 = .ok (.goto (-383), 3) := by decide +kernel
theorem dL_law_548 : decode cL_law 548 = .ok (.iconst 0, 1) := by decide +kernel
theorem dL_law_549 : decode cL_law 549 = .ok (.istore 7, 2) := by decide +kernel
theorem dL_law_551 : decode cL_law 551 = .ok (.iload 7, 2) := by decide +kernel
theorem dL_law_553 : decode cL_law 553 = .ok (.bipush 50, 2) := by decide +kernel
theorem dL_law_555 : decode cL_law 555 = .ok (.if_icmp .ge 932, 3) := by decide +kernel
theorem dL_law_558 : decode cL_law 558 = .ok (.iload 6, 2) := by decide +kernel
theorem dL_law_560 : decode cL_law 560 = .ok (.ifCond .eq 927, 3) := by decide +kernel
theorem dL_law_563 : decode cL_law 563 = .ok (.aload_n 0, 1) := by decide +kernel
theorem dL_law_564 : decode cL_law 564 = .ok (.bipush 7, 2) := by decide +kernel
theorem dL_law_566 : decode cL_law 566 = .ok (.iload 7, 2) := by decide +kernel
theorem dL_law_568 : decode cL_law 568 = .ok (.iadd, 1) := by decide +kernel
theorem dL_law_569 : decode cL_law 569 = .ok (.invokestatic 99, 3) := by decide +kernel
theorem dL_law_572 : decode cL_law 572 = .ok (.istore 8, 2) := by decide +kernel
theorem dL_law_574 : decode cL_law 574 = .ok (.iload 8, 2) := by decide +kernel
theorem dL_law_576 : decode cL_law 576 = .ok (.bipush 16, 2) := by decide +kernel
theorem dL_law_578 : decode cL_law 578 = .ok (.invokestatic 88, 3) := by decide +kernel
theorem dL_law_581 : decode cL_law 581 = .ok (.istore 9, 2) := by decide +kernel
theorem dL_law_583 : decode cL_law 583 = .ok (.iload 8, 2) := by decide +kernel
theorem dL_law_585 : decode cL_law 585 = .ok (.iconst 4, 1) := by decide +kernel
theorem dL_law_586 : decode cL_law 586 = .ok (.ishr, 1) := by decide +kernel
theorem dL_law_587 : decode cL_law 587 = .ok (.iconst 3, 1) := by decide +kernel
theorem dL_law_588 : decode cL_law 588 = .ok (.invokestatic 88, 3) := by decide +kernel
theorem dL_law_591 : decode cL_law 591 = .ok (.istore 10, 2) := by decide +kernel
theorem dL_law_593 : decode cL_law 593 = .ok (.bipush 16, 2) := by decide +kernel
theorem dL_law_595 : decode cL_law 595 = .ok (.iload 10, 2) := by decide +kernel
theorem dL_law_597 : decode cL_law 597 = .ok (.imul, 1) := by decide +kernel
theorem dL_law_598 : decode cL_law 598 = .ok (.istore 11, 2) := by decide +kernel
theorem dL_law_600 : decode cL_law 600 = .ok (.iload 8, 2) := by decide +kernel
theorem dL_law_602 : decode cL_law 602 = .ok (.bipush 6, 2) := by decide +kernel
theorem dL_law_604 : decode cL_law 604 = .ok (.ishr, 1) := by decide +kernel
theorem dL_law_605 : decode cL_law 605 = .ok (.iconst 4, 1) := by decide +kernel
theorem dL_law_606 : decode cL_law 606 = .ok (.invokestatic 88, 3) := by decide +kernel
theorem dL_law_609 : decode cL_law 609 = .ok (.istore 12, 2) := by decide +kernel
theorem dL_law_611 : decode cL_law 611 = .ok (.iload 9, 2) := by decide +kernel
theorem dL_law_613 : decode cL_law 613 = .ok (.iconst 5, 1) := by decide +kernel
theorem dL_law_614 : decode cL_law 614 = .ok (.if_icmp .ge 49, 3) := by decide +kernel
theorem dL_law_617 : decode cL_law 617 = .ok (.aload_n 3, 1) := by decide +kernel
theorem dL_law_618 : decode cL_law 618 = .ok (.iload 11, 2) := by decide +kernel
theorem dL_law_620 : decode cL_law 620 = .ok (.iaload, 1) := by decide +kernel
theorem dL_law_621 : decode cL_law 621 = .ok (.iconst 1, 1) := by decide +kernel
theorem dL_law_622 : decode cL_law 622 = .ok (.if_icmp .ne 41, 3) := by decide +kernel
theorem dL_law_625 : decode cL_law 625 = .ok (.aload_n 3, 1) := by decide +kernel
theorem dL_law_626 : decode cL_law 626 = .ok (.iload 11, 2) := by decide +kernel
theorem dL_law_628 : decode cL_law 628 = .ok (.iconst 3, 1) := by decide +kernel
theorem dL_law_629 : decode cL_law 629 = .ok (.iadd, 1) := by decide +kernel
theorem dL_law_630 : decode cL_law 630 = .ok (.iaload, 1) := by decide +kernel
theorem dL_law_631 : decode cL_law 631 = .ok (.iconst 2, 1) := by decide +kernel
theorem dL_law_632 : decode cL_law 632 = .ok (.if_icmp .ge 31, 3) := by decide +kernel
theorem dL_law_635 : decode cL_law 635 = .ok (.aload 5, 2) := by decide +kernel
theorem dL_law_637 : decode cL_law 637 = .ok (.iconst 3, 1) := by decide +kernel
theorem dL_law_638 : decode cL_law 638 = .ok (.iaload, 1) := by decide +kernel
theorem dL_law_639 : decode cL_law 639 = .ok (.ifCond .ne 24, 3) := by decide +kernel
theorem dL_law_642 : decode cL_law 642 = .ok (.aload_n 1, 1) := by decide +kernel
theorem dL_law_643 : decode cL_law 643 = .ok (.iload 10, 2) := by decide +kernel
theorem dL_law_645 : decode cL_law 645 = .ok (.iload 8, 2) := by decide +kernel
theorem dL_law_647 : decode cL_law 647 = .ok (.bipush 8, 2) := by decide +kernel
theorem dL_law_649 : decode cL_law 649 = .ok (.ishr, 1) := by decide +kernel
theorem dL_law_650 : decode cL_law 650 = .ok (.aload_n 3, 1) := by decide +kernel
theorem dL_law_651 : decode cL_law 651 = .ok (.aload 4, 2) := by decide +kernel
theorem dL_law_653 : decode cL_law 653 = .ok (.aload 5, 2) := by decide +kernel
theorem dL_law_655 : decode cL_law 655 = .ok (.invokestatic 119, 3) := by decide +kernel
theorem dL_law_658 : decode cL_law 658 = .ok (.istore 6, 2) := by decide +kernel
theorem dL_law_660 : decode cL_law 660 = .ok (.goto 796, 3) := by decide +kernel
theorem dL_law_663 : decode cL_law 663 = .ok (.iload 9, 2) := by decide +kernel
theorem dL_law_665 : decode cL_law 665 = .ok (.iconst 5, 1) := by decide +kernel
theorem dL_law_666 : decode cL_law 666 = .ok (.if_icmp .ne 77, 3) := by decide +kernel
theorem dL_law_669 : decode cL_law 669 = .ok (.iload 8, 2) := by decide +kernel
theorem dL_law_671 : decode cL_law 671 = .ok (.bipush 8, 2) := by decide +kernel
theorem dL_law_673 : decode cL_law 673 = .ok (.ishr, 1) := by decide +kernel
theorem dL_law_674 : decode cL_law 674 = .ok (.iconst 2, 1) := by decide +kernel
theorem dL_law_675 : decode cL_law 675 = .ok (.invokestatic 88, 3) := by decide +kernel
theorem dL_law_678 : decode cL_law 678 = .ok (.istore 13, 2) := by decide +kernel
theorem dL_law_680 : decode cL_law 680 = .ok (.aload_n 1, 1) := by decide +kernel
theorem dL_law_681 : decode cL_law 681 = .ok (.iload 12, 2) := by decide +kernel
theorem dL_law_683 : decode cL_law 683 = .ok (.iload 13, 2) := by decide +kernel
theorem dL_law_685 : decode cL_law 685 = .ok (.iconst 1, 1) := by decide +kernel
theorem dL_law_686 : decode cL_law 686 = .ok (.if_icmp .ne 7, 3) := by decide +kernel
theorem dL_law_689 : decode cL_law 689 = .ok (.iconst 1, 1) := by decide +kernel
theorem dL_law_690 : decode cL_law 690 = .ok (.goto 4, 3) := by decide +kernel
theorem dL_law_693 : decode cL_law 693 = .ok (.iconst 0, 1) := by decide +kernel
theorem dL_law_694 : decode cL_law 694 = .ok (.invokevirtual 123, 3) := by decide +kernel
theorem dL_law_697 : decode cL_law 697 = .ok (.aload_n 2, 1) := by decide +kernel
theorem dL_law_698 : decode cL_law 698 = .ok (.bipush 12, 2) := by decide +kernel
theorem dL_law_700 : decode cL_law 700 = .ok (.iload 12, 2) := by decide +kernel
theorem dL_law_702 : decode cL_law 702 = .ok (.iadd, 1) := by decide +kernel
theorem dL_law_703 : decode cL_law 703 = .ok (.iaload, 1) := by decide +kernel
theorem dL_law_704 : decode cL_law 704 = .ok (.iconst 1, 1) := by decide +kernel
theorem dL_law_705 : decode cL_law 705 = .ok (.if_icmp .ne 7, 3) := by decide +kernel
theorem dL_law_708 : decode cL_law 708 = .ok (.iconst 1, 1) := by decide +kernel
theorem dL_law_709 : decode cL_law 709 = .ok (.goto 4, 3) := by decide +kernel
theorem dL_law_712 : decode cL_law 712 = .ok (.iconst 0, 1) := by decide +kernel
theorem dL_law_713 : decode cL_law 713 = .ok (.if_icmp .ne 7, 3) := by decide +kernel
theorem dL_law_716 : decode cL_law 716 = .ok (.iconst 1, 1) := by decide +kernel
theorem dL_law_717 : decode cL_law 717 = .ok (.goto 4, 3) := by decide +kernel
theorem dL_law_720 : decode cL_law 720 = .ok (.iconst 0, 1) := by decide +kernel
theorem dL_law_721 : decode cL_law 721 = .ok (.istore 6, 2) := by decide +kernel
theorem dL_law_723 : decode cL_law 723 = .ok (.aload_n 2, 1) := by decide +kernel
theorem dL_law_724 : decode cL_law 724 = .ok (.bipush 12, 2) := by decide +kernel
theorem dL_law_726 : decode cL_law 726 = .ok (.iload 12, 2) := by decide +kernel
theorem dL_law_728 : decode cL_law 728 = .ok (.iadd, 1) := by decide +kernel
theorem dL_law_729 : decode cL_law 729 = .ok (.iload 13, 2) := by decide +kernel
theorem dL_law_731 : decode cL_law 731 = .ok (.iastore, 1) := by decide +kernel
theorem dL_law_732 : decode cL_law 732 = .ok (.aload_n 2, 1) := by decide +kernel
theorem dL_law_733 : decode cL_law 733 = .ok (.bipush 16, 2) := by decide +kernel
theorem dL_law_735 : decode cL_law 735 = .ok (.iload 12, 2) := by decide +kernel
theorem dL_law_737 : decode cL_law 737 = .ok (.iadd, 1) := by decide +kernel
theorem dL_law_738 : decode cL_law 738 = .ok (.iconst 0, 1) := by decide +kernel
theorem dL_law_739 : decode cL_law 739 = .ok (.iastore, 1) := by decide +kernel
theorem dL_law_740 : decode cL_law 740 = .ok (.goto 716, 3) := by decide +kernel
theorem dL_law_743 : decode cL_law 743 = .ok (.iload 9, 2) := by decide +kernel
theorem dL_law_745 : decode cL_law 745 = .ok (.bipush 6, 2) := by decide +kernel
theorem dL_law_747 : decode cL_law 747 = .ok (.if_icmp .ne 41, 3) := by decide +kernel
theorem dL_law_750 : decode cL_law 750 = .ok (.aload_n 2, 1) := by decide +kernel
theorem dL_law_751 : decode cL_law 751 = .ok (.bipush 12, 2) := by decide +kernel
theorem dL_law_753 : decode cL_law 753 = .ok (.iload 12, 2) := by decide +kernel
theorem dL_law_755 : decode cL_law 755 = .ok (.iadd, 1) := by decide +kernel
theorem dL_law_756 : decode cL_law 756 = .ok (.iaload, 1) := by decide +kernel
theorem dL_law_757 : decode cL_law 757 = .ok (.iconst 1, 1) := by decide +kernel
theorem dL_law_758 : decode cL_law 758 = .ok (.if_icmp .ne 30, 3) := by decide +kernel
theorem dL_law_761 : decode cL_law 761 = .ok (.aload_n 2, 1) := by decide +kernel
theorem dL_law_762 : decode cL_law 762 = .ok (.bipush 16, 2) := by decide +kernel
theorem dL_law_764 : decode cL_law 764 = .ok (.iload 12, 2) := by decide +kernel
theorem dL_law_766 : decode cL_law 766 = .ok (.iadd, 1) := by decide +kernel
theorem dL_law_767 : decode cL_law 767 = .ok (.iaload, 1) := by decide +kernel
theorem dL_law_768 : decode cL_law 768 = .ok (.ifCond .ne 20, 3) := by decide +kernel
theorem dL_law_771 : decode cL_law 771 = .ok (.aload_n 1, 1) := by decide +kernel
theorem dL_law_772 : decode cL_law 772 = .ok (.iload 12, 2) := by decide +kernel
theorem dL_law_774 : decode cL_law 774 = .ok (.invokevirtual 127, 3) := by decide +kernel
theorem dL_law_777 : decode cL_law 777 = .ok (.aload_n 2, 1) := by decide +kernel
theorem dL_law_778 : decode cL_law 778 = .ok (.bipush 16, 2) := by decide +kernel
theorem dL_law_780 : decode cL_law 780 = .ok (.iload 12, 2) := by decide +kernel
theorem dL_law_782 : decode cL_law 782 = .ok (.iadd, 1) := by decide +kernel
theorem dL_law_783 : decode cL_law 783 = .ok (.iconst 1, 1) := by decide +kernel
theorem dL_law_784 : decode cL_law 784 = .ok (.iastore, 1) := by decide +kernel
theorem dL_law_785 : decode cL_law 785 = .ok (.goto 671, 3) := by decide +kernel
theorem dL_law_788 : decode cL_law 788 = .ok (.iload 9, 2) := by decide +kernel
theorem dL_law_790 : decode cL_law 790 = .ok (.bipush 7, 2) := by decide +kernel
theorem dL_law_792 : decode cL_law 792 = .ok (.if_icmp .ne 95, 3) := by decide +kernel
theorem dL_law_795 : decode cL_law 795 = .ok (.aload 5, 2) := by decide +kernel
theorem dL_law_797 : decode cL_law 797 = .ok (.iconst 0, 1) := by decide +kernel
theorem dL_law_798 : decode cL_law 798 = .ok (.iaload, 1) := by decide +kernel
theorem dL_law_799 : decode cL_law 799 = .ok (.iload 8, 2) := by decide +kernel
theorem dL_law_801 : decode cL_law 801 = .ok (.bipush 8, 2) := by decide +kernel
theorem dL_law_803 : decode cL_law 803 = .ok (.ishr, 1) := by decide +kernel
theorem dL_law_804 : decode cL_law 804 = .ok (.bipush 30, 2) := by decide +kernel
theorem dL_law_806 : decode cL_law 806 = .ok (.invokestatic 88, 3) := by decide +kernel
theorem dL_law_809 : decode cL_law 809 = .ok (.iadd, 1) := by decide +kernel
theorem dL_law_810 : decode cL_law 810 = .ok (.sipush 1440, 3) := by decide +kernel
theorem dL_law_813 : decode cL_law 813 = .ok (.irem, 1) := by decide +kernel
theorem dL_law_814 : decode cL_law 814 = .ok (.istore 13, 2) := by decide +kernel
theorem dL_law_816 : decode cL_law 816 = .ok (.iload 13, 2) := by decide +kernel
theorem dL_law_818 : decode cL_law 818 = .ok (.iload 8, 2) := by decide +kernel
theorem dL_law_820 : decode cL_law 820 = .ok (.bipush 13, 2) := by decide +kernel
theorem dL_law_822 : decode cL_law 822 = .ok (.ishr, 1) := by decide +kernel
theorem dL_law_823 : decode cL_law 823 = .ok (.bipush 20, 2) := by decide +kernel
theorem dL_law_825 : decode cL_law 825 = .ok (.invokestatic 88, 3) := by decide +kernel
theorem dL_law_828 : decode cL_law 828 = .ok (.iadd, 1) := by decide +kernel
theorem dL_law_829 : decode cL_law 829 = .ok (.sipush 1440, 3) := by decide +kernel
theorem dL_law_832 : decode cL_law 832 = .ok (.if_icmp .le 9, 3) := by decide +kernel
theorem dL_law_835 : decode cL_law 835 = .ok (.sipush 1440, 3) := by decide +kernel
theorem dL_law_838 : decode cL_law 838 = .ok (.goto 16, 3) := by decide +kernel
theorem dL_law_841 : decode cL_law 841 = .ok (.iload 13, 2) := by decide +kernel
theorem dL_law_843 : decode cL_law 843 = .ok (.iload 8, 2) := by decide +kernel
theorem dL_law_845 : decode cL_law 845 = .ok (.bipush 13, 2) := by decide +kernel
theorem dL_law_847 : decode cL_law 847 = .ok (.ishr, 1) := by decide +kernel
theorem dL_law_848 : decode cL_law 848 = .ok (.bipush 20, 2) := by decide +kernel
theorem dL_law_850 : decode cL_law 850 = .ok (.invokestatic 88, 3) := by decide +kernel
theorem dL_law_853 : decode cL_law 853 = .ok (.iadd, 1) := by decide +kernel
theorem dL_law_854 : decode cL_law 854 = .ok (.istore 14, 2) := by decide +kernel
theorem dL_law_856 : decode cL_law 856 = .ok (.aload_n 1, 1) := by decide +kernel
theorem dL_law_857 : decode cL_law 857 = .ok (.iload 12, 2) := by decide +kernel
theorem dL_law_859 : decode cL_law 859 = .ok (.iload 13, 2) := by decide +kernel
theorem dL_law_861 : decode cL_law 861 = .ok (.iload 14, 2) := by decide +kernel
theorem dL_law_863 : decode cL_law 863 = .ok (.invokevirtual 131, 3) := by decide +kernel
theorem dL_law_866 : decode cL_law 866 = .ok (.aload_n 2, 1) := by decide +kernel
theorem dL_law_867 : decode cL_law 867 = .ok (.bipush 20, 2) := by decide +kernel
theorem dL_law_869 : decode cL_law 869 = .ok (.iload 12, 2) := by decide +kernel
theorem dL_law_871 : decode cL_law 871 = .ok (.iadd, 1) := by decide +kernel
theorem dL_law_872 : decode cL_law 872 = .ok (.iload 13, 2) := by decide +kernel
theorem dL_law_874 : decode cL_law 874 = .ok (.iastore, 1) := by decide +kernel
theorem dL_law_875 : decode cL_law 875 = .ok (.aload_n 2, 1) := by decide +kernel
theorem dL_law_876 : decode cL_law 876 = .ok (.bipush 24, 2) := by decide +kernel
theorem dL_law_878 : decode cL_law 878 = .ok (.iload 12, 2) := by decide +kernel
theorem dL_law_880 : decode cL_law 880 = .ok (.iadd, 1) := by decide +kernel
theorem dL_law_881 : decode cL_law 881 = .ok (.iload 14, 2) := by decide +kernel
theorem dL_law_883 : decode cL_law 883 = .ok (.iastore, 1) := by decide +kernel
theorem dL_law_884 : decode cL_law 884 = .ok (.goto 572, 3) := by decide +kernel
theorem dL_law_887 : decode cL_law 887 = .ok (.iload 9, 2) := by decide +kernel
theorem dL_law_889 : decode cL_law 889 = .ok (.bipush 8, 2) := by decide +kernel
theorem dL_law_891 : decode cL_law 891 = .ok (.if_icmp .ne 153, 3) := by decide +kernel
theorem dL_law_894 : decode cL_law 894 = .ok (.aload_n 2, 1) := by decide +kernel
theorem dL_law_895 : decode cL_law 895 = .ok (.bipush 28, 2) := by decide +kernel
theorem dL_law_897 : decode cL_law 897 = .ok (.iload 12, 2) := by decide +kernel
theorem dL_law_899 : decode cL_law 899 = .ok (.iadd, 1) := by decide +kernel
theorem dL_law_900 : decode cL_law 900 = .ok (.iaload, 1) := by decide +kernel
theorem dL_law_901 : decode cL_law 901 = .ok (.ifCond .ge 21, 3) := by decide +kernel
theorem dL_law_904 : decode cL_law 904 = .ok (.aload_n 2, 1) := by decide +kernel
theorem dL_law_905 : decode cL_law 905 = .ok (.bipush 36, 2) := by decide +kernel
theorem dL_law_907 : decode cL_law 907 = .ok (.iload 12, 2) := by decide +kernel
theorem dL_law_909 : decode cL_law 909 = .ok (.iadd, 1) := by decide +kernel
theorem dL_law_910 : decode cL_law 910 = .ok (.iaload, 1) := by decide +kernel
theorem dL_law_911 : decode cL_law 911 = .ok (.aload 5, 2) := by decide +kernel
theorem dL_law_913 : decode cL_law 913 = .ok (.iconst 0, 1) := by decide +kernel
theorem dL_law_914 : decode cL_law 914 = .ok (.iaload, 1) := by decide +kernel
theorem dL_law_915 : decode cL_law 915 = .ok (.if_icmp .gt 7, 3) := by decide +kernel
theorem dL_law_918 : decode cL_law 918 = .ok (.iconst 1, 1) := by decide +kernel
theorem dL_law_919 : decode cL_law 919 = .ok (.goto 4, 3) := by decide +kernel
theorem dL_law_922 : decode cL_law 922 = .ok (.iconst 0, 1) := by decide +kernel
theorem dL_law_923 : decode cL_law 923 = .ok (.istore 13, 2) := by decide +kernel
theorem dL_law_925 : decode cL_law 925 = .ok (.aload_n 1, 1) := by decide +kernel
theorem dL_law_926 : decode cL_law 926 = .ok (.iconst 2, 1) := by decide +kernel
theorem dL_law_927 : decode cL_law 927 = .ok (.iload 12, 2) := by decide +kernel
theorem dL_law_929 : decode cL_law 929 = .ok (.iconst 0, 1) := by decide +kernel
theorem dL_law_930 : decode cL_law 930 = .ok (.iconst 0, 1) := by decide +kernel
theorem dL_law_931 : decode cL_law 931 = .ok (.invokestatic 94, 3) := by decide +kernel
theorem dL_law_934 : decode cL_law 934 = .ok (.iload 13, 2) := by decide +kernel
theorem dL_law_936 : decode cL_law 936 = .ok (.ifCond .eq 15, 3) := by decide +kernel
theorem dL_law_939 : decode cL_law 939 = .ok (.iconst 5, 1) := by decide +kernel
theorem dL_law_940 : decode cL_law 940 = .ok (.aload_n 2, 1) := by decide +kernel
theorem dL_law_941 : decode cL_law 941 = .ok (.bipush 8, 2) := by decide +kernel
theorem dL_law_943 : decode cL_law 943 = .ok (.iload 12, 2) := by decide +kernel
theorem dL_law_945 : decode cL_law 945 = .ok (.iadd, 1) := by decide +kernel
theorem dL_law_946 : decode cL_law 946 = .ok (.iaload, 1) := by decide +kernel
theorem dL_law_947 : decode cL_law 947 = .ok (.imul, 1) := by decide +kernel
theorem dL_law_948 : decode cL_law 948 = .ok (.goto 6, 3) := by decide +kernel
theorem dL_law_951 : decode cL_law 951 = .ok (.sipush (-1003), 3) := by decide +kernel
theorem dL_law_954 : decode cL_law 954 = .ok (.if_icmp .ne 7, 3) := by decide +kernel
theorem dL_law_957 : decode cL_law 957 = .ok (.iconst 1, 1) := by decide +kernel
theorem dL_law_958 : decode cL_law 958 = .ok (.goto 4, 3) := by decide +kernel
theorem dL_law_961 : decode cL_law 961 = .ok (.iconst 0, 1) := by decide +kernel
theorem dL_law_962 : decode cL_law 962 = .ok (.istore 6, 2) := by decide +kernel
theorem dL_law_964 : decode cL_law 964 = .ok (.aload 5, 2) := by decide +kernel
theorem dL_law_966 : decode cL_law 966 = .ok (.iconst 1, 1) := by decide +kernel
theorem dL_law_967 : decode cL_law 967 = .ok (.dup2, 1) := by decide +kernel
theorem dL_law_968 : decode cL_law 968 = .ok (.iaload, 1) := by decide +kernel
theorem dL_law_969 : decode cL_law 969 = .ok (.iload 13, 2) := by decide +kernel
theorem dL_law_971 : decode cL_law 971 = .ok (.ifCond .eq 15, 3) := by decide +kernel
theorem dL_law_974 : decode cL_law 974 = .ok (.iconst 5, 1) := by decide +kernel
theorem dL_law_975 : decode cL_law 975 = .ok (.aload_n 2, 1) := by decide +kernel
theorem dL_law_976 : decode cL_law 976 = .ok (.bipush 8, 2) := by decide +kernel
theorem dL_law_978 : decode cL_law 978 = .ok (.iload 12, 2) := by decide +kernel
theorem dL_law_980 : decode cL_law 980 = .ok (.iadd, 1) := by decide +kernel
theorem dL_law_981 : decode cL_law 981 = .ok (.iaload, 1) := by decide +kernel
theorem dL_law_982 : decode cL_law 982 = .ok (.imul, 1) := by decide +kernel
theorem dL_law_983 : decode cL_law 983 = .ok (.goto 4, 3) := by decide +kernel
theorem dL_law_986 : decode cL_law 986 = .ok (.iconst 0, 1) := by decide +kernel
theorem dL_law_987 : decode cL_law 987 = .ok (.isub, 1) := by decide +kernel
theorem dL_law_988 : decode cL_law 988 = .ok (.iastore, 1) := by decide +kernel
theorem dL_law_989 : decode cL_law 989 = .ok (.aload_n 2, 1) := by decide +kernel
theorem dL_law_990 : decode cL_law 990 = .ok (.bipush 36, 2) := by decide +kernel
theorem dL_law_992 : decode cL_law 992 = .ok (.iload 12, 2) := by decide +kernel
theorem dL_law_994 : decode cL_law 994 = .ok (.iadd, 1) := by decide +kernel
theorem dL_law_995 : decode cL_law 995 = .ok (.iload 13, 2) := by decide +kernel
theorem dL_law_997 : decode cL_law 997 = .ok (.ifCond .eq 13, 3) := by decide +kernel
theorem dL_law_1000 : decode cL_law 1000 = .ok (.aload 5, 2) := by decide +kernel
theorem dL_law_1002 : decode cL_law 1002 = .ok (.iconst 0, 1) := by decide +kernel
theorem dL_law_1003 : decode cL_law 1003 = .ok (.iaload, 1) := by decide +kernel
theorem dL_law_1004 : decode cL_law 1004 = .ok (.bipush 30, 2) := by decide +kernel
theorem dL_law_1006 : decode cL_law 1006 = .ok (.iadd, 1) := by decide +kernel
theorem dL_law_1007 : decode cL_law 1007 = .ok (.goto 10, 3) := by decide +kernel
theorem dL_law_1010 : decode cL_law 1010 = .ok (.aload_n 2, 1) := by decide +kernel
theorem dL_law_1011 : decode cL_law 1011 = .ok (.bipush 36, 2) := by decide +kernel
theorem dL_law_1013 : decode cL_law 1013 = .ok (.iload 12, 2) := by decide +kernel
theorem dL_law_1015 : decode cL_law 1015 = .ok (.iadd, 1) := by decide +kernel
theorem dL_law_1016 : decode cL_law 1016 = .ok (.iaload, 1) := by decide +kernel
theorem dL_law_1017 : decode cL_law 1017 = .ok (.iastore, 1) := by decide +kernel
theorem dL_law_1018 : decode cL_law 1018 = .ok (.aload_n 2, 1) := by decide +kernel
theorem dL_law_1019 : decode cL_law 1019 = .ok (.bipush 8, 2) := by decide +kernel
theorem dL_law_1021 : decode cL_law 1021 = .ok (.iload 12, 2) := by decide +kernel
theorem dL_law_1023 : decode cL_law 1023 = .ok (.iadd, 1) := by decide +kernel
theorem dL_law_1024 : decode cL_law 1024 = .ok (.iload 13, 2) := by decide +kernel
theorem dL_law_1026 : decode cL_law 1026 = .ok (.ifCond .eq 7, 3) := by decide +kernel
theorem dL_law_1029 : decode cL_law 1029 = .ok (.iconst 0, 1) := by decide +kernel
theorem dL_law_1030 : decode cL_law 1030 = .ok (.goto 10, 3) := by decide +kernel
theorem dL_law_1033 : decode cL_law 1033 = .ok (.aload_n 2, 1) := by decide +kernel
theorem dL_law_1034 : decode cL_law 1034 = .ok (.bipush 8, 2) := by decide +kernel
theorem dL_law_1036 : decode cL_law 1036 = .ok (.iload 12, 2) := by decide +kernel
theorem dL_law_1038 : decode cL_law 1038 = .ok (.iadd, 1) := by decide +kernel
theorem dL_law_1039 : decode cL_law 1039 = .ok (.iaload, 1) := by decide +kernel
theorem dL_law_1040 : decode cL_law 1040 = .ok (.iastore, 1) := by decide +kernel
theorem dL_law_1041 : decode cL_law 1041 = .ok (.goto 415, 3) := by decide +kernel
theorem dL_law_1044 : decode cL_law 1044 = .ok (.iload 9, 2) := by decide +kernel
theorem dL_law_1046 : decode cL_law 1046 = .ok (.bipush 9, 2) := by decide +kernel
theorem dL_law_1048 : decode cL_law 1048 = .ok (.if_icmp .ne 147, 3) := by decide +kernel
theorem dL_law_1051 : decode cL_law 1051 = .ok (.iload 8, 2) := by decide +kernel
theorem dL_law_1053 : decode cL_law 1053 = .ok (.bipush 8, 2) := by decide +kernel
theorem dL_law_1055 : decode cL_law 1055 = .ok (.ishr, 1) := by decide +kernel
theorem dL_law_1056 : decode cL_law 1056 = .ok (.iconst 4, 1) := by decide +kernel
theorem dL_law_1057 : decode cL_law 1057 = .ok (.invokestatic 88, 3) := by decide +kernel
theorem dL_law_1060 : decode cL_law 1060 = .ok (.ifCond .ne 135, 3) := by decide +kernel
theorem dL_law_1063 : decode cL_law 1063 = .ok (.aload_n 3, 1) := by decide +kernel
theorem dL_law_1064 : decode cL_law 1064 = .ok (.iload 11, 2) := by decide +kernel
theorem dL_law_1066 : decode cL_law 1066 = .ok (.bipush 14, 2) := by decide +kernel
theorem dL_law_1068 : decode cL_law 1068 = .ok (.iadd, 1) := by decide +kernel
theorem dL_law_1069 : decode cL_law 1069 = .ok (.iaload, 1) := by decide +kernel
theorem dL_law_1070 : decode cL_law 1070 = .ok (.aload 5, 2) := by decide +kernel
theorem dL_law_1072 : decode cL_law 1072 = .ok (.iconst 0, 1) := by decide +kernel
theorem dL_law_1073 : decode cL_law 1073 = .ok (.iaload, 1) := by decide +kernel
theorem dL_law_1074 : decode cL_law 1074 = .ok (.if_icmp .gt 24, 3) := by decide +kernel
theorem dL_law_1077 : decode cL_law 1077 = .ok (.aload_n 3, 1) := by decide +kernel
theorem dL_law_1078 : decode cL_law 1078 = .ok (.iload 11, 2) := by decide +kernel
theorem dL_law_1080 : decode cL_law 1080 = .ok (.iaload, 1) := by decide +kernel
theorem dL_law_1081 : decode cL_law 1081 = .ok (.ifCond .eq 13, 3) := by decide +kernel
theorem dL_law_1084 : decode cL_law 1084 = .ok (.aload_n 3, 1) := by decide +kernel
theorem dL_law_1085 : decode cL_law 1085 = .ok (.iload 11, 2) := by decide +kernel
theorem dL_law_1087 : decode cL_law 1087 = .ok (.iconst 3, 1) := by decide +kernel
theorem dL_law_1088 : decode cL_law 1088 = .ok (.iadd, 1) := by decide +kernel
theorem dL_law_1089 : decode cL_law 1089 = .ok (.iaload, 1) := by decide +kernel
theorem dL_law_1090 : decode cL_law 1090 = .ok (.iconst 2, 1) := by decide +kernel
theorem dL_law_1091 : decode cL_law 1091 = .ok (.if_icmp .ge 7, 3) := by decide +kernel
theorem dL_law_1094 : decode cL_law 1094 = .ok (.iconst 1, 1) := by decide +kernel
theorem dL_law_1095 : decode cL_law 1095 = .ok (.goto 4, 3) := by decide +kernel
theorem dL_law_1098 : decode cL_law 1098 = .ok (.iconst 0, 1) := by decide +kernel
theorem dL_law_1099 : decode cL_law 1099 = .ok (.istore 13, 2) := by decide +kernel
theorem dL_law_1101 : decode cL_law 1101 = .ok (.aload_n 1, 1) := by decide +kernel
theorem dL_law_1102 : decode cL_law 1102 = .ok (.iconst 3, 1) := by decide +kernel
theorem dL_law_1103 : decode cL_law 1103 = .ok (.iload 10, 2) := by decide +kernel
theorem dL_law_1105 : decode cL_law 1105 = .ok (.iconst 0, 1) := by decide +kernel
theorem dL_law_1106 : decode cL_law 1106 = .ok (.iconst 0, 1) := by decide +kernel
theorem dL_law_1107 : decode cL_law 1107 = .ok (.invokestatic 94, 3) := by decide +kernel
theorem dL_law_1110 : decode cL_law 1110 = .ok (.iload 13, 2) := by decide +kernel
theorem dL_law_1112 : decode cL_law 1112 = .ok (.ifCond .eq 14, 3) := by decide +kernel
theorem dL_law_1115 : decode cL_law 1115 = .ok (.aload 5, 2) := by decide +kernel
theorem dL_law_1117 : decode cL_law 1117 = .ok (.iconst 0, 1) := by decide +kernel
theorem dL_law_1118 : decode cL_law 1118 = .ok (.iaload, 1) := by decide +kernel
theorem dL_law_1119 : decode cL_law 1119 = .ok (.sipush 480, 3) := by decide +kernel
theorem dL_law_1122 : decode cL_law 1122 = .ok (.iadd, 1) := by decide +kernel
theorem dL_law_1123 : decode cL_law 1123 = .ok (.goto 6, 3) := by decide +kernel
theorem dL_law_1126 : decode cL_law 1126 = .ok (.sipush (-1003), 3) := by decide +kernel
theorem dL_law_1129 : decode cL_law 1129 = .ok (.if_icmp .ne 7, 3) := by decide +kernel
theorem dL_law_1132 : decode cL_law 1132 = .ok (.iconst 1, 1) := by decide +kernel
theorem dL_law_1133 : decode cL_law 1133 = .ok (.goto 4, 3) := by decide +kernel
theorem dL_law_1136 : decode cL_law 1136 = .ok (.iconst 0, 1) := by decide +kernel
theorem dL_law_1137 : decode cL_law 1137 = .ok (.istore 6, 2) := by decide +kernel
theorem dL_law_1139 : decode cL_law 1139 = .ok (.aload_n 3, 1) := by decide +kernel
theorem dL_law_1140 : decode cL_law 1140 = .ok (.iload 11, 2) := by decide +kernel
theorem dL_law_1142 : decode cL_law 1142 = .ok (.bipush 14, 2) := by decide +kernel
theorem dL_law_1144 : decode cL_law 1144 = .ok (.iadd, 1) := by decide +kernel
theorem dL_law_1145 : decode cL_law 1145 = .ok (.iload 13, 2) := by decide +kernel
theorem dL_law_1147 : decode cL_law 1147 = .ok (.ifCond .eq 14, 3) := by decide +kernel
theorem dL_law_1150 : decode cL_law 1150 = .ok (.aload 5, 2) := by decide +kernel
theorem dL_law_1152 : decode cL_law 1152 = .ok (.iconst 0, 1) := by decide +kernel
theorem dL_law_1153 : decode cL_law 1153 = .ok (.iaload, 1) := by decide +kernel
theorem dL_law_1154 : decode cL_law 1154 = .ok (.sipush 480, 3) := by decide +kernel
theorem dL_law_1157 : decode cL_law 1157 = .ok (.iadd, 1) := by decide +kernel
theorem dL_law_1158 : decode cL_law 1158 = .ok (.goto 10, 3) := by decide +kernel
theorem dL_law_1161 : decode cL_law 1161 = .ok (.aload_n 3, 1) := by decide +kernel
theorem dL_law_1162 : decode cL_law 1162 = .ok (.iload 11, 2) := by decide +kernel
theorem dL_law_1164 : decode cL_law 1164 = .ok (.bipush 14, 2) := by decide +kernel
theorem dL_law_1166 : decode cL_law 1166 = .ok (.iadd, 1) := by decide +kernel
theorem dL_law_1167 : decode cL_law 1167 = .ok (.iaload, 1) := by decide +kernel
theorem dL_law_1168 : decode cL_law 1168 = .ok (.iastore, 1) := by decide +kernel
theorem dL_law_1169 : decode cL_law 1169 = .ok (.aload_n 3, 1) := by decide +kernel
theorem dL_law_1170 : decode cL_law 1170 = .ok (.iload 11, 2) := by decide +kernel
theorem dL_law_1172 : decode cL_law 1172 = .ok (.bipush 13, 2) := by decide +kernel
theorem dL_law_1174 : decode cL_law 1174 = .ok (.iadd, 1) := by decide +kernel
theorem dL_law_1175 : decode cL_law 1175 = .ok (.iload 13, 2) := by decide +kernel
theorem dL_law_1177 : decode cL_law 1177 = .ok (.ifCond .eq 7, 3) := by decide +kernel
theorem dL_law_1180 : decode cL_law 1180 = .ok (.iconst 0, 1) := by decide +kernel
theorem dL_law_1181 : decode cL_law 1181 = .ok (.goto 10, 3) := by decide +kernel
theorem dL_law_1184 : decode cL_law 1184 = .ok (.aload_n 3, 1) := by decide +kernel
theorem dL_law_1185 : decode cL_law 1185 = .ok (.iload 11, 2) := by decide +kernel
theorem dL_law_1187 : decode cL_law 1187 = .ok (.bipush 13, 2) := by decide +kernel
theorem dL_law_1189 : decode cL_law 1189 = .ok (.iadd, 1) := by decide +kernel
theorem dL_law_1190 : decode cL_law 1190 = .ok (.iaload, 1) := by decide +kernel
theorem dL_law_1191 : decode cL_law 1191 = .ok (.iastore, 1) := by decide +kernel
theorem dL_law_1192 : decode cL_law 1192 = .ok (.goto 264, 3) := by decide +kernel
theorem dL_law_1195 : decode cL_law 1195 = .ok (.iload 9, 2) := by decide +kernel
theorem dL_law_1197 : decode cL_law 1197 = .ok (.bipush 10, 2) := by decide +kernel
theorem dL_law_1199 : decode cL_law 1199 = .ok (.if_icmp .ne 99, 3) := by decide +kernel
theorem dL_law_1202 : decode cL_law 1202 = .ok (.iconst 1, 1) := by decide +kernel
theorem dL_law_1203 : decode cL_law 1203 = .ok (.iload 8, 2) := by decide +kernel
theorem dL_law_1205 : decode cL_law 1205 = .ok (.bipush 8, 2) := by decide +kernel
theorem dL_law_1207 : decode cL_law 1207 = .ok (.ishr, 1) := by decide +kernel
theorem dL_law_1208 : decode cL_law 1208 = .ok (.iconst 4, 1) := by decide +kernel
theorem dL_law_1209 : decode cL_law 1209 = .ok (.invokestatic 88, 3) := by decide +kernel
theorem dL_law_1212 : decode cL_law 1212 = .ok (.iadd, 1) := by decide +kernel
theorem dL_law_1213 : decode cL_law 1213 = .ok (.istore 13, 2) := by decide +kernel
theorem dL_law_1215 : decode cL_law 1215 = .ok (.iload 12, 2) := by decide +kernel
theorem dL_law_1217 : decode cL_law 1217 = .ok (.aload_n 3, 1) := by decide +kernel
theorem dL_law_1218 : decode cL_law 1218 = .ok (.invokestatic 47, 3) := by decide +kernel
theorem dL_law_1221 : decode cL_law 1221 = .ok (.iload 13, 2) := by decide +kernel
theorem dL_law_1223 : decode cL_law 1223 = .ok (.if_icmp .gt 7, 3) := by decide +kernel
theorem dL_law_1226 : decode cL_law 1226 = .ok (.iconst 1, 1) := by decide +kernel
theorem dL_law_1227 : decode cL_law 1227 = .ok (.goto 4, 3) := by decide +kernel
theorem dL_law_1230 : decode cL_law 1230 = .ok (.iconst 0, 1) := by decide +kernel
theorem dL_law_1231 : decode cL_law 1231 = .ok (.istore 14, 2) := by decide +kernel
theorem dL_law_1233 : decode cL_law 1233 = .ok (.aload_n 1, 1) := by decide +kernel
theorem dL_law_1234 : decode cL_law 1234 = .ok (.iconst 4, 1) := by decide +kernel
theorem dL_law_1235 : decode cL_law 1235 = .ok (.iload 12, 2) := by decide +kernel
theorem dL_law_1237 : decode cL_law 1237 = .ok (.iload 13, 2) := by decide +kernel
theorem dL_law_1239 : decode cL_law 1239 = .ok (.iconst 0, 1) := by decide +kernel
theorem dL_law_1240 : decode cL_law 1240 = .ok (.invokestatic 94, 3) := by decide +kernel
theorem dL_law_1243 : decode cL_law 1243 = .ok (.iload 14, 2) := by decide +kernel
theorem dL_law_1245 : decode cL_law 1245 = .ok (.ifCond .eq 13, 3) := by decide +kernel
theorem dL_law_1248 : decode cL_law 1248 = .ok (.aload 5, 2) := by decide +kernel
theorem dL_law_1250 : decode cL_law 1250 = .ok (.iconst 4, 1) := by decide +kernel
theorem dL_law_1251 : decode cL_law 1251 = .ok (.iload 12, 2) := by decide +kernel
theorem dL_law_1253 : decode cL_law 1253 = .ok (.iadd, 1) := by decide +kernel
theorem dL_law_1254 : decode cL_law 1254 = .ok (.iaload, 1) := by decide +kernel
theorem dL_law_1255 : decode cL_law 1255 = .ok (.goto 6, 3) := by decide +kernel
theorem dL_law_1258 : decode cL_law 1258 = .ok (.sipush (-1003), 3) := by decide +kernel
theorem dL_law_1261 : decode cL_law 1261 = .ok (.if_icmp .ne 7, 3) := by decide +kernel
theorem dL_law_1264 : decode cL_law 1264 = .ok (.iconst 1, 1) := by decide +kernel
theorem dL_law_1265 : decode cL_law 1265 = .ok (.goto 4, 3) := by decide +kernel
theorem dL_law_1268 : decode cL_law 1268 = .ok (.iconst 0, 1) := by decide +kernel
theorem dL_law_1269 : decode cL_law 1269 = .ok (.istore 6, 2) := by decide +kernel
theorem dL_law_1271 : decode cL_law 1271 = .ok (.aload 5, 2) := by decide +kernel
theorem dL_law_1273 : decode cL_law 1273 = .ok (.iconst 4, 1) := by decide +kernel
theorem dL_law_1274 : decode cL_law 1274 = .ok (.iload 12, 2) := by decide +kernel
theorem dL_law_1276 : decode cL_law 1276 = .ok (.iadd, 1) := by decide +kernel
theorem dL_law_1277 : decode cL_law 1277 = .ok (.iload 14, 2) := by decide +kernel
theorem dL_law_1279 : decode cL_law 1279 = .ok (.ifCond .eq 8, 3) := by decide +kernel
theorem dL_law_1282 : decode cL_law 1282 = .ok (.iload 13, 2) := by decide +kernel
theorem dL_law_1284 : decode cL_law 1284 = .ok (.goto 10, 3) := by decide +kernel
theorem dL_law_1287 : decode cL_law 1287 = .ok (.aload 5, 2) := by decide +kernel
theorem dL_law_1289 : decode cL_law 1289 = .ok (.iconst 4, 1) := by decide +kernel
theorem dL_law_1290 : decode cL_law 1290 = .ok (.iload 12, 2) := by decide +kernel
theorem dL_law_1292 : decode cL_law 1292 = .ok (.iadd, 1) := by decide +kernel
theorem dL_law_1293 : decode cL_law 1293 = .ok (.iaload, 1) := by decide +kernel
theorem dL_law_1294 : decode cL_law 1294 = .ok (.iastore, 1) := by decide +kernel
theorem dL_law_1295 : decode cL_law 1295 = .ok (.goto 161, 3) := by decide +kernel
theorem dL_law_1298 : decode cL_law 1298 = .ok (.iload 9, 2) := by decide +kernel
theorem dL_law_1300 : decode cL_law 1300 = .ok (.bipush 11, 2) := by decide +kernel
theorem dL_law_1302 : decode cL_law 1302 = .ok (.if_icmp .ne 71, 3) := by decide +kernel
theorem dL_law_1305 : decode cL_law 1305 = .ok (.aload_n 3, 1) := by decide +kernel
theorem dL_law_1306 : decode cL_law 1306 = .ok (.iload 11, 2) := by decide +kernel
theorem dL_law_1308 : decode cL_law 1308 = .ok (.iaload, 1) := by decide +kernel
theorem dL_law_1309 : decode cL_law 1309 = .ok (.iconst 1, 1) := by decide +kernel
theorem dL_law_1310 : decode cL_law 1310 = .ok (.if_icmp .ne 63, 3) := by decide +kernel
theorem dL_law_1313 : decode cL_law 1313 = .ok (.iload 10, 2) := by decide +kernel
theorem dL_law_1315 : decode cL_law 1315 = .ok (.iconst 1, 1) := by decide +kernel
theorem dL_law_1316 : decode cL_law 1316 = .ok (.iadd, 1) := by decide +kernel
theorem dL_law_1317 : decode cL_law 1317 = .ok (.iload 8, 2) := by decide +kernel
theorem dL_law_1319 : decode cL_law 1319 = .ok (.bipush 8, 2) := by decide +kernel
theorem dL_law_1321 : decode cL_law 1321 = .ok (.ishr, 1) := by decide +kernel
theorem dL_law_1322 : decode cL_law 1322 = .ok (.iconst 2, 1) := by decide +kernel
theorem dL_law_1323 : decode cL_law 1323 = .ok (.invokestatic 88, 3) := by decide +kernel
theorem dL_law_1326 : decode cL_law 1326 = .ok (.iadd, 1) := by decide +kernel
theorem dL_law_1327 : decode cL_law 1327 = .ok (.iconst 3, 1) := by decide +kernel
theorem dL_law_1328 : decode cL_law 1328 = .ok (.irem, 1) := by decide +kernel
theorem dL_law_1329 : decode cL_law 1329 = .ok (.istore 13, 2) := by decide +kernel
theorem dL_law_1331 : decode cL_law 1331 = .ok (.aload_n 3, 1) := by decide +kernel
theorem dL_law_1332 : decode cL_law 1332 = .ok (.bipush 16, 2) := by decide +kernel
theorem dL_law_1334 : decode cL_law 1334 = .ok (.iload 13, 2) := by decide +kernel
theorem dL_law_1336 : decode cL_law 1336 = .ok (.imul, 1) := by decide +kernel
theorem dL_law_1337 : decode cL_law 1337 = .ok (.iaload, 1) := by decide +kernel
theorem dL_law_1338 : decode cL_law 1338 = .ok (.iconst 1, 1) := by decide +kernel
theorem dL_law_1339 : decode cL_law 1339 = .ok (.if_icmp .ne 31, 3) := by decide +kernel
theorem dL_law_1342 : decode cL_law 1342 = .ok (.aload_n 1, 1) := by decide +kernel
theorem dL_law_1343 : decode cL_law 1343 = .ok (.iload 10, 2) := by decide +kernel
theorem dL_law_1345 : decode cL_law 1345 = .ok (.iload 13, 2) := by decide +kernel
theorem dL_law_1347 : decode cL_law 1347 = .ok (.iload 12, 2) := by decide +kernel
theorem dL_law_1349 : decode cL_law 1349 = .ok (.invokevirtual 135, 3) := by decide +kernel
theorem dL_law_1352 : decode cL_law 1352 = .ok (.aload_n 3, 1) := by decide +kernel
theorem dL_law_1353 : decode cL_law 1353 = .ok (.iload 11, 2) := by decide +kernel
theorem dL_law_1355 : decode cL_law 1355 = .ok (.bipush 11, 2) := by decide +kernel
theorem dL_law_1357 : decode cL_law 1357 = .ok (.iadd, 1) := by decide +kernel
theorem dL_law_1358 : decode cL_law 1358 = .ok (.iload 13, 2) := by decide +kernel
theorem dL_law_1360 : decode cL_law 1360 = .ok (.iastore, 1) := by decide +kernel
theorem dL_law_1361 : decode cL_law 1361 = .ok (.aload_n 3, 1) := by decide +kernel
theorem dL_law_1362 : decode cL_law 1362 = .ok (.iload 11, 2) := by decide +kernel
theorem dL_law_1364 : decode cL_law 1364 = .ok (.bipush 12, 2) := by decide +kernel
theorem dL_law_1366 : decode cL_law 1366 = .ok (.iadd, 1) := by decide +kernel
theorem dL_law_1367 : decode cL_law 1367 = .ok (.iload 12, 2) := by decide +kernel
theorem dL_law_1369 : decode cL_law 1369 = .ok (.iastore, 1) := by decide +kernel
theorem dL_law_1370 : decode cL_law 1370 = .ok (.goto 86, 3) := by decide +kernel
theorem dL_law_1373 : decode cL_law 1373 = .ok (.iconst 1, 1) := by decide +kernel
theorem dL_law_1374 : decode cL_law 1374 = .ok (.iload 8, 2) := by decide +kernel
theorem dL_law_1376 : decode cL_law 1376 = .ok (.bipush 8, 2) := by decide +kernel
theorem dL_law_1378 : decode cL_law 1378 = .ok (.ishr, 1) := by decide +kernel
theorem dL_law_1379 : decode cL_law 1379 = .ok (.iload 8, 2) := by decide +kernel
theorem dL_law_1381 : decode cL_law 1381 = .ok (.bipush 13, 2) := by decide +kernel
theorem dL_law_1383 : decode cL_law 1383 = .ok (.ishr, 1) := by decide +kernel
theorem dL_law_1384 : decode cL_law 1384 = .ok (.bipush 8, 2) := by decide +kernel
theorem dL_law_1386 : decode cL_law 1386 = .ok (.invokestatic 88, 3) := by decide +kernel
theorem dL_law_1389 : decode cL_law 1389 = .ok (.ifCond .ne 9, 3) := by decide +kernel
theorem dL_law_1392 : decode cL_law 1392 = .ok (.sipush 300, 3) := by decide +kernel
theorem dL_law_1395 : decode cL_law 1395 = .ok (.goto 5, 3) := by decide +kernel
theorem dL_law_1398 : decode cL_law 1398 = .ok (.bipush 15, 2) := by decide +kernel
theorem dL_law_1400 : decode cL_law 1400 = .ok (.invokestatic 88, 3) := by decide +kernel
theorem dL_law_1403 : decode cL_law 1403 = .ok (.iadd, 1) := by decide +kernel
theorem dL_law_1404 : decode cL_law 1404 = .ok (.istore 13, 2) := by decide +kernel
theorem dL_law_1406 : decode cL_law 1406 = .ok (.aload 5, 2) := by decide +kernel
theorem dL_law_1408 : decode cL_law 1408 = .ok (.iconst 2, 1) := by decide +kernel
theorem dL_law_1409 : decode cL_law 1409 = .ok (.iconst 0, 1) := by decide +kernel
theorem dL_law_1410 : decode cL_law 1410 = .ok (.iastore, 1) := by decide +kernel
theorem dL_law_1411 : decode cL_law 1411 = .ok (.iconst 0, 1) := by decide +kernel
theorem dL_law_1412 : decode cL_law 1412 = .ok (.istore 14, 2) := by decide +kernel
theorem dL_law_1414 : decode cL_law 1414 = .ok (.iload 14, 2) := by decide +kernel
theorem dL_law_1416 : decode cL_law 1416 = .ok (.iload 13, 2) := by decide +kernel
theorem dL_law_1418 : decode cL_law 1418 = .ok (.if_icmp .ge 18, 3) := by decide +kernel
theorem dL_law_1421 : decode cL_law 1421 = .ok (.aload_n 2, 1) := by decide +kernel
theorem dL_law_1422 : decode cL_law 1422 = .ok (.aload_n 3, 1) := by decide +kernel
theorem dL_law_1423 : decode cL_law 1423 = .ok (.aload 4, 2) := by decide +kernel
theorem dL_law_1425 : decode cL_law 1425 = .ok (.aload 5, 2) := by decide +kernel
theorem dL_law_1427 : decode cL_law 1427 = .ok (.invokestatic 138, 3) := by decide +kernel
theorem dL_law_1430 : decode cL_law 1430 = .ok (.iinc 14 1, 3) := by decide +kernel
theorem dL_law_1433 : decode cL_law 1433 = .ok (.goto (-19), 3) := by decide +kernel
theorem dL_law_1436 : decode cL_law 1436 = .ok (.aload_n 1, 1) := by decide +kernel
theorem dL_law_1437 : decode cL_law 1437 = .ok (.iload 13, 2) := by decide +kernel
theorem dL_law_1439 : decode cL_law 1439 = .ok (.invokevirtual 142, 3) := by decide +kernel
theorem dL_law_1442 : decode cL_law 1442 = .ok (.aload 5, 2) := by decide +kernel
theorem dL_law_1444 : decode cL_law 1444 = .ok (.iconst 2, 1) := by decide +kernel
theorem dL_law_1445 : decode cL_law 1445 = .ok (.iaload, 1) := by decide +kernel
theorem dL_law_1446 : decode cL_law 1446 = .ok (.if_icmp .ne 7, 3) := by decide +kernel
theorem dL_law_1449 : decode cL_law 1449 = .ok (.iconst 1, 1) := by decide +kernel
theorem dL_law_1450 : decode cL_law 1450 = .ok (.goto 4, 3) := by decide +kernel
theorem dL_law_1453 : decode cL_law 1453 = .ok (.iconst 0, 1) := by decide +kernel
theorem dL_law_1454 : decode cL_law 1454 = .ok (.istore 6, 2) := by decide +kernel
theorem dL_law_1456 : decode cL_law 1456 = .ok (.iload 6, 2) := by decide +kernel
theorem dL_law_1458 : decode cL_law 1458 = .ok (.ifCond .eq 20, 3) := by decide +kernel
theorem dL_law_1461 : decode cL_law 1461 = .ok (.aload_n 1, 1) := by decide +kernel
theorem dL_law_1462 : decode cL_law 1462 = .ok (.aload_n 2, 1) := by decide +kernel
theorem dL_law_1463 : decode cL_law 1463 = .ok (.aload_n 3, 1) := by decide +kernel
theorem dL_law_1464 : decode cL_law 1464 = .ok (.aload 4, 2) := by decide +kernel
theorem dL_law_1466 : decode cL_law 1466 = .ok (.aload 5, 2) := by decide +kernel
theorem dL_law_1468 : decode cL_law 1468 = .ok (.invokestatic 145, 3) := by decide +kernel
theorem dL_law_1471 : decode cL_law 1471 = .ok (.ifCond .eq 7, 3) := by decide +kernel
theorem dL_law_1474 : decode cL_law 1474 = .ok (.iconst 1, 1) := by decide +kernel
theorem dL_law_1475 : decode cL_law 1475 = .ok (.goto 4, 3) := by decide +kernel
theorem dL_law_1478 : decode cL_law 1478 = .ok (.iconst 0, 1) := by decide +kernel
theorem dL_law_1479 : decode cL_law 1479 = .ok (.istore 6, 2) := by decide +kernel
theorem dL_law_1481 : decode cL_law 1481 = .ok (.iinc 7 1, 3) := by decide +kernel
theorem dL_law_1484 : decode cL_law 1484 = .ok (.goto (-933), 3) := by decide +kernel
theorem dL_law_1487 : decode cL_law 1487 = .ok (.iload 6, 2) := by decide +kernel
theorem dL_law_1489 : decode cL_law 1489 = .ok (.ireturn, 1) := by decide +kernel
