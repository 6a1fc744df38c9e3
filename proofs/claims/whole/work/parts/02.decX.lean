theorem dX0_init_0 : decode cX0_init 0 = .ok (.aload_n 0, 1) := by decide +kernel
theorem dX0_init_1 : decode cX0_init 1 = .ok (.invokespecial 3, 3) := by decide +kernel
theorem dX0_init_4 : decode cX0_init 4 = .ok (.aload_n 0, 1) := by decide +kernel
theorem dX0_init_5 : decode cX0_init 5 = .ok (.bipush 36, 2) := by decide +kernel
theorem dX0_init_7 : decode cX0_init 7 = .ok (.newarray .int, 2) := by decide +kernel
theorem dX0_init_9 : decode cX0_init 9 = .ok (.putfield 9, 3) := by decide +kernel
theorem dX0_init_12 : decode cX0_init 12 = .ok (.aload_n 0, 1) := by decide +kernel
theorem dX0_init_13 : decode cX0_init 13 = .ok (.bipush 64, 2) := by decide +kernel
theorem dX0_init_15 : decode cX0_init 15 = .ok (.newarray .int, 2) := by decide +kernel
theorem dX0_init_17 : decode cX0_init 17 = .ok (.putfield 15, 3) := by decide +kernel
theorem dX0_init_20 : decode cX0_init 20 = .ok (.aload_n 0, 1) := by decide +kernel
theorem dX0_init_21 : decode cX0_init 21 = .ok (.bipush 64, 2) := by decide +kernel
theorem dX0_init_23 : decode cX0_init 23 = .ok (.newarray .int, 2) := by decide +kernel
theorem dX0_init_25 : decode cX0_init 25 = .ok (.putfield 18, 3) := by decide +kernel
theorem dX0_init_28 : decode cX0_init 28 = .ok (.aload_n 0, 1) := by decide +kernel
theorem dX0_init_29 : decode cX0_init 29 = .ok (.bipush 6, 2) := by decide +kernel
theorem dX0_init_31 : decode cX0_init 31 = .ok (.newarray .int, 2) := by decide +kernel
theorem dX0_init_33 : decode cX0_init 33 = .ok (.putfield 21, 3) := by decide +kernel
theorem dX0_init_36 : decode cX0_init 36 = .ok (.return_, 1) := by decide +kernel
theorem dX0_setButter_0 : decode cX0_setButter 0 = .ok (.aload_n 0, 1) := by decide +kernel
theorem dX0_setButter_1 : decode cX0_setButter 1 = .ok (.getfield 9, 3) := by decide +kernel
theorem dX0_setButter_4 : decode cX0_setButter 4 = .ok (.bipush 6, 2) := by decide +kernel
theorem dX0_setButter_6 : decode cX0_setButter 6 = .ok (.iload_n 1, 1) := by decide +kernel
theorem dX0_setButter_7 : decode cX0_setButter 7 = .ok (.imul, 1) := by decide +kernel
theorem dX0_setButter_8 : decode cX0_setButter 8 = .ok (.iload_n 2, 1) := by decide +kernel
theorem dX0_setButter_9 : decode cX0_setButter 9 = .ok (.iadd, 1) := by decide +kernel
theorem dX0_setButter_10 : decode cX0_setButter 10 = .ok (.iload_n 3, 1) := by decide +kernel
theorem dX0_setButter_11 : decode cX0_setButter 11 = .ok (.invokestatic 24, 3) := by decide +kernel
theorem dX0_setButter_14 : decode cX0_setButter 14 = .ok (.return_, 1) := by decide +kernel
theorem dX0_butterOf_0 : decode cX0_butterOf 0 = .ok (.aload_n 0, 1) := by decide +kernel
theorem dX0_butterOf_1 : decode cX0_butterOf 1 = .ok (.getfield 9, 3) := by decide +kernel
theorem dX0_butterOf_4 : decode cX0_butterOf 4 = .ok (.bipush 6, 2) := by decide +kernel
theorem dX0_butterOf_6 : decode cX0_butterOf 6 = .ok (.iload_n 1, 1) := by decide +kernel
theorem dX0_butterOf_7 : decode cX0_butterOf 7 = .ok (.iload_n 2, 1) := by decide +kernel
theorem dX0_butterOf_8 : decode cX0_butterOf 8 = .ok (.invokestatic 28, 3) := by decide +kernel
theorem dX0_butterOf_11 : decode cX0_butterOf 11 = .ok (.imul, 1) := by decide +kernel
theorem dX0_butterOf_12 : decode cX0_butterOf 12 = .ok (.iload_n 1, 1) := by decide +kernel
theorem dX0_butterOf_13 : decode cX0_butterOf 13 = .ok (.iload_n 2, 1) := by decide +kernel
theorem dX0_butterOf_14 : decode cX0_butterOf 14 = .ok (.invokestatic 34, 3) := by decide +kernel
theorem dX0_butterOf_17 : decode cX0_butterOf 17 = .ok (.iadd, 1) := by decide +kernel
theorem dX0_butterOf_18 : decode cX0_butterOf 18 = .ok (.invokestatic 37, 3) := by decide +kernel
theorem dX0_butterOf_21 : decode cX0_butterOf 21 = .ok (.ireturn, 1) := by decide +kernel
theorem dX0_mateOf_0 : decode cX0_mateOf 0 = .ok (.aload_n 0, 1) := by decide +kernel
theorem dX0_mateOf_1 : decode cX0_mateOf 1 = .ok (.getfield 21, 3) := by decide +kernel
theorem dX0_mateOf_4 : decode cX0_mateOf 4 = .ok (.iload_n 1, 1) := by decide +kernel
theorem dX0_mateOf_5 : decode cX0_mateOf 5 = .ok (.invokestatic 37, 3) := by decide +kernel
theorem dX0_mateOf_8 : decode cX0_mateOf 8 = .ok (.ireturn, 1) := by decide +kernel
theorem dX0_hasNow_0 : decode cX0_hasNow 0 = .ok (.aload_n 0, 1) := by decide +kernel
theorem dX0_hasNow_1 : decode cX0_hasNow 1 = .ok (.iload_n 1, 1) := by decide +kernel
theorem dX0_hasNow_2 : decode cX0_hasNow 2 = .ok (.invokevirtual 41, 3) := by decide +kernel
theorem dX0_hasNow_5 : decode cX0_hasNow 5 = .ok (.iconst (-1), 1) := by decide +kernel
theorem dX0_hasNow_6 : decode cX0_hasNow 6 = .ok (.if_icmp .ne 7, 3) := by decide +kernel
theorem dX0_hasNow_9 : decode cX0_hasNow 9 = .ok (.iconst 0, 1) := by decide +kernel
theorem dX0_hasNow_10 : decode cX0_hasNow 10 = .ok (.goto 13, 3) := by decide +kernel
theorem dX0_hasNow_13 : decode cX0_hasNow 13 = .ok (.aload_n 0, 1) := by decide +kernel
theorem dX0_hasNow_14 : decode cX0_hasNow 14 = .ok (.iload_n 1, 1) := by decide +kernel
theorem dX0_hasNow_15 : decode cX0_hasNow 15 = .ok (.aload_n 0, 1) := by decide +kernel
theorem dX0_hasNow_16 : decode cX0_hasNow 16 = .ok (.iload_n 1, 1) := by decide +kernel
theorem dX0_hasNow_17 : decode cX0_hasNow 17 = .ok (.invokevirtual 41, 3) := by decide +kernel
theorem dX0_hasNow_20 : decode cX0_hasNow 20 = .ok (.invokevirtual 45, 3) := by decide +kernel
theorem dX0_hasNow_23 : decode cX0_hasNow 23 = .ok (.ireturn, 1) := by decide +kernel
theorem dX0_sum_0 : decode cX0_sum 0 = .ok (.aload_n 0, 1) := by decide +kernel
theorem dX0_sum_1 : decode cX0_sum 1 = .ok (.getfield 15, 3) := by decide +kernel
theorem dX0_sum_4 : decode cX0_sum 4 = .ok (.iload_n 1, 1) := by decide +kernel
theorem dX0_sum_5 : decode cX0_sum 5 = .ok (.invokestatic 48, 3) := by decide +kernel
theorem dX0_sum_8 : decode cX0_sum 8 = .ok (.iconst 1, 1) := by decide +kernel
theorem dX0_sum_9 : decode cX0_sum 9 = .ok (.isub, 1) := by decide +kernel
theorem dX0_sum_10 : decode cX0_sum 10 = .ok (.invokestatic 37, 3) := by decide +kernel
theorem dX0_sum_13 : decode cX0_sum 13 = .ok (.ireturn, 1) := by decide +kernel
theorem dX0_solve_0 : decode cX0_solve 0 = .ok (.aload_n 0, 1) := by decide +kernel
theorem dX0_solve_1 : decode cX0_solve 1 = .ok (.getfield 15, 3) := by decide +kernel
theorem dX0_solve_4 : decode cX0_solve 4 = .ok (.iconst 0, 1) := by decide +kernel
theorem dX0_solve_5 : decode cX0_solve 5 = .ok (.iconst 0, 1) := by decide +kernel
theorem dX0_solve_6 : decode cX0_solve 6 = .ok (.invokestatic 24, 3) := by decide +kernel
theorem dX0_solve_9 : decode cX0_solve 9 = .ok (.iconst 1, 1) := by decide +kernel
theorem dX0_solve_10 : decode cX0_solve 10 = .ok (.istore_n 2, 1) := by decide +kernel
theorem dX0_solve_11 : decode cX0_solve 11 = .ok (.iload_n 2, 1) := by decide +kernel
theorem dX0_solve_12 : decode cX0_solve 12 = .ok (.aload_n 0, 1) := by decide +kernel
theorem dX0_solve_13 : decode cX0_solve 13 = .ok (.getfield 15, 3) := by decide +kernel
theorem dX0_solve_16 : decode cX0_solve 16 = .ok (.arraylength, 1) := by decide +kernel
theorem dX0_solve_17 : decode cX0_solve 17 = .ok (.if_icmp .ge 22, 3) := by decide +kernel
theorem dX0_solve_20 : decode cX0_solve 20 = .ok (.iload_n 2, 1) := by decide +kernel
theorem dX0_solve_21 : decode cX0_solve 21 = .ok (.iload_n 1, 1) := by decide +kernel
theorem dX0_solve_22 : decode cX0_solve 22 = .ok (.invokestatic 48, 3) := by decide +kernel
theorem dX0_solve_25 : decode cX0_solve 25 = .ok (.if_icmp .ge 14, 3) := by decide +kernel
theorem dX0_solve_28 : decode cX0_solve 28 = .ok (.aload_n 0, 1) := by decide +kernel
theorem dX0_solve_29 : decode cX0_solve 29 = .ok (.iload_n 2, 1) := by decide +kernel
theorem dX0_solve_30 : decode cX0_solve 30 = .ok (.invokevirtual 51, 3) := by decide +kernel
theorem dX0_solve_33 : decode cX0_solve 33 = .ok (.iinc 2 1, 3) := by decide +kernel
theorem dX0_solve_36 : decode cX0_solve 36 = .ok (.goto (-25), 3) := by decide +kernel
theorem dX0_solve_39 : decode cX0_solve 39 = .ok (.aload_n 0, 1) := by decide +kernel
theorem dX0_solve_40 : decode cX0_solve 40 = .ok (.iload_n 1, 1) := by decide +kernel
theorem dX0_solve_41 : decode cX0_solve 41 = .ok (.invokestatic 48, 3) := by decide +kernel
theorem dX0_solve_44 : decode cX0_solve 44 = .ok (.iconst 1, 1) := by decide +kernel
theorem dX0_solve_45 : decode cX0_solve 45 = .ok (.isub, 1) := by decide +kernel
theorem dX0_solve_46 : decode cX0_solve 46 = .ok (.invokevirtual 55, 3) := by decide +kernel
theorem dX0_solve_49 : decode cX0_solve 49 = .ok (.return_, 1) := by decide +kernel
theorem dX0_seatLowest_0 : decode cX0_seatLowest 0 = .ok (.iload_n 1, 1) := by decide +kernel
theorem dX0_seatLowest_1 : decode cX0_seatLowest 1 = .ok (.invokestatic 58, 3) := by decide +kernel
theorem dX0_seatLowest_4 : decode cX0_seatLowest 4 = .ok (.istore_n 2, 1) := by decide +kernel
theorem dX0_seatLowest_5 : decode cX0_seatLowest 5 = .ok (.iload_n 1, 1) := by decide +kernel
theorem dX0_seatLowest_6 : decode cX0_seatLowest 6 = .ok (.iload_n 2, 1) := by decide +kernel
theorem dX0_seatLowest_7 : decode cX0_seatLowest 7 = .ok (.invokestatic 48, 3) := by decide +kernel
theorem dX0_seatLowest_10 : decode cX0_seatLowest 10 = .ok (.iconst (-1), 1) := by decide +kernel
theorem dX0_seatLowest_11 : decode cX0_seatLowest 11 = .ok (.ixor, 1) := by decide +kernel
theorem dX0_seatLowest_12 : decode cX0_seatLowest 12 = .ok (.iand, 1) := by decide +kernel
theorem dX0_seatLowest_13 : decode cX0_seatLowest 13 = .ok (.istore_n 3, 1) := by decide +kernel
theorem dX0_seatLowest_14 : decode cX0_seatLowest 14 = .ok (.iconst (-1), 1) := by decide +kernel
theorem dX0_seatLowest_15 : decode cX0_seatLowest 15 = .ok (.istore 4, 2) := by decide +kernel
theorem dX0_seatLowest_17 : decode cX0_seatLowest 17 = .ok (.iconst (-1), 1) := by decide +kernel
theorem dX0_seatLowest_18 : decode cX0_seatLowest 18 = .ok (.istore 5, 2) := by decide +kernel
theorem dX0_seatLowest_20 : decode cX0_seatLowest 20 = .ok (.iload_n 2, 1) := by decide +kernel
theorem dX0_seatLowest_21 : decode cX0_seatLowest 21 = .ok (.iconst 1, 1) := by decide +kernel
theorem dX0_seatLowest_22 : decode cX0_seatLowest 22 = .ok (.iadd, 1) := by decide +kernel
theorem dX0_seatLowest_23 : decode cX0_seatLowest 23 = .ok (.istore 6, 2) := by decide +kernel
theorem dX0_seatLowest_25 : decode cX0_seatLowest 25 = .ok (.iload 6, 2) := by decide +kernel
theorem dX0_seatLowest_27 : decode cX0_seatLowest 27 = .ok (.bipush 6, 2) := by decide +kernel
theorem dX0_seatLowest_29 : decode cX0_seatLowest 29 = .ok (.if_icmp .ge 73, 3) := by decide +kernel
theorem dX0_seatLowest_32 : decode cX0_seatLowest 32 = .ok (.iload_n 3, 1) := by decide +kernel
theorem dX0_seatLowest_33 : decode cX0_seatLowest 33 = .ok (.iload 6, 2) := by decide +kernel
theorem dX0_seatLowest_35 : decode cX0_seatLowest 35 = .ok (.invokestatic 48, 3) := by decide +kernel
theorem dX0_seatLowest_38 : decode cX0_seatLowest 38 = .ok (.iand, 1) := by decide +kernel
theorem dX0_seatLowest_39 : decode cX0_seatLowest 39 = .ok (.ifCond .eq 57, 3) := by decide +kernel
theorem dX0_seatLowest_42 : decode cX0_seatLowest 42 = .ok (.aload_n 0, 1) := by decide +kernel
theorem dX0_seatLowest_43 : decode cX0_seatLowest 43 = .ok (.iload_n 2, 1) := by decide +kernel
theorem dX0_seatLowest_44 : decode cX0_seatLowest 44 = .ok (.iload 6, 2) := by decide +kernel
theorem dX0_seatLowest_46 : decode cX0_seatLowest 46 = .ok (.invokevirtual 45, 3) := by decide +kernel
theorem dX0_seatLowest_49 : decode cX0_seatLowest 49 = .ok (.ifCond .ge 6, 3) := by decide +kernel
theorem dX0_seatLowest_52 : decode cX0_seatLowest 52 = .ok (.goto 44, 3) := by decide +kernel
theorem dX0_seatLowest_55 : decode cX0_seatLowest 55 = .ok (.aload_n 0, 1) := by decide +kernel
theorem dX0_seatLowest_56 : decode cX0_seatLowest 56 = .ok (.iload_n 2, 1) := by decide +kernel
theorem dX0_seatLowest_57 : decode cX0_seatLowest 57 = .ok (.iload 6, 2) := by decide +kernel
theorem dX0_seatLowest_59 : decode cX0_seatLowest 59 = .ok (.invokevirtual 45, 3) := by decide +kernel
theorem dX0_seatLowest_62 : decode cX0_seatLowest 62 = .ok (.aload_n 0, 1) := by decide +kernel
theorem dX0_seatLowest_63 : decode cX0_seatLowest 63 = .ok (.getfield 15, 3) := by decide +kernel
theorem dX0_seatLowest_66 : decode cX0_seatLowest 66 = .ok (.iload_n 3, 1) := by decide +kernel
theorem dX0_seatLowest_67 : decode cX0_seatLowest 67 = .ok (.iload 6, 2) := by decide +kernel
theorem dX0_seatLowest_69 : decode cX0_seatLowest 69 = .ok (.invokestatic 48, 3) := by decide +kernel
theorem dX0_seatLowest_72 : decode cX0_seatLowest 72 = .ok (.iconst (-1), 1) := by decide +kernel
theorem dX0_seatLowest_73 : decode cX0_seatLowest 73 = .ok (.ixor, 1) := by decide +kernel
theorem dX0_seatLowest_74 : decode cX0_seatLowest 74 = .ok (.iand, 1) := by decide +kernel
theorem dX0_seatLowest_75 : decode cX0_seatLowest 75 = .ok (.invokestatic 37, 3) := by decide +kernel
theorem dX0_seatLowest_78 : decode cX0_seatLowest 78 = .ok (.iadd, 1) := by decide +kernel
theorem dX0_seatLowest_79 : decode cX0_seatLowest 79 = .ok (.istore 7, 2) := by decide +kernel
theorem dX0_seatLowest_81 : decode cX0_seatLowest 81 = .ok (.iload 7, 2) := by decide +kernel
theorem dX0_seatLowest_83 : decode cX0_seatLowest 83 = .ok (.iload 5, 2) := by decide +kernel
theorem dX0_seatLowest_85 : decode cX0_seatLowest 85 = .ok (.if_icmp .le 11, 3) := by decide +kernel
theorem dX0_seatLowest_88 : decode cX0_seatLowest 88 = .ok (.iload 6, 2) := by decide +kernel
theorem dX0_seatLowest_90 : decode cX0_seatLowest 90 = .ok (.istore 4, 2) := by decide +kernel
theorem dX0_seatLowest_92 : decode cX0_seatLowest 92 = .ok (.iload 7, 2) := by decide +kernel
theorem dX0_seatLowest_94 : decode cX0_seatLowest 94 = .ok (.istore 5, 2) := by decide +kernel
theorem dX0_seatLowest_96 : decode cX0_seatLowest 96 = .ok (.iinc 6 1, 3) := by decide +kernel
theorem dX0_seatLowest_99 : decode cX0_seatLowest 99 = .ok (.goto (-74), 3) := by decide +kernel
theorem dX0_seatLowest_102 : decode cX0_seatLowest 102 = .ok (.aload_n 0, 1) := by decide +kernel
theorem dX0_seatLowest_103 : decode cX0_seatLowest 103 = .ok (.getfield 15, 3) := by decide +kernel
theorem dX0_seatLowest_106 : decode cX0_seatLowest 106 = .ok (.iload_n 3, 1) := by decide +kernel
theorem dX0_seatLowest_107 : decode cX0_seatLowest 107 = .ok (.invokestatic 37, 3) := by decide +kernel
theorem dX0_seatLowest_110 : decode cX0_seatLowest 110 = .ok (.iload 5, 2) := by decide +kernel
theorem dX0_seatLowest_112 : decode cX0_seatLowest 112 = .ok (.if_icmp .le 16, 3) := by decide +kernel
theorem dX0_seatLowest_115 : decode cX0_seatLowest 115 = .ok (.iconst (-1), 1) := by decide +kernel
theorem dX0_seatLowest_116 : decode cX0_seatLowest 116 = .ok (.istore 4, 2) := by decide +kernel
theorem dX0_seatLowest_118 : decode cX0_seatLowest 118 = .ok (.aload_n 0, 1) := by decide +kernel
theorem dX0_seatLowest_119 : decode cX0_seatLowest 119 = .ok (.getfield 15, 3) := by decide +kernel
theorem dX0_seatLowest_122 : decode cX0_seatLowest 122 = .ok (.iload_n 3, 1) := by decide +kernel
theorem dX0_seatLowest_123 : decode cX0_seatLowest 123 = .ok (.invokestatic 37, 3) := by decide +kernel
theorem dX0_seatLowest_126 : decode cX0_seatLowest 126 = .ok (.istore 5, 2) := by decide +kernel
theorem dX0_seatLowest_128 : decode cX0_seatLowest 128 = .ok (.aload_n 0, 1) := by decide +kernel
theorem dX0_seatLowest_129 : decode cX0_seatLowest 129 = .ok (.getfield 18, 3) := by decide +kernel
theorem dX0_seatLowest_132 : decode cX0_seatLowest 132 = .ok (.iload_n 1, 1) := by decide +kernel
theorem dX0_seatLowest_133 : decode cX0_seatLowest 133 = .ok (.iload 4, 2) := by decide +kernel
theorem dX0_seatLowest_135 : decode cX0_seatLowest 135 = .ok (.invokestatic 24, 3) := by decide +kernel
theorem dX0_seatLowest_138 : decode cX0_seatLowest 138 = .ok (.aload_n 0, 1) := by decide +kernel
theorem dX0_seatLowest_139 : decode cX0_seatLowest 139 = .ok (.getfield 15, 3) := by decide +kernel
theorem dX0_seatLowest_142 : decode cX0_seatLowest 142 = .ok (.iload_n 1, 1) := by decide +kernel
theorem dX0_seatLowest_143 : decode cX0_seatLowest 143 = .ok (.iload 5, 2) := by decide +kernel
theorem dX0_seatLowest_145 : decode cX0_seatLowest 145 = .ok (.invokestatic 24, 3) := by decide +kernel
theorem dX0_seatLowest_148 : decode cX0_seatLowest 148 = .ok (.return_, 1) := by decide +kernel
theorem dX0_readMates_0 : decode cX0_readMates 0 = .ok (.iload_n 1, 1) := by decide +kernel
theorem dX0_readMates_1 : decode cX0_readMates 1 = .ok (.istore_n 2, 1) := by decide +kernel
theorem dX0_readMates_2 : decode cX0_readMates 2 = .ok (.iconst 0, 1) := by decide +kernel
theorem dX0_readMates_3 : decode cX0_readMates 3 = .ok (.istore_n 3, 1) := by decide +kernel
theorem dX0_readMates_4 : decode cX0_readMates 4 = .ok (.iload_n 3, 1) := by decide +kernel
theorem dX0_readMates_5 : decode cX0_readMates 5 = .ok (.aload_n 0, 1) := by decide +kernel
theorem dX0_readMates_6 : decode cX0_readMates 6 = .ok (.getfield 21, 3) := by decide +kernel
theorem dX0_readMates_9 : decode cX0_readMates 9 = .ok (.arraylength, 1) := by decide +kernel
theorem dX0_readMates_10 : decode cX0_readMates 10 = .ok (.if_icmp .ge 76, 3) := by decide +kernel
theorem dX0_readMates_13 : decode cX0_readMates 13 = .ok (.iload_n 2, 1) := by decide +kernel
theorem dX0_readMates_14 : decode cX0_readMates 14 = .ok (.iload_n 3, 1) := by decide +kernel
theorem dX0_readMates_15 : decode cX0_readMates 15 = .ok (.invokestatic 48, 3) := by decide +kernel
theorem dX0_readMates_18 : decode cX0_readMates 18 = .ok (.iand, 1) := by decide +kernel
theorem dX0_readMates_19 : decode cX0_readMates 19 = .ok (.ifCond .ne 6, 3) := by decide +kernel
theorem dX0_readMates_22 : decode cX0_readMates 22 = .ok (.goto 58, 3) := by decide +kernel
theorem dX0_readMates_25 : decode cX0_readMates 25 = .ok (.aload_n 0, 1) := by decide +kernel
theorem dX0_readMates_26 : decode cX0_readMates 26 = .ok (.getfield 18, 3) := by decide +kernel
theorem dX0_readMates_29 : decode cX0_readMates 29 = .ok (.iload_n 2, 1) := by decide +kernel
theorem dX0_readMates_30 : decode cX0_readMates 30 = .ok (.invokestatic 37, 3) := by decide +kernel
theorem dX0_readMates_33 : decode cX0_readMates 33 = .ok (.istore 4, 2) := by decide +kernel
theorem dX0_readMates_35 : decode cX0_readMates 35 = .ok (.aload_n 0, 1) := by decide +kernel
theorem dX0_readMates_36 : decode cX0_readMates 36 = .ok (.getfield 21, 3) := by decide +kernel
theorem dX0_readMates_39 : decode cX0_readMates 39 = .ok (.iload_n 3, 1) := by decide +kernel
theorem dX0_readMates_40 : decode cX0_readMates 40 = .ok (.iload 4, 2) := by decide +kernel
theorem dX0_readMates_42 : decode cX0_readMates 42 = .ok (.invokestatic 24, 3) := by decide +kernel
theorem dX0_readMates_45 : decode cX0_readMates 45 = .ok (.iload_n 2, 1) := by decide +kernel
theorem dX0_readMates_46 : decode cX0_readMates 46 = .ok (.iload_n 3, 1) := by decide +kernel
theorem dX0_readMates_47 : decode cX0_readMates 47 = .ok (.invokestatic 48, 3) := by decide +kernel
theorem dX0_readMates_50 : decode cX0_readMates 50 = .ok (.iconst (-1), 1) := by decide +kernel
theorem dX0_readMates_51 : decode cX0_readMates 51 = .ok (.ixor, 1) := by decide +kernel
theorem dX0_readMates_52 : decode cX0_readMates 52 = .ok (.iand, 1) := by decide +kernel
theorem dX0_readMates_53 : decode cX0_readMates 53 = .ok (.istore_n 2, 1) := by decide +kernel
theorem dX0_readMates_54 : decode cX0_readMates 54 = .ok (.iload 4, 2) := by decide +kernel
theorem dX0_readMates_56 : decode cX0_readMates 56 = .ok (.iconst (-1), 1) := by decide +kernel
theorem dX0_readMates_57 : decode cX0_readMates 57 = .ok (.if_icmp .eq 23, 3) := by decide +kernel
theorem dX0_readMates_60 : decode cX0_readMates 60 = .ok (.aload_n 0, 1) := by decide +kernel
theorem dX0_readMates_61 : decode cX0_readMates 61 = .ok (.getfield 21, 3) := by decide +kernel
theorem dX0_readMates_64 : decode cX0_readMates 64 = .ok (.iload 4, 2) := by decide +kernel
theorem dX0_readMates_66 : decode cX0_readMates 66 = .ok (.iload_n 3, 1) := by decide +kernel
theorem dX0_readMates_67 : decode cX0_readMates 67 = .ok (.invokestatic 24, 3) := by decide +kernel
theorem dX0_readMates_70 : decode cX0_readMates 70 = .ok (.iload_n 2, 1) := by decide +kernel
theorem dX0_readMates_71 : decode cX0_readMates 71 = .ok (.iload 4, 2) := by decide +kernel
theorem dX0_readMates_73 : decode cX0_readMates 73 = .ok (.invokestatic 48, 3) := by decide +kernel
theorem dX0_readMates_76 : decode cX0_readMates 76 = .ok (.iconst (-1), 1) := by decide +kernel
theorem dX0_readMates_77 : decode cX0_readMates 77 = .ok (.ixor, 1) := by decide +kernel
theorem dX0_readMates_78 : decode cX0_readMates 78 = .ok (.iand, 1) := by decide +kernel
theorem dX0_readMates_79 : decode cX0_readMates 79 = .ok (.istore_n 2, 1) := by decide +kernel
theorem dX0_readMates_80 : decode cX0_readMates 80 = .ok (.iinc 3 1, 3) := by decide +kernel
theorem dX0_readMates_83 : decode cX0_readMates 83 = .ok (.goto (-79), 3) := by decide +kernel
theorem dX0_readMates_86 : decode cX0_readMates 86 = .ok (.return_, 1) := by decide +kernel
theorem dX1_init_0 : decode cX1_init 0 = .ok (.aload_n 0, 1) := by decide +kernel
theorem dX1_init_1 : decode cX1_init 1 = .ok (.invokespecial 1, 3) := by decide +kernel
theorem dX1_init_4 : decode cX1_init 4 = .ok (.aload_n 0, 1) := by decide +kernel
theorem dX1_init_5 : decode cX1_init 5 = .ok (.iconst 1, 1) := by decide +kernel
theorem dX1_init_6 : decode cX1_init 6 = .ok (.iload_n 1, 1) := by decide +kernel
theorem dX1_init_7 : decode cX1_init 7 = .ok (.invokestatic 7, 3) := by decide +kernel
theorem dX1_init_10 : decode cX1_init 10 = .ok (.anewarray 13, 3) := by decide +kernel
theorem dX1_init_13 : decode cX1_init 13 = .ok (.putfield 15, 3) := by decide +kernel
theorem dX1_init_16 : decode cX1_init 16 = .ok (.iconst 0, 1) := by decide +kernel
theorem dX1_init_17 : decode cX1_init 17 = .ok (.istore_n 2, 1) := by decide +kernel
theorem dX1_init_18 : decode cX1_init 18 = .ok (.iload_n 2, 1) := by decide +kernel
theorem dX1_init_19 : decode cX1_init 19 = .ok (.aload_n 0, 1) := by decide +kernel
theorem dX1_init_20 : decode cX1_init 20 = .ok (.getfield 15, 3) := by decide +kernel
theorem dX1_init_23 : decode cX1_init 23 = .ok (.arraylength, 1) := by decide +kernel
theorem dX1_init_24 : decode cX1_init 24 = .ok (.if_icmp .ge 22, 3) := by decide +kernel
theorem dX1_init_27 : decode cX1_init 27 = .ok (.aload_n 0, 1) := by decide +kernel
theorem dX1_init_28 : decode cX1_init 28 = .ok (.getfield 15, 3) := by decide +kernel
theorem dX1_init_31 : decode cX1_init 31 = .ok (.iload_n 2, 1) := by decide +kernel
theorem dX1_init_32 : decode cX1_init 32 = .ok (.new 13, 3) := by decide +kernel
theorem dX1_init_35 : decode cX1_init 35 = .ok (.dup, 1) := by decide +kernel
theorem dX1_init_36 : decode cX1_init 36 = .ok (.invokespecial 21, 3) := by decide +kernel
theorem dX1_init_39 : decode cX1_init 39 = .ok (.aastore, 1) := by decide +kernel
theorem dX1_init_40 : decode cX1_init 40 = .ok (.iinc 2 1, 3) := by decide +kernel
theorem dX1_init_43 : decode cX1_init 43 = .ok (.goto (-25), 3) := by decide +kernel
theorem dX1_init_46 : decode cX1_init 46 = .ok (.return_, 1) := by decide +kernel
theorem dX1_size_0 : decode cX1_size 0 = .ok (.aload_n 0, 1) := by decide +kernel
theorem dX1_size_1 : decode cX1_size 1 = .ok (.getfield 22, 3) := by decide +kernel
theorem dX1_size_4 : decode cX1_size 4 = .ok (.ireturn, 1) := by decide +kernel
theorem dX1_isFull_0 : decode cX1_isFull 0 = .ok (.aload_n 0, 1) := by decide +kernel
theorem dX1_isFull_1 : decode cX1_isFull 1 = .ok (.getfield 22, 3) := by decide +kernel
theorem dX1_isFull_4 : decode cX1_isFull 4 = .ok (.aload_n 0, 1) := by decide +kernel
theorem dX1_isFull_5 : decode cX1_isFull 5 = .ok (.getfield 15, 3) := by decide +kernel
theorem dX1_isFull_8 : decode cX1_isFull 8 = .ok (.arraylength, 1) := by decide +kernel
theorem dX1_isFull_9 : decode cX1_isFull 9 = .ok (.if_icmp .lt 7, 3) := by decide +kernel
theorem dX1_isFull_12 : decode cX1_isFull 12 = .ok (.iconst 1, 1) := by decide +kernel
theorem dX1_isFull_13 : decode cX1_isFull 13 = .ok (.goto 4, 3) := by decide +kernel
theorem dX1_isFull_16 : decode cX1_isFull 16 = .ok (.iconst 0, 1) := by decide +kernel
theorem dX1_isFull_17 : decode cX1_isFull 17 = .ok (.ireturn, 1) := by decide +kernel
theorem dX1_clear_0 : decode cX1_clear 0 = .ok (.aload_n 0, 1) := by decide +kernel
theorem dX1_clear_1 : decode cX1_clear 1 = .ok (.iconst 0, 1) := by decide +kernel
theorem dX1_clear_2 : decode cX1_clear 2 = .ok (.putfield 22, 3) := by decide +kernel
theorem dX1_clear_5 : decode cX1_clear 5 = .ok (.return_, 1) := by decide +kernel
theorem dX1_push_0 : decode cX1_push 0 = .ok (.aload_n 0, 1) := by decide +kernel
theorem dX1_push_1 : decode cX1_push 1 = .ok (.invokevirtual 26, 3) := by decide +kernel
theorem dX1_push_4 : decode cX1_push 4 = .ok (.ifCond .eq 7, 3) := by decide +kernel
theorem dX1_push_7 : decode cX1_push 7 = .ok (.aload_n 0, 1) := by decide +kernel
theorem dX1_push_8 : decode cX1_push 8 = .ok (.invokevirtual 30, 3) := by decide +kernel
theorem dX1_push_11 : decode cX1_push 11 = .ok (.aload_n 0, 1) := by decide +kernel
theorem dX1_push_12 : decode cX1_push 12 = .ok (.aload_n 0, 1) := by decide +kernel
theorem dX1_push_13 : decode cX1_push 13 = .ok (.getfield 22, 3) := by decide +kernel
theorem dX1_push_16 : decode cX1_push 16 = .ok (.invokevirtual 33, 3) := by decide +kernel
theorem dX1_push_19 : decode cX1_push 19 = .ok (.ifCond .eq 26, 3) := by decide +kernel
theorem dX1_push_22 : decode cX1_push 22 = .ok (.aload_n 0, 1) := by decide +kernel
theorem dX1_push_23 : decode cX1_push 23 = .ok (.getfield 15, 3) := by decide +kernel
theorem dX1_push_26 : decode cX1_push 26 = .ok (.aload_n 0, 1) := by decide +kernel
theorem dX1_push_27 : decode cX1_push 27 = .ok (.getfield 22, 3) := by decide +kernel
theorem dX1_push_30 : decode cX1_push 30 = .ok (.aaload, 1) := by decide +kernel
theorem dX1_push_31 : decode cX1_push 31 = .ok (.aload_n 1, 1) := by decide +kernel
theorem dX1_push_32 : decode cX1_push 32 = .ok (.invokevirtual 37, 3) := by decide +kernel
theorem dX1_push_35 : decode cX1_push 35 = .ok (.aload_n 0, 1) := by decide +kernel
theorem dX1_push_36 : decode cX1_push 36 = .ok (.dup, 1) := by decide +kernel
theorem dX1_push_37 : decode cX1_push 37 = .ok (.getfield 22, 3) := by decide +kernel
theorem dX1_push_40 : decode cX1_push 40 = .ok (.iconst 1, 1) := by decide +kernel
theorem dX1_push_41 : decode cX1_push 41 = .ok (.iadd, 1) := by decide +kernel
theorem dX1_push_42 : decode cX1_push 42 = .ok (.putfield 22, 3) := by decide +kernel
theorem dX1_push_45 : decode cX1_push 45 = .ok (.return_, 1) := by decide +kernel
theorem dX1_popInto_0 : decode cX1_popInto 0 = .ok (.aload_n 0, 1) := by decide +kernel
theorem dX1_popInto_1 : decode cX1_popInto 1 = .ok (.aload_n 0, 1) := by decide +kernel
theorem dX1_popInto_2 : decode cX1_popInto 2 = .ok (.getfield 22, 3) := by decide +kernel
theorem dX1_popInto_5 : decode cX1_popInto 5 = .ok (.iconst 1, 1) := by decide +kernel
theorem dX1_popInto_6 : decode cX1_popInto 6 = .ok (.isub, 1) := by decide +kernel
theorem dX1_popInto_7 : decode cX1_popInto 7 = .ok (.invokevirtual 33, 3) := by decide +kernel
theorem dX1_popInto_10 : decode cX1_popInto 10 = .ok (.ifCond .ne 5, 3) := by decide +kernel
theorem dX1_popInto_13 : decode cX1_popInto 13 = .ok (.iconst 0, 1) := by decide +kernel
theorem dX1_popInto_14 : decode cX1_popInto 14 = .ok (.ireturn, 1) := by decide +kernel
theorem dX1_popInto_15 : decode cX1_popInto 15 = .ok (.aload_n 0, 1) := by decide +kernel
theorem dX1_popInto_16 : decode cX1_popInto 16 = .ok (.dup, 1) := by decide +kernel
theorem dX1_popInto_17 : decode cX1_popInto 17 = .ok (.getfield 22, 3) := by decide +kernel
theorem dX1_popInto_20 : decode cX1_popInto 20 = .ok (.iconst 1, 1) := by decide +kernel
theorem dX1_popInto_21 : decode cX1_popInto 21 = .ok (.isub, 1) := by decide +kernel
theorem dX1_popInto_22 : decode cX1_popInto 22 = .ok (.putfield 22, 3) := by decide +kernel
theorem dX1_popInto_25 : decode cX1_popInto 25 = .ok (.aload_n 1, 1) := by decide +kernel
theorem dX1_popInto_26 : decode cX1_popInto 26 = .ok (.aload_n 0, 1) := by decide +kernel
theorem dX1_popInto_27 : decode cX1_popInto 27 = .ok (.getfield 15, 3) := by decide +kernel
theorem dX1_popInto_30 : decode cX1_popInto 30 = .ok (.aload_n 0, 1) := by decide +kernel
theorem dX1_popInto_31 : decode cX1_popInto 31 = .ok (.getfield 22, 3) := by decide +kernel
theorem dX1_popInto_34 : decode cX1_popInto 34 = .ok (.aaload, 1) := by decide +kernel
theorem dX1_popInto_35 : decode cX1_popInto 35 = .ok (.invokevirtual 37, 3) := by decide +kernel
theorem dX1_popInto_38 : decode cX1_popInto 38 = .ok (.iconst 1, 1) := by decide +kernel
theorem dX1_popInto_39 : decode cX1_popInto 39 = .ok (.ireturn, 1) := by decide +kernel
theorem dX1_dropOldest_0 : decode cX1_dropOldest 0 = .ok (.aload_n 0, 1) := by decide +kernel
theorem dX1_dropOldest_1 : decode cX1_dropOldest 1 = .ok (.iconst 0, 1) := by decide +kernel
theorem dX1_dropOldest_2 : decode cX1_dropOldest 2 = .ok (.invokevirtual 33, 3) := by decide +kernel
theorem dX1_dropOldest_5 : decode cX1_dropOldest 5 = .ok (.ifCond .ne 4, 3) := by decide +kernel
theorem dX1_dropOldest_8 : decode cX1_dropOldest 8 = .ok (.return_, 1) := by decide +kernel
theorem dX1_dropOldest_9 : decode cX1_dropOldest 9 = .ok (.aload_n 0, 1) := by decide +kernel
theorem dX1_dropOldest_10 : decode cX1_dropOldest 10 = .ok (.getfield 15, 3) := by decide +kernel
theorem dX1_dropOldest_13 : decode cX1_dropOldest 13 = .ok (.iconst 0, 1) := by decide +kernel
theorem dX1_dropOldest_14 : decode cX1_dropOldest 14 = .ok (.aaload, 1) := by decide +kernel
theorem dX1_dropOldest_15 : decode cX1_dropOldest 15 = .ok (.astore_n 1, 1) := by decide +kernel
theorem dX1_dropOldest_16 : decode cX1_dropOldest 16 = .ok (.iconst 1, 1) := by decide +kernel
theorem dX1_dropOldest_17 : decode cX1_dropOldest 17 = .ok (.istore_n 2, 1) := by decide +kernel
theorem dX1_dropOldest_18 : decode cX1_dropOldest 18 = .ok (.iload_n 2, 1) := by decide +kernel
theorem dX1_dropOldest_19 : decode cX1_dropOldest 19 = .ok (.aload_n 0, 1) := by decide +kernel
theorem dX1_dropOldest_20 : decode cX1_dropOldest 20 = .ok (.getfield 15, 3) := by decide +kernel
theorem dX1_dropOldest_23 : decode cX1_dropOldest 23 = .ok (.arraylength, 1) := by decide +kernel
theorem dX1_dropOldest_24 : decode cX1_dropOldest 24 = .ok (.if_icmp .ge 23, 3) := by decide +kernel
theorem dX1_dropOldest_27 : decode cX1_dropOldest 27 = .ok (.aload_n 0, 1) := by decide +kernel
theorem dX1_dropOldest_28 : decode cX1_dropOldest 28 = .ok (.getfield 15, 3) := by decide +kernel
theorem dX1_dropOldest_31 : decode cX1_dropOldest 31 = .ok (.iload_n 2, 1) := by decide +kernel
theorem dX1_dropOldest_32 : decode cX1_dropOldest 32 = .ok (.iconst 1, 1) := by decide +kernel
theorem dX1_dropOldest_33 : decode cX1_dropOldest 33 = .ok (.isub, 1) := by decide +kernel
theorem dX1_dropOldest_34 : decode cX1_dropOldest 34 = .ok (.aload_n 0, 1) := by decide +kernel
theorem dX1_dropOldest_35 : decode cX1_dropOldest 35 = .ok (.getfield 15, 3) := by decide +kernel
theorem dX1_dropOldest_38 : decode cX1_dropOldest 38 = .ok (.iload_n 2, 1) := by decide +kernel
theorem dX1_dropOldest_39 : decode cX1_dropOldest 39 = .ok (.aaload, 1) := by decide +kernel
theorem dX1_dropOldest_40 : decode cX1_dropOldest 40 = .ok (.aastore, 1) := by decide +kernel
theorem dX1_dropOldest_41 : decode cX1_dropOldest 41 = .ok (.iinc 2 1, 3) := by decide +kernel
theorem dX1_dropOldest_44 : decode cX1_dropOldest 44 = .ok (.goto (-26), 3) := by decide +kernel
theorem dX1_dropOldest_47 : decode cX1_dropOldest 47 = .ok (.aload_n 0, 1) := by decide +kernel
theorem dX1_dropOldest_48 : decode cX1_dropOldest 48 = .ok (.getfield 15, 3) := by decide +kernel
theorem dX1_dropOldest_51 : decode cX1_dropOldest 51 = .ok (.aload_n 0, 1) := by decide +kernel
theorem dX1_dropOldest_52 : decode cX1_dropOldest 52 = .ok (.getfield 15, 3) := by decide +kernel
theorem dX1_dropOldest_55 : decode cX1_dropOldest 55 = .ok (.arraylength, 1) := by decide +kernel
theorem dX1_dropOldest_56 : decode cX1_dropOldest 56 = .ok (.iconst 1, 1) := by decide +kernel
theorem dX1_dropOldest_57 : decode cX1_dropOldest 57 = .ok (.isub, 1) := by decide +kernel
theorem dX1_dropOldest_58 : decode cX1_dropOldest 58 = .ok (.aload_n 1, 1) := by decide +kernel
theorem dX1_dropOldest_59 : decode cX1_dropOldest 59 = .ok (.aastore, 1) := by decide +kernel
theorem dX1_dropOldest_60 : decode cX1_dropOldest 60 = .ok (.aload_n 0, 1) := by decide +kernel
theorem dX1_dropOldest_61 : decode cX1_dropOldest 61 = .ok (.aload_n 0, 1) := by decide +kernel
theorem dX1_dropOldest_62 : decode cX1_dropOldest 62 = .ok (.getfield 15, 3) := by decide +kernel
theorem dX1_dropOldest_65 : decode cX1_dropOldest 65 = .ok (.arraylength, 1) := by decide +kernel
theorem dX1_dropOldest_66 : decode cX1_dropOldest 66 = .ok (.iconst 1, 1) := by decide +kernel
theorem dX1_dropOldest_67 : decode cX1_dropOldest 67 = .ok (.isub, 1) := by decide +kernel
theorem dX1_dropOldest_68 : decode cX1_dropOldest 68 = .ok (.putfield 22, 3) := by decide +kernel
theorem dX1_dropOldest_71 : decode cX1_dropOldest 71 = .ok (.return_, 1) := by decide +kernel
theorem dX1_isState_0 : decode cX1_isState 0 = .ok (.iload_n 1, 1) := by decide +kernel
theorem dX1_isState_1 : decode cX1_isState 1 = .ok (.ifCond .lt 25, 3) := by decide +kernel
theorem dX1_isState_4 : decode cX1_isState 4 = .ok (.iload_n 1, 1) := by decide +kernel
theorem dX1_isState_5 : decode cX1_isState 5 = .ok (.aload_n 0, 1) := by decide +kernel
theorem dX1_isState_6 : decode cX1_isState 6 = .ok (.getfield 15, 3) := by decide +kernel
theorem dX1_isState_9 : decode cX1_isState 9 = .ok (.arraylength, 1) := by decide +kernel
theorem dX1_isState_10 : decode cX1_isState 10 = .ok (.if_icmp .ge 16, 3) := by decide +kernel
theorem dX1_isState_13 : decode cX1_isState 13 = .ok (.aload_n 0, 1) := by decide +kernel
theorem dX1_isState_14 : decode cX1_isState 14 = .ok (.getfield 15, 3) := by decide +kernel
theorem dX1_isState_17 : decode cX1_isState 17 = .ok (.iload_n 1, 1) := by decide +kernel
theorem dX1_isState_18 : decode cX1_isState 18 = .ok (.aaload, 1) := by decide +kernel
theorem dX1_isState_19 : decode cX1_isState 19 = .ok (.ifnull 7, 3) := by decide +kernel
theorem dX1_isState_22 : decode cX1_isState 22 = .ok (.iconst 1, 1) := by decide +kernel
theorem dX1_isState_23 : decode cX1_isState 23 = .ok (.goto 4, 3) := by decide +kernel
theorem dX1_isState_26 : decode cX1_isState 26 = .ok (.iconst 0, 1) := by decide +kernel
theorem dX1_isState_27 : decode cX1_isState 27 = .ok (.ireturn, 1) := by decide +kernel
theorem dX2_init_0 : decode cX2_init 0 = .ok (.aload_n 0, 1) := by decide +kernel
theorem dX2_init_1 : decode cX2_init 1 = .ok (.invokespecial 3, 3) := by decide +kernel
theorem dX2_init_4 : decode cX2_init 4 = .ok (.aload_n 0, 1) := by decide +kernel
theorem dX2_init_5 : decode cX2_init 5 = .ok (.bipush 6, 2) := by decide +kernel
theorem dX2_init_7 : decode cX2_init 7 = .ok (.newarray .int, 2) := by decide +kernel
theorem dX2_init_9 : decode cX2_init 9 = .ok (.putfield 9, 3) := by decide +kernel
theorem dX2_init_12 : decode cX2_init 12 = .ok (.aload_n 0, 1) := by decide +kernel
theorem dX2_init_13 : decode cX2_init 13 = .ok (.iconst (-1), 1) := by decide +kernel
theorem dX2_init_14 : decode cX2_init 14 = .ok (.putfield 15, 3) := by decide +kernel
theorem dX2_init_17 : decode cX2_init 17 = .ok (.aload_n 0, 1) := by decide +kernel
theorem dX2_init_18 : decode cX2_init 18 = .ok (.iconst (-1), 1) := by decide +kernel
theorem dX2_init_19 : decode cX2_init 19 = .ok (.putfield 19, 3) := by decide +kernel
theorem dX2_init_22 : decode cX2_init 22 = .ok (.aload_n 0, 1) := by decide +kernel
theorem dX2_init_23 : decode cX2_init 23 = .ok (.iconst (-1), 1) := by decide +kernel
theorem dX2_init_24 : decode cX2_init 24 = .ok (.putfield 22, 3) := by decide +kernel
theorem dX2_init_27 : decode cX2_init 27 = .ok (.aload_n 0, 1) := by decide +kernel
theorem dX2_init_28 : decode cX2_init 28 = .ok (.iconst (-1), 1) := by decide +kernel
theorem dX2_init_29 : decode cX2_init 29 = .ok (.putfield 25, 3) := by decide +kernel
theorem dX2_init_32 : decode cX2_init 32 = .ok (.return_, 1) := by decide +kernel
theorem dX2_startIn_0 : decode cX2_startIn 0 = .ok (.iconst 0, 1) := by decide +kernel
theorem dX2_startIn_1 : decode cX2_startIn 1 = .ok (.istore_n 2, 1) := by decide +kernel
theorem dX2_startIn_2 : decode cX2_startIn 2 = .ok (.iload_n 2, 1) := by decide +kernel
theorem dX2_startIn_3 : decode cX2_startIn 3 = .ok (.aload_n 0, 1) := by decide +kernel
theorem dX2_startIn_4 : decode cX2_startIn 4 = .ok (.getfield 9, 3) := by decide +kernel
theorem dX2_startIn_7 : decode cX2_startIn 7 = .ok (.arraylength, 1) := by decide +kernel
theorem dX2_startIn_8 : decode cX2_startIn 8 = .ok (.if_icmp .ge 35, 3) := by decide +kernel
theorem dX2_startIn_11 : decode cX2_startIn 11 = .ok (.aload_n 0, 1) := by decide +kernel
theorem dX2_startIn_12 : decode cX2_startIn 12 = .ok (.getfield 9, 3) := by decide +kernel
theorem dX2_startIn_15 : decode cX2_startIn 15 = .ok (.iload_n 2, 1) := by decide +kernel
theorem dX2_startIn_16 : decode cX2_startIn 16 = .ok (.iload_n 2, 1) := by decide +kernel
theorem dX2_startIn_17 : decode cX2_startIn 17 = .ok (.aload_n 1, 1) := by decide +kernel
theorem dX2_startIn_18 : decode cX2_startIn 18 = .ok (.getfield 28, 3) := by decide +kernel
theorem dX2_startIn_21 : decode cX2_startIn 21 = .ok (.if_icmp .ge 14, 3) := by decide +kernel
theorem dX2_startIn_24 : decode cX2_startIn 24 = .ok (.aload_n 1, 1) := by decide +kernel
theorem dX2_startIn_25 : decode cX2_startIn 25 = .ok (.getfield 33, 3) := by decide +kernel
theorem dX2_startIn_28 : decode cX2_startIn 28 = .ok (.iload_n 2, 1) := by decide +kernel
theorem dX2_startIn_29 : decode cX2_startIn 29 = .ok (.invokestatic 36, 3) := by decide +kernel
theorem dX2_startIn_32 : decode cX2_startIn 32 = .ok (.goto 4, 3) := by decide +kernel
theorem dX2_startIn_35 : decode cX2_startIn 35 = .ok (.iconst 0, 1) := by decide +kernel
theorem dX2_startIn_36 : decode cX2_startIn 36 = .ok (.iastore, 1) := by decide +kernel
theorem dX2_startIn_37 : decode cX2_startIn 37 = .ok (.iinc 2 1, 3) := by decide +kernel
theorem dX2_startIn_40 : decode cX2_startIn 40 = .ok (.goto (-38), 3) := by decide +kernel
theorem dX2_startIn_43 : decode cX2_startIn 43 = .ok (.aload_n 0, 1) := by decide +kernel
theorem dX2_startIn_44 : decode cX2_startIn 44 = .ok (.iconst 0, 1) := by decide +kernel
theorem dX2_startIn_45 : decode cX2_startIn 45 = .ok (.putfield 40, 3) := by decide +kernel
theorem dX2_startIn_48 : decode cX2_startIn 48 = .ok (.aload_n 0, 1) := by decide +kernel
theorem dX2_startIn_49 : decode cX2_startIn 49 = .ok (.iconst 0, 1) := by decide +kernel
theorem dX2_startIn_50 : decode cX2_startIn 50 = .ok (.putfield 43, 3) := by decide +kernel
theorem dX2_startIn_53 : decode cX2_startIn 53 = .ok (.aload_n 0, 1) := by decide +kernel
theorem dX2_startIn_54 : decode cX2_startIn 54 = .ok (.iconst 0, 1) := by decide +kernel
theorem dX2_startIn_55 : decode cX2_startIn 55 = .ok (.putfield 46, 3) := by decide +kernel
theorem dX2_startIn_58 : decode cX2_startIn 58 = .ok (.aload_n 0, 1) := by decide +kernel
theorem dX2_startIn_59 : decode cX2_startIn 59 = .ok (.invokevirtual 49, 3) := by decide +kernel
theorem dX2_startIn_62 : decode cX2_startIn 62 = .ok (.return_, 1) := by decide +kernel
theorem dX2_copyFrom_0 : decode cX2_copyFrom 0 = .ok (.iconst 0, 1) := by decide +kernel
theorem dX2_copyFrom_1 : decode cX2_copyFrom 1 = .ok (.istore_n 2, 1) := by decide +kernel
theorem dX2_copyFrom_2 : decode cX2_copyFrom 2 = .ok (.iload_n 2, 1) := by decide +kernel
theorem dX2_copyFrom_3 : decode cX2_copyFrom 3 = .ok (.aload_n 0, 1) := by decide +kernel
theorem dX2_copyFrom_4 : decode cX2_copyFrom 4 = .ok (.getfield 9, 3) := by decide +kernel
theorem dX2_copyFrom_7 : decode cX2_copyFrom 7 = .ok (.arraylength, 1) := by decide +kernel
theorem dX2_copyFrom_8 : decode cX2_copyFrom 8 = .ok (.if_icmp .ge 23, 3) := by decide +kernel
theorem dX2_copyFrom_11 : decode cX2_copyFrom 11 = .ok (.aload_n 0, 1) := by decide +kernel
theorem dX2_copyFrom_12 : decode cX2_copyFrom 12 = .ok (.getfield 9, 3) := by decide +kernel
theorem dX2_copyFrom_15 : decode cX2_copyFrom 15 = .ok (.iload_n 2, 1) := by decide +kernel
theorem dX2_copyFrom_16 : decode cX2_copyFrom 16 = .ok (.aload_n 1, 1) := by decide +kernel
theorem dX2_copyFrom_17 : decode cX2_copyFrom 17 = .ok (.getfield 9, 3) := by decide +kernel
theorem dX2_copyFrom_20 : decode cX2_copyFrom 20 = .ok (.iload_n 2, 1) := by decide +kernel
theorem dX2_copyFrom_21 : decode cX2_copyFrom 21 = .ok (.invokestatic 36, 3) := by decide +kernel
theorem dX2_copyFrom_24 : decode cX2_copyFrom 24 = .ok (.iastore, 1) := by decide +kernel
theorem dX2_copyFrom_25 : decode cX2_copyFrom 25 = .ok (.iinc 2 1, 3) := by decide +kernel
theorem dX2_copyFrom_28 : decode cX2_copyFrom 28 = .ok (.goto (-26), 3) := by decide +kernel
theorem dX2_copyFrom_31 : decode cX2_copyFrom 31 = .ok (.aload_n 0, 1) := by decide +kernel
theorem dX2_copyFrom_32 : decode cX2_copyFrom 32 = .ok (.aload_n 1, 1) := by decide +kernel
theorem dX2_copyFrom_33 : decode cX2_copyFrom 33 = .ok (.getfield 40, 3) := by decide +kernel
theorem dX2_copyFrom_36 : decode cX2_copyFrom 36 = .ok (.putfield 40, 3) := by decide +kernel
theorem dX2_copyFrom_39 : decode cX2_copyFrom 39 = .ok (.aload_n 0, 1) := by decide +kernel
theorem dX2_copyFrom_40 : decode cX2_copyFrom 40 = .ok (.aload_n 1, 1) := by decide +kernel
theorem dX2_copyFrom_41 : decode cX2_copyFrom 41 = .ok (.getfield 15, 3) := by decide +kernel
theorem dX2_copyFrom_44 : decode cX2_copyFrom 44 = .ok (.putfield 15, 3) := by decide +kernel
theorem dX2_copyFrom_47 : decode cX2_copyFrom 47 = .ok (.aload_n 0, 1) := by decide +kernel
theorem dX2_copyFrom_48 : decode cX2_copyFrom 48 = .ok (.aload_n 1, 1) := by decide +kernel
theorem dX2_copyFrom_49 : decode cX2_copyFrom 49 = .ok (.getfield 19, 3) := by decide +kernel
theorem dX2_copyFrom_52 : decode cX2_copyFrom 52 = .ok (.putfield 19, 3) := by decide +kernel
theorem dX2_copyFrom_55 : decode cX2_copyFrom 55 = .ok (.aload_n 0, 1) := by decide +kernel
theorem dX2_copyFrom_56 : decode cX2_copyFrom 56 = .ok (.aload_n 1, 1) := by decide +kernel
theorem dX2_copyFrom_57 : decode cX2_copyFrom 57 = .ok (.getfield 22, 3) := by decide +kernel
theorem dX2_copyFrom_60 : decode cX2_copyFrom 60 = .ok (.putfield 22, 3) := by decide +kernel
theorem dX2_copyFrom_63 : decode cX2_copyFrom 63 = .ok (.aload_n 0, 1) := by decide +kernel
theorem dX2_copyFrom_64 : decode cX2_copyFrom 64 = .ok (.aload_n 1, 1) := by decide +kernel
theorem dX2_copyFrom_65 : decode cX2_copyFrom 65 = .ok (.getfield 25, 3) := by decide +kernel
theorem dX2_copyFrom_68 : decode cX2_copyFrom 68 = .ok (.putfield 25, 3) := by decide +kernel
theorem dX2_copyFrom_71 : decode cX2_copyFrom 71 = .ok (.aload_n 0, 1) := by decide +kernel
theorem dX2_copyFrom_72 : decode cX2_copyFrom 72 = .ok (.aload_n 1, 1) := by decide +kernel
theorem dX2_copyFrom_73 : decode cX2_copyFrom 73 = .ok (.getfield 52, 3) := by decide +kernel
theorem dX2_copyFrom_76 : decode cX2_copyFrom 76 = .ok (.putfield 52, 3) := by decide +kernel
theorem dX2_copyFrom_79 : decode cX2_copyFrom 79 = .ok (.aload_n 0, 1) := by decide +kernel
theorem dX2_copyFrom_80 : decode cX2_copyFrom 80 = .ok (.aload_n 1, 1) := by decide +kernel
theorem dX2_copyFrom_81 : decode cX2_copyFrom 81 = .ok (.getfield 55, 3) := by decide +kernel
theorem dX2_copyFrom_84 : decode cX2_copyFrom 84 = .ok (.putfield 55, 3) := by decide +kernel
theorem dX2_copyFrom_87 : decode cX2_copyFrom 87 = .ok (.aload_n 0, 1) := by decide +kernel
theorem dX2_copyFrom_88 : decode cX2_copyFrom 88 = .ok (.aload_n 1, 1) := by decide +kernel
theorem dX2_copyFrom_89 : decode cX2_copyFrom 89 = .ok (.getfield 43, 3) := by decide +kernel
theorem dX2_copyFrom_92 : decode cX2_copyFrom 92 = .ok (.putfield 43, 3) := by decide +kernel
theorem dX2_copyFrom_95 : decode cX2_copyFrom 95 = .ok (.aload_n 0, 1) := by decide +kernel
theorem dX2_copyFrom_96 : decode cX2_copyFrom 96 = .ok (.aload_n 1, 1) := by decide +kernel
theorem dX2_copyFrom_97 : decode cX2_copyFrom 97 = .ok (.getfield 46, 3) := by decide +kernel
theorem dX2_copyFrom_100 : decode cX2_copyFrom 100 = .ok (.putfield 46, 3) := by decide +kernel
theorem dX2_copyFrom_103 : decode cX2_copyFrom 103 = .ok (.return_, 1) := by decide +kernel
theorem dX2_anyoneSits_0 : decode cX2_anyoneSits 0 = .ok (.aload_n 0, 1) := by decide +kernel
theorem dX2_anyoneSits_1 : decode cX2_anyoneSits 1 = .ok (.getfield 15, 3) := by decide +kernel
theorem dX2_anyoneSits_4 : decode cX2_anyoneSits 4 = .ok (.iconst (-1), 1) := by decide +kernel
theorem dX2_anyoneSits_5 : decode cX2_anyoneSits 5 = .ok (.if_icmp .eq 7, 3) := by decide +kernel
theorem dX2_anyoneSits_8 : decode cX2_anyoneSits 8 = .ok (.iconst 1, 1) := by decide +kernel
theorem dX2_anyoneSits_9 : decode cX2_anyoneSits 9 = .ok (.goto 4, 3) := by decide +kernel
theorem dX2_anyoneSits_12 : decode cX2_anyoneSits 12 = .ok (.iconst 0, 1) := by decide +kernel
theorem dX2_anyoneSits_13 : decode cX2_anyoneSits 13 = .ok (.ireturn, 1) := by decide +kernel
theorem dX2_isSeated_0 : decode cX2_isSeated 0 = .ok (.aload_n 0, 1) := by decide +kernel
theorem dX2_isSeated_1 : decode cX2_isSeated 1 = .ok (.invokevirtual 58, 3) := by decide +kernel
theorem dX2_isSeated_4 : decode cX2_isSeated 4 = .ok (.ifCond .eq 23, 3) := by decide +kernel
theorem dX2_isSeated_7 : decode cX2_isSeated 7 = .ok (.iload_n 1, 1) := by decide +kernel
theorem dX2_isSeated_8 : decode cX2_isSeated 8 = .ok (.aload_n 0, 1) := by decide +kernel
theorem dX2_isSeated_9 : decode cX2_isSeated 9 = .ok (.getfield 15, 3) := by decide +kernel
theorem dX2_isSeated_12 : decode cX2_isSeated 12 = .ok (.if_icmp .eq 11, 3) := by decide +kernel
theorem dX2_isSeated_15 : decode cX2_isSeated 15 = .ok (.iload_n 1, 1) := by decide +kernel
theorem dX2_isSeated_16 : decode cX2_isSeated 16 = .ok (.aload_n 0, 1) := by decide +kernel
theorem dX2_isSeated_17 : decode cX2_isSeated 17 = .ok (.getfield 19, 3) := by decide +kernel
theorem dX2_isSeated_20 : decode cX2_isSeated 20 = .ok (.if_icmp .ne 7, 3) := by decide +kernel
theorem dX2_isSeated_23 : decode cX2_isSeated 23 = .ok (.iconst 1, 1) := by decide +kernel
theorem dX2_isSeated_24 : decode cX2_isSeated 24 = .ok (.goto 4, 3) := by decide +kernel
theorem dX2_isSeated_27 : decode cX2_isSeated 27 = .ok (.iconst 0, 1) := by decide +kernel
theorem dX2_isSeated_28 : decode cX2_isSeated 28 = .ok (.ireturn, 1) := by decide +kernel
theorem dX2_isTelling_0 : decode cX2_isTelling 0 = .ok (.aload_n 0, 1) := by decide +kernel
theorem dX2_isTelling_1 : decode cX2_isTelling 1 = .ok (.getfield 25, 3) := by decide +kernel
theorem dX2_isTelling_4 : decode cX2_isTelling 4 = .ok (.iconst (-1), 1) := by decide +kernel
theorem dX2_isTelling_5 : decode cX2_isTelling 5 = .ok (.if_icmp .eq 7, 3) := by decide +kernel
theorem dX2_isTelling_8 : decode cX2_isTelling 8 = .ok (.iconst 1, 1) := by decide +kernel
theorem dX2_isTelling_9 : decode cX2_isTelling 9 = .ok (.goto 4, 3) := by decide +kernel
theorem dX2_isTelling_12 : decode cX2_isTelling 12 = .ok (.iconst 0, 1) := by decide +kernel
theorem dX2_isTelling_13 : decode cX2_isTelling 13 = .ok (.ireturn, 1) := by decide +kernel
theorem dX2_isHushed_0 : decode cX2_isHushed 0 = .ok (.aload_n 0, 1) := by decide +kernel
theorem dX2_isHushed_1 : decode cX2_isHushed 1 = .ok (.getfield 40, 3) := by decide +kernel
theorem dX2_isHushed_4 : decode cX2_isHushed 4 = .ok (.iload_n 1, 1) := by decide +kernel
theorem dX2_isHushed_5 : decode cX2_isHushed 5 = .ok (.invokestatic 62, 3) := by decide +kernel
theorem dX2_isHushed_8 : decode cX2_isHushed 8 = .ok (.iand, 1) := by decide +kernel
theorem dX2_isHushed_9 : decode cX2_isHushed 9 = .ok (.ifCond .eq 7, 3) := by decide +kernel
theorem dX2_isHushed_12 : decode cX2_isHushed 12 = .ok (.iconst 1, 1) := by decide +kernel
theorem dX2_isHushed_13 : decode cX2_isHushed 13 = .ok (.goto 4, 3) := by decide +kernel
theorem dX2_isHushed_16 : decode cX2_isHushed 16 = .ok (.iconst 0, 1) := by decide +kernel
theorem dX2_isHushed_17 : decode cX2_isHushed 17 = .ok (.ireturn, 1) := by decide +kernel
theorem dX2_canHush_0 : decode cX2_canHush 0 = .ok (.aload_n 0, 1) := by decide +kernel
theorem dX2_canHush_1 : decode cX2_canHush 1 = .ok (.iload_n 1, 1) := by decide +kernel
theorem dX2_canHush_2 : decode cX2_canHush 2 = .ok (.invokevirtual 66, 3) := by decide +kernel
theorem dX2_canHush_5 : decode cX2_canHush 5 = .ok (.ifCond .ne 15, 3) := by decide +kernel
theorem dX2_canHush_8 : decode cX2_canHush 8 = .ok (.aload_n 0, 1) := by decide +kernel
theorem dX2_canHush_9 : decode cX2_canHush 9 = .ok (.getfield 25, 3) := by decide +kernel
theorem dX2_canHush_12 : decode cX2_canHush 12 = .ok (.iload_n 1, 1) := by decide +kernel
theorem dX2_canHush_13 : decode cX2_canHush 13 = .ok (.if_icmp .eq 7, 3) := by decide +kernel
theorem dX2_canHush_16 : decode cX2_canHush 16 = .ok (.iconst 1, 1) := by decide +kernel
theorem dX2_canHush_17 : decode cX2_canHush 17 = .ok (.goto 4, 3) := by decide +kernel
theorem dX2_canHush_20 : decode cX2_canHush 20 = .ok (.iconst 0, 1) := by decide +kernel
theorem dX2_canHush_21 : decode cX2_canHush 21 = .ok (.ireturn, 1) := by decide +kernel
theorem dX2_knownBy_0 : decode cX2_knownBy 0 = .ok (.aload_n 0, 1) := by decide +kernel
theorem dX2_knownBy_1 : decode cX2_knownBy 1 = .ok (.getfield 9, 3) := by decide +kernel
theorem dX2_knownBy_4 : decode cX2_knownBy 4 = .ok (.iload_n 1, 1) := by decide +kernel
theorem dX2_knownBy_5 : decode cX2_knownBy 5 = .ok (.invokestatic 36, 3) := by decide +kernel
theorem dX2_knownBy_8 : decode cX2_knownBy 8 = .ok (.ireturn, 1) := by decide +kernel
theorem dX2_knownByAll_0 : decode cX2_knownByAll 0 = .ok (.iconst 0, 1) := by decide +kernel
theorem dX2_knownByAll_1 : decode cX2_knownByAll 1 = .ok (.istore_n 1, 1) := by decide +kernel
theorem dX2_knownByAll_2 : decode cX2_knownByAll 2 = .ok (.iconst 0, 1) := by decide +kernel
theorem dX2_knownByAll_3 : decode cX2_knownByAll 3 = .ok (.istore_n 2, 1) := by decide +kernel
theorem dX2_knownByAll_4 : decode cX2_knownByAll 4 = .ok (.iload_n 2, 1) := by decide +kernel
theorem dX2_knownByAll_5 : decode cX2_knownByAll 5 = .ok (.aload_n 0, 1) := by decide +kernel
theorem dX2_knownByAll_6 : decode cX2_knownByAll 6 = .ok (.getfield 9, 3) := by decide +kernel
theorem dX2_knownByAll_9 : decode cX2_knownByAll 9 = .ok (.arraylength, 1) := by decide +kernel
theorem dX2_knownByAll_10 : decode cX2_knownByAll 10 = .ok (.if_icmp .ge 21, 3) := by decide +kernel
theorem dX2_knownByAll_13 : decode cX2_knownByAll 13 = .ok (.iload_n 1, 1) := by decide +kernel
theorem dX2_knownByAll_14 : decode cX2_knownByAll 14 = .ok (.aload_n 0, 1) := by decide +kernel
theorem dX2_knownByAll_15 : decode cX2_knownByAll 15 = .ok (.getfield 9, 3) := by decide +kernel
theorem dX2_knownByAll_18 : decode cX2_knownByAll 18 = .ok (.iload_n 2, 1) := by decide +kernel
theorem dX2_knownByAll_19 : decode cX2_knownByAll 19 = .ok (.iaload, 1) := by decide +kernel
theorem dX2_knownByAll_20 : decode cX2_knownByAll 20 = .ok (.invokestatic 70, 3) := by decide +kernel
theorem dX2_knownByAll_23 : decode cX2_knownByAll 23 = .ok (.iadd, 1) := by decide +kernel
theorem dX2_knownByAll_24 : decode cX2_knownByAll 24 = .ok (.istore_n 1, 1) := by decide +kernel
theorem dX2_knownByAll_25 : decode cX2_knownByAll 25 = .ok (.iinc 2 1, 3) := by decide +kernel
theorem dX2_knownByAll_28 : decode cX2_knownByAll 28 = .ok (.goto (-24), 3) := by decide +kernel
theorem dX2_knownByAll_31 : decode cX2_knownByAll 31 = .ok (.iload_n 1, 1) := by decide +kernel
theorem dX2_knownByAll_32 : decode cX2_knownByAll 32 = .ok (.ireturn, 1) := by decide +kernel
theorem dX2_knowersOf_0 : decode cX2_knowersOf 0 = .ok (.iconst 0, 1) := by decide +kernel
theorem dX2_knowersOf_1 : decode cX2_knowersOf 1 = .ok (.istore_n 2, 1) := by decide +kernel
theorem dX2_knowersOf_2 : decode cX2_knowersOf 2 = .ok (.iconst 0, 1) := by decide +kernel
theorem dX2_knowersOf_3 : decode cX2_knowersOf 3 = .ok (.istore_n 3, 1) := by decide +kernel
theorem dX2_knowersOf_4 : decode cX2_knowersOf 4 = .ok (.iload_n 3, 1) := by decide +kernel
theorem dX2_knowersOf_5 : decode cX2_knowersOf 5 = .ok (.aload_n 0, 1) := by decide +kernel
theorem dX2_knowersOf_6 : decode cX2_knowersOf 6 = .ok (.getfield 9, 3) := by decide +kernel
theorem dX2_knowersOf_9 : decode cX2_knowersOf 9 = .ok (.arraylength, 1) := by decide +kernel
theorem dX2_knowersOf_10 : decode cX2_knowersOf 10 = .ok (.if_icmp .ge 30, 3) := by decide +kernel
theorem dX2_knowersOf_13 : decode cX2_knowersOf 13 = .ok (.aload_n 0, 1) := by decide +kernel
theorem dX2_knowersOf_14 : decode cX2_knowersOf 14 = .ok (.getfield 9, 3) := by decide +kernel
theorem dX2_knowersOf_17 : decode cX2_knowersOf 17 = .ok (.iload_n 3, 1) := by decide +kernel
theorem dX2_knowersOf_18 : decode cX2_knowersOf 18 = .ok (.iaload, 1) := by decide +kernel
theorem dX2_knowersOf_19 : decode cX2_knowersOf 19 = .ok (.iload_n 1, 1) := by decide +kernel
theorem dX2_knowersOf_20 : decode cX2_knowersOf 20 = .ok (.invokestatic 62, 3) := by decide +kernel
theorem dX2_knowersOf_23 : decode cX2_knowersOf 23 = .ok (.iand, 1) := by decide +kernel
theorem dX2_knowersOf_24 : decode cX2_knowersOf 24 = .ok (.ifCond .eq 10, 3) := by decide +kernel
theorem dX2_knowersOf_27 : decode cX2_knowersOf 27 = .ok (.iload_n 2, 1) := by decide +kernel
theorem dX2_knowersOf_28 : decode cX2_knowersOf 28 = .ok (.iload_n 3, 1) := by decide +kernel
theorem dX2_knowersOf_29 : decode cX2_knowersOf 29 = .ok (.invokestatic 62, 3) := by decide +kernel
theorem dX2_knowersOf_32 : decode cX2_knowersOf 32 = .ok (.ior, 1) := by decide +kernel
theorem dX2_knowersOf_33 : decode cX2_knowersOf 33 = .ok (.istore_n 2, 1) := by decide +kernel
theorem dX2_knowersOf_34 : decode cX2_knowersOf 34 = .ok (.iinc 3 1, 3) := by decide +kernel
theorem dX2_knowersOf_37 : decode cX2_knowersOf 37 = .ok (.goto (-33), 3) := by decide +kernel
theorem dX2_knowersOf_40 : decode cX2_knowersOf 40 = .ok (.iload_n 2, 1) := by decide +kernel
theorem dX2_knowersOf_41 : decode cX2_knowersOf 41 = .ok (.ireturn, 1) := by decide +kernel
theorem dX2_hearersOf_0 : decode cX2_hearersOf 0 = .ok (.iconst 0, 1) := by decide +kernel
theorem dX2_hearersOf_1 : decode cX2_hearersOf 1 = .ok (.istore 4, 2) := by decide +kernel
theorem dX2_hearersOf_3 : decode cX2_hearersOf 3 = .ok (.iconst 0, 1) := by decide +kernel
theorem dX2_hearersOf_4 : decode cX2_hearersOf 4 = .ok (.istore 5, 2) := by decide +kernel
theorem dX2_hearersOf_6 : decode cX2_hearersOf 6 = .ok (.iload 5, 2) := by decide +kernel
theorem dX2_hearersOf_8 : decode cX2_hearersOf 8 = .ok (.aload_n 1, 1) := by decide +kernel
theorem dX2_hearersOf_9 : decode cX2_hearersOf 9 = .ok (.getfield 28, 3) := by decide +kernel
theorem dX2_hearersOf_12 : decode cX2_hearersOf 12 = .ok (.if_icmp .ge 48, 3) := by decide +kernel
theorem dX2_hearersOf_15 : decode cX2_hearersOf 15 = .ok (.iload_n 3, 1) := by decide +kernel
theorem dX2_hearersOf_16 : decode cX2_hearersOf 16 = .ok (.iload 5, 2) := by decide +kernel
theorem dX2_hearersOf_18 : decode cX2_hearersOf 18 = .ok (.invokestatic 62, 3) := by decide +kernel
theorem dX2_hearersOf_21 : decode cX2_hearersOf 21 = .ok (.iand, 1) := by decide +kernel
theorem dX2_hearersOf_22 : decode cX2_hearersOf 22 = .ok (.ifCond .eq 32, 3) := by decide +kernel
theorem dX2_hearersOf_25 : decode cX2_hearersOf 25 = .ok (.aload_n 1, 1) := by decide +kernel
theorem dX2_hearersOf_26 : decode cX2_hearersOf 26 = .ok (.iload 5, 2) := by decide +kernel
theorem dX2_hearersOf_28 : decode cX2_hearersOf 28 = .ok (.invokevirtual 75, 3) := by decide +kernel
theorem dX2_hearersOf_31 : decode cX2_hearersOf 31 = .ok (.iconst 1, 1) := by decide +kernel
theorem dX2_hearersOf_32 : decode cX2_hearersOf 32 = .ok (.if_icmp .eq 22, 3) := by decide +kernel
theorem dX2_hearersOf_35 : decode cX2_hearersOf 35 = .ok (.aload_n 0, 1) := by decide +kernel
theorem dX2_hearersOf_36 : decode cX2_hearersOf 36 = .ok (.iload_n 2, 1) := by decide +kernel
theorem dX2_hearersOf_37 : decode cX2_hearersOf 37 = .ok (.invokevirtual 66, 3) := by decide +kernel
theorem dX2_hearersOf_40 : decode cX2_hearersOf 40 = .ok (.ifCond .ne 14, 3) := by decide +kernel
theorem dX2_hearersOf_43 : decode cX2_hearersOf 43 = .ok (.iload 4, 2) := by decide +kernel
theorem dX2_hearersOf_45 : decode cX2_hearersOf 45 = .ok (.aload_n 1, 1) := by decide +kernel
theorem dX2_hearersOf_46 : decode cX2_hearersOf 46 = .ok (.iload 5, 2) := by decide +kernel
theorem dX2_hearersOf_48 : decode cX2_hearersOf 48 = .ok (.invokevirtual 78, 3) := by decide +kernel
theorem dX2_hearersOf_51 : decode cX2_hearersOf 51 = .ok (.ior, 1) := by decide +kernel
theorem dX2_hearersOf_52 : decode cX2_hearersOf 52 = .ok (.istore 4, 2) := by decide +kernel
theorem dX2_hearersOf_54 : decode cX2_hearersOf 54 = .ok (.iinc 5 1, 3) := by decide +kernel
theorem dX2_hearersOf_57 : decode cX2_hearersOf 57 = .ok (.goto (-51), 3) := by decide +kernel
theorem dX2_hearersOf_60 : decode cX2_hearersOf 60 = .ok (.iload 4, 2) := by decide +kernel
theorem dX2_hearersOf_62 : decode cX2_hearersOf 62 = .ok (.aload_n 1, 1) := by decide +kernel
theorem dX2_hearersOf_63 : decode cX2_hearersOf 63 = .ok (.iload_n 2, 1) := by decide +kernel
theorem dX2_hearersOf_64 : decode cX2_hearersOf 64 = .ok (.invokevirtual 81, 3) := by decide +kernel
theorem dX2_hearersOf_67 : decode cX2_hearersOf 67 = .ok (.invokestatic 62, 3) := by decide +kernel
theorem dX2_hearersOf_70 : decode cX2_hearersOf 70 = .ok (.iconst (-1), 1) := by decide +kernel
theorem dX2_hearersOf_71 : decode cX2_hearersOf 71 = .ok (.ixor, 1) := by decide +kernel
theorem dX2_hearersOf_72 : decode cX2_hearersOf 72 = .ok (.iand, 1) := by decide +kernel
theorem dX2_hearersOf_73 : decode cX2_hearersOf 73 = .ok (.ireturn, 1) := by decide +kernel
theorem dX2_mayTell_0 : decode cX2_mayTell 0 = .ok (.aload_n 1, 1) := by decide +kernel
theorem dX2_mayTell_1 : decode cX2_mayTell 1 = .ok (.getfield 84, 3) := by decide +kernel
theorem dX2_mayTell_4 : decode cX2_mayTell 4 = .ok (.iload_n 2, 1) := by decide +kernel
theorem dX2_mayTell_5 : decode cX2_mayTell 5 = .ok (.invokestatic 36, 3) := by decide +kernel
theorem dX2_mayTell_8 : decode cX2_mayTell 8 = .ok (.iconst 1, 1) := by decide +kernel
theorem dX2_mayTell_9 : decode cX2_mayTell 9 = .ok (.if_icmp .ne 5, 3) := by decide +kernel
theorem dX2_mayTell_12 : decode cX2_mayTell 12 = .ok (.iconst 0, 1) := by decide +kernel
theorem dX2_mayTell_13 : decode cX2_mayTell 13 = .ok (.ireturn, 1) := by decide +kernel
theorem dX2_mayTell_14 : decode cX2_mayTell 14 = .ok (.aload_n 0, 1) := by decide +kernel
theorem dX2_mayTell_15 : decode cX2_mayTell 15 = .ok (.getfield 9, 3) := by decide +kernel
theorem dX2_mayTell_18 : decode cX2_mayTell 18 = .ok (.iload_n 2, 1) := by decide +kernel
theorem dX2_mayTell_19 : decode cX2_mayTell 19 = .ok (.invokestatic 36, 3) := by decide +kernel
theorem dX2_mayTell_22 : decode cX2_mayTell 22 = .ok (.aload_n 0, 1) := by decide +kernel
theorem dX2_mayTell_23 : decode cX2_mayTell 23 = .ok (.getfield 40, 3) := by decide +kernel
theorem dX2_mayTell_26 : decode cX2_mayTell 26 = .ok (.iconst (-1), 1) := by decide +kernel
theorem dX2_mayTell_27 : decode cX2_mayTell 27 = .ok (.ixor, 1) := by decide +kernel
theorem dX2_mayTell_28 : decode cX2_mayTell 28 = .ok (.iand, 1) := by decide +kernel
theorem dX2_mayTell_29 : decode cX2_mayTell 29 = .ok (.aload_n 1, 1) := by decide +kernel
theorem dX2_mayTell_30 : decode cX2_mayTell 30 = .ok (.getfield 87, 3) := by decide +kernel
theorem dX2_mayTell_33 : decode cX2_mayTell 33 = .ok (.iload_n 3, 1) := by decide +kernel
theorem dX2_mayTell_34 : decode cX2_mayTell 34 = .ok (.invokestatic 36, 3) := by decide +kernel
theorem dX2_mayTell_37 : decode cX2_mayTell 37 = .ok (.iconst (-1), 1) := by decide +kernel
theorem dX2_mayTell_38 : decode cX2_mayTell 38 = .ok (.ixor, 1) := by decide +kernel
theorem dX2_mayTell_39 : decode cX2_mayTell 39 = .ok (.iand, 1) := by decide +kernel
theorem dX2_mayTell_40 : decode cX2_mayTell 40 = .ok (.ireturn, 1) := by decide +kernel
theorem dX2_seat_0 : decode cX2_seat 0 = .ok (.aload_n 0, 1) := by decide +kernel
theorem dX2_seat_1 : decode cX2_seat 1 = .ok (.invokevirtual 49, 3) := by decide +kernel
theorem dX2_seat_4 : decode cX2_seat 4 = .ok (.aload_n 0, 1) := by decide +kernel
theorem dX2_seat_5 : decode cX2_seat 5 = .ok (.iload_n 1, 1) := by decide +kernel
theorem dX2_seat_6 : decode cX2_seat 6 = .ok (.putfield 15, 3) := by decide +kernel
theorem dX2_seat_9 : decode cX2_seat 9 = .ok (.aload_n 0, 1) := by decide +kernel
theorem dX2_seat_10 : decode cX2_seat 10 = .ok (.iload_n 2, 1) := by decide +kernel
theorem dX2_seat_11 : decode cX2_seat 11 = .ok (.putfield 19, 3) := by decide +kernel
theorem dX2_seat_14 : decode cX2_seat 14 = .ok (.aload_n 0, 1) := by decide +kernel
theorem dX2_seat_15 : decode cX2_seat 15 = .ok (.iload_n 1, 1) := by decide +kernel
theorem dX2_seat_16 : decode cX2_seat 16 = .ok (.putfield 22, 3) := by decide +kernel
theorem dX2_seat_19 : decode cX2_seat 19 = .ok (.return_, 1) := by decide +kernel
theorem dX2_standUp_0 : decode cX2_standUp 0 = .ok (.aload_n 0, 1) := by decide +kernel
theorem dX2_standUp_1 : decode cX2_standUp 1 = .ok (.iconst (-1), 1) := by decide +kernel
theorem dX2_standUp_2 : decode cX2_standUp 2 = .ok (.putfield 15, 3) := by decide +kernel
theorem dX2_standUp_5 : decode cX2_standUp 5 = .ok (.aload_n 0, 1) := by decide +kernel
theorem dX2_standUp_6 : decode cX2_standUp 6 = .ok (.iconst (-1), 1) := by decide +kernel
theorem dX2_standUp_7 : decode cX2_standUp 7 = .ok (.putfield 19, 3) := by decide +kernel
theorem dX2_standUp_10 : decode cX2_standUp 10 = .ok (.aload_n 0, 1) := by decide +kernel
theorem dX2_standUp_11 : decode cX2_standUp 11 = .ok (.iconst (-1), 1) := by decide +kernel
theorem dX2_standUp_12 : decode cX2_standUp 12 = .ok (.putfield 22, 3) := by decide +kernel
theorem dX2_standUp_15 : decode cX2_standUp 15 = .ok (.aload_n 0, 1) := by decide +kernel
theorem dX2_standUp_16 : decode cX2_standUp 16 = .ok (.iconst 0, 1) := by decide +kernel
theorem dX2_standUp_17 : decode cX2_standUp 17 = .ok (.putfield 55, 3) := by decide +kernel
theorem dX2_standUp_20 : decode cX2_standUp 20 = .ok (.aload_n 0, 1) := by decide +kernel
theorem dX2_standUp_21 : decode cX2_standUp 21 = .ok (.invokevirtual 90, 3) := by decide +kernel
theorem dX2_standUp_24 : decode cX2_standUp 24 = .ok (.return_, 1) := by decide +kernel
theorem dX2_endTale_0 : decode cX2_endTale 0 = .ok (.aload_n 0, 1) := by decide +kernel
theorem dX2_endTale_1 : decode cX2_endTale 1 = .ok (.iconst (-1), 1) := by decide +kernel
theorem dX2_endTale_2 : decode cX2_endTale 2 = .ok (.putfield 25, 3) := by decide +kernel
theorem dX2_endTale_5 : decode cX2_endTale 5 = .ok (.aload_n 0, 1) := by decide +kernel
theorem dX2_endTale_6 : decode cX2_endTale 6 = .ok (.iconst 0, 1) := by decide +kernel
theorem dX2_endTale_7 : decode cX2_endTale 7 = .ok (.putfield 52, 3) := by decide +kernel
theorem dX2_endTale_10 : decode cX2_endTale 10 = .ok (.return_, 1) := by decide +kernel
theorem dX2_listener_0 : decode cX2_listener 0 = .ok (.aload_n 0, 1) := by decide +kernel
theorem dX2_listener_1 : decode cX2_listener 1 = .ok (.getfield 22, 3) := by decide +kernel
theorem dX2_listener_4 : decode cX2_listener 4 = .ok (.aload_n 0, 1) := by decide +kernel
theorem dX2_listener_5 : decode cX2_listener 5 = .ok (.getfield 15, 3) := by decide +kernel
theorem dX2_listener_8 : decode cX2_listener 8 = .ok (.if_icmp .ne 10, 3) := by decide +kernel
theorem dX2_listener_11 : decode cX2_listener 11 = .ok (.aload_n 0, 1) := by decide +kernel
theorem dX2_listener_12 : decode cX2_listener 12 = .ok (.getfield 19, 3) := by decide +kernel
theorem dX2_listener_15 : decode cX2_listener 15 = .ok (.goto 7, 3) := by decide +kernel
theorem dX2_listener_18 : decode cX2_listener 18 = .ok (.aload_n 0, 1) := by decide +kernel
theorem dX2_listener_19 : decode cX2_listener 19 = .ok (.getfield 15, 3) := by decide +kernel
theorem dX2_listener_22 : decode cX2_listener 22 = .ok (.ireturn, 1) := by decide +kernel
theorem dX2_isSilent_0 : decode cX2_isSilent 0 = .ok (.aload_n 0, 1) := by decide +kernel
theorem dX2_isSilent_1 : decode cX2_isSilent 1 = .ok (.aload_n 1, 1) := by decide +kernel
theorem dX2_isSilent_2 : decode cX2_isSilent 2 = .ok (.aload_n 0, 1) := by decide +kernel
theorem dX2_isSilent_3 : decode cX2_isSilent 3 = .ok (.getfield 15, 3) := by decide +kernel
theorem dX2_isSilent_6 : decode cX2_isSilent 6 = .ok (.aload_n 0, 1) := by decide +kernel
theorem dX2_isSilent_7 : decode cX2_isSilent 7 = .ok (.getfield 19, 3) := by decide +kernel
theorem dX2_isSilent_10 : decode cX2_isSilent 10 = .ok (.invokevirtual 93, 3) := by decide +kernel
theorem dX2_isSilent_13 : decode cX2_isSilent 13 = .ok (.aload_n 0, 1) := by decide +kernel
theorem dX2_isSilent_14 : decode cX2_isSilent 14 = .ok (.aload_n 1, 1) := by decide +kernel
theorem dX2_isSilent_15 : decode cX2_isSilent 15 = .ok (.aload_n 0, 1) := by decide +kernel
theorem dX2_isSilent_16 : decode cX2_isSilent 16 = .ok (.getfield 19, 3) := by decide +kernel
theorem dX2_isSilent_19 : decode cX2_isSilent 19 = .ok (.aload_n 0, 1) := by decide +kernel
theorem dX2_isSilent_20 : decode cX2_isSilent 20 = .ok (.getfield 15, 3) := by decide +kernel
theorem dX2_isSilent_23 : decode cX2_isSilent 23 = .ok (.invokevirtual 93, 3) := by decide +kernel
theorem dX2_isSilent_26 : decode cX2_isSilent 26 = .ok (.ior, 1) := by decide +kernel
theorem dX2_isSilent_27 : decode cX2_isSilent 27 = .ok (.istore_n 2, 1) := by decide +kernel
theorem dX2_isSilent_28 : decode cX2_isSilent 28 = .ok (.aload_n 0, 1) := by decide +kernel
theorem dX2_isSilent_29 : decode cX2_isSilent 29 = .ok (.invokevirtual 58, 3) := by decide +kernel
theorem dX2_isSilent_32 : decode cX2_isSilent 32 = .ok (.ifCond .eq 25, 3) := by decide +kernel
theorem dX2_isSilent_35 : decode cX2_isSilent 35 = .ok (.aload_n 0, 1) := by decide +kernel
theorem dX2_isSilent_36 : decode cX2_isSilent 36 = .ok (.invokevirtual 97, 3) := by decide +kernel
theorem dX2_isSilent_39 : decode cX2_isSilent 39 = .ok (.ifCond .ne 18, 3) := by decide +kernel
theorem dX2_isSilent_42 : decode cX2_isSilent 42 = .ok (.iload_n 2, 1) := by decide +kernel
theorem dX2_isSilent_43 : decode cX2_isSilent 43 = .ok (.aload_n 0, 1) := by decide +kernel
theorem dX2_isSilent_44 : decode cX2_isSilent 44 = .ok (.getfield 55, 3) := by decide +kernel
theorem dX2_isSilent_47 : decode cX2_isSilent 47 = .ok (.iconst (-1), 1) := by decide +kernel
theorem dX2_isSilent_48 : decode cX2_isSilent 48 = .ok (.ixor, 1) := by decide +kernel
theorem dX2_isSilent_49 : decode cX2_isSilent 49 = .ok (.iand, 1) := by decide +kernel
theorem dX2_isSilent_50 : decode cX2_isSilent 50 = .ok (.ifCond .ne 7, 3) := by decide +kernel
theorem dX2_isSilent_53 : decode cX2_isSilent 53 = .ok (.iconst 1, 1) := by decide +kernel
theorem dX2_isSilent_54 : decode cX2_isSilent 54 = .ok (.goto 4, 3) := by decide +kernel
theorem dX2_isSilent_57 : decode cX2_isSilent 57 = .ok (.iconst 0, 1) := by decide +kernel
theorem dX2_isSilent_58 : decode cX2_isSilent 58 = .ok (.ireturn, 1) := by decide +kernel
theorem dX2_goOn_0 : decode cX2_goOn 0 = .ok (.iconst 0, 1) := by decide +kernel
theorem dX2_goOn_1 : decode cX2_goOn 1 = .ok (.istore_n 3, 1) := by decide +kernel
theorem dX2_goOn_2 : decode cX2_goOn 2 = .ok (.iload_n 3, 1) := by decide +kernel
theorem dX2_goOn_3 : decode cX2_goOn 3 = .ok (.iload_n 2, 1) := by decide +kernel
theorem dX2_goOn_4 : decode cX2_goOn 4 = .ok (.if_icmp .ge 52, 3) := by decide +kernel
theorem dX2_goOn_7 : decode cX2_goOn 7 = .ok (.aload_n 0, 1) := by decide +kernel
theorem dX2_goOn_8 : decode cX2_goOn 8 = .ok (.aload_n 1, 1) := by decide +kernel
theorem dX2_goOn_9 : decode cX2_goOn 9 = .ok (.invokevirtual 100, 3) := by decide +kernel
theorem dX2_goOn_12 : decode cX2_goOn 12 = .ok (.aload_n 0, 1) := by decide +kernel
theorem dX2_goOn_13 : decode cX2_goOn 13 = .ok (.invokevirtual 97, 3) := by decide +kernel
theorem dX2_goOn_16 : decode cX2_goOn 16 = .ok (.ifCond .eq 20, 3) := by decide +kernel
theorem dX2_goOn_19 : decode cX2_goOn 19 = .ok (.iload_n 2, 1) := by decide +kernel
theorem dX2_goOn_20 : decode cX2_goOn 20 = .ok (.iload_n 3, 1) := by decide +kernel
theorem dX2_goOn_21 : decode cX2_goOn 21 = .ok (.isub, 1) := by decide +kernel
theorem dX2_goOn_22 : decode cX2_goOn 22 = .ok (.iconst 1, 1) := by decide +kernel
theorem dX2_goOn_23 : decode cX2_goOn 23 = .ok (.aload_n 0, 1) := by decide +kernel
theorem dX2_goOn_24 : decode cX2_goOn 24 = .ok (.getfield 52, 3) := by decide +kernel
theorem dX2_goOn_27 : decode cX2_goOn 27 = .ok (.invokestatic 104, 3) := by decide +kernel
theorem dX2_goOn_30 : decode cX2_goOn 30 = .ok (.invokestatic 110, 3) := by decide +kernel
theorem dX2_goOn_33 : decode cX2_goOn 33 = .ok (.goto 6, 3) := by decide +kernel
theorem dX2_goOn_36 : decode cX2_goOn 36 = .ok (.iload_n 2, 1) := by decide +kernel
theorem dX2_goOn_37 : decode cX2_goOn 37 = .ok (.iload_n 3, 1) := by decide +kernel
theorem dX2_goOn_38 : decode cX2_goOn 38 = .ok (.isub, 1) := by decide +kernel
theorem dX2_goOn_39 : decode cX2_goOn 39 = .ok (.istore 4, 2) := by decide +kernel
theorem dX2_goOn_41 : decode cX2_goOn 41 = .ok (.aload_n 0, 1) := by decide +kernel
theorem dX2_goOn_42 : decode cX2_goOn 42 = .ok (.aload_n 1, 1) := by decide +kernel
theorem dX2_goOn_43 : decode cX2_goOn 43 = .ok (.iload 4, 2) := by decide +kernel
theorem dX2_goOn_45 : decode cX2_goOn 45 = .ok (.invokevirtual 113, 3) := by decide +kernel
theorem dX2_goOn_48 : decode cX2_goOn 48 = .ok (.iload_n 3, 1) := by decide +kernel
theorem dX2_goOn_49 : decode cX2_goOn 49 = .ok (.iload 4, 2) := by decide +kernel
theorem dX2_goOn_51 : decode cX2_goOn 51 = .ok (.iadd, 1) := by decide +kernel
theorem dX2_goOn_52 : decode cX2_goOn 52 = .ok (.istore_n 3, 1) := by decide +kernel
theorem dX2_goOn_53 : decode cX2_goOn 53 = .ok (.goto (-51), 3) := by decide +kernel
theorem dX2_goOn_56 : decode cX2_goOn 56 = .ok (.aload_n 0, 1) := by decide +kernel
theorem dX2_goOn_57 : decode cX2_goOn 57 = .ok (.dup, 1) := by decide +kernel
theorem dX2_goOn_58 : decode cX2_goOn 58 = .ok (.getfield 43, 3) := by decide +kernel
theorem dX2_goOn_61 : decode cX2_goOn 61 = .ok (.iload_n 2, 1) := by decide +kernel
theorem dX2_goOn_62 : decode cX2_goOn 62 = .ok (.iadd, 1) := by decide +kernel
theorem dX2_goOn_63 : decode cX2_goOn 63 = .ok (.putfield 43, 3) := by decide +kernel
theorem dX2_goOn_66 : decode cX2_goOn 66 = .ok (.return_, 1) := by decide +kernel
theorem dX2_beginTale_0 : decode cX2_beginTale 0 = .ok (.aload_n 0, 1) := by decide +kernel
theorem dX2_beginTale_1 : decode cX2_beginTale 1 = .ok (.invokevirtual 58, 3) := by decide +kernel
theorem dX2_beginTale_4 : decode cX2_beginTale 4 = .ok (.ifCond .eq 10, 3) := by decide +kernel
theorem dX2_beginTale_7 : decode cX2_beginTale 7 = .ok (.aload_n 0, 1) := by decide +kernel
theorem dX2_beginTale_8 : decode cX2_beginTale 8 = .ok (.invokevirtual 97, 3) := by decide +kernel
theorem dX2_beginTale_11 : decode cX2_beginTale 11 = .ok (.ifCond .eq 4, 3) := by decide +kernel
theorem dX2_beginTale_14 : decode cX2_beginTale 14 = .ok (.return_, 1) := by decide +kernel
theorem dX2_beginTale_15 : decode cX2_beginTale 15 = .ok (.aload_n 0, 1) := by decide +kernel
theorem dX2_beginTale_16 : decode cX2_beginTale 16 = .ok (.aload_n 1, 1) := by decide +kernel
theorem dX2_beginTale_17 : decode cX2_beginTale 17 = .ok (.aload_n 0, 1) := by decide +kernel
theorem dX2_beginTale_18 : decode cX2_beginTale 18 = .ok (.getfield 22, 3) := by decide +kernel
theorem dX2_beginTale_21 : decode cX2_beginTale 21 = .ok (.aload_n 0, 1) := by decide +kernel
theorem dX2_beginTale_22 : decode cX2_beginTale 22 = .ok (.invokevirtual 117, 3) := by decide +kernel
theorem dX2_beginTale_25 : decode cX2_beginTale 25 = .ok (.invokevirtual 93, 3) := by decide +kernel
theorem dX2_beginTale_28 : decode cX2_beginTale 28 = .ok (.aload_n 0, 1) := by decide +kernel
theorem dX2_beginTale_29 : decode cX2_beginTale 29 = .ok (.getfield 55, 3) := by decide +kernel
theorem dX2_beginTale_32 : decode cX2_beginTale 32 = .ok (.iconst (-1), 1) := by decide +kernel
theorem dX2_beginTale_33 : decode cX2_beginTale 33 = .ok (.ixor, 1) := by decide +kernel
theorem dX2_beginTale_34 : decode cX2_beginTale 34 = .ok (.iand, 1) := by decide +kernel
theorem dX2_beginTale_35 : decode cX2_beginTale 35 = .ok (.istore_n 2, 1) := by decide +kernel
theorem dX2_beginTale_36 : decode cX2_beginTale 36 = .ok (.iload_n 2, 1) := by decide +kernel
theorem dX2_beginTale_37 : decode cX2_beginTale 37 = .ok (.ifCond .ne 43, 3) := by decide +kernel
theorem dX2_beginTale_40 : decode cX2_beginTale 40 = .ok (.aload_n 0, 1) := by decide +kernel
theorem dX2_beginTale_41 : decode cX2_beginTale 41 = .ok (.aload_n 1, 1) := by decide +kernel
theorem dX2_beginTale_42 : decode cX2_beginTale 42 = .ok (.aload_n 0, 1) := by decide +kernel
theorem dX2_beginTale_43 : decode cX2_beginTale 43 = .ok (.invokevirtual 117, 3) := by decide +kernel
theorem dX2_beginTale_46 : decode cX2_beginTale 46 = .ok (.aload_n 0, 1) := by decide +kernel
theorem dX2_beginTale_47 : decode cX2_beginTale 47 = .ok (.getfield 22, 3) := by decide +kernel
theorem dX2_beginTale_50 : decode cX2_beginTale 50 = .ok (.invokevirtual 93, 3) := by decide +kernel
theorem dX2_beginTale_53 : decode cX2_beginTale 53 = .ok (.aload_n 0, 1) := by decide +kernel
theorem dX2_beginTale_54 : decode cX2_beginTale 54 = .ok (.getfield 55, 3) := by decide +kernel
theorem dX2_beginTale_57 : decode cX2_beginTale 57 = .ok (.iconst (-1), 1) := by decide +kernel
theorem dX2_beginTale_58 : decode cX2_beginTale 58 = .ok (.ixor, 1) := by decide +kernel
theorem dX2_beginTale_59 : decode cX2_beginTale 59 = .ok (.iand, 1) := by decide +kernel
theorem dX2_beginTale_60 : decode cX2_beginTale 60 = .ok (.istore_n 2, 1) := by decide +kernel
theorem dX2_beginTale_61 : decode cX2_beginTale 61 = .ok (.aload_n 0, 1) := by decide +kernel
theorem dX2_beginTale_62 : decode cX2_beginTale 62 = .ok (.iload_n 2, 1) := by decide +kernel
theorem dX2_beginTale_63 : decode cX2_beginTale 63 = .ok (.ifCond .ne 10, 3) := by decide +kernel
theorem dX2_beginTale_66 : decode cX2_beginTale 66 = .ok (.aload_n 0, 1) := by decide +kernel
theorem dX2_beginTale_67 : decode cX2_beginTale 67 = .ok (.getfield 22, 3) := by decide +kernel
theorem dX2_beginTale_70 : decode cX2_beginTale 70 = .ok (.goto 7, 3) := by decide +kernel
theorem dX2_beginTale_73 : decode cX2_beginTale 73 = .ok (.aload_n 0, 1) := by decide +kernel
theorem dX2_beginTale_74 : decode cX2_beginTale 74 = .ok (.invokevirtual 117, 3) := by decide +kernel
theorem dX2_beginTale_77 : decode cX2_beginTale 77 = .ok (.putfield 22, 3) := by decide +kernel
theorem dX2_beginTale_80 : decode cX2_beginTale 80 = .ok (.aload_n 0, 1) := by decide +kernel
theorem dX2_beginTale_81 : decode cX2_beginTale 81 = .ok (.iload_n 2, 1) := by decide +kernel
theorem dX2_beginTale_82 : decode cX2_beginTale 82 = .ok (.invokestatic 121, 3) := by decide +kernel
theorem dX2_beginTale_85 : decode cX2_beginTale 85 = .ok (.putfield 25, 3) := by decide +kernel
theorem dX2_beginTale_88 : decode cX2_beginTale 88 = .ok (.aload_n 0, 1) := by decide +kernel
theorem dX2_beginTale_89 : decode cX2_beginTale 89 = .ok (.aload_n 1, 1) := by decide +kernel
theorem dX2_beginTale_90 : decode cX2_beginTale 90 = .ok (.aload_n 0, 1) := by decide +kernel
theorem dX2_beginTale_91 : decode cX2_beginTale 91 = .ok (.getfield 25, 3) := by decide +kernel
theorem dX2_beginTale_94 : decode cX2_beginTale 94 = .ok (.invokevirtual 124, 3) := by decide +kernel
theorem dX2_beginTale_97 : decode cX2_beginTale 97 = .ok (.putfield 52, 3) := by decide +kernel
theorem dX2_beginTale_100 : decode cX2_beginTale 100 = .ok (.return_, 1) := by decide +kernel
theorem dX2_giveButter_0 : decode cX2_giveButter 0 = .ok (.aload_n 0, 1) := by decide +kernel
theorem dX2_giveButter_1 : decode cX2_giveButter 1 = .ok (.invokevirtual 97, 3) := by decide +kernel
theorem dX2_giveButter_4 : decode cX2_giveButter 4 = .ok (.ifCond .eq 66, 3) := by decide +kernel
theorem dX2_giveButter_7 : decode cX2_giveButter 7 = .ok (.aload_n 1, 1) := by decide +kernel
theorem dX2_giveButter_8 : decode cX2_giveButter 8 = .ok (.aload_n 0, 1) := by decide +kernel
theorem dX2_giveButter_9 : decode cX2_giveButter 9 = .ok (.getfield 25, 3) := by decide +kernel
theorem dX2_giveButter_12 : decode cX2_giveButter 12 = .ok (.invokevirtual 127, 3) := by decide +kernel
theorem dX2_giveButter_15 : decode cX2_giveButter 15 = .ok (.istore_n 3, 1) := by decide +kernel
theorem dX2_giveButter_16 : decode cX2_giveButter 16 = .ok (.aload_n 0, 1) := by decide +kernel
theorem dX2_giveButter_17 : decode cX2_giveButter 17 = .ok (.dup, 1) := by decide +kernel
theorem dX2_giveButter_18 : decode cX2_giveButter 18 = .ok (.getfield 46, 3) := by decide +kernel
theorem dX2_giveButter_21 : decode cX2_giveButter 21 = .ok (.iload_n 2, 1) := by decide +kernel
theorem dX2_giveButter_22 : decode cX2_giveButter 22 = .ok (.aload_n 1, 1) := by decide +kernel
theorem dX2_giveButter_23 : decode cX2_giveButter 23 = .ok (.aload_n 0, 1) := by decide +kernel
theorem dX2_giveButter_24 : decode cX2_giveButter 24 = .ok (.getfield 22, 3) := by decide +kernel
theorem dX2_giveButter_27 : decode cX2_giveButter 27 = .ok (.invokevirtual 75, 3) := by decide +kernel
theorem dX2_giveButter_30 : decode cX2_giveButter 30 = .ok (.iconst 2, 1) := by decide +kernel
theorem dX2_giveButter_31 : decode cX2_giveButter 31 = .ok (.if_icmp .ne 9, 3) := by decide +kernel
theorem dX2_giveButter_34 : decode cX2_giveButter 34 = .ok (.iload_n 3, 1) := by decide +kernel
theorem dX2_giveButter_35 : decode cX2_giveButter 35 = .ok (.iconst 2, 1) := by decide +kernel
theorem dX2_giveButter_36 : decode cX2_giveButter 36 = .ok (.idiv, 1) := by decide +kernel
theorem dX2_giveButter_37 : decode cX2_giveButter 37 = .ok (.goto 4, 3) := by decide +kernel
theorem dX2_giveButter_40 : decode cX2_giveButter 40 = .ok (.iload_n 3, 1) := by decide +kernel
theorem dX2_giveButter_41 : decode cX2_giveButter 41 = .ok (.imul, 1) := by decide +kernel
theorem dX2_giveButter_42 : decode cX2_giveButter 42 = .ok (.iadd, 1) := by decide +kernel
theorem dX2_giveButter_43 : decode cX2_giveButter 43 = .ok (.putfield 46, 3) := by decide +kernel
theorem dX2_giveButter_46 : decode cX2_giveButter 46 = .ok (.aload_n 0, 1) := by decide +kernel
theorem dX2_giveButter_47 : decode cX2_giveButter 47 = .ok (.dup, 1) := by decide +kernel
theorem dX2_giveButter_48 : decode cX2_giveButter 48 = .ok (.getfield 52, 3) := by decide +kernel
theorem dX2_giveButter_51 : decode cX2_giveButter 51 = .ok (.iload_n 2, 1) := by decide +kernel
theorem dX2_giveButter_52 : decode cX2_giveButter 52 = .ok (.isub, 1) := by decide +kernel
theorem dX2_giveButter_53 : decode cX2_giveButter 53 = .ok (.putfield 52, 3) := by decide +kernel
theorem dX2_giveButter_56 : decode cX2_giveButter 56 = .ok (.aload_n 0, 1) := by decide +kernel
theorem dX2_giveButter_57 : decode cX2_giveButter 57 = .ok (.getfield 52, 3) := by decide +kernel
theorem dX2_giveButter_60 : decode cX2_giveButter 60 = .ok (.ifCond .gt 7, 3) := by decide +kernel
theorem dX2_giveButter_63 : decode cX2_giveButter 63 = .ok (.aload_n 0, 1) := by decide +kernel
theorem dX2_giveButter_64 : decode cX2_giveButter 64 = .ok (.invokevirtual 130, 3) := by decide +kernel
theorem dX2_giveButter_67 : decode cX2_giveButter 67 = .ok (.goto 47, 3) := by decide +kernel
theorem dX2_giveButter_70 : decode cX2_giveButter 70 = .ok (.aload_n 0, 1) := by decide +kernel
theorem dX2_giveButter_71 : decode cX2_giveButter 71 = .ok (.invokevirtual 58, 3) := by decide +kernel
theorem dX2_giveButter_74 : decode cX2_giveButter 74 = .ok (.ifCond .eq 40, 3) := by decide +kernel
theorem dX2_giveButter_77 : decode cX2_giveButter 77 = .ok (.aload_n 1, 1) := by decide +kernel
theorem dX2_giveButter_78 : decode cX2_giveButter 78 = .ok (.aload_n 0, 1) := by decide +kernel
theorem dX2_giveButter_79 : decode cX2_giveButter 79 = .ok (.getfield 15, 3) := by decide +kernel
theorem dX2_giveButter_82 : decode cX2_giveButter 82 = .ok (.invokevirtual 75, 3) := by decide +kernel
theorem dX2_giveButter_85 : decode cX2_giveButter 85 = .ok (.iconst 3, 1) := by decide +kernel
theorem dX2_giveButter_86 : decode cX2_giveButter 86 = .ok (.if_icmp .ne 28, 3) := by decide +kernel
theorem dX2_giveButter_89 : decode cX2_giveButter 89 = .ok (.aload_n 1, 1) := by decide +kernel
theorem dX2_giveButter_90 : decode cX2_giveButter 90 = .ok (.aload_n 0, 1) := by decide +kernel
theorem dX2_giveButter_91 : decode cX2_giveButter 91 = .ok (.getfield 19, 3) := by decide +kernel
theorem dX2_giveButter_94 : decode cX2_giveButter 94 = .ok (.invokevirtual 75, 3) := by decide +kernel
theorem dX2_giveButter_97 : decode cX2_giveButter 97 = .ok (.iconst 3, 1) := by decide +kernel
theorem dX2_giveButter_98 : decode cX2_giveButter 98 = .ok (.if_icmp .ne 16, 3) := by decide +kernel
theorem dX2_giveButter_101 : decode cX2_giveButter 101 = .ok (.aload_n 0, 1) := by decide +kernel
theorem dX2_giveButter_102 : decode cX2_giveButter 102 = .ok (.dup, 1) := by decide +kernel
theorem dX2_giveButter_103 : decode cX2_giveButter 103 = .ok (.getfield 46, 3) := by decide +kernel
theorem dX2_giveButter_106 : decode cX2_giveButter 106 = .ok (.bipush 10, 2) := by decide +kernel
theorem dX2_giveButter_108 : decode cX2_giveButter 108 = .ok (.iload_n 2, 1) := by decide +kernel
theorem dX2_giveButter_109 : decode cX2_giveButter 109 = .ok (.imul, 1) := by decide +kernel
theorem dX2_giveButter_110 : decode cX2_giveButter 110 = .ok (.iadd, 1) := by decide +kernel
theorem dX2_giveButter_111 : decode cX2_giveButter 111 = .ok (.putfield 46, 3) := by decide +kernel
theorem dX2_giveButter_114 : decode cX2_giveButter 114 = .ok (.return_, 1) := by decide +kernel
theorem dX2_tellOut_0 : decode cX2_tellOut 0 = .ok (.aload_n 0, 1) := by decide +kernel
theorem dX2_tellOut_1 : decode cX2_tellOut 1 = .ok (.dup, 1) := by decide +kernel
theorem dX2_tellOut_2 : decode cX2_tellOut 2 = .ok (.getfield 55, 3) := by decide +kernel
theorem dX2_tellOut_5 : decode cX2_tellOut 5 = .ok (.aload_n 0, 1) := by decide +kernel
theorem dX2_tellOut_6 : decode cX2_tellOut 6 = .ok (.getfield 25, 3) := by decide +kernel
theorem dX2_tellOut_9 : decode cX2_tellOut 9 = .ok (.invokestatic 62, 3) := by decide +kernel
theorem dX2_tellOut_12 : decode cX2_tellOut 12 = .ok (.ior, 1) := by decide +kernel
theorem dX2_tellOut_13 : decode cX2_tellOut 13 = .ok (.putfield 55, 3) := by decide +kernel
theorem dX2_tellOut_16 : decode cX2_tellOut 16 = .ok (.aload_n 0, 1) := by decide +kernel
theorem dX2_tellOut_17 : decode cX2_tellOut 17 = .ok (.getfield 9, 3) := by decide +kernel
theorem dX2_tellOut_20 : decode cX2_tellOut 20 = .ok (.aload_n 0, 1) := by decide +kernel
theorem dX2_tellOut_21 : decode cX2_tellOut 21 = .ok (.invokevirtual 117, 3) := by decide +kernel
theorem dX2_tellOut_24 : decode cX2_tellOut 24 = .ok (.aload_n 0, 1) := by decide +kernel
theorem dX2_tellOut_25 : decode cX2_tellOut 25 = .ok (.getfield 9, 3) := by decide +kernel
theorem dX2_tellOut_28 : decode cX2_tellOut 28 = .ok (.aload_n 0, 1) := by decide +kernel
theorem dX2_tellOut_29 : decode cX2_tellOut 29 = .ok (.invokevirtual 117, 3) := by decide +kernel
theorem dX2_tellOut_32 : decode cX2_tellOut 32 = .ok (.invokestatic 36, 3) := by decide +kernel
theorem dX2_tellOut_35 : decode cX2_tellOut 35 = .ok (.aload_n 0, 1) := by decide +kernel
theorem dX2_tellOut_36 : decode cX2_tellOut 36 = .ok (.getfield 25, 3) := by decide +kernel
theorem dX2_tellOut_39 : decode cX2_tellOut 39 = .ok (.invokestatic 62, 3) := by decide +kernel
theorem dX2_tellOut_42 : decode cX2_tellOut 42 = .ok (.ior, 1) := by decide +kernel
theorem dX2_tellOut_43 : decode cX2_tellOut 43 = .ok (.invokestatic 133, 3) := by decide +kernel
theorem dX2_tellOut_46 : decode cX2_tellOut 46 = .ok (.aload_n 0, 1) := by decide +kernel
theorem dX2_tellOut_47 : decode cX2_tellOut 47 = .ok (.aload_n 0, 1) := by decide +kernel
theorem dX2_tellOut_48 : decode cX2_tellOut 48 = .ok (.invokevirtual 117, 3) := by decide +kernel
theorem dX2_tellOut_51 : decode cX2_tellOut 51 = .ok (.putfield 22, 3) := by decide +kernel
theorem dX2_tellOut_54 : decode cX2_tellOut 54 = .ok (.aload_n 0, 1) := by decide +kernel
theorem dX2_tellOut_55 : decode cX2_tellOut 55 = .ok (.invokevirtual 90, 3) := by decide +kernel
theorem dX2_tellOut_58 : decode cX2_tellOut 58 = .ok (.return_, 1) := by decide +kernel
theorem dX3_init_0 : decode cX3_init 0 = .ok (.aload_n 0, 1) := by decide +kernel
theorem dX3_init_1 : decode cX3_init 1 = .ok (.invokespecial 3, 3) := by decide +kernel
theorem dX3_init_4 : decode cX3_init 4 = .ok (.aload_n 0, 1) := by decide +kernel
theorem dX3_init_5 : decode cX3_init 5 = .ok (.sipush 200, 3) := by decide +kernel
theorem dX3_init_8 : decode cX3_init 8 = .ok (.newarray .char, 2) := by decide +kernel
theorem dX3_init_10 : decode cX3_init 10 = .ok (.putfield 9, 3) := by decide +kernel
theorem dX3_init_13 : decode cX3_init 13 = .ok (.return_, 1) := by decide +kernel
theorem dX3_size_0 : decode cX3_size 0 = .ok (.aload_n 0, 1) := by decide +kernel
theorem dX3_size_1 : decode cX3_size 1 = .ok (.getfield 15, 3) := by decide +kernel
theorem dX3_size_4 : decode cX3_size 4 = .ok (.ireturn, 1) := by decide +kernel
theorem dX3_empty_0 : decode cX3_empty 0 = .ok (.aload_n 0, 1) := by decide +kernel
theorem dX3_empty_1 : decode cX3_empty 1 = .ok (.iconst 0, 1) := by decide +kernel
theorem dX3_empty_2 : decode cX3_empty 2 = .ok (.putfield 15, 3) := by decide +kernel
theorem dX3_empty_5 : decode cX3_empty 5 = .ok (.return_, 1) := by decide +kernel
theorem dX3_add_0 : decode cX3_add 0 = .ok (.aload_n 0, 1) := by decide +kernel
theorem dX3_add_1 : decode cX3_add 1 = .ok (.getfield 15, 3) := by decide +kernel
theorem dX3_add_4 : decode cX3_add 4 = .ok (.ifCond .lt 15, 3) := by decide +kernel
theorem dX3_add_7 : decode cX3_add 7 = .ok (.aload_n 0, 1) := by decide +kernel
theorem dX3_add_8 : decode cX3_add 8 = .ok (.getfield 15, 3) := by decide +kernel
theorem dX3_add_11 : decode cX3_add 11 = .ok (.aload_n 0, 1) := by decide +kernel
theorem dX3_add_12 : decode cX3_add 12 = .ok (.getfield 9, 3) := by decide +kernel
theorem dX3_add_15 : decode cX3_add 15 = .ok (.arraylength, 1) := by decide +kernel
theorem dX3_add_16 : decode cX3_add 16 = .ok (.if_icmp .lt 5, 3) := by decide +kernel
theorem dX3_add_19 : decode cX3_add 19 = .ok (.iconst 0, 1) := by decide +kernel
theorem dX3_add_20 : decode cX3_add 20 = .ok (.ireturn, 1) := by decide +kernel
theorem dX3_add_21 : decode cX3_add 21 = .ok (.aload_n 0, 1) := by decide +kernel
theorem dX3_add_22 : decode cX3_add 22 = .ok (.getfield 9, 3) := by decide +kernel
theorem dX3_add_25 : decode cX3_add 25 = .ok (.aload_n 0, 1) := by decide +kernel
theorem dX3_add_26 : decode cX3_add 26 = .ok (.getfield 15, 3) := by decide +kernel
theorem dX3_add_29 : decode cX3_add 29 = .ok (.iload_n 1, 1) := by decide +kernel
theorem dX3_add_30 : decode cX3_add 30 = .ok (.i2c, 1) := by decide +kernel
theorem dX3_add_31 : decode cX3_add 31 = .ok (.castore, 1) := by decide +kernel
theorem dX3_add_32 : decode cX3_add 32 = .ok (.aload_n 0, 1) := by decide +kernel
theorem dX3_add_33 : decode cX3_add 33 = .ok (.dup, 1) := by decide +kernel
theorem dX3_add_34 : decode cX3_add 34 = .ok (.getfield 15, 3) := by decide +kernel
theorem dX3_add_37 : decode cX3_add 37 = .ok (.iconst 1, 1) := by decide +kernel
theorem dX3_add_38 : decode cX3_add 38 = .ok (.iadd, 1) := by decide +kernel
theorem dX3_add_39 : decode cX3_add 39 = .ok (.putfield 15, 3) := by decide +kernel
theorem dX3_add_42 : decode cX3_add 42 = .ok (.iconst 1, 1) := by decide +kernel
theorem dX3_add_43 : decode cX3_add 43 = .ok (.ireturn, 1) := by decide +kernel
theorem dX3_readInto_0 : decode cX3_readInto 0 = .ok (.aload_n 1, 1) := by decide +kernel
theorem dX3_readInto_1 : decode cX3_readInto 1 = .ok (.invokevirtual 19, 3) := by decide +kernel
theorem dX3_readInto_4 : decode cX3_readInto 4 = .ok (.aload_n 0, 1) := by decide +kernel
theorem dX3_readInto_5 : decode cX3_readInto 5 = .ok (.iconst 0, 1) := by decide +kernel
theorem dX3_readInto_6 : decode cX3_readInto 6 = .ok (.putfield 24, 3) := by decide +kernel
theorem dX3_readInto_9 : decode cX3_readInto 9 = .ok (.iconst 0, 1) := by decide +kernel
theorem dX3_readInto_10 : decode cX3_readInto 10 = .ok (.istore_n 2, 1) := by decide +kernel
theorem dX3_readInto_11 : decode cX3_readInto 11 = .ok (.iload_n 2, 1) := by decide +kernel
theorem dX3_readInto_12 : decode cX3_readInto 12 = .ok (.aload_n 0, 1) := by decide +kernel
theorem dX3_readInto_13 : decode cX3_readInto 13 = .ok (.getfield 9, 3) := by decide +kernel
theorem dX3_readInto_16 : decode cX3_readInto 16 = .ok (.arraylength, 1) := by decide +kernel
theorem dX3_readInto_17 : decode cX3_readInto 17 = .ok (.if_icmp .ge 35, 3) := by decide +kernel
theorem dX3_readInto_20 : decode cX3_readInto 20 = .ok (.aload_n 0, 1) := by decide +kernel
theorem dX3_readInto_21 : decode cX3_readInto 21 = .ok (.getfield 24, 3) := by decide +kernel
theorem dX3_readInto_24 : decode cX3_readInto 24 = .ok (.aload_n 0, 1) := by decide +kernel
theorem dX3_readInto_25 : decode cX3_readInto 25 = .ok (.getfield 15, 3) := by decide +kernel
theorem dX3_readInto_28 : decode cX3_readInto 28 = .ok (.if_icmp .ge 24, 3) := by decide +kernel
theorem dX3_readInto_31 : decode cX3_readInto 31 = .ok (.aload_n 0, 1) := by decide +kernel
theorem dX3_readInto_32 : decode cX3_readInto 32 = .ok (.getfield 24, 3) := by decide +kernel
theorem dX3_readInto_35 : decode cX3_readInto 35 = .ok (.istore_n 3, 1) := by decide +kernel
theorem dX3_readInto_36 : decode cX3_readInto 36 = .ok (.aload_n 0, 1) := by decide +kernel
theorem dX3_readInto_37 : decode cX3_readInto 37 = .ok (.aload_n 1, 1) := by decide +kernel
theorem dX3_readInto_38 : decode cX3_readInto 38 = .ok (.invokevirtual 27, 3) := by decide +kernel
theorem dX3_readInto_41 : decode cX3_readInto 41 = .ok (.ifCond .ne 5, 3) := by decide +kernel
theorem dX3_readInto_44 : decode cX3_readInto 44 = .ok (.iload_n 3, 1) := by decide +kernel
theorem dX3_readInto_45 : decode cX3_readInto 45 = .ok (.ireturn, 1) := by decide +kernel
theorem dX3_readInto_46 : decode cX3_readInto 46 = .ok (.iinc 2 1, 3) := by decide +kernel
theorem dX3_readInto_49 : decode cX3_readInto 49 = .ok (.goto (-38), 3) := by decide +kernel
theorem dX3_readInto_52 : decode cX3_readInto 52 = .ok (.iconst (-1), 1) := by decide +kernel
theorem dX3_readInto_53 : decode cX3_readInto 53 = .ok (.ireturn, 1) := by decide +kernel
theorem dX3_readItem_0 : decode cX3_readItem 0 = .ok (.aload_n 0, 1) := by decide +kernel
theorem dX3_readItem_1 : decode cX3_readItem 1 = .ok (.invokevirtual 31, 3) := by decide +kernel
theorem dX3_readItem_4 : decode cX3_readItem 4 = .ok (.istore_n 2, 1) := by decide +kernel
theorem dX3_readItem_5 : decode cX3_readItem 5 = .ok (.aload_n 0, 1) := by decide +kernel
theorem dX3_readItem_6 : decode cX3_readItem 6 = .ok (.dup, 1) := by decide +kernel
theorem dX3_readItem_7 : decode cX3_readItem 7 = .ok (.getfield 24, 3) := by decide +kernel
theorem dX3_readItem_10 : decode cX3_readItem 10 = .ok (.iconst 1, 1) := by decide +kernel
theorem dX3_readItem_11 : decode cX3_readItem 11 = .ok (.iadd, 1) := by decide +kernel
theorem dX3_readItem_12 : decode cX3_readItem 12 = .ok (.putfield 24, 3) := by decide +kernel
theorem dX3_readItem_15 : decode cX3_readItem 15 = .ok (.iload_n 2, 1) := by decide +kernel
theorem dX3_readItem_16 : decode cX3_readItem 16 = .ok (.lookupswitch 54 #[(102, 42), (112, 36), (116, 48)], 36) := by decide +kernel
theorem dX3_readItem_52 : decode cX3_readItem 52 = .ok (.aload_n 0, 1) := by decide +kernel
theorem dX3_readItem_53 : decode cX3_readItem 53 = .ok (.aload_n 1, 1) := by decide +kernel
theorem dX3_readItem_54 : decode cX3_readItem 54 = .ok (.invokevirtual 35, 3) := by decide +kernel
theorem dX3_readItem_57 : decode cX3_readItem 57 = .ok (.ireturn, 1) := by decide +kernel
theorem dX3_readItem_58 : decode cX3_readItem 58 = .ok (.aload_n 0, 1) := by decide +kernel
theorem dX3_readItem_59 : decode cX3_readItem 59 = .ok (.aload_n 1, 1) := by decide +kernel
theorem dX3_readItem_60 : decode cX3_readItem 60 = .ok (.invokevirtual 38, 3) := by decide +kernel
theorem dX3_readItem_63 : decode cX3_readItem 63 = .ok (.ireturn, 1) := by decide +kernel
theorem dX3_readItem_64 : decode cX3_readItem 64 = .ok (.aload_n 0, 1) := by decide +kernel
theorem dX3_readItem_65 : decode cX3_readItem 65 = .ok (.aload_n 1, 1) := by decide +kernel
theorem dX3_readItem_66 : decode cX3_readItem 66 = .ok (.invokevirtual 41, 3) := by decide +kernel
theorem dX3_readItem_69 : decode cX3_readItem 69 = .ok (.ireturn, 1) := by decide +kernel
theorem dX3_readItem_70 : decode cX3_readItem 70 = .ok (.iconst 0, 1) := by decide +kernel
theorem dX3_readItem_71 : decode cX3_readItem 71 = .ok (.ireturn, 1) := by decide +kernel
theorem dX3_readPerson_0 : decode cX3_readPerson 0 = .ok (.aload_n 0, 1) := by decide +kernel
theorem dX3_readPerson_1 : decode cX3_readPerson 1 = .ok (.invokevirtual 44, 3) := by decide +kernel
theorem dX3_readPerson_4 : decode cX3_readPerson 4 = .ok (.istore_n 2, 1) := by decide +kernel
theorem dX3_readPerson_5 : decode cX3_readPerson 5 = .ok (.aload_n 0, 1) := by decide +kernel
theorem dX3_readPerson_6 : decode cX3_readPerson 6 = .ok (.bipush 59, 2) := by decide +kernel
theorem dX3_readPerson_8 : decode cX3_readPerson 8 = .ok (.invokevirtual 47, 3) := by decide +kernel
theorem dX3_readPerson_11 : decode cX3_readPerson 11 = .ok (.ifCond .eq 15, 3) := by decide +kernel
theorem dX3_readPerson_14 : decode cX3_readPerson 14 = .ok (.aload_n 1, 1) := by decide +kernel
theorem dX3_readPerson_15 : decode cX3_readPerson 15 = .ok (.iload_n 2, 1) := by decide +kernel
theorem dX3_readPerson_16 : decode cX3_readPerson 16 = .ok (.invokevirtual 51, 3) := by decide +kernel
theorem dX3_readPerson_19 : decode cX3_readPerson 19 = .ok (.ifCond .eq 7, 3) := by decide +kernel
theorem dX3_readPerson_22 : decode cX3_readPerson 22 = .ok (.iconst 1, 1) := by decide +kernel
theorem dX3_readPerson_23 : decode cX3_readPerson 23 = .ok (.goto 4, 3) := by decide +kernel
theorem dX3_readPerson_26 : decode cX3_readPerson 26 = .ok (.iconst 0, 1) := by decide +kernel
theorem dX3_readPerson_27 : decode cX3_readPerson 27 = .ok (.ireturn, 1) := by decide +kernel
theorem dX3_readFriends_0 : decode cX3_readFriends 0 = .ok (.aload_n 0, 1) := by decide +kernel
theorem dX3_readFriends_1 : decode cX3_readFriends 1 = .ok (.invokevirtual 44, 3) := by decide +kernel
theorem dX3_readFriends_4 : decode cX3_readFriends 4 = .ok (.istore_n 2, 1) := by decide +kernel
theorem dX3_readFriends_5 : decode cX3_readFriends 5 = .ok (.aload_n 0, 1) := by decide +kernel
theorem dX3_readFriends_6 : decode cX3_readFriends 6 = .ok (.bipush 44, 2) := by decide +kernel
theorem dX3_readFriends_8 : decode cX3_readFriends 8 = .ok (.invokevirtual 47, 3) := by decide +kernel
theorem dX3_readFriends_11 : decode cX3_readFriends 11 = .ok (.istore_n 3, 1) := by decide +kernel
theorem dX3_readFriends_12 : decode cX3_readFriends 12 = .ok (.aload_n 0, 1) := by decide +kernel
theorem dX3_readFriends_13 : decode cX3_readFriends 13 = .ok (.invokevirtual 44, 3) := by decide +kernel
theorem dX3_readFriends_16 : decode cX3_readFriends 16 = .ok (.istore 4, 2) := by decide +kernel
theorem dX3_readFriends_18 : decode cX3_readFriends 18 = .ok (.iload_n 3, 1) := by decide +kernel
theorem dX3_readFriends_19 : decode cX3_readFriends 19 = .ok (.ifCond .eq 26, 3) := by decide +kernel
theorem dX3_readFriends_22 : decode cX3_readFriends 22 = .ok (.aload_n 0, 1) := by decide +kernel
theorem dX3_readFriends_23 : decode cX3_readFriends 23 = .ok (.bipush 59, 2) := by decide +kernel
theorem dX3_readFriends_25 : decode cX3_readFriends 25 = .ok (.invokevirtual 47, 3) := by decide +kernel
theorem dX3_readFriends_28 : decode cX3_readFriends 28 = .ok (.ifCond .eq 17, 3) := by decide +kernel
theorem dX3_readFriends_31 : decode cX3_readFriends 31 = .ok (.aload_n 1, 1) := by decide +kernel
theorem dX3_readFriends_32 : decode cX3_readFriends 32 = .ok (.iload_n 2, 1) := by decide +kernel
theorem dX3_readFriends_33 : decode cX3_readFriends 33 = .ok (.iload 4, 2) := by decide +kernel
theorem dX3_readFriends_35 : decode cX3_readFriends 35 = .ok (.invokevirtual 55, 3) := by decide +kernel
theorem dX3_readFriends_38 : decode cX3_readFriends 38 = .ok (.ifCond .eq 7, 3) := by decide +kernel
theorem dX3_readFriends_41 : decode cX3_readFriends 41 = .ok (.iconst 1, 1) := by decide +kernel
theorem dX3_readFriends_42 : decode cX3_readFriends 42 = .ok (.goto 4, 3) := by decide +kernel
theorem dX3_readFriends_45 : decode cX3_readFriends 45 = .ok (.iconst 0, 1) := by decide +kernel
theorem dX3_readFriends_46 : decode cX3_readFriends 46 = .ok (.ireturn, 1) := by decide +kernel
theorem dX3_readTale_0 : decode cX3_readTale 0 = .ok (.aload_n 0, 1) := by decide +kernel
theorem dX3_readTale_1 : decode cX3_readTale 1 = .ok (.invokevirtual 44, 3) := by decide +kernel
theorem dX3_readTale_4 : decode cX3_readTale 4 = .ok (.istore_n 2, 1) := by decide +kernel
theorem dX3_readTale_5 : decode cX3_readTale 5 = .ok (.aload_n 0, 1) := by decide +kernel
theorem dX3_readTale_6 : decode cX3_readTale 6 = .ok (.bipush 44, 2) := by decide +kernel
theorem dX3_readTale_8 : decode cX3_readTale 8 = .ok (.invokevirtual 47, 3) := by decide +kernel
theorem dX3_readTale_11 : decode cX3_readTale 11 = .ok (.istore_n 3, 1) := by decide +kernel
theorem dX3_readTale_12 : decode cX3_readTale 12 = .ok (.aload_n 0, 1) := by decide +kernel
theorem dX3_readTale_13 : decode cX3_readTale 13 = .ok (.invokevirtual 44, 3) := by decide +kernel
theorem dX3_readTale_16 : decode cX3_readTale 16 = .ok (.istore 4, 2) := by decide +kernel
theorem dX3_readTale_18 : decode cX3_readTale 18 = .ok (.aload_n 0, 1) := by decide +kernel
theorem dX3_readTale_19 : decode cX3_readTale 19 = .ok (.bipush 44, 2) := by decide +kernel
theorem dX3_readTale_21 : decode cX3_readTale 21 = .ok (.invokevirtual 47, 3) := by decide +kernel
theorem dX3_readTale_24 : decode cX3_readTale 24 = .ok (.ifCond .eq 11, 3) := by decide +kernel
theorem dX3_readTale_27 : decode cX3_readTale 27 = .ok (.iload_n 3, 1) := by decide +kernel
theorem dX3_readTale_28 : decode cX3_readTale 28 = .ok (.ifCond .eq 7, 3) := by decide +kernel
theorem dX3_readTale_31 : decode cX3_readTale 31 = .ok (.iconst 1, 1) := by decide +kernel
theorem dX3_readTale_32 : decode cX3_readTale 32 = .ok (.goto 4, 3) := by decide +kernel
theorem dX3_readTale_35 : decode cX3_readTale 35 = .ok (.iconst 0, 1) := by decide +kernel
theorem dX3_readTale_36 : decode cX3_readTale 36 = .ok (.istore_n 3, 1) := by decide +kernel
theorem dX3_readTale_37 : decode cX3_readTale 37 = .ok (.aload_n 0, 1) := by decide +kernel
theorem dX3_readTale_38 : decode cX3_readTale 38 = .ok (.invokevirtual 44, 3) := by decide +kernel
theorem dX3_readTale_41 : decode cX3_readTale 41 = .ok (.istore 5, 2) := by decide +kernel
theorem dX3_readTale_43 : decode cX3_readTale 43 = .ok (.aload_n 0, 1) := by decide +kernel
theorem dX3_readTale_44 : decode cX3_readTale 44 = .ok (.bipush 44, 2) := by decide +kernel
theorem dX3_readTale_46 : decode cX3_readTale 46 = .ok (.invokevirtual 47, 3) := by decide +kernel
theorem dX3_readTale_49 : decode cX3_readTale 49 = .ok (.ifCond .eq 11, 3) := by decide +kernel
theorem dX3_readTale_52 : decode cX3_readTale 52 = .ok (.iload_n 3, 1) := by decide +kernel
theorem dX3_readTale_53 : decode cX3_readTale 53 = .ok (.ifCond .eq 7, 3) := by decide +kernel
theorem dX3_readTale_56 : decode cX3_readTale 56 = .ok (.iconst 1, 1) := by decide +kernel
theorem dX3_readTale_57 : decode cX3_readTale 57 = .ok (.goto 4, 3) := by decide +kernel
theorem dX3_readTale_60 : decode cX3_readTale 60 = .ok (.iconst 0, 1) := by decide +kernel
theorem dX3_readTale_61 : decode cX3_readTale 61 = .ok (.istore_n 3, 1) := by decide +kernel
theorem dX3_readTale_62 : decode cX3_readTale 62 = .ok (.aload_n 0, 1) := by decide +kernel
theorem dX3_readTale_63 : decode cX3_readTale 63 = .ok (.aload_n 1, 1) := by decide +kernel
theorem dX3_readTale_64 : decode cX3_readTale 64 = .ok (.invokevirtual 59, 3) := by decide +kernel
theorem dX3_readTale_67 : decode cX3_readTale 67 = .ok (.istore 6, 2) := by decide +kernel
theorem dX3_readTale_69 : decode cX3_readTale 69 = .ok (.iload_n 3, 1) := by decide +kernel
theorem dX3_readTale_70 : decode cX3_readTale 70 = .ok (.ifCond .eq 30, 3) := by decide +kernel
theorem dX3_readTale_73 : decode cX3_readTale 73 = .ok (.aload_n 0, 1) := by decide +kernel
theorem dX3_readTale_74 : decode cX3_readTale 74 = .ok (.bipush 59, 2) := by decide +kernel
theorem dX3_readTale_76 : decode cX3_readTale 76 = .ok (.invokevirtual 47, 3) := by decide +kernel
theorem dX3_readTale_79 : decode cX3_readTale 79 = .ok (.ifCond .eq 21, 3) := by decide +kernel
theorem dX3_readTale_82 : decode cX3_readTale 82 = .ok (.aload_n 1, 1) := by decide +kernel
theorem dX3_readTale_83 : decode cX3_readTale 83 = .ok (.iload_n 2, 1) := by decide +kernel
theorem dX3_readTale_84 : decode cX3_readTale 84 = .ok (.iload 4, 2) := by decide +kernel
theorem dX3_readTale_86 : decode cX3_readTale 86 = .ok (.iload 5, 2) := by decide +kernel
theorem dX3_readTale_88 : decode cX3_readTale 88 = .ok (.iload 6, 2) := by decide +kernel
theorem dX3_readTale_90 : decode cX3_readTale 90 = .ok (.invokevirtual 63, 3) := by decide +kernel
theorem dX3_readTale_93 : decode cX3_readTale 93 = .ok (.ifCond .eq 7, 3) := by decide +kernel
theorem dX3_readTale_96 : decode cX3_readTale 96 = .ok (.iconst 1, 1) := by decide +kernel
theorem dX3_readTale_97 : decode cX3_readTale 97 = .ok (.goto 4, 3) := by decide +kernel
theorem dX3_readTale_100 : decode cX3_readTale 100 = .ok (.iconst 0, 1) := by decide +kernel
theorem dX3_readTale_101 : decode cX3_readTale 101 = .ok (.ireturn, 1) := by decide +kernel
theorem dX3_readRow_0 : decode cX3_readRow 0 = .ok (.iconst 0, 1) := by decide +kernel
theorem dX3_readRow_1 : decode cX3_readRow 1 = .ok (.istore_n 2, 1) := by decide +kernel
theorem dX3_readRow_2 : decode cX3_readRow 2 = .ok (.iconst 0, 1) := by decide +kernel
theorem dX3_readRow_3 : decode cX3_readRow 3 = .ok (.istore_n 3, 1) := by decide +kernel
theorem dX3_readRow_4 : decode cX3_readRow 4 = .ok (.iload_n 3, 1) := by decide +kernel
theorem dX3_readRow_5 : decode cX3_readRow 5 = .ok (.aload_n 0, 1) := by decide +kernel
theorem dX3_readRow_6 : decode cX3_readRow 6 = .ok (.getfield 9, 3) := by decide +kernel
theorem dX3_readRow_9 : decode cX3_readRow 9 = .ok (.arraylength, 1) := by decide +kernel
theorem dX3_readRow_10 : decode cX3_readRow 10 = .ok (.if_icmp .ge 52, 3) := by decide +kernel
theorem dX3_readRow_13 : decode cX3_readRow 13 = .ok (.aload_n 0, 1) := by decide +kernel
theorem dX3_readRow_14 : decode cX3_readRow 14 = .ok (.invokevirtual 67, 3) := by decide +kernel
theorem dX3_readRow_17 : decode cX3_readRow 17 = .ok (.istore 4, 2) := by decide +kernel
theorem dX3_readRow_19 : decode cX3_readRow 19 = .ok (.iload 4, 2) := by decide +kernel
theorem dX3_readRow_21 : decode cX3_readRow 21 = .ok (.iconst (-1), 1) := by decide +kernel
theorem dX3_readRow_22 : decode cX3_readRow 22 = .ok (.if_icmp .ne 5, 3) := by decide +kernel
theorem dX3_readRow_25 : decode cX3_readRow 25 = .ok (.iload_n 2, 1) := by decide +kernel
theorem dX3_readRow_26 : decode cX3_readRow 26 = .ok (.ireturn, 1) := by decide +kernel
theorem dX3_readRow_27 : decode cX3_readRow 27 = .ok (.aload_n 1, 1) := by decide +kernel
theorem dX3_readRow_28 : decode cX3_readRow 28 = .ok (.iload 4, 2) := by decide +kernel
theorem dX3_readRow_30 : decode cX3_readRow 30 = .ok (.invokevirtual 70, 3) := by decide +kernel
theorem dX3_readRow_33 : decode cX3_readRow 33 = .ok (.ifCond .eq 13, 3) := by decide +kernel
theorem dX3_readRow_36 : decode cX3_readRow 36 = .ok (.iload_n 2, 1) := by decide +kernel
theorem dX3_readRow_37 : decode cX3_readRow 37 = .ok (.iload 4, 2) := by decide +kernel
theorem dX3_readRow_39 : decode cX3_readRow 39 = .ok (.invokestatic 73, 3) := by decide +kernel
theorem dX3_readRow_42 : decode cX3_readRow 42 = .ok (.iand, 1) := by decide +kernel
theorem dX3_readRow_43 : decode cX3_readRow 43 = .ok (.ifCond .eq 5, 3) := by decide +kernel
theorem dX3_readRow_46 : decode cX3_readRow 46 = .ok (.iconst 0, 1) := by decide +kernel
theorem dX3_readRow_47 : decode cX3_readRow 47 = .ok (.ireturn, 1) := by decide +kernel
theorem dX3_readRow_48 : decode cX3_readRow 48 = .ok (.iload_n 2, 1) := by decide +kernel
theorem dX3_readRow_49 : decode cX3_readRow 49 = .ok (.iload 4, 2) := by decide +kernel
theorem dX3_readRow_51 : decode cX3_readRow 51 = .ok (.invokestatic 73, 3) := by decide +kernel
theorem dX3_readRow_54 : decode cX3_readRow 54 = .ok (.ior, 1) := by decide +kernel
theorem dX3_readRow_55 : decode cX3_readRow 55 = .ok (.istore_n 2, 1) := by decide +kernel
theorem dX3_readRow_56 : decode cX3_readRow 56 = .ok (.iinc 3 1, 3) := by decide +kernel
theorem dX3_readRow_59 : decode cX3_readRow 59 = .ok (.goto (-55), 3) := by decide +kernel
theorem dX3_readRow_62 : decode cX3_readRow 62 = .ok (.iload_n 2, 1) := by decide +kernel
theorem dX3_readRow_63 : decode cX3_readRow 63 = .ok (.ireturn, 1) := by decide +kernel
theorem dX3_readNumber_0 : decode cX3_readNumber 0 = .ok (.aload_n 0, 1) := by decide +kernel
theorem dX3_readNumber_1 : decode cX3_readNumber 1 = .ok (.invokevirtual 67, 3) := by decide +kernel
theorem dX3_readNumber_4 : decode cX3_readNumber 4 = .ok (.istore_n 1, 1) := by decide +kernel
theorem dX3_readNumber_5 : decode cX3_readNumber 5 = .ok (.iload_n 1, 1) := by decide +kernel
theorem dX3_readNumber_6 : decode cX3_readNumber 6 = .ok (.iconst (-1), 1) := by decide +kernel
theorem dX3_readNumber_7 : decode cX3_readNumber 7 = .ok (.if_icmp .ne 5, 3) := by decide +kernel
theorem dX3_readNumber_10 : decode cX3_readNumber 10 = .ok (.iconst (-1), 1) := by decide +kernel
theorem dX3_readNumber_11 : decode cX3_readNumber 11 = .ok (.ireturn, 1) := by decide +kernel
theorem dX3_readNumber_12 : decode cX3_readNumber 12 = .ok (.aload_n 0, 1) := by decide +kernel
theorem dX3_readNumber_13 : decode cX3_readNumber 13 = .ok (.invokevirtual 67, 3) := by decide +kernel
theorem dX3_readNumber_16 : decode cX3_readNumber 16 = .ok (.istore_n 2, 1) := by decide +kernel
theorem dX3_readNumber_17 : decode cX3_readNumber 17 = .ok (.iload_n 2, 1) := by decide +kernel
theorem dX3_readNumber_18 : decode cX3_readNumber 18 = .ok (.iconst (-1), 1) := by decide +kernel
theorem dX3_readNumber_19 : decode cX3_readNumber 19 = .ok (.if_icmp .ne 7, 3) := by decide +kernel
theorem dX3_readNumber_22 : decode cX3_readNumber 22 = .ok (.iload_n 1, 1) := by decide +kernel
theorem dX3_readNumber_23 : decode cX3_readNumber 23 = .ok (.goto 9, 3) := by decide +kernel
theorem dX3_readNumber_26 : decode cX3_readNumber 26 = .ok (.bipush 10, 2) := by decide +kernel
theorem dX3_readNumber_28 : decode cX3_readNumber 28 = .ok (.iload_n 1, 1) := by decide +kernel
theorem dX3_readNumber_29 : decode cX3_readNumber 29 = .ok (.imul, 1) := by decide +kernel
theorem dX3_readNumber_30 : decode cX3_readNumber 30 = .ok (.iload_n 2, 1) := by decide +kernel
theorem dX3_readNumber_31 : decode cX3_readNumber 31 = .ok (.iadd, 1) := by decide +kernel
theorem dX3_readNumber_32 : decode cX3_readNumber 32 = .ok (.ireturn, 1) := by decide +kernel
theorem dX3_readFigure_0 : decode cX3_readFigure 0 = .ok (.aload_n 0, 1) := by decide +kernel
theorem dX3_readFigure_1 : decode cX3_readFigure 1 = .ok (.invokevirtual 31, 3) := by decide +kernel
theorem dX3_readFigure_4 : decode cX3_readFigure 4 = .ok (.istore_n 1, 1) := by decide +kernel
theorem dX3_readFigure_5 : decode cX3_readFigure 5 = .ok (.iload_n 1, 1) := by decide +kernel
theorem dX3_readFigure_6 : decode cX3_readFigure 6 = .ok (.bipush 48, 2) := by decide +kernel
theorem dX3_readFigure_8 : decode cX3_readFigure 8 = .ok (.if_icmp .lt 9, 3) := by decide +kernel
theorem dX3_readFigure_11 : decode cX3_readFigure 11 = .ok (.iload_n 1, 1) := by decide +kernel
theorem dX3_readFigure_12 : decode cX3_readFigure 12 = .ok (.bipush 57, 2) := by decide +kernel
theorem dX3_readFigure_14 : decode cX3_readFigure 14 = .ok (.if_icmp .le 5, 3) := by decide +kernel
theorem dX3_readFigure_17 : decode cX3_readFigure 17 = .ok (.iconst (-1), 1) := by decide +kernel
theorem dX3_readFigure_18 : decode cX3_readFigure 18 = .ok (.ireturn, 1) := by decide +kernel
theorem dX3_readFigure_19 : decode cX3_readFigure 19 = .ok (.aload_n 0, 1) := by decide +kernel
theorem dX3_readFigure_20 : decode cX3_readFigure 20 = .ok (.dup, 1) := by decide +kernel
theorem dX3_readFigure_21 : decode cX3_readFigure 21 = .ok (.getfield 24, 3) := by decide +kernel
theorem dX3_readFigure_24 : decode cX3_readFigure 24 = .ok (.iconst 1, 1) := by decide +kernel
theorem dX3_readFigure_25 : decode cX3_readFigure 25 = .ok (.iadd, 1) := by decide +kernel
theorem dX3_readFigure_26 : decode cX3_readFigure 26 = .ok (.putfield 24, 3) := by decide +kernel
theorem dX3_readFigure_29 : decode cX3_readFigure 29 = .ok (.iload_n 1, 1) := by decide +kernel
theorem dX3_readFigure_30 : decode cX3_readFigure 30 = .ok (.bipush 48, 2) := by decide +kernel
theorem dX3_readFigure_32 : decode cX3_readFigure 32 = .ok (.isub, 1) := by decide +kernel
theorem dX3_readFigure_33 : decode cX3_readFigure 33 = .ok (.ireturn, 1) := by decide +kernel
theorem dX3_accept_0 : decode cX3_accept 0 = .ok (.aload_n 0, 1) := by decide +kernel
theorem dX3_accept_1 : decode cX3_accept 1 = .ok (.invokevirtual 31, 3) := by decide +kernel
theorem dX3_accept_4 : decode cX3_accept 4 = .ok (.iload_n 1, 1) := by decide +kernel
theorem dX3_accept_5 : decode cX3_accept 5 = .ok (.if_icmp .eq 5, 3) := by decide +kernel
theorem dX3_accept_8 : decode cX3_accept 8 = .ok (.iconst 0, 1) := by decide +kernel
theorem dX3_accept_9 : decode cX3_accept 9 = .ok (.ireturn, 1) := by decide +kernel
theorem dX3_accept_10 : decode cX3_accept 10 = .ok (.aload_n 0, 1) := by decide +kernel
theorem dX3_accept_11 : decode cX3_accept 11 = .ok (.dup, 1) := by decide +kernel
theorem dX3_accept_12 : decode cX3_accept 12 = .ok (.getfield 24, 3) := by decide +kernel
theorem dX3_accept_15 : decode cX3_accept 15 = .ok (.iconst 1, 1) := by decide +kernel
theorem dX3_accept_16 : decode cX3_accept 16 = .ok (.iadd, 1) := by decide +kernel
theorem dX3_accept_17 : decode cX3_accept 17 = .ok (.putfield 24, 3) := by decide +kernel
theorem dX3_accept_20 : decode cX3_accept 20 = .ok (.iconst 1, 1) := by decide +kernel
theorem dX3_accept_21 : decode cX3_accept 21 = .ok (.ireturn, 1) := by decide +kernel
theorem dX3_peek_0 : decode cX3_peek 0 = .ok (.aload_n 0, 1) := by decide +kernel
theorem dX3_peek_1 : decode cX3_peek 1 = .ok (.getfield 24, 3) := by decide +kernel
theorem dX3_peek_4 : decode cX3_peek 4 = .ok (.ifCond .lt 38, 3) := by decide +kernel
theorem dX3_peek_7 : decode cX3_peek 7 = .ok (.aload_n 0, 1) := by decide +kernel
theorem dX3_peek_8 : decode cX3_peek 8 = .ok (.getfield 24, 3) := by decide +kernel
theorem dX3_peek_11 : decode cX3_peek 11 = .ok (.aload_n 0, 1) := by decide +kernel
theorem dX3_peek_12 : decode cX3_peek 12 = .ok (.getfield 15, 3) := by decide +kernel
theorem dX3_peek_15 : decode cX3_peek 15 = .ok (.if_icmp .ge 27, 3) := by decide +kernel
theorem dX3_peek_18 : decode cX3_peek 18 = .ok (.aload_n 0, 1) := by decide +kernel
theorem dX3_peek_19 : decode cX3_peek 19 = .ok (.getfield 24, 3) := by decide +kernel
theorem dX3_peek_22 : decode cX3_peek 22 = .ok (.aload_n 0, 1) := by decide +kernel
theorem dX3_peek_23 : decode cX3_peek 23 = .ok (.getfield 9, 3) := by decide +kernel
theorem dX3_peek_26 : decode cX3_peek 26 = .ok (.arraylength, 1) := by decide +kernel
theorem dX3_peek_27 : decode cX3_peek 27 = .ok (.if_icmp .ge 15, 3) := by decide +kernel
theorem dX3_peek_30 : decode cX3_peek 30 = .ok (.aload_n 0, 1) := by decide +kernel
theorem dX3_peek_31 : decode cX3_peek 31 = .ok (.getfield 9, 3) := by decide +kernel
theorem dX3_peek_34 : decode cX3_peek 34 = .ok (.aload_n 0, 1) := by decide +kernel
theorem dX3_peek_35 : decode cX3_peek 35 = .ok (.getfield 24, 3) := by decide +kernel
theorem dX3_peek_38 : decode cX3_peek 38 = .ok (.caload, 1) := by decide +kernel
theorem dX3_peek_39 : decode cX3_peek 39 = .ok (.goto 4, 3) := by decide +kernel
theorem dX3_peek_42 : decode cX3_peek 42 = .ok (.iconst 0, 1) := by decide +kernel
theorem dX3_peek_43 : decode cX3_peek 43 = .ok (.ireturn, 1) := by decide +kernel
theorem dX4_init_0 : decode cX4_init 0 = .ok (.aload_n 0, 1) := by decide +kernel
theorem dX4_init_1 : decode cX4_init 1 = .ok (.invokespecial 3, 3) := by decide +kernel
theorem dX4_init_4 : decode cX4_init 4 = .ok (.aload_n 0, 1) := by decide +kernel
theorem dX4_init_5 : decode cX4_init 5 = .ok (.bipush 6, 2) := by decide +kernel
theorem dX4_init_7 : decode cX4_init 7 = .ok (.newarray .int, 2) := by decide +kernel
theorem dX4_init_9 : decode cX4_init 9 = .ok (.putfield 9, 3) := by decide +kernel
theorem dX4_init_12 : decode cX4_init 12 = .ok (.aload_n 0, 1) := by decide +kernel
theorem dX4_init_13 : decode cX4_init 13 = .ok (.bipush 6, 2) := by decide +kernel
theorem dX4_init_15 : decode cX4_init 15 = .ok (.newarray .int, 2) := by decide +kernel
theorem dX4_init_17 : decode cX4_init 17 = .ok (.putfield 15, 3) := by decide +kernel
theorem dX4_init_20 : decode cX4_init 20 = .ok (.aload_n 0, 1) := by decide +kernel
theorem dX4_init_21 : decode cX4_init 21 = .ok (.bipush 6, 2) := by decide +kernel
theorem dX4_init_23 : decode cX4_init 23 = .ok (.newarray .int, 2) := by decide +kernel
theorem dX4_init_25 : decode cX4_init 25 = .ok (.putfield 18, 3) := by decide +kernel
theorem dX4_init_28 : decode cX4_init 28 = .ok (.aload_n 0, 1) := by decide +kernel
theorem dX4_init_29 : decode cX4_init 29 = .ok (.bipush 6, 2) := by decide +kernel
theorem dX4_init_31 : decode cX4_init 31 = .ok (.newarray .int, 2) := by decide +kernel
theorem dX4_init_33 : decode cX4_init 33 = .ok (.putfield 21, 3) := by decide +kernel
theorem dX4_init_36 : decode cX4_init 36 = .ok (.aload_n 0, 1) := by decide +kernel
theorem dX4_init_37 : decode cX4_init 37 = .ok (.bipush 9, 2) := by decide +kernel
theorem dX4_init_39 : decode cX4_init 39 = .ok (.newarray .int, 2) := by decide +kernel
theorem dX4_init_41 : decode cX4_init 41 = .ok (.putfield 24, 3) := by decide +kernel
theorem dX4_init_44 : decode cX4_init 44 = .ok (.aload_n 0, 1) := by decide +kernel
theorem dX4_init_45 : decode cX4_init 45 = .ok (.bipush 9, 2) := by decide +kernel
theorem dX4_init_47 : decode cX4_init 47 = .ok (.newarray .int, 2) := by decide +kernel
theorem dX4_init_49 : decode cX4_init 49 = .ok (.putfield 27, 3) := by decide +kernel
theorem dX4_init_52 : decode cX4_init 52 = .ok (.aload_n 0, 1) := by decide +kernel
theorem dX4_init_53 : decode cX4_init 53 = .ok (.bipush 9, 2) := by decide +kernel
theorem dX4_init_55 : decode cX4_init 55 = .ok (.newarray .int, 2) := by decide +kernel
theorem dX4_init_57 : decode cX4_init 57 = .ok (.putfield 30, 3) := by decide +kernel
theorem dX4_init_60 : decode cX4_init 60 = .ok (.return_, 1) := by decide +kernel
theorem dX4_clear_0 : decode cX4_clear 0 = .ok (.aload_n 0, 1) := by decide +kernel
theorem dX4_clear_1 : decode cX4_clear 1 = .ok (.iconst 0, 1) := by decide +kernel
theorem dX4_clear_2 : decode cX4_clear 2 = .ok (.putfield 33, 3) := by decide +kernel
theorem dX4_clear_5 : decode cX4_clear 5 = .ok (.aload_n 0, 1) := by decide +kernel
theorem dX4_clear_6 : decode cX4_clear 6 = .ok (.iconst 0, 1) := by decide +kernel
theorem dX4_clear_7 : decode cX4_clear 7 = .ok (.putfield 37, 3) := by decide +kernel
theorem dX4_clear_10 : decode cX4_clear 10 = .ok (.return_, 1) := by decide +kernel
theorem dX4_addPerson_0 : decode cX4_addPerson 0 = .ok (.aload_n 0, 1) := by decide +kernel
theorem dX4_addPerson_1 : decode cX4_addPerson 1 = .ok (.getfield 33, 3) := by decide +kernel
theorem dX4_addPerson_4 : decode cX4_addPerson 4 = .ok (.bipush 6, 2) := by decide +kernel
theorem dX4_addPerson_6 : decode cX4_addPerson 6 = .ok (.if_icmp .ge 12, 3) := by decide +kernel
theorem dX4_addPerson_9 : decode cX4_addPerson 9 = .ok (.iload_n 1, 1) := by decide +kernel
theorem dX4_addPerson_10 : decode cX4_addPerson 10 = .ok (.iconst 0, 1) := by decide +kernel
theorem dX4_addPerson_11 : decode cX4_addPerson 11 = .ok (.iconst 3, 1) := by decide +kernel
theorem dX4_addPerson_12 : decode cX4_addPerson 12 = .ok (.invokestatic 40, 3) := by decide +kernel
theorem dX4_addPerson_15 : decode cX4_addPerson 15 = .ok (.ifCond .ne 5, 3) := by decide +kernel
theorem dX4_addPerson_18 : decode cX4_addPerson 18 = .ok (.iconst 0, 1) := by decide +kernel
theorem dX4_addPerson_19 : decode cX4_addPerson 19 = .ok (.ireturn, 1) := by decide +kernel
theorem dX4_addPerson_20 : decode cX4_addPerson 20 = .ok (.aload_n 0, 1) := by decide +kernel
theorem dX4_addPerson_21 : decode cX4_addPerson 21 = .ok (.getfield 9, 3) := by decide +kernel
theorem dX4_addPerson_24 : decode cX4_addPerson 24 = .ok (.aload_n 0, 1) := by decide +kernel
theorem dX4_addPerson_25 : decode cX4_addPerson 25 = .ok (.getfield 33, 3) := by decide +kernel
theorem dX4_addPerson_28 : decode cX4_addPerson 28 = .ok (.iload_n 1, 1) := by decide +kernel
theorem dX4_addPerson_29 : decode cX4_addPerson 29 = .ok (.invokestatic 44, 3) := by decide +kernel
theorem dX4_addPerson_32 : decode cX4_addPerson 32 = .ok (.aload_n 0, 1) := by decide +kernel
theorem dX4_addPerson_33 : decode cX4_addPerson 33 = .ok (.getfield 15, 3) := by decide +kernel
theorem dX4_addPerson_36 : decode cX4_addPerson 36 = .ok (.aload_n 0, 1) := by decide +kernel
theorem dX4_addPerson_37 : decode cX4_addPerson 37 = .ok (.getfield 33, 3) := by decide +kernel
theorem dX4_addPerson_40 : decode cX4_addPerson 40 = .ok (.iconst 0, 1) := by decide +kernel
theorem dX4_addPerson_41 : decode cX4_addPerson 41 = .ok (.invokestatic 44, 3) := by decide +kernel
theorem dX4_addPerson_44 : decode cX4_addPerson 44 = .ok (.aload_n 0, 1) := by decide +kernel
theorem dX4_addPerson_45 : decode cX4_addPerson 45 = .ok (.getfield 18, 3) := by decide +kernel
theorem dX4_addPerson_48 : decode cX4_addPerson 48 = .ok (.aload_n 0, 1) := by decide +kernel
theorem dX4_addPerson_49 : decode cX4_addPerson 49 = .ok (.getfield 33, 3) := by decide +kernel
theorem dX4_addPerson_52 : decode cX4_addPerson 52 = .ok (.iconst 0, 1) := by decide +kernel
theorem dX4_addPerson_53 : decode cX4_addPerson 53 = .ok (.invokestatic 44, 3) := by decide +kernel
theorem dX4_addPerson_56 : decode cX4_addPerson 56 = .ok (.aload_n 0, 1) := by decide +kernel
theorem dX4_addPerson_57 : decode cX4_addPerson 57 = .ok (.getfield 21, 3) := by decide +kernel
theorem dX4_addPerson_60 : decode cX4_addPerson 60 = .ok (.aload_n 0, 1) := by decide +kernel
theorem dX4_addPerson_61 : decode cX4_addPerson 61 = .ok (.getfield 33, 3) := by decide +kernel
theorem dX4_addPerson_64 : decode cX4_addPerson 64 = .ok (.iconst 0, 1) := by decide +kernel
theorem dX4_addPerson_65 : decode cX4_addPerson 65 = .ok (.invokestatic 44, 3) := by decide +kernel
theorem dX4_addPerson_68 : decode cX4_addPerson 68 = .ok (.aload_n 0, 1) := by decide +kernel
theorem dX4_addPerson_69 : decode cX4_addPerson 69 = .ok (.dup, 1) := by decide +kernel
theorem dX4_addPerson_70 : decode cX4_addPerson 70 = .ok (.getfield 33, 3) := by decide +kernel
theorem dX4_addPerson_73 : decode cX4_addPerson 73 = .ok (.iconst 1, 1) := by decide +kernel
theorem dX4_addPerson_74 : decode cX4_addPerson 74 = .ok (.iadd, 1) := by decide +kernel
theorem dX4_addPerson_75 : decode cX4_addPerson 75 = .ok (.putfield 33, 3) := by decide +kernel
theorem dX4_addPerson_78 : decode cX4_addPerson 78 = .ok (.iconst 1, 1) := by decide +kernel
theorem dX4_addPerson_79 : decode cX4_addPerson 79 = .ok (.ireturn, 1) := by decide +kernel
theorem dX4_addFriends_0 : decode cX4_addFriends 0 = .ok (.aload_n 0, 1) := by decide +kernel
theorem dX4_addFriends_1 : decode cX4_addFriends 1 = .ok (.iload_n 1, 1) := by decide +kernel
theorem dX4_addFriends_2 : decode cX4_addFriends 2 = .ok (.invokevirtual 48, 3) := by decide +kernel
theorem dX4_addFriends_5 : decode cX4_addFriends 5 = .ok (.ifCond .eq 16, 3) := by decide +kernel
theorem dX4_addFriends_8 : decode cX4_addFriends 8 = .ok (.aload_n 0, 1) := by decide +kernel
theorem dX4_addFriends_9 : decode cX4_addFriends 9 = .ok (.iload_n 2, 1) := by decide +kernel
theorem dX4_addFriends_10 : decode cX4_addFriends 10 = .ok (.invokevirtual 48, 3) := by decide +kernel
theorem dX4_addFriends_13 : decode cX4_addFriends 13 = .ok (.ifCond .eq 8, 3) := by decide +kernel
theorem dX4_addFriends_16 : decode cX4_addFriends 16 = .ok (.iload_n 1, 1) := by decide +kernel
theorem dX4_addFriends_17 : decode cX4_addFriends 17 = .ok (.iload_n 2, 1) := by decide +kernel
theorem dX4_addFriends_18 : decode cX4_addFriends 18 = .ok (.if_icmp .ne 5, 3) := by decide +kernel
theorem dX4_addFriends_21 : decode cX4_addFriends 21 = .ok (.iconst 0, 1) := by decide +kernel
theorem dX4_addFriends_22 : decode cX4_addFriends 22 = .ok (.ireturn, 1) := by decide +kernel
theorem dX4_addFriends_23 : decode cX4_addFriends 23 = .ok (.aload_n 0, 1) := by decide +kernel
theorem dX4_addFriends_24 : decode cX4_addFriends 24 = .ok (.getfield 15, 3) := by decide +kernel
theorem dX4_addFriends_27 : decode cX4_addFriends 27 = .ok (.iload_n 1, 1) := by decide +kernel
theorem dX4_addFriends_28 : decode cX4_addFriends 28 = .ok (.aload_n 0, 1) := by decide +kernel
theorem dX4_addFriends_29 : decode cX4_addFriends 29 = .ok (.iload_n 1, 1) := by decide +kernel
theorem dX4_addFriends_30 : decode cX4_addFriends 30 = .ok (.invokevirtual 52, 3) := by decide +kernel
theorem dX4_addFriends_33 : decode cX4_addFriends 33 = .ok (.iload_n 2, 1) := by decide +kernel
theorem dX4_addFriends_34 : decode cX4_addFriends 34 = .ok (.invokestatic 56, 3) := by decide +kernel
theorem dX4_addFriends_37 : decode cX4_addFriends 37 = .ok (.ior, 1) := by decide +kernel
theorem dX4_addFriends_38 : decode cX4_addFriends 38 = .ok (.invokestatic 44, 3) := by decide +kernel
theorem dX4_addFriends_41 : decode cX4_addFriends 41 = .ok (.aload_n 0, 1) := by decide +kernel
theorem dX4_addFriends_42 : decode cX4_addFriends 42 = .ok (.getfield 15, 3) := by decide +kernel
theorem dX4_addFriends_45 : decode cX4_addFriends 45 = .ok (.iload_n 2, 1) := by decide +kernel
theorem dX4_addFriends_46 : decode cX4_addFriends 46 = .ok (.aload_n 0, 1) := by decide +kernel
theorem dX4_addFriends_47 : decode cX4_addFriends 47 = .ok (.iload_n 2, 1) := by decide +kernel
theorem dX4_addFriends_48 : decode cX4_addFriends 48 = .ok (.invokevirtual 52, 3) := by decide +kernel
theorem dX4_addFriends_51 : decode cX4_addFriends 51 = .ok (.iload_n 1, 1) := by decide +kernel
theorem dX4_addFriends_52 : decode cX4_addFriends 52 = .ok (.invokestatic 56, 3) := by decide +kernel
theorem dX4_addFriends_55 : decode cX4_addFriends 55 = .ok (.ior, 1) := by decide +kernel
theorem dX4_addFriends_56 : decode cX4_addFriends 56 = .ok (.invokestatic 44, 3) := by decide +kernel
theorem dX4_addFriends_59 : decode cX4_addFriends 59 = .ok (.iconst 1, 1) := by decide +kernel
theorem dX4_addFriends_60 : decode cX4_addFriends 60 = .ok (.ireturn, 1) := by decide +kernel
theorem dX4_addTale_0 : decode cX4_addTale 0 = .ok (.aload_n 0, 1) := by decide +kernel
theorem dX4_addTale_1 : decode cX4_addTale 1 = .ok (.getfield 37, 3) := by decide +kernel
theorem dX4_addTale_4 : decode cX4_addTale 4 = .ok (.bipush 9, 2) := by decide +kernel
theorem dX4_addTale_6 : decode cX4_addTale 6 = .ok (.if_icmp .ge 46, 3) := by decide +kernel
theorem dX4_addTale_9 : decode cX4_addTale 9 = .ok (.aload_n 0, 1) := by decide +kernel
theorem dX4_addTale_10 : decode cX4_addTale 10 = .ok (.iload_n 1, 1) := by decide +kernel
theorem dX4_addTale_11 : decode cX4_addTale 11 = .ok (.invokevirtual 48, 3) := by decide +kernel
theorem dX4_addTale_14 : decode cX4_addTale 14 = .ok (.ifCond .eq 38, 3) := by decide +kernel
theorem dX4_addTale_17 : decode cX4_addTale 17 = .ok (.iload_n 2, 1) := by decide +kernel
theorem dX4_addTale_18 : decode cX4_addTale 18 = .ok (.iconst 1, 1) := by decide +kernel
theorem dX4_addTale_19 : decode cX4_addTale 19 = .ok (.bipush 20, 2) := by decide +kernel
theorem dX4_addTale_21 : decode cX4_addTale 21 = .ok (.invokestatic 40, 3) := by decide +kernel
theorem dX4_addTale_24 : decode cX4_addTale 24 = .ok (.ifCond .eq 28, 3) := by decide +kernel
theorem dX4_addTale_27 : decode cX4_addTale 27 = .ok (.iload_n 3, 1) := by decide +kernel
theorem dX4_addTale_28 : decode cX4_addTale 28 = .ok (.iconst 1, 1) := by decide +kernel
theorem dX4_addTale_29 : decode cX4_addTale 29 = .ok (.bipush 9, 2) := by decide +kernel
theorem dX4_addTale_31 : decode cX4_addTale 31 = .ok (.invokestatic 40, 3) := by decide +kernel
theorem dX4_addTale_34 : decode cX4_addTale 34 = .ok (.ifCond .eq 18, 3) := by decide +kernel
theorem dX4_addTale_37 : decode cX4_addTale 37 = .ok (.iload 4, 2) := by decide +kernel
theorem dX4_addTale_39 : decode cX4_addTale 39 = .ok (.ifCond .eq 13, 3) := by decide +kernel
theorem dX4_addTale_42 : decode cX4_addTale 42 = .ok (.iload 4, 2) := by decide +kernel
theorem dX4_addTale_44 : decode cX4_addTale 44 = .ok (.iload_n 1, 1) := by decide +kernel
theorem dX4_addTale_45 : decode cX4_addTale 45 = .ok (.invokestatic 56, 3) := by decide +kernel
theorem dX4_addTale_48 : decode cX4_addTale 48 = .ok (.iand, 1) := by decide +kernel
theorem dX4_addTale_49 : decode cX4_addTale 49 = .ok (.ifCond .eq 5, 3) := by decide +kernel
theorem dX4_addTale_52 : decode cX4_addTale 52 = .ok (.iconst 0, 1) := by decide +kernel
theorem dX4_addTale_53 : decode cX4_addTale 53 = .ok (.ireturn, 1) := by decide +kernel
theorem dX4_addTale_54 : decode cX4_addTale 54 = .ok (.aload_n 0, 1) := by decide +kernel
theorem dX4_addTale_55 : decode cX4_addTale 55 = .ok (.getfield 24, 3) := by decide +kernel
theorem dX4_addTale_58 : decode cX4_addTale 58 = .ok (.aload_n 0, 1) := by decide +kernel
theorem dX4_addTale_59 : decode cX4_addTale 59 = .ok (.getfield 37, 3) := by decide +kernel
theorem dX4_addTale_62 : decode cX4_addTale 62 = .ok (.iload_n 1, 1) := by decide +kernel
theorem dX4_addTale_63 : decode cX4_addTale 63 = .ok (.invokestatic 44, 3) := by decide +kernel
theorem dX4_addTale_66 : decode cX4_addTale 66 = .ok (.aload_n 0, 1) := by decide +kernel
theorem dX4_addTale_67 : decode cX4_addTale 67 = .ok (.getfield 27, 3) := by decide +kernel
theorem dX4_addTale_70 : decode cX4_addTale 70 = .ok (.aload_n 0, 1) := by decide +kernel
theorem dX4_addTale_71 : decode cX4_addTale 71 = .ok (.getfield 37, 3) := by decide +kernel
theorem dX4_addTale_74 : decode cX4_addTale 74 = .ok (.iload_n 2, 1) := by decide +kernel
theorem dX4_addTale_75 : decode cX4_addTale 75 = .ok (.invokestatic 44, 3) := by decide +kernel
theorem dX4_addTale_78 : decode cX4_addTale 78 = .ok (.aload_n 0, 1) := by decide +kernel
theorem dX4_addTale_79 : decode cX4_addTale 79 = .ok (.getfield 30, 3) := by decide +kernel
theorem dX4_addTale_82 : decode cX4_addTale 82 = .ok (.aload_n 0, 1) := by decide +kernel
theorem dX4_addTale_83 : decode cX4_addTale 83 = .ok (.getfield 37, 3) := by decide +kernel
theorem dX4_addTale_86 : decode cX4_addTale 86 = .ok (.iload_n 3, 1) := by decide +kernel
theorem dX4_addTale_87 : decode cX4_addTale 87 = .ok (.invokestatic 44, 3) := by decide +kernel
theorem dX4_addTale_90 : decode cX4_addTale 90 = .ok (.aload_n 0, 1) := by decide +kernel
theorem dX4_addTale_91 : decode cX4_addTale 91 = .ok (.getfield 18, 3) := by decide +kernel
theorem dX4_addTale_94 : decode cX4_addTale 94 = .ok (.iload_n 1, 1) := by decide +kernel
theorem dX4_addTale_95 : decode cX4_addTale 95 = .ok (.aload_n 0, 1) := by decide +kernel
theorem dX4_addTale_96 : decode cX4_addTale 96 = .ok (.getfield 18, 3) := by decide +kernel
theorem dX4_addTale_99 : decode cX4_addTale 99 = .ok (.iload_n 1, 1) := by decide +kernel
theorem dX4_addTale_100 : decode cX4_addTale 100 = .ok (.invokestatic 59, 3) := by decide +kernel
theorem dX4_addTale_103 : decode cX4_addTale 103 = .ok (.aload_n 0, 1) := by decide +kernel
theorem dX4_addTale_104 : decode cX4_addTale 104 = .ok (.getfield 37, 3) := by decide +kernel
theorem dX4_addTale_107 : decode cX4_addTale 107 = .ok (.invokestatic 56, 3) := by decide +kernel
theorem dX4_addTale_110 : decode cX4_addTale 110 = .ok (.ior, 1) := by decide +kernel
theorem dX4_addTale_111 : decode cX4_addTale 111 = .ok (.invokestatic 44, 3) := by decide +kernel
theorem dX4_addTale_114 : decode cX4_addTale 114 = .ok (.iconst 0, 1) := by decide +kernel
theorem dX4_addTale_115 : decode cX4_addTale 115 = .ok (.istore 5, 2) := by decide +kernel
theorem dX4_addTale_117 : decode cX4_addTale 117 = .ok (.iload 5, 2) := by decide +kernel
theorem dX4_addTale_119 : decode cX4_addTale 119 = .ok (.aload_n 0, 1) := by decide +kernel
theorem dX4_addTale_120 : decode cX4_addTale 120 = .ok (.getfield 33, 3) := by decide +kernel
theorem dX4_addTale_123 : decode cX4_addTale 123 = .ok (.if_icmp .ge 46, 3) := by decide +kernel
theorem dX4_addTale_126 : decode cX4_addTale 126 = .ok (.iload 4, 2) := by decide +kernel
theorem dX4_addTale_128 : decode cX4_addTale 128 = .ok (.iload 5, 2) := by decide +kernel
theorem dX4_addTale_130 : decode cX4_addTale 130 = .ok (.invokestatic 56, 3) := by decide +kernel
theorem dX4_addTale_133 : decode cX4_addTale 133 = .ok (.iand, 1) := by decide +kernel
theorem dX4_addTale_134 : decode cX4_addTale 134 = .ok (.ifCond .eq 29, 3) := by decide +kernel
theorem dX4_addTale_137 : decode cX4_addTale 137 = .ok (.aload_n 0, 1) := by decide +kernel
theorem dX4_addTale_138 : decode cX4_addTale 138 = .ok (.getfield 21, 3) := by decide +kernel
theorem dX4_addTale_141 : decode cX4_addTale 141 = .ok (.iload 5, 2) := by decide +kernel
theorem dX4_addTale_143 : decode cX4_addTale 143 = .ok (.aload_n 0, 1) := by decide +kernel
theorem dX4_addTale_144 : decode cX4_addTale 144 = .ok (.getfield 21, 3) := by decide +kernel
theorem dX4_addTale_147 : decode cX4_addTale 147 = .ok (.iload 5, 2) := by decide +kernel
theorem dX4_addTale_149 : decode cX4_addTale 149 = .ok (.invokestatic 59, 3) := by decide +kernel
theorem dX4_addTale_152 : decode cX4_addTale 152 = .ok (.aload_n 0, 1) := by decide +kernel
theorem dX4_addTale_153 : decode cX4_addTale 153 = .ok (.getfield 37, 3) := by decide +kernel
theorem dX4_addTale_156 : decode cX4_addTale 156 = .ok (.invokestatic 56, 3) := by decide +kernel
theorem dX4_addTale_159 : decode cX4_addTale 159 = .ok (.ior, 1) := by decide +kernel
theorem dX4_addTale_160 : decode cX4_addTale 160 = .ok (.invokestatic 44, 3) := by decide +kernel
theorem dX4_addTale_163 : decode cX4_addTale 163 = .ok (.iinc 5 1, 3) := by decide +kernel
theorem dX4_addTale_166 : decode cX4_addTale 166 = .ok (.goto (-49), 3) := by decide +kernel
theorem dX4_addTale_169 : decode cX4_addTale 169 = .ok (.aload_n 0, 1) := by decide +kernel
theorem dX4_addTale_170 : decode cX4_addTale 170 = .ok (.dup, 1) := by decide +kernel
theorem dX4_addTale_171 : decode cX4_addTale 171 = .ok (.getfield 37, 3) := by decide +kernel
theorem dX4_addTale_174 : decode cX4_addTale 174 = .ok (.iconst 1, 1) := by decide +kernel
theorem dX4_addTale_175 : decode cX4_addTale 175 = .ok (.iadd, 1) := by decide +kernel
theorem dX4_addTale_176 : decode cX4_addTale 176 = .ok (.putfield 37, 3) := by decide +kernel
theorem dX4_addTale_179 : decode cX4_addTale 179 = .ok (.iconst 1, 1) := by decide +kernel
theorem dX4_addTale_180 : decode cX4_addTale 180 = .ok (.ireturn, 1) := by decide +kernel
theorem dX4_hasPerson_0 : decode cX4_hasPerson 0 = .ok (.iload_n 1, 1) := by decide +kernel
theorem dX4_hasPerson_1 : decode cX4_hasPerson 1 = .ok (.ifCond .lt 15, 3) := by decide +kernel
theorem dX4_hasPerson_4 : decode cX4_hasPerson 4 = .ok (.iload_n 1, 1) := by decide +kernel
theorem dX4_hasPerson_5 : decode cX4_hasPerson 5 = .ok (.aload_n 0, 1) := by decide +kernel
theorem dX4_hasPerson_6 : decode cX4_hasPerson 6 = .ok (.getfield 33, 3) := by decide +kernel
theorem dX4_hasPerson_9 : decode cX4_hasPerson 9 = .ok (.if_icmp .ge 7, 3) := by decide +kernel
theorem dX4_hasPerson_12 : decode cX4_hasPerson 12 = .ok (.iconst 1, 1) := by decide +kernel
theorem dX4_hasPerson_13 : decode cX4_hasPerson 13 = .ok (.goto 4, 3) := by decide +kernel
theorem dX4_hasPerson_16 : decode cX4_hasPerson 16 = .ok (.iconst 0, 1) := by decide +kernel
theorem dX4_hasPerson_17 : decode cX4_hasPerson 17 = .ok (.ireturn, 1) := by decide +kernel
theorem dX4_hasTale_0 : decode cX4_hasTale 0 = .ok (.iload_n 1, 1) := by decide +kernel
theorem dX4_hasTale_1 : decode cX4_hasTale 1 = .ok (.ifCond .lt 15, 3) := by decide +kernel
theorem dX4_hasTale_4 : decode cX4_hasTale 4 = .ok (.iload_n 1, 1) := by decide +kernel
theorem dX4_hasTale_5 : decode cX4_hasTale 5 = .ok (.aload_n 0, 1) := by decide +kernel
theorem dX4_hasTale_6 : decode cX4_hasTale 6 = .ok (.getfield 37, 3) := by decide +kernel
theorem dX4_hasTale_9 : decode cX4_hasTale 9 = .ok (.if_icmp .ge 7, 3) := by decide +kernel
theorem dX4_hasTale_12 : decode cX4_hasTale 12 = .ok (.iconst 1, 1) := by decide +kernel
theorem dX4_hasTale_13 : decode cX4_hasTale 13 = .ok (.goto 4, 3) := by decide +kernel
theorem dX4_hasTale_16 : decode cX4_hasTale 16 = .ok (.iconst 0, 1) := by decide +kernel
theorem dX4_hasTale_17 : decode cX4_hasTale 17 = .ok (.ireturn, 1) := by decide +kernel
theorem dX4_kindOf_0 : decode cX4_kindOf 0 = .ok (.aload_n 0, 1) := by decide +kernel
theorem dX4_kindOf_1 : decode cX4_kindOf 1 = .ok (.getfield 9, 3) := by decide +kernel
theorem dX4_kindOf_4 : decode cX4_kindOf 4 = .ok (.iload_n 1, 1) := by decide +kernel
theorem dX4_kindOf_5 : decode cX4_kindOf 5 = .ok (.invokestatic 59, 3) := by decide +kernel
theorem dX4_kindOf_8 : decode cX4_kindOf 8 = .ok (.ireturn, 1) := by decide +kernel
theorem dX4_friendsOf_0 : decode cX4_friendsOf 0 = .ok (.aload_n 0, 1) := by decide +kernel
theorem dX4_friendsOf_1 : decode cX4_friendsOf 1 = .ok (.getfield 15, 3) := by decide +kernel
theorem dX4_friendsOf_4 : decode cX4_friendsOf 4 = .ok (.iload_n 1, 1) := by decide +kernel
theorem dX4_friendsOf_5 : decode cX4_friendsOf 5 = .ok (.invokestatic 59, 3) := by decide +kernel
theorem dX4_friendsOf_8 : decode cX4_friendsOf 8 = .ok (.ireturn, 1) := by decide +kernel
theorem dX4_areFriends_0 : decode cX4_areFriends 0 = .ok (.aload_n 0, 1) := by decide +kernel
theorem dX4_areFriends_1 : decode cX4_areFriends 1 = .ok (.iload_n 1, 1) := by decide +kernel
theorem dX4_areFriends_2 : decode cX4_areFriends 2 = .ok (.invokevirtual 48, 3) := by decide +kernel
theorem dX4_areFriends_5 : decode cX4_areFriends 5 = .ok (.ifCond .eq 28, 3) := by decide +kernel
theorem dX4_areFriends_8 : decode cX4_areFriends 8 = .ok (.aload_n 0, 1) := by decide +kernel
theorem dX4_areFriends_9 : decode cX4_areFriends 9 = .ok (.iload_n 2, 1) := by decide +kernel
theorem dX4_areFriends_10 : decode cX4_areFriends 10 = .ok (.invokevirtual 48, 3) := by decide +kernel
theorem dX4_areFriends_13 : decode cX4_areFriends 13 = .ok (.ifCond .eq 20, 3) := by decide +kernel
theorem dX4_areFriends_16 : decode cX4_areFriends 16 = .ok (.aload_n 0, 1) := by decide +kernel
theorem dX4_areFriends_17 : decode cX4_areFriends 17 = .ok (.iload_n 1, 1) := by decide +kernel
theorem dX4_areFriends_18 : decode cX4_areFriends 18 = .ok (.invokevirtual 52, 3) := by decide +kernel
theorem dX4_areFriends_21 : decode cX4_areFriends 21 = .ok (.iload_n 2, 1) := by decide +kernel
theorem dX4_areFriends_22 : decode cX4_areFriends 22 = .ok (.invokestatic 56, 3) := by decide +kernel
theorem dX4_areFriends_25 : decode cX4_areFriends 25 = .ok (.iand, 1) := by decide +kernel
theorem dX4_areFriends_26 : decode cX4_areFriends 26 = .ok (.ifCond .eq 7, 3) := by decide +kernel
theorem dX4_areFriends_29 : decode cX4_areFriends 29 = .ok (.iconst 1, 1) := by decide +kernel
theorem dX4_areFriends_30 : decode cX4_areFriends 30 = .ok (.goto 4, 3) := by decide +kernel
theorem dX4_areFriends_33 : decode cX4_areFriends 33 = .ok (.iconst 0, 1) := by decide +kernel
theorem dX4_areFriends_34 : decode cX4_areFriends 34 = .ok (.ireturn, 1) := by decide +kernel
theorem dX4_friendships_0 : decode cX4_friendships 0 = .ok (.iconst 0, 1) := by decide +kernel
theorem dX4_friendships_1 : decode cX4_friendships 1 = .ok (.istore_n 1, 1) := by decide +kernel
theorem dX4_friendships_2 : decode cX4_friendships 2 = .ok (.iconst 0, 1) := by decide +kernel
theorem dX4_friendships_3 : decode cX4_friendships 3 = .ok (.istore_n 2, 1) := by decide +kernel
theorem dX4_friendships_4 : decode cX4_friendships 4 = .ok (.iload_n 2, 1) := by decide +kernel
theorem dX4_friendships_5 : decode cX4_friendships 5 = .ok (.aload_n 0, 1) := by decide +kernel
theorem dX4_friendships_6 : decode cX4_friendships 6 = .ok (.getfield 33, 3) := by decide +kernel
theorem dX4_friendships_9 : decode cX4_friendships 9 = .ok (.if_icmp .ge 20, 3) := by decide +kernel
theorem dX4_friendships_12 : decode cX4_friendships 12 = .ok (.iload_n 1, 1) := by decide +kernel
theorem dX4_friendships_13 : decode cX4_friendships 13 = .ok (.aload_n 0, 1) := by decide +kernel
theorem dX4_friendships_14 : decode cX4_friendships 14 = .ok (.iload_n 2, 1) := by decide +kernel
theorem dX4_friendships_15 : decode cX4_friendships 15 = .ok (.invokevirtual 52, 3) := by decide +kernel
theorem dX4_friendships_18 : decode cX4_friendships 18 = .ok (.invokestatic 63, 3) := by decide +kernel
theorem dX4_friendships_21 : decode cX4_friendships 21 = .ok (.iadd, 1) := by decide +kernel
theorem dX4_friendships_22 : decode cX4_friendships 22 = .ok (.istore_n 1, 1) := by decide +kernel
theorem dX4_friendships_23 : decode cX4_friendships 23 = .ok (.iinc 2 1, 3) := by decide +kernel
theorem dX4_friendships_26 : decode cX4_friendships 26 = .ok (.goto (-22), 3) := by decide +kernel
theorem dX4_friendships_29 : decode cX4_friendships 29 = .ok (.iload_n 1, 1) := by decide +kernel
theorem dX4_friendships_30 : decode cX4_friendships 30 = .ok (.iconst 2, 1) := by decide +kernel
theorem dX4_friendships_31 : decode cX4_friendships 31 = .ok (.idiv, 1) := by decide +kernel
theorem dX4_friendships_32 : decode cX4_friendships 32 = .ok (.ireturn, 1) := by decide +kernel
theorem dX4_personOf_0 : decode cX4_personOf 0 = .ok (.aload_n 0, 1) := by decide +kernel
theorem dX4_personOf_1 : decode cX4_personOf 1 = .ok (.getfield 24, 3) := by decide +kernel
theorem dX4_personOf_4 : decode cX4_personOf 4 = .ok (.iload_n 1, 1) := by decide +kernel
theorem dX4_personOf_5 : decode cX4_personOf 5 = .ok (.invokestatic 59, 3) := by decide +kernel
theorem dX4_personOf_8 : decode cX4_personOf 8 = .ok (.ireturn, 1) := by decide +kernel
theorem dX4_illOf_0 : decode cX4_illOf 0 = .ok (.aload_n 0, 1) := by decide +kernel
theorem dX4_illOf_1 : decode cX4_illOf 1 = .ok (.getfield 27, 3) := by decide +kernel
theorem dX4_illOf_4 : decode cX4_illOf 4 = .ok (.iload_n 1, 1) := by decide +kernel
theorem dX4_illOf_5 : decode cX4_illOf 5 = .ok (.invokestatic 59, 3) := by decide +kernel
theorem dX4_illOf_8 : decode cX4_illOf 8 = .ok (.ireturn, 1) := by decide +kernel
theorem dX4_minutesOf_0 : decode cX4_minutesOf 0 = .ok (.aload_n 0, 1) := by decide +kernel
theorem dX4_minutesOf_1 : decode cX4_minutesOf 1 = .ok (.getfield 30, 3) := by decide +kernel
theorem dX4_minutesOf_4 : decode cX4_minutesOf 4 = .ok (.iload_n 1, 1) := by decide +kernel
theorem dX4_minutesOf_5 : decode cX4_minutesOf 5 = .ok (.invokestatic 59, 3) := by decide +kernel
theorem dX4_minutesOf_8 : decode cX4_minutesOf 8 = .ok (.ireturn, 1) := by decide +kernel
theorem dX4_illOfAll_0 : decode cX4_illOfAll 0 = .ok (.iconst 0, 1) := by decide +kernel
theorem dX4_illOfAll_1 : decode cX4_illOfAll 1 = .ok (.istore_n 2, 1) := by decide +kernel
theorem dX4_illOfAll_2 : decode cX4_illOfAll 2 = .ok (.iconst 0, 1) := by decide +kernel
theorem dX4_illOfAll_3 : decode cX4_illOfAll 3 = .ok (.istore_n 3, 1) := by decide +kernel
theorem dX4_illOfAll_4 : decode cX4_illOfAll 4 = .ok (.iload_n 3, 1) := by decide +kernel
theorem dX4_illOfAll_5 : decode cX4_illOfAll 5 = .ok (.aload_n 0, 1) := by decide +kernel
theorem dX4_illOfAll_6 : decode cX4_illOfAll 6 = .ok (.getfield 37, 3) := by decide +kernel
theorem dX4_illOfAll_9 : decode cX4_illOfAll 9 = .ok (.if_icmp .ge 26, 3) := by decide +kernel
theorem dX4_illOfAll_12 : decode cX4_illOfAll 12 = .ok (.iload_n 1, 1) := by decide +kernel
theorem dX4_illOfAll_13 : decode cX4_illOfAll 13 = .ok (.iload_n 3, 1) := by decide +kernel
theorem dX4_illOfAll_14 : decode cX4_illOfAll 14 = .ok (.invokestatic 56, 3) := by decide +kernel
theorem dX4_illOfAll_17 : decode cX4_illOfAll 17 = .ok (.iand, 1) := by decide +kernel
theorem dX4_illOfAll_18 : decode cX4_illOfAll 18 = .ok (.ifCond .eq 11, 3) := by decide +kernel
theorem dX4_illOfAll_21 : decode cX4_illOfAll 21 = .ok (.iload_n 2, 1) := by decide +kernel
theorem dX4_illOfAll_22 : decode cX4_illOfAll 22 = .ok (.aload_n 0, 1) := by decide +kernel
theorem dX4_illOfAll_23 : decode cX4_illOfAll 23 = .ok (.iload_n 3, 1) := by decide +kernel
theorem dX4_illOfAll_24 : decode cX4_illOfAll 24 = .ok (.invokevirtual 68, 3) := by decide +kernel
theorem dX4_illOfAll_27 : decode cX4_illOfAll 27 = .ok (.iadd, 1) := by decide +kernel
theorem dX4_illOfAll_28 : decode cX4_illOfAll 28 = .ok (.istore_n 2, 1) := by decide +kernel
theorem dX4_illOfAll_29 : decode cX4_illOfAll 29 = .ok (.iinc 3 1, 3) := by decide +kernel
theorem dX4_illOfAll_32 : decode cX4_illOfAll 32 = .ok (.goto (-28), 3) := by decide +kernel
theorem dX4_illOfAll_35 : decode cX4_illOfAll 35 = .ok (.iload_n 2, 1) := by decide +kernel
theorem dX4_illOfAll_36 : decode cX4_illOfAll 36 = .ok (.ireturn, 1) := by decide +kernel
theorem dX5_init_0 : decode cX5_init 0 = .ok (.aload_n 0, 1) := by decide +kernel
theorem dX5_init_1 : decode cX5_init 1 = .ok (.invokespecial 1, 3) := by decide +kernel
theorem dX5_init_4 : decode cX5_init 4 = .ok (.aload_n 0, 1) := by decide +kernel
theorem dX5_init_5 : decode cX5_init 5 = .ok (.new 7, 3) := by decide +kernel
theorem dX5_init_8 : decode cX5_init 8 = .ok (.dup, 1) := by decide +kernel
theorem dX5_init_9 : decode cX5_init 9 = .ok (.invokespecial 9, 3) := by decide +kernel
theorem dX5_init_12 : decode cX5_init 12 = .ok (.putfield 10, 3) := by decide +kernel
theorem dX5_init_15 : decode cX5_init 15 = .ok (.aload_n 0, 1) := by decide +kernel
theorem dX5_init_16 : decode cX5_init 16 = .ok (.new 16, 3) := by decide +kernel
theorem dX5_init_19 : decode cX5_init 19 = .ok (.dup, 1) := by decide +kernel
theorem dX5_init_20 : decode cX5_init 20 = .ok (.invokespecial 18, 3) := by decide +kernel
theorem dX5_init_23 : decode cX5_init 23 = .ok (.putfield 19, 3) := by decide +kernel
theorem dX5_init_26 : decode cX5_init 26 = .ok (.aload_n 0, 1) := by decide +kernel
theorem dX5_init_27 : decode cX5_init 27 = .ok (.new 16, 3) := by decide +kernel
theorem dX5_init_30 : decode cX5_init 30 = .ok (.dup, 1) := by decide +kernel
theorem dX5_init_31 : decode cX5_init 31 = .ok (.invokespecial 18, 3) := by decide +kernel
theorem dX5_init_34 : decode cX5_init 34 = .ok (.putfield 23, 3) := by decide +kernel
theorem dX5_init_37 : decode cX5_init 37 = .ok (.aload_n 0, 1) := by decide +kernel
theorem dX5_init_38 : decode cX5_init 38 = .ok (.new 26, 3) := by decide +kernel
theorem dX5_init_41 : decode cX5_init 41 = .ok (.dup, 1) := by decide +kernel
theorem dX5_init_42 : decode cX5_init 42 = .ok (.bipush 8, 2) := by decide +kernel
theorem dX5_init_44 : decode cX5_init 44 = .ok (.invokespecial 28, 3) := by decide +kernel
theorem dX5_init_47 : decode cX5_init 47 = .ok (.putfield 31, 3) := by decide +kernel
theorem dX5_init_50 : decode cX5_init 50 = .ok (.aload_n 0, 1) := by decide +kernel
theorem dX5_init_51 : decode cX5_init 51 = .ok (.new 26, 3) := by decide +kernel
theorem dX5_init_54 : decode cX5_init 54 = .ok (.dup, 1) := by decide +kernel
theorem dX5_init_55 : decode cX5_init 55 = .ok (.iconst 2, 1) := by decide +kernel
theorem dX5_init_56 : decode cX5_init 56 = .ok (.invokespecial 28, 3) := by decide +kernel
theorem dX5_init_59 : decode cX5_init 59 = .ok (.putfield 35, 3) := by decide +kernel
theorem dX5_init_62 : decode cX5_init 62 = .ok (.aload_n 0, 1) := by decide +kernel
theorem dX5_init_63 : decode cX5_init 63 = .ok (.new 38, 3) := by decide +kernel
theorem dX5_init_66 : decode cX5_init 66 = .ok (.dup, 1) := by decide +kernel
theorem dX5_init_67 : decode cX5_init 67 = .ok (.invokespecial 40, 3) := by decide +kernel
theorem dX5_init_70 : decode cX5_init 70 = .ok (.putfield 41, 3) := by decide +kernel
theorem dX5_init_73 : decode cX5_init 73 = .ok (.aload_n 0, 1) := by decide +kernel
theorem dX5_init_74 : decode cX5_init 74 = .ok (.new 45, 3) := by decide +kernel
theorem dX5_init_77 : decode cX5_init 77 = .ok (.dup, 1) := by decide +kernel
theorem dX5_init_78 : decode cX5_init 78 = .ok (.invokespecial 47, 3) := by decide +kernel
theorem dX5_init_81 : decode cX5_init 81 = .ok (.putfield 48, 3) := by decide +kernel
theorem dX5_init_84 : decode cX5_init 84 = .ok (.aload_n 0, 1) := by decide +kernel
theorem dX5_init_85 : decode cX5_init 85 = .ok (.new 45, 3) := by decide +kernel
theorem dX5_init_88 : decode cX5_init 88 = .ok (.dup, 1) := by decide +kernel
theorem dX5_init_89 : decode cX5_init 89 = .ok (.invokespecial 47, 3) := by decide +kernel
theorem dX5_init_92 : decode cX5_init 92 = .ok (.putfield 52, 3) := by decide +kernel
theorem dX5_init_95 : decode cX5_init 95 = .ok (.iconst 0, 1) := by decide +kernel
theorem dX5_init_96 : decode cX5_init 96 = .ok (.istore_n 1, 1) := by decide +kernel
theorem dX5_init_97 : decode cX5_init 97 = .ok (.iload_n 1, 1) := by decide +kernel
theorem dX5_init_98 : decode cX5_init 98 = .ok (.ldc 55, 2) := by decide +kernel
theorem dX5_init_100 : decode cX5_init 100 = .ok (.invokevirtual 57, 3) := by decide +kernel
theorem dX5_init_103 : decode cX5_init 103 = .ok (.if_icmp .ge 23, 3) := by decide +kernel
theorem dX5_init_106 : decode cX5_init 106 = .ok (.aload_n 0, 1) := by decide +kernel
theorem dX5_init_107 : decode cX5_init 107 = .ok (.getfield 10, 3) := by decide +kernel
theorem dX5_init_110 : decode cX5_init 110 = .ok (.ldc 55, 2) := by decide +kernel
theorem dX5_init_112 : decode cX5_init 112 = .ok (.iload_n 1, 1) := by decide +kernel
theorem dX5_init_113 : decode cX5_init 113 = .ok (.invokevirtual 63, 3) := by decide +kernel
theorem dX5_init_116 : decode cX5_init 116 = .ok (.invokevirtual 67, 3) := by decide +kernel
theorem dX5_init_119 : decode cX5_init 119 = .ok (.pop, 1) := by decide +kernel
theorem dX5_init_120 : decode cX5_init 120 = .ok (.iinc 1 1, 3) := by decide +kernel
theorem dX5_init_123 : decode cX5_init 123 = .ok (.goto (-26), 3) := by decide +kernel
theorem dX5_init_126 : decode cX5_init 126 = .ok (.aload_n 0, 1) := by decide +kernel
theorem dX5_init_127 : decode cX5_init 127 = .ok (.getfield 10, 3) := by decide +kernel
theorem dX5_init_130 : decode cX5_init 130 = .ok (.aload_n 0, 1) := by decide +kernel
theorem dX5_init_131 : decode cX5_init 131 = .ok (.getfield 52, 3) := by decide +kernel
theorem dX5_init_134 : decode cX5_init 134 = .ok (.invokevirtual 71, 3) := by decide +kernel
theorem dX5_init_137 : decode cX5_init 137 = .ok (.iconst (-1), 1) := by decide +kernel
theorem dX5_init_138 : decode cX5_init 138 = .ok (.if_icmp .ne 7, 3) := by decide +kernel
theorem dX5_init_141 : decode cX5_init 141 = .ok (.aload_n 0, 1) := by decide +kernel
theorem dX5_init_142 : decode cX5_init 142 = .ok (.invokevirtual 75, 3) := by decide +kernel
theorem dX5_init_145 : decode cX5_init 145 = .ok (.aload_n 0, 1) := by decide +kernel
theorem dX5_init_146 : decode cX5_init 146 = .ok (.getfield 10, 3) := by decide +kernel
theorem dX5_init_149 : decode cX5_init 149 = .ok (.invokevirtual 78, 3) := by decide +kernel
theorem dX5_init_152 : decode cX5_init 152 = .ok (.return_, 1) := by decide +kernel
theorem dX5_write_0 : decode cX5_write 0 = .ok (.iload_n 1, 1) := by decide +kernel
theorem dX5_write_1 : decode cX5_write 1 = .ok (.bipush 32, 2) := by decide +kernel
theorem dX5_write_3 : decode cX5_write 3 = .ok (.bipush 126, 2) := by decide +kernel
theorem dX5_write_5 : decode cX5_write 5 = .ok (.invokestatic 81, 3) := by decide +kernel
theorem dX5_write_8 : decode cX5_write 8 = .ok (.ifCond .ne 5, 3) := by decide +kernel
theorem dX5_write_11 : decode cX5_write 11 = .ok (.iconst (-1), 1) := by decide +kernel
theorem dX5_write_12 : decode cX5_write 12 = .ok (.ireturn, 1) := by decide +kernel
theorem dX5_write_13 : decode cX5_write 13 = .ok (.aload_n 0, 1) := by decide +kernel
theorem dX5_write_14 : decode cX5_write 14 = .ok (.getfield 10, 3) := by decide +kernel
theorem dX5_write_17 : decode cX5_write 17 = .ok (.iload_n 1, 1) := by decide +kernel
theorem dX5_write_18 : decode cX5_write 18 = .ok (.invokevirtual 67, 3) := by decide +kernel
theorem dX5_write_21 : decode cX5_write 21 = .ok (.ifCond .eq 13, 3) := by decide +kernel
theorem dX5_write_24 : decode cX5_write 24 = .ok (.aload_n 0, 1) := by decide +kernel
theorem dX5_write_25 : decode cX5_write 25 = .ok (.getfield 10, 3) := by decide +kernel
theorem dX5_write_28 : decode cX5_write 28 = .ok (.invokevirtual 85, 3) := by decide +kernel
theorem dX5_write_31 : decode cX5_write 31 = .ok (.goto 5, 3) := by decide +kernel
theorem dX5_write_34 : decode cX5_write 34 = .ok (.bipush (-3), 2) := by decide +kernel
theorem dX5_write_36 : decode cX5_write 36 = .ok (.ireturn, 1) := by decide +kernel
theorem dX5_wipe_0 : decode cX5_wipe 0 = .ok (.aload_n 0, 1) := by decide +kernel
theorem dX5_wipe_1 : decode cX5_wipe 1 = .ok (.getfield 10, 3) := by decide +kernel
theorem dX5_wipe_4 : decode cX5_wipe 4 = .ok (.invokevirtual 85, 3) := by decide +kernel
theorem dX5_wipe_7 : decode cX5_wipe 7 = .ok (.istore_n 1, 1) := by decide +kernel
theorem dX5_wipe_8 : decode cX5_wipe 8 = .ok (.aload_n 0, 1) := by decide +kernel
theorem dX5_wipe_9 : decode cX5_wipe 9 = .ok (.getfield 10, 3) := by decide +kernel
theorem dX5_wipe_12 : decode cX5_wipe 12 = .ok (.invokevirtual 78, 3) := by decide +kernel
theorem dX5_wipe_15 : decode cX5_wipe 15 = .ok (.iload_n 1, 1) := by decide +kernel
theorem dX5_wipe_16 : decode cX5_wipe 16 = .ok (.ireturn, 1) := by decide +kernel
theorem dX5_fault_0 : decode cX5_fault 0 = .ok (.aload_n 0, 1) := by decide +kernel
theorem dX5_fault_1 : decode cX5_fault 1 = .ok (.getfield 10, 3) := by decide +kernel
theorem dX5_fault_4 : decode cX5_fault 4 = .ok (.aload_n 0, 1) := by decide +kernel
theorem dX5_fault_5 : decode cX5_fault 5 = .ok (.getfield 52, 3) := by decide +kernel
theorem dX5_fault_8 : decode cX5_fault 8 = .ok (.invokevirtual 71, 3) := by decide +kernel
theorem dX5_fault_11 : decode cX5_fault 11 = .ok (.istore_n 1, 1) := by decide +kernel
theorem dX5_fault_12 : decode cX5_fault 12 = .ok (.iload_n 1, 1) := by decide +kernel
theorem dX5_fault_13 : decode cX5_fault 13 = .ok (.iconst (-1), 1) := by decide +kernel
theorem dX5_fault_14 : decode cX5_fault 14 = .ok (.if_icmp .ne 8, 3) := by decide +kernel
theorem dX5_fault_17 : decode cX5_fault 17 = .ok (.bipush (-4), 2) := by decide +kernel
theorem dX5_fault_19 : decode cX5_fault 19 = .ok (.goto 4, 3) := by decide +kernel
theorem dX5_fault_22 : decode cX5_fault 22 = .ok (.iload_n 1, 1) := by decide +kernel
theorem dX5_fault_23 : decode cX5_fault 23 = .ok (.ireturn, 1) := by decide +kernel
theorem dX5_lay_0 : decode cX5_lay 0 = .ok (.aload_n 0, 1) := by decide +kernel
theorem dX5_lay_1 : decode cX5_lay 1 = .ok (.getfield 10, 3) := by decide +kernel
theorem dX5_lay_4 : decode cX5_lay 4 = .ok (.aload_n 0, 1) := by decide +kernel
theorem dX5_lay_5 : decode cX5_lay 5 = .ok (.getfield 52, 3) := by decide +kernel
theorem dX5_lay_8 : decode cX5_lay 8 = .ok (.invokevirtual 71, 3) := by decide +kernel
theorem dX5_lay_11 : decode cX5_lay 11 = .ok (.iconst (-1), 1) := by decide +kernel
theorem dX5_lay_12 : decode cX5_lay 12 = .ok (.if_icmp .ne 13, 3) := by decide +kernel
theorem dX5_lay_15 : decode cX5_lay 15 = .ok (.aload_n 0, 1) := by decide +kernel
theorem dX5_lay_16 : decode cX5_lay 16 = .ok (.getfield 52, 3) := by decide +kernel
theorem dX5_lay_19 : decode cX5_lay 19 = .ok (.getfield 88, 3) := by decide +kernel
theorem dX5_lay_22 : decode cX5_lay 22 = .ok (.ifCond .ne 6, 3) := by decide +kernel
theorem dX5_lay_25 : decode cX5_lay 25 = .ok (.bipush (-2), 2) := by decide +kernel
theorem dX5_lay_27 : decode cX5_lay 27 = .ok (.ireturn, 1) := by decide +kernel
theorem dX5_lay_28 : decode cX5_lay 28 = .ok (.aload_n 0, 1) := by decide +kernel
theorem dX5_lay_29 : decode cX5_lay 29 = .ok (.invokevirtual 75, 3) := by decide +kernel
theorem dX5_lay_32 : decode cX5_lay 32 = .ok (.aload_n 0, 1) := by decide +kernel
theorem dX5_lay_33 : decode cX5_lay 33 = .ok (.getfield 48, 3) := by decide +kernel
theorem dX5_lay_36 : decode cX5_lay 36 = .ok (.getfield 88, 3) := by decide +kernel
theorem dX5_lay_39 : decode cX5_lay 39 = .ok (.ireturn, 1) := by decide +kernel
theorem dX5_moveIn_0 : decode cX5_moveIn 0 = .ok (.aload_n 0, 1) := by decide +kernel
theorem dX5_moveIn_1 : decode cX5_moveIn 1 = .ok (.getfield 48, 3) := by decide +kernel
theorem dX5_moveIn_4 : decode cX5_moveIn 4 = .ok (.astore_n 1, 1) := by decide +kernel
theorem dX5_moveIn_5 : decode cX5_moveIn 5 = .ok (.aload_n 0, 1) := by decide +kernel
theorem dX5_moveIn_6 : decode cX5_moveIn 6 = .ok (.aload_n 0, 1) := by decide +kernel
theorem dX5_moveIn_7 : decode cX5_moveIn 7 = .ok (.getfield 52, 3) := by decide +kernel
theorem dX5_moveIn_10 : decode cX5_moveIn 10 = .ok (.putfield 48, 3) := by decide +kernel
theorem dX5_moveIn_13 : decode cX5_moveIn 13 = .ok (.aload_n 0, 1) := by decide +kernel
theorem dX5_moveIn_14 : decode cX5_moveIn 14 = .ok (.aload_n 1, 1) := by decide +kernel
theorem dX5_moveIn_15 : decode cX5_moveIn 15 = .ok (.putfield 52, 3) := by decide +kernel
theorem dX5_moveIn_18 : decode cX5_moveIn 18 = .ok (.aload_n 0, 1) := by decide +kernel
theorem dX5_moveIn_19 : decode cX5_moveIn 19 = .ok (.getfield 19, 3) := by decide +kernel
theorem dX5_moveIn_22 : decode cX5_moveIn 22 = .ok (.aload_n 0, 1) := by decide +kernel
theorem dX5_moveIn_23 : decode cX5_moveIn 23 = .ok (.getfield 48, 3) := by decide +kernel
theorem dX5_moveIn_26 : decode cX5_moveIn 26 = .ok (.invokevirtual 92, 3) := by decide +kernel
theorem dX5_moveIn_29 : decode cX5_moveIn 29 = .ok (.aload_n 0, 1) := by decide +kernel
theorem dX5_moveIn_30 : decode cX5_moveIn 30 = .ok (.getfield 31, 3) := by decide +kernel
theorem dX5_moveIn_33 : decode cX5_moveIn 33 = .ok (.invokevirtual 96, 3) := by decide +kernel
theorem dX5_moveIn_36 : decode cX5_moveIn 36 = .ok (.aload_n 0, 1) := by decide +kernel
theorem dX5_moveIn_37 : decode cX5_moveIn 37 = .ok (.getfield 35, 3) := by decide +kernel
theorem dX5_moveIn_40 : decode cX5_moveIn 40 = .ok (.invokevirtual 96, 3) := by decide +kernel
theorem dX5_moveIn_43 : decode cX5_moveIn 43 = .ok (.return_, 1) := by decide +kernel
theorem dX5_person_0 : decode cX5_person 0 = .ok (.aload_n 0, 1) := by decide +kernel
theorem dX5_person_1 : decode cX5_person 1 = .ok (.getfield 48, 3) := by decide +kernel
theorem dX5_person_4 : decode cX5_person 4 = .ok (.iload_n 1, 1) := by decide +kernel
theorem dX5_person_5 : decode cX5_person 5 = .ok (.invokevirtual 99, 3) := by decide +kernel
theorem dX5_person_8 : decode cX5_person 8 = .ok (.ifCond .ne 5, 3) := by decide +kernel
theorem dX5_person_11 : decode cX5_person 11 = .ok (.iconst (-1), 1) := by decide +kernel
theorem dX5_person_12 : decode cX5_person 12 = .ok (.ireturn, 1) := by decide +kernel
theorem dX5_person_13 : decode cX5_person 13 = .ok (.iload_n 2, 1) := by decide +kernel
theorem dX5_person_14 : decode cX5_person 14 = .ok (.tableswitch 74 0 3 #[30, 39, 48, 57], 30) := by decide +kernel
theorem dX5_person_44 : decode cX5_person 44 = .ok (.aload_n 0, 1) := by decide +kernel
theorem dX5_person_45 : decode cX5_person 45 = .ok (.getfield 48, 3) := by decide +kernel
theorem dX5_person_48 : decode cX5_person 48 = .ok (.iload_n 1, 1) := by decide +kernel
theorem dX5_person_49 : decode cX5_person 49 = .ok (.invokevirtual 102, 3) := by decide +kernel
theorem dX5_person_52 : decode cX5_person 52 = .ok (.ireturn, 1) := by decide +kernel
theorem dX5_person_53 : decode cX5_person 53 = .ok (.aload_n 0, 1) := by decide +kernel
theorem dX5_person_54 : decode cX5_person 54 = .ok (.getfield 48, 3) := by decide +kernel
theorem dX5_person_57 : decode cX5_person 57 = .ok (.iload_n 1, 1) := by decide +kernel
theorem dX5_person_58 : decode cX5_person 58 = .ok (.invokevirtual 106, 3) := by decide +kernel
theorem dX5_person_61 : decode cX5_person 61 = .ok (.ireturn, 1) := by decide +kernel
theorem dX5_person_62 : decode cX5_person 62 = .ok (.aload_n 0, 1) := by decide +kernel
theorem dX5_person_63 : decode cX5_person 63 = .ok (.getfield 19, 3) := by decide +kernel
theorem dX5_person_66 : decode cX5_person 66 = .ok (.iload_n 1, 1) := by decide +kernel
theorem dX5_person_67 : decode cX5_person 67 = .ok (.invokevirtual 109, 3) := by decide +kernel
theorem dX5_person_70 : decode cX5_person 70 = .ok (.ireturn, 1) := by decide +kernel
theorem dX5_person_71 : decode cX5_person 71 = .ok (.aload_n 0, 1) := by decide +kernel
theorem dX5_person_72 : decode cX5_person 72 = .ok (.getfield 19, 3) := by decide +kernel
theorem dX5_person_75 : decode cX5_person 75 = .ok (.iload_n 1, 1) := by decide +kernel
theorem dX5_person_76 : decode cX5_person 76 = .ok (.invokevirtual 112, 3) := by decide +kernel
theorem dX5_person_79 : decode cX5_person 79 = .ok (.ifCond .eq 7, 3) := by decide +kernel
theorem dX5_person_82 : decode cX5_person 82 = .ok (.iconst 1, 1) := by decide +kernel
theorem dX5_person_83 : decode cX5_person 83 = .ok (.goto 4, 3) := by decide +kernel
theorem dX5_person_86 : decode cX5_person 86 = .ok (.iconst 0, 1) := by decide +kernel
theorem dX5_person_87 : decode cX5_person 87 = .ok (.ireturn, 1) := by decide +kernel
theorem dX5_person_88 : decode cX5_person 88 = .ok (.iconst (-1), 1) := by decide +kernel
theorem dX5_person_89 : decode cX5_person 89 = .ok (.ireturn, 1) := by decide +kernel
theorem dX5_tale_0 : decode cX5_tale 0 = .ok (.aload_n 0, 1) := by decide +kernel
theorem dX5_tale_1 : decode cX5_tale 1 = .ok (.getfield 48, 3) := by decide +kernel
theorem dX5_tale_4 : decode cX5_tale 4 = .ok (.iload_n 1, 1) := by decide +kernel
theorem dX5_tale_5 : decode cX5_tale 5 = .ok (.invokevirtual 115, 3) := by decide +kernel
theorem dX5_tale_8 : decode cX5_tale 8 = .ok (.ifCond .ne 5, 3) := by decide +kernel
theorem dX5_tale_11 : decode cX5_tale 11 = .ok (.iconst (-1), 1) := by decide +kernel
theorem dX5_tale_12 : decode cX5_tale 12 = .ok (.ireturn, 1) := by decide +kernel
theorem dX5_tale_13 : decode cX5_tale 13 = .ok (.iload_n 2, 1) := by decide +kernel
theorem dX5_tale_14 : decode cX5_tale 14 = .ok (.tableswitch 87 0 4 #[34, 43, 52, 61, 78], 34) := by decide +kernel
theorem dX5_tale_48 : decode cX5_tale 48 = .ok (.aload_n 0, 1) := by decide +kernel
theorem dX5_tale_49 : decode cX5_tale 49 = .ok (.getfield 48, 3) := by decide +kernel
theorem dX5_tale_52 : decode cX5_tale 52 = .ok (.iload_n 1, 1) := by decide +kernel
theorem dX5_tale_53 : decode cX5_tale 53 = .ok (.invokevirtual 118, 3) := by decide +kernel
theorem dX5_tale_56 : decode cX5_tale 56 = .ok (.ireturn, 1) := by decide +kernel
theorem dX5_tale_57 : decode cX5_tale 57 = .ok (.aload_n 0, 1) := by decide +kernel
theorem dX5_tale_58 : decode cX5_tale 58 = .ok (.getfield 48, 3) := by decide +kernel
theorem dX5_tale_61 : decode cX5_tale 61 = .ok (.iload_n 1, 1) := by decide +kernel
theorem dX5_tale_62 : decode cX5_tale 62 = .ok (.invokevirtual 121, 3) := by decide +kernel
theorem dX5_tale_65 : decode cX5_tale 65 = .ok (.ireturn, 1) := by decide +kernel
theorem dX5_tale_66 : decode cX5_tale 66 = .ok (.aload_n 0, 1) := by decide +kernel
theorem dX5_tale_67 : decode cX5_tale 67 = .ok (.getfield 48, 3) := by decide +kernel
theorem dX5_tale_70 : decode cX5_tale 70 = .ok (.iload_n 1, 1) := by decide +kernel
theorem dX5_tale_71 : decode cX5_tale 71 = .ok (.invokevirtual 124, 3) := by decide +kernel
theorem dX5_tale_74 : decode cX5_tale 74 = .ok (.ireturn, 1) := by decide +kernel
theorem dX5_tale_75 : decode cX5_tale 75 = .ok (.aload_n 0, 1) := by decide +kernel
theorem dX5_tale_76 : decode cX5_tale 76 = .ok (.getfield 19, 3) := by decide +kernel
theorem dX5_tale_79 : decode cX5_tale 79 = .ok (.iload_n 1, 1) := by decide +kernel
theorem dX5_tale_80 : decode cX5_tale 80 = .ok (.invokevirtual 127, 3) := by decide +kernel
theorem dX5_tale_83 : decode cX5_tale 83 = .ok (.ifCond .eq 7, 3) := by decide +kernel
theorem dX5_tale_86 : decode cX5_tale 86 = .ok (.iconst 1, 1) := by decide +kernel
theorem dX5_tale_87 : decode cX5_tale 87 = .ok (.goto 4, 3) := by decide +kernel
theorem dX5_tale_90 : decode cX5_tale 90 = .ok (.iconst 0, 1) := by decide +kernel
theorem dX5_tale_91 : decode cX5_tale 91 = .ok (.ireturn, 1) := by decide +kernel
theorem dX5_tale_92 : decode cX5_tale 92 = .ok (.aload_n 0, 1) := by decide +kernel
theorem dX5_tale_93 : decode cX5_tale 93 = .ok (.getfield 19, 3) := by decide +kernel
theorem dX5_tale_96 : decode cX5_tale 96 = .ok (.iload_n 1, 1) := by decide +kernel
theorem dX5_tale_97 : decode cX5_tale 97 = .ok (.invokevirtual 130, 3) := by decide +kernel
theorem dX5_tale_100 : decode cX5_tale 100 = .ok (.ireturn, 1) := by decide +kernel
theorem dX5_tale_101 : decode cX5_tale 101 = .ok (.iconst (-1), 1) := by decide +kernel
theorem dX5_tale_102 : decode cX5_tale 102 = .ok (.ireturn, 1) := by decide +kernel
theorem dX5_churn_0 : decode cX5_churn 0 = .ok (.iload_n 1, 1) := by decide +kernel
theorem dX5_churn_1 : decode cX5_churn 1 = .ok (.iconst 0, 1) := by decide +kernel
theorem dX5_churn_2 : decode cX5_churn 2 = .ok (.iconst 5, 1) := by decide +kernel
theorem dX5_churn_3 : decode cX5_churn 3 = .ok (.invokestatic 81, 3) := by decide +kernel
theorem dX5_churn_6 : decode cX5_churn 6 = .ok (.ifCond .ne 5, 3) := by decide +kernel
theorem dX5_churn_9 : decode cX5_churn 9 = .ok (.iconst (-1), 1) := by decide +kernel
theorem dX5_churn_10 : decode cX5_churn 10 = .ok (.ireturn, 1) := by decide +kernel
theorem dX5_churn_11 : decode cX5_churn 11 = .ok (.aload_n 0, 1) := by decide +kernel
theorem dX5_churn_12 : decode cX5_churn 12 = .ok (.getfield 19, 3) := by decide +kernel
theorem dX5_churn_15 : decode cX5_churn 15 = .ok (.invokevirtual 133, 3) := by decide +kernel
theorem dX5_churn_18 : decode cX5_churn 18 = .ok (.ifCond .ne 6, 3) := by decide +kernel
theorem dX5_churn_21 : decode cX5_churn 21 = .ok (.bipush (-4), 2) := by decide +kernel
theorem dX5_churn_23 : decode cX5_churn 23 = .ok (.ireturn, 1) := by decide +kernel
theorem dX5_churn_24 : decode cX5_churn 24 = .ok (.iload_n 1, 1) := by decide +kernel
theorem dX5_churn_25 : decode cX5_churn 25 = .ok (.tableswitch 90 0 4 #[35, 43, 51, 59, 82], 35) := by decide +kernel
theorem dX5_churn_60 : decode cX5_churn 60 = .ok (.aload_n 0, 1) := by decide +kernel
theorem dX5_churn_61 : decode cX5_churn 61 = .ok (.getfield 19, 3) := by decide +kernel
theorem dX5_churn_64 : decode cX5_churn 64 = .ok (.getfield 137, 3) := by decide +kernel
theorem dX5_churn_67 : decode cX5_churn 67 = .ok (.ireturn, 1) := by decide +kernel
theorem dX5_churn_68 : decode cX5_churn 68 = .ok (.aload_n 0, 1) := by decide +kernel
theorem dX5_churn_69 : decode cX5_churn 69 = .ok (.getfield 19, 3) := by decide +kernel
theorem dX5_churn_72 : decode cX5_churn 72 = .ok (.getfield 140, 3) := by decide +kernel
theorem dX5_churn_75 : decode cX5_churn 75 = .ok (.ireturn, 1) := by decide +kernel
theorem dX5_churn_76 : decode cX5_churn 76 = .ok (.aload_n 0, 1) := by decide +kernel
theorem dX5_churn_77 : decode cX5_churn 77 = .ok (.getfield 19, 3) := by decide +kernel
theorem dX5_churn_80 : decode cX5_churn 80 = .ok (.getfield 143, 3) := by decide +kernel
theorem dX5_churn_83 : decode cX5_churn 83 = .ok (.ireturn, 1) := by decide +kernel
theorem dX5_churn_84 : decode cX5_churn 84 = .ok (.aload_n 0, 1) := by decide +kernel
theorem dX5_churn_85 : decode cX5_churn 85 = .ok (.getfield 19, 3) := by decide +kernel
theorem dX5_churn_88 : decode cX5_churn 88 = .ok (.invokevirtual 146, 3) := by decide +kernel
theorem dX5_churn_91 : decode cX5_churn 91 = .ok (.ifCond .eq 13, 3) := by decide +kernel
theorem dX5_churn_94 : decode cX5_churn 94 = .ok (.aload_n 0, 1) := by decide +kernel
theorem dX5_churn_95 : decode cX5_churn 95 = .ok (.getfield 19, 3) := by decide +kernel
theorem dX5_churn_98 : decode cX5_churn 98 = .ok (.getfield 149, 3) := by decide +kernel
theorem dX5_churn_101 : decode cX5_churn 101 = .ok (.goto 5, 3) := by decide +kernel
theorem dX5_churn_104 : decode cX5_churn 104 = .ok (.bipush (-4), 2) := by decide +kernel
theorem dX5_churn_106 : decode cX5_churn 106 = .ok (.ireturn, 1) := by decide +kernel
theorem dX5_churn_107 : decode cX5_churn 107 = .ok (.aload_n 0, 1) := by decide +kernel
theorem dX5_churn_108 : decode cX5_churn 108 = .ok (.getfield 19, 3) := by decide +kernel
theorem dX5_churn_111 : decode cX5_churn 111 = .ok (.getfield 152, 3) := by decide +kernel
theorem dX5_churn_114 : decode cX5_churn 114 = .ok (.ireturn, 1) := by decide +kernel
theorem dX5_churn_115 : decode cX5_churn 115 = .ok (.aload_n 0, 1) := by decide +kernel
theorem dX5_churn_116 : decode cX5_churn 116 = .ok (.getfield 19, 3) := by decide +kernel
theorem dX5_churn_119 : decode cX5_churn 119 = .ok (.getfield 155, 3) := by decide +kernel
theorem dX5_churn_122 : decode cX5_churn 122 = .ok (.ireturn, 1) := by decide +kernel
theorem dX5_sit_0 : decode cX5_sit 0 = .ok (.aload_n 0, 1) := by decide +kernel
theorem dX5_sit_1 : decode cX5_sit 1 = .ok (.iload_n 1, 1) := by decide +kernel
theorem dX5_sit_2 : decode cX5_sit 2 = .ok (.iload_n 2, 1) := by decide +kernel
theorem dX5_sit_3 : decode cX5_sit 3 = .ok (.invokevirtual 158, 3) := by decide +kernel
theorem dX5_sit_6 : decode cX5_sit 6 = .ok (.ifCond .ne 5, 3) := by decide +kernel
theorem dX5_sit_9 : decode cX5_sit 9 = .ok (.iconst (-1), 1) := by decide +kernel
theorem dX5_sit_10 : decode cX5_sit 10 = .ok (.ireturn, 1) := by decide +kernel
theorem dX5_sit_11 : decode cX5_sit 11 = .ok (.aload_n 0, 1) := by decide +kernel
theorem dX5_sit_12 : decode cX5_sit 12 = .ok (.getfield 19, 3) := by decide +kernel
theorem dX5_sit_15 : decode cX5_sit 15 = .ok (.invokevirtual 133, 3) := by decide +kernel
theorem dX5_sit_18 : decode cX5_sit 18 = .ok (.ifCond .ne 15, 3) := by decide +kernel
theorem dX5_sit_21 : decode cX5_sit 21 = .ok (.aload_n 0, 1) := by decide +kernel
theorem dX5_sit_22 : decode cX5_sit 22 = .ok (.getfield 48, 3) := by decide +kernel
theorem dX5_sit_25 : decode cX5_sit 25 = .ok (.iload_n 1, 1) := by decide +kernel
theorem dX5_sit_26 : decode cX5_sit 26 = .ok (.iload_n 2, 1) := by decide +kernel
theorem dX5_sit_27 : decode cX5_sit 27 = .ok (.invokevirtual 162, 3) := by decide +kernel
theorem dX5_sit_30 : decode cX5_sit 30 = .ok (.ifCond .ne 6, 3) := by decide +kernel
theorem dX5_sit_33 : decode cX5_sit 33 = .ok (.bipush (-2), 2) := by decide +kernel
theorem dX5_sit_35 : decode cX5_sit 35 = .ok (.ireturn, 1) := by decide +kernel
theorem dX5_sit_36 : decode cX5_sit 36 = .ok (.aload_n 0, 1) := by decide +kernel
theorem dX5_sit_37 : decode cX5_sit 37 = .ok (.getfield 31, 3) := by decide +kernel
theorem dX5_sit_40 : decode cX5_sit 40 = .ok (.aload_n 0, 1) := by decide +kernel
theorem dX5_sit_41 : decode cX5_sit 41 = .ok (.getfield 19, 3) := by decide +kernel
theorem dX5_sit_44 : decode cX5_sit 44 = .ok (.invokevirtual 165, 3) := by decide +kernel
theorem dX5_sit_47 : decode cX5_sit 47 = .ok (.aload_n 0, 1) := by decide +kernel
theorem dX5_sit_48 : decode cX5_sit 48 = .ok (.getfield 19, 3) := by decide +kernel
theorem dX5_sit_51 : decode cX5_sit 51 = .ok (.iload_n 1, 1) := by decide +kernel
theorem dX5_sit_52 : decode cX5_sit 52 = .ok (.iload_n 2, 1) := by decide +kernel
theorem dX5_sit_53 : decode cX5_sit 53 = .ok (.invokevirtual 169, 3) := by decide +kernel
theorem dX5_sit_56 : decode cX5_sit 56 = .ok (.aload_n 0, 1) := by decide +kernel
theorem dX5_sit_57 : decode cX5_sit 57 = .ok (.getfield 19, 3) := by decide +kernel
theorem dX5_sit_60 : decode cX5_sit 60 = .ok (.aload_n 0, 1) := by decide +kernel
theorem dX5_sit_61 : decode cX5_sit 61 = .ok (.getfield 48, 3) := by decide +kernel
theorem dX5_sit_64 : decode cX5_sit 64 = .ok (.iload_n 1, 1) := by decide +kernel
theorem dX5_sit_65 : decode cX5_sit 65 = .ok (.iload_n 2, 1) := by decide +kernel
theorem dX5_sit_66 : decode cX5_sit 66 = .ok (.invokevirtual 173, 3) := by decide +kernel
theorem dX5_sit_69 : decode cX5_sit 69 = .ok (.ireturn, 1) := by decide +kernel
theorem dX5_stand_0 : decode cX5_stand 0 = .ok (.aload_n 0, 1) := by decide +kernel
theorem dX5_stand_1 : decode cX5_stand 1 = .ok (.getfield 19, 3) := by decide +kernel
theorem dX5_stand_4 : decode cX5_stand 4 = .ok (.invokevirtual 133, 3) := by decide +kernel
theorem dX5_stand_7 : decode cX5_stand 7 = .ok (.ifCond .ne 6, 3) := by decide +kernel
theorem dX5_stand_10 : decode cX5_stand 10 = .ok (.bipush (-2), 2) := by decide +kernel
theorem dX5_stand_12 : decode cX5_stand 12 = .ok (.ireturn, 1) := by decide +kernel
theorem dX5_stand_13 : decode cX5_stand 13 = .ok (.aload_n 0, 1) := by decide +kernel
theorem dX5_stand_14 : decode cX5_stand 14 = .ok (.getfield 31, 3) := by decide +kernel
theorem dX5_stand_17 : decode cX5_stand 17 = .ok (.aload_n 0, 1) := by decide +kernel
theorem dX5_stand_18 : decode cX5_stand 18 = .ok (.getfield 19, 3) := by decide +kernel
theorem dX5_stand_21 : decode cX5_stand 21 = .ok (.invokevirtual 165, 3) := by decide +kernel
theorem dX5_stand_24 : decode cX5_stand 24 = .ok (.aload_n 0, 1) := by decide +kernel
theorem dX5_stand_25 : decode cX5_stand 25 = .ok (.getfield 19, 3) := by decide +kernel
theorem dX5_stand_28 : decode cX5_stand 28 = .ok (.getfield 155, 3) := by decide +kernel
theorem dX5_stand_31 : decode cX5_stand 31 = .ok (.invokestatic 177, 3) := by decide +kernel
theorem dX5_stand_34 : decode cX5_stand 34 = .ok (.istore_n 1, 1) := by decide +kernel
theorem dX5_stand_35 : decode cX5_stand 35 = .ok (.aload_n 0, 1) := by decide +kernel
theorem dX5_stand_36 : decode cX5_stand 36 = .ok (.getfield 19, 3) := by decide +kernel
theorem dX5_stand_39 : decode cX5_stand 39 = .ok (.invokevirtual 182, 3) := by decide +kernel
theorem dX5_stand_42 : decode cX5_stand 42 = .ok (.iload_n 1, 1) := by decide +kernel
theorem dX5_stand_43 : decode cX5_stand 43 = .ok (.ireturn, 1) := by decide +kernel
theorem dX5_pass_0 : decode cX5_pass 0 = .ok (.iload_n 1, 1) := by decide +kernel
theorem dX5_pass_1 : decode cX5_pass 1 = .ok (.invokestatic 185, 3) := by decide +kernel
theorem dX5_pass_4 : decode cX5_pass 4 = .ok (.ifCond .ne 5, 3) := by decide +kernel
theorem dX5_pass_7 : decode cX5_pass 7 = .ok (.iconst (-1), 1) := by decide +kernel
theorem dX5_pass_8 : decode cX5_pass 8 = .ok (.ireturn, 1) := by decide +kernel
theorem dX5_pass_9 : decode cX5_pass 9 = .ok (.aload_n 0, 1) := by decide +kernel
theorem dX5_pass_10 : decode cX5_pass 10 = .ok (.getfield 31, 3) := by decide +kernel
theorem dX5_pass_13 : decode cX5_pass 13 = .ok (.aload_n 0, 1) := by decide +kernel
theorem dX5_pass_14 : decode cX5_pass 14 = .ok (.getfield 19, 3) := by decide +kernel
theorem dX5_pass_17 : decode cX5_pass 17 = .ok (.invokevirtual 165, 3) := by decide +kernel
theorem dX5_pass_20 : decode cX5_pass 20 = .ok (.aload_n 0, 1) := by decide +kernel
theorem dX5_pass_21 : decode cX5_pass 21 = .ok (.getfield 19, 3) := by decide +kernel
theorem dX5_pass_24 : decode cX5_pass 24 = .ok (.aload_n 0, 1) := by decide +kernel
theorem dX5_pass_25 : decode cX5_pass 25 = .ok (.getfield 48, 3) := by decide +kernel
theorem dX5_pass_28 : decode cX5_pass 28 = .ok (.iload_n 1, 1) := by decide +kernel
theorem dX5_pass_29 : decode cX5_pass 29 = .ok (.invokevirtual 188, 3) := by decide +kernel
theorem dX5_pass_32 : decode cX5_pass 32 = .ok (.aload_n 0, 1) := by decide +kernel
theorem dX5_pass_33 : decode cX5_pass 33 = .ok (.getfield 19, 3) := by decide +kernel
theorem dX5_pass_36 : decode cX5_pass 36 = .ok (.getfield 192, 3) := by decide +kernel
theorem dX5_pass_39 : decode cX5_pass 39 = .ok (.ireturn, 1) := by decide +kernel
theorem dX5_hush_0 : decode cX5_hush 0 = .ok (.aload_n 0, 1) := by decide +kernel
theorem dX5_hush_1 : decode cX5_hush 1 = .ok (.getfield 48, 3) := by decide +kernel
theorem dX5_hush_4 : decode cX5_hush 4 = .ok (.iload_n 1, 1) := by decide +kernel
theorem dX5_hush_5 : decode cX5_hush 5 = .ok (.invokevirtual 115, 3) := by decide +kernel
theorem dX5_hush_8 : decode cX5_hush 8 = .ok (.ifCond .ne 5, 3) := by decide +kernel
theorem dX5_hush_11 : decode cX5_hush 11 = .ok (.iconst (-1), 1) := by decide +kernel
theorem dX5_hush_12 : decode cX5_hush 12 = .ok (.ireturn, 1) := by decide +kernel
theorem dX5_hush_13 : decode cX5_hush 13 = .ok (.aload_n 0, 1) := by decide +kernel
theorem dX5_hush_14 : decode cX5_hush 14 = .ok (.getfield 19, 3) := by decide +kernel
theorem dX5_hush_17 : decode cX5_hush 17 = .ok (.iload_n 1, 1) := by decide +kernel
theorem dX5_hush_18 : decode cX5_hush 18 = .ok (.invokevirtual 195, 3) := by decide +kernel
theorem dX5_hush_21 : decode cX5_hush 21 = .ok (.ifCond .ne 6, 3) := by decide +kernel
theorem dX5_hush_24 : decode cX5_hush 24 = .ok (.bipush (-2), 2) := by decide +kernel
theorem dX5_hush_26 : decode cX5_hush 26 = .ok (.ireturn, 1) := by decide +kernel
theorem dX5_hush_27 : decode cX5_hush 27 = .ok (.aload_n 0, 1) := by decide +kernel
theorem dX5_hush_28 : decode cX5_hush 28 = .ok (.getfield 31, 3) := by decide +kernel
theorem dX5_hush_31 : decode cX5_hush 31 = .ok (.aload_n 0, 1) := by decide +kernel
theorem dX5_hush_32 : decode cX5_hush 32 = .ok (.getfield 19, 3) := by decide +kernel
theorem dX5_hush_35 : decode cX5_hush 35 = .ok (.invokevirtual 165, 3) := by decide +kernel
theorem dX5_hush_38 : decode cX5_hush 38 = .ok (.aload_n 0, 1) := by decide +kernel
theorem dX5_hush_39 : decode cX5_hush 39 = .ok (.getfield 19, 3) := by decide +kernel
theorem dX5_hush_42 : decode cX5_hush 42 = .ok (.dup, 1) := by decide +kernel
theorem dX5_hush_43 : decode cX5_hush 43 = .ok (.getfield 198, 3) := by decide +kernel
theorem dX5_hush_46 : decode cX5_hush 46 = .ok (.iload_n 1, 1) := by decide +kernel
theorem dX5_hush_47 : decode cX5_hush 47 = .ok (.invokestatic 201, 3) := by decide +kernel
theorem dX5_hush_50 : decode cX5_hush 50 = .ok (.ior, 1) := by decide +kernel
theorem dX5_hush_51 : decode cX5_hush 51 = .ok (.putfield 198, 3) := by decide +kernel
theorem dX5_hush_54 : decode cX5_hush 54 = .ok (.aload_n 0, 1) := by decide +kernel
theorem dX5_hush_55 : decode cX5_hush 55 = .ok (.getfield 48, 3) := by decide +kernel
theorem dX5_hush_58 : decode cX5_hush 58 = .ok (.getfield 204, 3) := by decide +kernel
theorem dX5_hush_61 : decode cX5_hush 61 = .ok (.aload_n 0, 1) := by decide +kernel
theorem dX5_hush_62 : decode cX5_hush 62 = .ok (.getfield 19, 3) := by decide +kernel
theorem dX5_hush_65 : decode cX5_hush 65 = .ok (.getfield 198, 3) := by decide +kernel
theorem dX5_hush_68 : decode cX5_hush 68 = .ok (.invokestatic 177, 3) := by decide +kernel
theorem dX5_hush_71 : decode cX5_hush 71 = .ok (.isub, 1) := by decide +kernel
theorem dX5_hush_72 : decode cX5_hush 72 = .ok (.ireturn, 1) := by decide +kernel
theorem dX5_undo_0 : decode cX5_undo 0 = .ok (.aload_n 0, 1) := by decide +kernel
theorem dX5_undo_1 : decode cX5_undo 1 = .ok (.getfield 31, 3) := by decide +kernel
theorem dX5_undo_4 : decode cX5_undo 4 = .ok (.aload_n 0, 1) := by decide +kernel
theorem dX5_undo_5 : decode cX5_undo 5 = .ok (.getfield 19, 3) := by decide +kernel
theorem dX5_undo_8 : decode cX5_undo 8 = .ok (.invokevirtual 207, 3) := by decide +kernel
theorem dX5_undo_11 : decode cX5_undo 11 = .ok (.ifCond .eq 13, 3) := by decide +kernel
theorem dX5_undo_14 : decode cX5_undo 14 = .ok (.aload_n 0, 1) := by decide +kernel
theorem dX5_undo_15 : decode cX5_undo 15 = .ok (.getfield 31, 3) := by decide +kernel
theorem dX5_undo_18 : decode cX5_undo 18 = .ok (.invokevirtual 211, 3) := by decide +kernel
theorem dX5_undo_21 : decode cX5_undo 21 = .ok (.goto 5, 3) := by decide +kernel
theorem dX5_undo_24 : decode cX5_undo 24 = .ok (.bipush (-2), 2) := by decide +kernel
theorem dX5_undo_26 : decode cX5_undo 26 = .ok (.ireturn, 1) := by decide +kernel
theorem dX5_comes_0 : decode cX5_comes 0 = .ok (.iload_n 1, 1) := by decide +kernel
theorem dX5_comes_1 : decode cX5_comes 1 = .ok (.iconst 0, 1) := by decide +kernel
theorem dX5_comes_2 : decode cX5_comes 2 = .ok (.sipush 999, 3) := by decide +kernel
theorem dX5_comes_5 : decode cX5_comes 5 = .ok (.invokestatic 81, 3) := by decide +kernel
theorem dX5_comes_8 : decode cX5_comes 8 = .ok (.ifCond .ne 5, 3) := by decide +kernel
theorem dX5_comes_11 : decode cX5_comes 11 = .ok (.iconst (-1), 1) := by decide +kernel
theorem dX5_comes_12 : decode cX5_comes 12 = .ok (.ireturn, 1) := by decide +kernel
theorem dX5_comes_13 : decode cX5_comes 13 = .ok (.aload_n 0, 1) := by decide +kernel
theorem dX5_comes_14 : decode cX5_comes 14 = .ok (.getfield 23, 3) := by decide +kernel
theorem dX5_comes_17 : decode cX5_comes 17 = .ok (.aload_n 0, 1) := by decide +kernel
theorem dX5_comes_18 : decode cX5_comes 18 = .ok (.getfield 19, 3) := by decide +kernel
theorem dX5_comes_21 : decode cX5_comes 21 = .ok (.invokevirtual 212, 3) := by decide +kernel
theorem dX5_comes_24 : decode cX5_comes 24 = .ok (.iconst 0, 1) := by decide +kernel
theorem dX5_comes_25 : decode cX5_comes 25 = .ok (.istore_n 2, 1) := by decide +kernel
theorem dX5_comes_26 : decode cX5_comes 26 = .ok (.iload_n 2, 1) := by decide +kernel
theorem dX5_comes_27 : decode cX5_comes 27 = .ok (.bipush 120, 2) := by decide +kernel
theorem dX5_comes_29 : decode cX5_comes 29 = .ok (.if_icmp .gt 34, 3) := by decide +kernel
theorem dX5_comes_32 : decode cX5_comes 32 = .ok (.aload_n 0, 1) := by decide +kernel
theorem dX5_comes_33 : decode cX5_comes 33 = .ok (.getfield 23, 3) := by decide +kernel
theorem dX5_comes_36 : decode cX5_comes 36 = .ok (.getfield 192, 3) := by decide +kernel
theorem dX5_comes_39 : decode cX5_comes 39 = .ok (.iload_n 1, 1) := by decide +kernel
theorem dX5_comes_40 : decode cX5_comes 40 = .ok (.if_icmp .lt 5, 3) := by decide +kernel
theorem dX5_comes_43 : decode cX5_comes 43 = .ok (.iload_n 2, 1) := by decide +kernel
theorem dX5_comes_44 : decode cX5_comes 44 = .ok (.ireturn, 1) := by decide +kernel
theorem dX5_comes_45 : decode cX5_comes 45 = .ok (.aload_n 0, 1) := by decide +kernel
theorem dX5_comes_46 : decode cX5_comes 46 = .ok (.getfield 23, 3) := by decide +kernel
theorem dX5_comes_49 : decode cX5_comes 49 = .ok (.aload_n 0, 1) := by decide +kernel
theorem dX5_comes_50 : decode cX5_comes 50 = .ok (.getfield 48, 3) := by decide +kernel
theorem dX5_comes_53 : decode cX5_comes 53 = .ok (.iconst 1, 1) := by decide +kernel
theorem dX5_comes_54 : decode cX5_comes 54 = .ok (.invokevirtual 188, 3) := by decide +kernel
theorem dX5_comes_57 : decode cX5_comes 57 = .ok (.iinc 2 1, 3) := by decide +kernel
theorem dX5_comes_60 : decode cX5_comes 60 = .ok (.goto (-34), 3) := by decide +kernel
theorem dX5_comes_63 : decode cX5_comes 63 = .ok (.bipush (-4), 2) := by decide +kernel
theorem dX5_comes_65 : decode cX5_comes 65 = .ok (.ireturn, 1) := by decide +kernel
theorem dX5_quiet_0 : decode cX5_quiet 0 = .ok (.aload_n 0, 1) := by decide +kernel
theorem dX5_quiet_1 : decode cX5_quiet 1 = .ok (.getfield 19, 3) := by decide +kernel
theorem dX5_quiet_4 : decode cX5_quiet 4 = .ok (.invokevirtual 133, 3) := by decide +kernel
theorem dX5_quiet_7 : decode cX5_quiet 7 = .ok (.ifCond .ne 6, 3) := by decide +kernel
theorem dX5_quiet_10 : decode cX5_quiet 10 = .ok (.bipush (-2), 2) := by decide +kernel
theorem dX5_quiet_12 : decode cX5_quiet 12 = .ok (.ireturn, 1) := by decide +kernel
theorem dX5_quiet_13 : decode cX5_quiet 13 = .ok (.aload_n 0, 1) := by decide +kernel
theorem dX5_quiet_14 : decode cX5_quiet 14 = .ok (.getfield 23, 3) := by decide +kernel
theorem dX5_quiet_17 : decode cX5_quiet 17 = .ok (.aload_n 0, 1) := by decide +kernel
theorem dX5_quiet_18 : decode cX5_quiet 18 = .ok (.getfield 19, 3) := by decide +kernel
theorem dX5_quiet_21 : decode cX5_quiet 21 = .ok (.invokevirtual 212, 3) := by decide +kernel
theorem dX5_quiet_24 : decode cX5_quiet 24 = .ok (.iconst 0, 1) := by decide +kernel
theorem dX5_quiet_25 : decode cX5_quiet 25 = .ok (.istore_n 1, 1) := by decide +kernel
theorem dX5_quiet_26 : decode cX5_quiet 26 = .ok (.iload_n 1, 1) := by decide +kernel
theorem dX5_quiet_27 : decode cX5_quiet 27 = .ok (.bipush 120, 2) := by decide +kernel
theorem dX5_quiet_29 : decode cX5_quiet 29 = .ok (.if_icmp .gt 37, 3) := by decide +kernel
theorem dX5_quiet_32 : decode cX5_quiet 32 = .ok (.aload_n 0, 1) := by decide +kernel
theorem dX5_quiet_33 : decode cX5_quiet 33 = .ok (.getfield 23, 3) := by decide +kernel
theorem dX5_quiet_36 : decode cX5_quiet 36 = .ok (.aload_n 0, 1) := by decide +kernel
theorem dX5_quiet_37 : decode cX5_quiet 37 = .ok (.getfield 48, 3) := by decide +kernel
theorem dX5_quiet_40 : decode cX5_quiet 40 = .ok (.invokevirtual 215, 3) := by decide +kernel
theorem dX5_quiet_43 : decode cX5_quiet 43 = .ok (.ifCond .eq 5, 3) := by decide +kernel
theorem dX5_quiet_46 : decode cX5_quiet 46 = .ok (.iload_n 1, 1) := by decide +kernel
theorem dX5_quiet_47 : decode cX5_quiet 47 = .ok (.ireturn, 1) := by decide +kernel
theorem dX5_quiet_48 : decode cX5_quiet 48 = .ok (.aload_n 0, 1) := by decide +kernel
theorem dX5_quiet_49 : decode cX5_quiet 49 = .ok (.getfield 23, 3) := by decide +kernel
theorem dX5_quiet_52 : decode cX5_quiet 52 = .ok (.aload_n 0, 1) := by decide +kernel
theorem dX5_quiet_53 : decode cX5_quiet 53 = .ok (.getfield 48, 3) := by decide +kernel
theorem dX5_quiet_56 : decode cX5_quiet 56 = .ok (.iconst 1, 1) := by decide +kernel
theorem dX5_quiet_57 : decode cX5_quiet 57 = .ok (.invokevirtual 188, 3) := by decide +kernel
theorem dX5_quiet_60 : decode cX5_quiet 60 = .ok (.iinc 1 1, 3) := by decide +kernel
theorem dX5_quiet_63 : decode cX5_quiet 63 = .ok (.goto (-37), 3) := by decide +kernel
theorem dX5_quiet_66 : decode cX5_quiet 66 = .ok (.bipush (-4), 2) := by decide +kernel
theorem dX5_quiet_68 : decode cX5_quiet 68 = .ok (.ireturn, 1) := by decide +kernel
theorem dX5_brings_0 : decode cX5_brings 0 = .ok (.aload_n 0, 1) := by decide +kernel
theorem dX5_brings_1 : decode cX5_brings 1 = .ok (.iload_n 1, 1) := by decide +kernel
theorem dX5_brings_2 : decode cX5_brings 2 = .ok (.iload_n 2, 1) := by decide +kernel
theorem dX5_brings_3 : decode cX5_brings 3 = .ok (.invokevirtual 158, 3) := by decide +kernel
theorem dX5_brings_6 : decode cX5_brings 6 = .ok (.ifCond .eq 10, 3) := by decide +kernel
theorem dX5_brings_9 : decode cX5_brings 9 = .ok (.iload_n 3, 1) := by decide +kernel
theorem dX5_brings_10 : decode cX5_brings 10 = .ok (.invokestatic 185, 3) := by decide +kernel
theorem dX5_brings_13 : decode cX5_brings 13 = .ok (.ifCond .ne 5, 3) := by decide +kernel
theorem dX5_brings_16 : decode cX5_brings 16 = .ok (.iconst (-1), 1) := by decide +kernel
theorem dX5_brings_17 : decode cX5_brings 17 = .ok (.ireturn, 1) := by decide +kernel
theorem dX5_brings_18 : decode cX5_brings 18 = .ok (.aload_n 0, 1) := by decide +kernel
theorem dX5_brings_19 : decode cX5_brings 19 = .ok (.iload_n 1, 1) := by decide +kernel
theorem dX5_brings_20 : decode cX5_brings 20 = .ok (.iload_n 2, 1) := by decide +kernel
theorem dX5_brings_21 : decode cX5_brings 21 = .ok (.iload_n 3, 1) := by decide +kernel
theorem dX5_brings_22 : decode cX5_brings 22 = .ok (.aload_n 0, 1) := by decide +kernel
theorem dX5_brings_23 : decode cX5_brings 23 = .ok (.getfield 19, 3) := by decide +kernel
theorem dX5_brings_26 : decode cX5_brings 26 = .ok (.getfield 198, 3) := by decide +kernel
theorem dX5_brings_29 : decode cX5_brings 29 = .ok (.invokevirtual 219, 3) := by decide +kernel
theorem dX5_brings_32 : decode cX5_brings 32 = .ok (.ireturn, 1) := by decide +kernel
theorem dX5_wouldBring_0 : decode cX5_wouldBring 0 = .ok (.aload_n 0, 1) := by decide +kernel
theorem dX5_wouldBring_1 : decode cX5_wouldBring 1 = .ok (.getfield 48, 3) := by decide +kernel
theorem dX5_wouldBring_4 : decode cX5_wouldBring 4 = .ok (.iload_n 1, 1) := by decide +kernel
theorem dX5_wouldBring_5 : decode cX5_wouldBring 5 = .ok (.iload_n 2, 1) := by decide +kernel
theorem dX5_wouldBring_6 : decode cX5_wouldBring 6 = .ok (.invokevirtual 162, 3) := by decide +kernel
theorem dX5_wouldBring_9 : decode cX5_wouldBring 9 = .ok (.ifCond .ne 6, 3) := by decide +kernel
theorem dX5_wouldBring_12 : decode cX5_wouldBring 12 = .ok (.bipush (-2), 2) := by decide +kernel
theorem dX5_wouldBring_14 : decode cX5_wouldBring 14 = .ok (.ireturn, 1) := by decide +kernel
theorem dX5_wouldBring_15 : decode cX5_wouldBring 15 = .ok (.aload_n 0, 1) := by decide +kernel
theorem dX5_wouldBring_16 : decode cX5_wouldBring 16 = .ok (.getfield 23, 3) := by decide +kernel
theorem dX5_wouldBring_19 : decode cX5_wouldBring 19 = .ok (.aload_n 0, 1) := by decide +kernel
theorem dX5_wouldBring_20 : decode cX5_wouldBring 20 = .ok (.getfield 19, 3) := by decide +kernel
theorem dX5_wouldBring_23 : decode cX5_wouldBring 23 = .ok (.invokevirtual 212, 3) := by decide +kernel
theorem dX5_wouldBring_26 : decode cX5_wouldBring 26 = .ok (.aload_n 0, 1) := by decide +kernel
theorem dX5_wouldBring_27 : decode cX5_wouldBring 27 = .ok (.getfield 23, 3) := by decide +kernel
theorem dX5_wouldBring_30 : decode cX5_wouldBring 30 = .ok (.iload 4, 2) := by decide +kernel
theorem dX5_wouldBring_32 : decode cX5_wouldBring 32 = .ok (.putfield 198, 3) := by decide +kernel
theorem dX5_wouldBring_35 : decode cX5_wouldBring 35 = .ok (.aload_n 0, 1) := by decide +kernel
theorem dX5_wouldBring_36 : decode cX5_wouldBring 36 = .ok (.getfield 23, 3) := by decide +kernel
theorem dX5_wouldBring_39 : decode cX5_wouldBring 39 = .ok (.iconst 0, 1) := by decide +kernel
theorem dX5_wouldBring_40 : decode cX5_wouldBring 40 = .ok (.putfield 192, 3) := by decide +kernel
theorem dX5_wouldBring_43 : decode cX5_wouldBring 43 = .ok (.aload_n 0, 1) := by decide +kernel
theorem dX5_wouldBring_44 : decode cX5_wouldBring 44 = .ok (.getfield 23, 3) := by decide +kernel
theorem dX5_wouldBring_47 : decode cX5_wouldBring 47 = .ok (.iload_n 1, 1) := by decide +kernel
theorem dX5_wouldBring_48 : decode cX5_wouldBring 48 = .ok (.iload_n 2, 1) := by decide +kernel
theorem dX5_wouldBring_49 : decode cX5_wouldBring 49 = .ok (.invokevirtual 169, 3) := by decide +kernel
theorem dX5_wouldBring_52 : decode cX5_wouldBring 52 = .ok (.aload_n 0, 1) := by decide +kernel
theorem dX5_wouldBring_53 : decode cX5_wouldBring 53 = .ok (.getfield 23, 3) := by decide +kernel
theorem dX5_wouldBring_56 : decode cX5_wouldBring 56 = .ok (.aload_n 0, 1) := by decide +kernel
theorem dX5_wouldBring_57 : decode cX5_wouldBring 57 = .ok (.getfield 48, 3) := by decide +kernel
theorem dX5_wouldBring_60 : decode cX5_wouldBring 60 = .ok (.iload_n 3, 1) := by decide +kernel
theorem dX5_wouldBring_61 : decode cX5_wouldBring 61 = .ok (.invokevirtual 188, 3) := by decide +kernel
theorem dX5_wouldBring_64 : decode cX5_wouldBring 64 = .ok (.aload_n 0, 1) := by decide +kernel
theorem dX5_wouldBring_65 : decode cX5_wouldBring 65 = .ok (.getfield 23, 3) := by decide +kernel
theorem dX5_wouldBring_68 : decode cX5_wouldBring 68 = .ok (.getfield 192, 3) := by decide +kernel
theorem dX5_wouldBring_71 : decode cX5_wouldBring 71 = .ok (.ireturn, 1) := by decide +kernel
theorem dX5_best_0 : decode cX5_best 0 = .ok (.iload_n 1, 1) := by decide +kernel
theorem dX5_best_1 : decode cX5_best 1 = .ok (.invokestatic 185, 3) := by decide +kernel
theorem dX5_best_4 : decode cX5_best 4 = .ok (.ifCond .eq 12, 3) := by decide +kernel
theorem dX5_best_7 : decode cX5_best 7 = .ok (.iload_n 2, 1) := by decide +kernel
theorem dX5_best_8 : decode cX5_best 8 = .ok (.iconst 0, 1) := by decide +kernel
theorem dX5_best_9 : decode cX5_best 9 = .ok (.iconst 1, 1) := by decide +kernel
theorem dX5_best_10 : decode cX5_best 10 = .ok (.invokestatic 81, 3) := by decide +kernel
theorem dX5_best_13 : decode cX5_best 13 = .ok (.ifCond .ne 5, 3) := by decide +kernel
theorem dX5_best_16 : decode cX5_best 16 = .ok (.iconst (-1), 1) := by decide +kernel
theorem dX5_best_17 : decode cX5_best 17 = .ok (.ireturn, 1) := by decide +kernel
theorem dX5_best_18 : decode cX5_best 18 = .ok (.aload_n 0, 1) := by decide +kernel
theorem dX5_best_19 : decode cX5_best 19 = .ok (.iload_n 1, 1) := by decide +kernel
theorem dX5_best_20 : decode cX5_best 20 = .ok (.aload_n 0, 1) := by decide +kernel
theorem dX5_best_21 : decode cX5_best 21 = .ok (.getfield 19, 3) := by decide +kernel
theorem dX5_best_24 : decode cX5_best 24 = .ok (.getfield 198, 3) := by decide +kernel
theorem dX5_best_27 : decode cX5_best 27 = .ok (.invokevirtual 223, 3) := by decide +kernel
theorem dX5_best_30 : decode cX5_best 30 = .ok (.istore_n 3, 1) := by decide +kernel
theorem dX5_best_31 : decode cX5_best 31 = .ok (.aload_n 0, 1) := by decide +kernel
theorem dX5_best_32 : decode cX5_best 32 = .ok (.iload_n 1, 1) := by decide +kernel
theorem dX5_best_33 : decode cX5_best 33 = .ok (.iload_n 3, 1) := by decide +kernel
theorem dX5_best_34 : decode cX5_best 34 = .ok (.invokevirtual 227, 3) := by decide +kernel
theorem dX5_best_37 : decode cX5_best 37 = .ok (.istore 4, 2) := by decide +kernel
theorem dX5_best_39 : decode cX5_best 39 = .ok (.iload_n 2, 1) := by decide +kernel
theorem dX5_best_40 : decode cX5_best 40 = .ok (.ifCond .eq 10, 3) := by decide +kernel
theorem dX5_best_43 : decode cX5_best 43 = .ok (.iload 4, 2) := by decide +kernel
theorem dX5_best_45 : decode cX5_best 45 = .ok (.bipush (-4), 2) := by decide +kernel
theorem dX5_best_47 : decode cX5_best 47 = .ok (.if_icmp .ne 8, 3) := by decide +kernel
theorem dX5_best_50 : decode cX5_best 50 = .ok (.iload 4, 2) := by decide +kernel
theorem dX5_best_52 : decode cX5_best 52 = .ok (.goto 4, 3) := by decide +kernel
theorem dX5_best_55 : decode cX5_best 55 = .ok (.iload_n 3, 1) := by decide +kernel
theorem dX5_best_56 : decode cX5_best 56 = .ok (.ireturn, 1) := by decide +kernel
theorem dX5_bestButter_0 : decode cX5_bestButter 0 = .ok (.iconst 0, 1) := by decide +kernel
theorem dX5_bestButter_1 : decode cX5_bestButter 1 = .ok (.istore_n 3, 1) := by decide +kernel
theorem dX5_bestButter_2 : decode cX5_bestButter 2 = .ok (.iconst 0, 1) := by decide +kernel
theorem dX5_bestButter_3 : decode cX5_bestButter 3 = .ok (.istore 4, 2) := by decide +kernel
theorem dX5_bestButter_5 : decode cX5_bestButter 5 = .ok (.iload 4, 2) := by decide +kernel
theorem dX5_bestButter_7 : decode cX5_bestButter 7 = .ok (.aload_n 0, 1) := by decide +kernel
theorem dX5_bestButter_8 : decode cX5_bestButter 8 = .ok (.getfield 48, 3) := by decide +kernel
theorem dX5_bestButter_11 : decode cX5_bestButter 11 = .ok (.getfield 88, 3) := by decide +kernel
theorem dX5_bestButter_14 : decode cX5_bestButter 14 = .ok (.if_icmp .ge 45, 3) := by decide +kernel
theorem dX5_bestButter_17 : decode cX5_bestButter 17 = .ok (.iconst 0, 1) := by decide +kernel
theorem dX5_bestButter_18 : decode cX5_bestButter 18 = .ok (.istore 5, 2) := by decide +kernel
theorem dX5_bestButter_20 : decode cX5_bestButter 20 = .ok (.iload 5, 2) := by decide +kernel
theorem dX5_bestButter_22 : decode cX5_bestButter 22 = .ok (.aload_n 0, 1) := by decide +kernel
theorem dX5_bestButter_23 : decode cX5_bestButter 23 = .ok (.getfield 48, 3) := by decide +kernel
theorem dX5_bestButter_26 : decode cX5_bestButter 26 = .ok (.getfield 88, 3) := by decide +kernel
theorem dX5_bestButter_29 : decode cX5_bestButter 29 = .ok (.if_icmp .ge 24, 3) := by decide +kernel
theorem dX5_bestButter_32 : decode cX5_bestButter 32 = .ok (.iload_n 3, 1) := by decide +kernel
theorem dX5_bestButter_33 : decode cX5_bestButter 33 = .ok (.aload_n 0, 1) := by decide +kernel
theorem dX5_bestButter_34 : decode cX5_bestButter 34 = .ok (.iload 4, 2) := by decide +kernel
theorem dX5_bestButter_36 : decode cX5_bestButter 36 = .ok (.iload 5, 2) := by decide +kernel
theorem dX5_bestButter_38 : decode cX5_bestButter 38 = .ok (.iload_n 1, 1) := by decide +kernel
theorem dX5_bestButter_39 : decode cX5_bestButter 39 = .ok (.iload_n 2, 1) := by decide +kernel
theorem dX5_bestButter_40 : decode cX5_bestButter 40 = .ok (.invokevirtual 219, 3) := by decide +kernel
theorem dX5_bestButter_43 : decode cX5_bestButter 43 = .ok (.invokestatic 230, 3) := by decide +kernel
theorem dX5_bestButter_46 : decode cX5_bestButter 46 = .ok (.istore_n 3, 1) := by decide +kernel
theorem dX5_bestButter_47 : decode cX5_bestButter 47 = .ok (.iinc 5 1, 3) := by decide +kernel
theorem dX5_bestButter_50 : decode cX5_bestButter 50 = .ok (.goto (-30), 3) := by decide +kernel
theorem dX5_bestButter_53 : decode cX5_bestButter 53 = .ok (.iinc 4 1, 3) := by decide +kernel
theorem dX5_bestButter_56 : decode cX5_bestButter 56 = .ok (.goto (-51), 3) := by decide +kernel
theorem dX5_bestButter_59 : decode cX5_bestButter 59 = .ok (.iload_n 3, 1) := by decide +kernel
theorem dX5_bestButter_60 : decode cX5_bestButter 60 = .ok (.ireturn, 1) := by decide +kernel
theorem dX5_firstWho_0 : decode cX5_firstWho 0 = .ok (.iconst 0, 1) := by decide +kernel
theorem dX5_firstWho_1 : decode cX5_firstWho 1 = .ok (.istore_n 3, 1) := by decide +kernel
theorem dX5_firstWho_2 : decode cX5_firstWho 2 = .ok (.iload_n 3, 1) := by decide +kernel
theorem dX5_firstWho_3 : decode cX5_firstWho 3 = .ok (.aload_n 0, 1) := by decide +kernel
theorem dX5_firstWho_4 : decode cX5_firstWho 4 = .ok (.getfield 48, 3) := by decide +kernel
theorem dX5_firstWho_7 : decode cX5_firstWho 7 = .ok (.getfield 88, 3) := by decide +kernel
theorem dX5_firstWho_10 : decode cX5_firstWho 10 = .ok (.if_icmp .ge 57, 3) := by decide +kernel
theorem dX5_firstWho_13 : decode cX5_firstWho 13 = .ok (.iconst 0, 1) := by decide +kernel
theorem dX5_firstWho_14 : decode cX5_firstWho 14 = .ok (.istore 4, 2) := by decide +kernel
theorem dX5_firstWho_16 : decode cX5_firstWho 16 = .ok (.iload 4, 2) := by decide +kernel
theorem dX5_firstWho_18 : decode cX5_firstWho 18 = .ok (.aload_n 0, 1) := by decide +kernel
theorem dX5_firstWho_19 : decode cX5_firstWho 19 = .ok (.getfield 48, 3) := by decide +kernel
theorem dX5_firstWho_22 : decode cX5_firstWho 22 = .ok (.getfield 88, 3) := by decide +kernel
theorem dX5_firstWho_25 : decode cX5_firstWho 25 = .ok (.if_icmp .ge 36, 3) := by decide +kernel
theorem dX5_firstWho_28 : decode cX5_firstWho 28 = .ok (.aload_n 0, 1) := by decide +kernel
theorem dX5_firstWho_29 : decode cX5_firstWho 29 = .ok (.iload_n 3, 1) := by decide +kernel
theorem dX5_firstWho_30 : decode cX5_firstWho 30 = .ok (.iload 4, 2) := by decide +kernel
theorem dX5_firstWho_32 : decode cX5_firstWho 32 = .ok (.iload_n 1, 1) := by decide +kernel
theorem dX5_firstWho_33 : decode cX5_firstWho 33 = .ok (.aload_n 0, 1) := by decide +kernel
theorem dX5_firstWho_34 : decode cX5_firstWho 34 = .ok (.getfield 19, 3) := by decide +kernel
theorem dX5_firstWho_37 : decode cX5_firstWho 37 = .ok (.getfield 198, 3) := by decide +kernel
theorem dX5_firstWho_40 : decode cX5_firstWho 40 = .ok (.invokevirtual 219, 3) := by decide +kernel
theorem dX5_firstWho_43 : decode cX5_firstWho 43 = .ok (.iload_n 2, 1) := by decide +kernel
theorem dX5_firstWho_44 : decode cX5_firstWho 44 = .ok (.if_icmp .ne 11, 3) := by decide +kernel
theorem dX5_firstWho_47 : decode cX5_firstWho 47 = .ok (.bipush 10, 2) := by decide +kernel
theorem dX5_firstWho_49 : decode cX5_firstWho 49 = .ok (.iload_n 3, 1) := by decide +kernel
theorem dX5_firstWho_50 : decode cX5_firstWho 50 = .ok (.imul, 1) := by decide +kernel
theorem dX5_firstWho_51 : decode cX5_firstWho 51 = .ok (.iload 4, 2) := by decide +kernel
theorem dX5_firstWho_53 : decode cX5_firstWho 53 = .ok (.iadd, 1) := by decide +kernel
theorem dX5_firstWho_54 : decode cX5_firstWho 54 = .ok (.ireturn, 1) := by decide +kernel
theorem dX5_firstWho_55 : decode cX5_firstWho 55 = .ok (.iinc 4 1, 3) := by decide +kernel
theorem dX5_firstWho_58 : decode cX5_firstWho 58 = .ok (.goto (-42), 3) := by decide +kernel
theorem dX5_firstWho_61 : decode cX5_firstWho 61 = .ok (.iinc 3 1, 3) := by decide +kernel
theorem dX5_firstWho_64 : decode cX5_firstWho 64 = .ok (.goto (-62), 3) := by decide +kernel
theorem dX5_firstWho_67 : decode cX5_firstWho 67 = .ok (.bipush (-4), 2) := by decide +kernel
theorem dX5_firstWho_69 : decode cX5_firstWho 69 = .ok (.ireturn, 1) := by decide +kernel
theorem dX5_howManyWho_0 : decode cX5_howManyWho 0 = .ok (.iconst 0, 1) := by decide +kernel
theorem dX5_howManyWho_1 : decode cX5_howManyWho 1 = .ok (.istore_n 3, 1) := by decide +kernel
theorem dX5_howManyWho_2 : decode cX5_howManyWho 2 = .ok (.iconst 0, 1) := by decide +kernel
theorem dX5_howManyWho_3 : decode cX5_howManyWho 3 = .ok (.istore 4, 2) := by decide +kernel
theorem dX5_howManyWho_5 : decode cX5_howManyWho 5 = .ok (.iload 4, 2) := by decide +kernel
theorem dX5_howManyWho_7 : decode cX5_howManyWho 7 = .ok (.aload_n 0, 1) := by decide +kernel
theorem dX5_howManyWho_8 : decode cX5_howManyWho 8 = .ok (.getfield 48, 3) := by decide +kernel
theorem dX5_howManyWho_11 : decode cX5_howManyWho 11 = .ok (.getfield 88, 3) := by decide +kernel
theorem dX5_howManyWho_14 : decode cX5_howManyWho 14 = .ok (.if_icmp .ge 58, 3) := by decide +kernel
theorem dX5_howManyWho_17 : decode cX5_howManyWho 17 = .ok (.iconst 0, 1) := by decide +kernel
theorem dX5_howManyWho_18 : decode cX5_howManyWho 18 = .ok (.istore 5, 2) := by decide +kernel
theorem dX5_howManyWho_20 : decode cX5_howManyWho 20 = .ok (.iload 5, 2) := by decide +kernel
theorem dX5_howManyWho_22 : decode cX5_howManyWho 22 = .ok (.aload_n 0, 1) := by decide +kernel
theorem dX5_howManyWho_23 : decode cX5_howManyWho 23 = .ok (.getfield 48, 3) := by decide +kernel
theorem dX5_howManyWho_26 : decode cX5_howManyWho 26 = .ok (.getfield 88, 3) := by decide +kernel
theorem dX5_howManyWho_29 : decode cX5_howManyWho 29 = .ok (.if_icmp .ge 37, 3) := by decide +kernel
theorem dX5_howManyWho_32 : decode cX5_howManyWho 32 = .ok (.iload_n 3, 1) := by decide +kernel
theorem dX5_howManyWho_33 : decode cX5_howManyWho 33 = .ok (.aload_n 0, 1) := by decide +kernel
theorem dX5_howManyWho_34 : decode cX5_howManyWho 34 = .ok (.iload 4, 2) := by decide +kernel
theorem dX5_howManyWho_36 : decode cX5_howManyWho 36 = .ok (.iload 5, 2) := by decide +kernel
theorem dX5_howManyWho_38 : decode cX5_howManyWho 38 = .ok (.iload_n 1, 1) := by decide +kernel
theorem dX5_howManyWho_39 : decode cX5_howManyWho 39 = .ok (.aload_n 0, 1) := by decide +kernel
theorem dX5_howManyWho_40 : decode cX5_howManyWho 40 = .ok (.getfield 19, 3) := by decide +kernel
theorem dX5_howManyWho_43 : decode cX5_howManyWho 43 = .ok (.getfield 198, 3) := by decide +kernel
theorem dX5_howManyWho_46 : decode cX5_howManyWho 46 = .ok (.invokevirtual 219, 3) := by decide +kernel
theorem dX5_howManyWho_49 : decode cX5_howManyWho 49 = .ok (.iload_n 2, 1) := by decide +kernel
theorem dX5_howManyWho_50 : decode cX5_howManyWho 50 = .ok (.if_icmp .ne 7, 3) := by decide +kernel
theorem dX5_howManyWho_53 : decode cX5_howManyWho 53 = .ok (.iconst 1, 1) := by decide +kernel
theorem dX5_howManyWho_54 : decode cX5_howManyWho 54 = .ok (.goto 4, 3) := by decide +kernel
theorem dX5_howManyWho_57 : decode cX5_howManyWho 57 = .ok (.iconst 0, 1) := by decide +kernel
theorem dX5_howManyWho_58 : decode cX5_howManyWho 58 = .ok (.iadd, 1) := by decide +kernel
theorem dX5_howManyWho_59 : decode cX5_howManyWho 59 = .ok (.istore_n 3, 1) := by decide +kernel
theorem dX5_howManyWho_60 : decode cX5_howManyWho 60 = .ok (.iinc 5 1, 3) := by decide +kernel
theorem dX5_howManyWho_63 : decode cX5_howManyWho 63 = .ok (.goto (-43), 3) := by decide +kernel
theorem dX5_howManyWho_66 : decode cX5_howManyWho 66 = .ok (.iinc 4 1, 3) := by decide +kernel
theorem dX5_howManyWho_69 : decode cX5_howManyWho 69 = .ok (.goto (-64), 3) := by decide +kernel
theorem dX5_howManyWho_72 : decode cX5_howManyWho 72 = .ok (.iload_n 3, 1) := by decide +kernel
theorem dX5_howManyWho_73 : decode cX5_howManyWho 73 = .ok (.ireturn, 1) := by decide +kernel
theorem dX5_twos_0 : decode cX5_twos 0 = .ok (.iload_n 1, 1) := by decide +kernel
theorem dX5_twos_1 : decode cX5_twos 1 = .ok (.invokestatic 185, 3) := by decide +kernel
theorem dX5_twos_4 : decode cX5_twos 4 = .ok (.ifCond .eq 19, 3) := by decide +kernel
theorem dX5_twos_7 : decode cX5_twos 7 = .ok (.iload_n 2, 1) := by decide +kernel
theorem dX5_twos_8 : decode cX5_twos 8 = .ok (.iconst (-1), 1) := by decide +kernel
theorem dX5_twos_9 : decode cX5_twos 9 = .ok (.if_icmp .eq 16, 3) := by decide +kernel
theorem dX5_twos_12 : decode cX5_twos 12 = .ok (.aload_n 0, 1) := by decide +kernel
theorem dX5_twos_13 : decode cX5_twos 13 = .ok (.getfield 48, 3) := by decide +kernel
theorem dX5_twos_16 : decode cX5_twos 16 = .ok (.iload_n 2, 1) := by decide +kernel
theorem dX5_twos_17 : decode cX5_twos 17 = .ok (.invokevirtual 99, 3) := by decide +kernel
theorem dX5_twos_20 : decode cX5_twos 20 = .ok (.ifCond .ne 5, 3) := by decide +kernel
theorem dX5_twos_23 : decode cX5_twos 23 = .ok (.iconst (-1), 1) := by decide +kernel
theorem dX5_twos_24 : decode cX5_twos 24 = .ok (.ireturn, 1) := by decide +kernel
theorem dX5_twos_25 : decode cX5_twos 25 = .ok (.aload_n 0, 1) := by decide +kernel
theorem dX5_twos_26 : decode cX5_twos 26 = .ok (.iload_n 1, 1) := by decide +kernel
theorem dX5_twos_27 : decode cX5_twos 27 = .ok (.invokevirtual 235, 3) := by decide +kernel
theorem dX5_twos_30 : decode cX5_twos 30 = .ok (.iload_n 2, 1) := by decide +kernel
theorem dX5_twos_31 : decode cX5_twos 31 = .ok (.iconst (-1), 1) := by decide +kernel
theorem dX5_twos_32 : decode cX5_twos 32 = .ok (.if_icmp .ne 18, 3) := by decide +kernel
theorem dX5_twos_35 : decode cX5_twos 35 = .ok (.aload_n 0, 1) := by decide +kernel
theorem dX5_twos_36 : decode cX5_twos 36 = .ok (.getfield 41, 3) := by decide +kernel
theorem dX5_twos_39 : decode cX5_twos 39 = .ok (.aload_n 0, 1) := by decide +kernel
theorem dX5_twos_40 : decode cX5_twos 40 = .ok (.getfield 48, 3) := by decide +kernel
theorem dX5_twos_43 : decode cX5_twos 43 = .ok (.getfield 88, 3) := by decide +kernel
theorem dX5_twos_46 : decode cX5_twos 46 = .ok (.invokevirtual 238, 3) := by decide +kernel
theorem dX5_twos_49 : decode cX5_twos 49 = .ok (.ireturn, 1) := by decide +kernel
theorem dX5_twos_50 : decode cX5_twos 50 = .ok (.aload_n 0, 1) := by decide +kernel
theorem dX5_twos_51 : decode cX5_twos 51 = .ok (.getfield 41, 3) := by decide +kernel
theorem dX5_twos_54 : decode cX5_twos 54 = .ok (.iload_n 2, 1) := by decide +kernel
theorem dX5_twos_55 : decode cX5_twos 55 = .ok (.invokevirtual 241, 3) := by decide +kernel
theorem dX5_twos_58 : decode cX5_twos 58 = .ok (.istore_n 3, 1) := by decide +kernel
theorem dX5_twos_59 : decode cX5_twos 59 = .ok (.iload_n 3, 1) := by decide +kernel
theorem dX5_twos_60 : decode cX5_twos 60 = .ok (.iconst (-1), 1) := by decide +kernel
theorem dX5_twos_61 : decode cX5_twos 61 = .ok (.if_icmp .ne 8, 3) := by decide +kernel
theorem dX5_twos_64 : decode cX5_twos 64 = .ok (.bipush (-4), 2) := by decide +kernel
theorem dX5_twos_66 : decode cX5_twos 66 = .ok (.goto 4, 3) := by decide +kernel
theorem dX5_twos_69 : decode cX5_twos 69 = .ok (.iload_n 3, 1) := by decide +kernel
theorem dX5_twos_70 : decode cX5_twos 70 = .ok (.ireturn, 1) := by decide +kernel
theorem dX5_pairAll_0 : decode cX5_pairAll 0 = .ok (.iconst 0, 1) := by decide +kernel
theorem dX5_pairAll_1 : decode cX5_pairAll 1 = .ok (.istore_n 2, 1) := by decide +kernel
theorem dX5_pairAll_2 : decode cX5_pairAll 2 = .ok (.iload_n 2, 1) := by decide +kernel
theorem dX5_pairAll_3 : decode cX5_pairAll 3 = .ok (.aload_n 0, 1) := by decide +kernel
theorem dX5_pairAll_4 : decode cX5_pairAll 4 = .ok (.getfield 48, 3) := by decide +kernel
theorem dX5_pairAll_7 : decode cX5_pairAll 7 = .ok (.getfield 88, 3) := by decide +kernel
theorem dX5_pairAll_10 : decode cX5_pairAll 10 = .ok (.if_icmp .ge 53, 3) := by decide +kernel
theorem dX5_pairAll_13 : decode cX5_pairAll 13 = .ok (.iload_n 2, 1) := by decide +kernel
theorem dX5_pairAll_14 : decode cX5_pairAll 14 = .ok (.iconst 1, 1) := by decide +kernel
theorem dX5_pairAll_15 : decode cX5_pairAll 15 = .ok (.iadd, 1) := by decide +kernel
theorem dX5_pairAll_16 : decode cX5_pairAll 16 = .ok (.istore_n 3, 1) := by decide +kernel
theorem dX5_pairAll_17 : decode cX5_pairAll 17 = .ok (.iload_n 3, 1) := by decide +kernel
theorem dX5_pairAll_18 : decode cX5_pairAll 18 = .ok (.aload_n 0, 1) := by decide +kernel
theorem dX5_pairAll_19 : decode cX5_pairAll 19 = .ok (.getfield 48, 3) := by decide +kernel
theorem dX5_pairAll_22 : decode cX5_pairAll 22 = .ok (.getfield 88, 3) := by decide +kernel
theorem dX5_pairAll_25 : decode cX5_pairAll 25 = .ok (.if_icmp .ge 32, 3) := by decide +kernel
theorem dX5_pairAll_28 : decode cX5_pairAll 28 = .ok (.aload_n 0, 1) := by decide +kernel
theorem dX5_pairAll_29 : decode cX5_pairAll 29 = .ok (.getfield 41, 3) := by decide +kernel
theorem dX5_pairAll_32 : decode cX5_pairAll 32 = .ok (.iload_n 2, 1) := by decide +kernel
theorem dX5_pairAll_33 : decode cX5_pairAll 33 = .ok (.iload_n 3, 1) := by decide +kernel
theorem dX5_pairAll_34 : decode cX5_pairAll 34 = .ok (.aload_n 0, 1) := by decide +kernel
theorem dX5_pairAll_35 : decode cX5_pairAll 35 = .ok (.iload_n 2, 1) := by decide +kernel
theorem dX5_pairAll_36 : decode cX5_pairAll 36 = .ok (.iload_n 3, 1) := by decide +kernel
theorem dX5_pairAll_37 : decode cX5_pairAll 37 = .ok (.iload_n 1, 1) := by decide +kernel
theorem dX5_pairAll_38 : decode cX5_pairAll 38 = .ok (.aload_n 0, 1) := by decide +kernel
theorem dX5_pairAll_39 : decode cX5_pairAll 39 = .ok (.getfield 19, 3) := by decide +kernel
theorem dX5_pairAll_42 : decode cX5_pairAll 42 = .ok (.getfield 198, 3) := by decide +kernel
theorem dX5_pairAll_45 : decode cX5_pairAll 45 = .ok (.invokevirtual 219, 3) := by decide +kernel
theorem dX5_pairAll_48 : decode cX5_pairAll 48 = .ok (.invokevirtual 244, 3) := by decide +kernel
theorem dX5_pairAll_51 : decode cX5_pairAll 51 = .ok (.iinc 3 1, 3) := by decide +kernel
theorem dX5_pairAll_54 : decode cX5_pairAll 54 = .ok (.goto (-37), 3) := by decide +kernel
theorem dX5_pairAll_57 : decode cX5_pairAll 57 = .ok (.iinc 2 1, 3) := by decide +kernel
theorem dX5_pairAll_60 : decode cX5_pairAll 60 = .ok (.goto (-58), 3) := by decide +kernel
theorem dX5_pairAll_63 : decode cX5_pairAll 63 = .ok (.aload_n 0, 1) := by decide +kernel
theorem dX5_pairAll_64 : decode cX5_pairAll 64 = .ok (.getfield 41, 3) := by decide +kernel
theorem dX5_pairAll_67 : decode cX5_pairAll 67 = .ok (.aload_n 0, 1) := by decide +kernel
theorem dX5_pairAll_68 : decode cX5_pairAll 68 = .ok (.getfield 48, 3) := by decide +kernel
theorem dX5_pairAll_71 : decode cX5_pairAll 71 = .ok (.getfield 88, 3) := by decide +kernel
theorem dX5_pairAll_74 : decode cX5_pairAll 74 = .ok (.invokevirtual 248, 3) := by decide +kernel
theorem dX5_pairAll_77 : decode cX5_pairAll 77 = .ok (.return_, 1) := by decide +kernel
theorem dX5_leave_0 : decode cX5_leave 0 = .ok (.iload_n 1, 1) := by decide +kernel
theorem dX5_leave_1 : decode cX5_leave 1 = .ok (.invokestatic 185, 3) := by decide +kernel
theorem dX5_leave_4 : decode cX5_leave 4 = .ok (.ifCond .ne 5, 3) := by decide +kernel
theorem dX5_leave_7 : decode cX5_leave 7 = .ok (.iconst (-1), 1) := by decide +kernel
theorem dX5_leave_8 : decode cX5_leave 8 = .ok (.ireturn, 1) := by decide +kernel
theorem dX5_leave_9 : decode cX5_leave 9 = .ok (.aload_n 0, 1) := by decide +kernel
theorem dX5_leave_10 : decode cX5_leave 10 = .ok (.iload_n 1, 1) := by decide +kernel
theorem dX5_leave_11 : decode cX5_leave 11 = .ok (.invokevirtual 235, 3) := by decide +kernel
theorem dX5_leave_14 : decode cX5_leave 14 = .ok (.iconst 0, 1) := by decide +kernel
theorem dX5_leave_15 : decode cX5_leave 15 = .ok (.istore_n 2, 1) := by decide +kernel
theorem dX5_leave_16 : decode cX5_leave 16 = .ok (.iload_n 2, 1) := by decide +kernel
theorem dX5_leave_17 : decode cX5_leave 17 = .ok (.aload_n 0, 1) := by decide +kernel
theorem dX5_leave_18 : decode cX5_leave 18 = .ok (.getfield 48, 3) := by decide +kernel
theorem dX5_leave_21 : decode cX5_leave 21 = .ok (.getfield 88, 3) := by decide +kernel
theorem dX5_leave_24 : decode cX5_leave 24 = .ok (.if_icmp .ge 46, 3) := by decide +kernel
theorem dX5_leave_27 : decode cX5_leave 27 = .ok (.iload_n 2, 1) := by decide +kernel
theorem dX5_leave_28 : decode cX5_leave 28 = .ok (.iconst 1, 1) := by decide +kernel
theorem dX5_leave_29 : decode cX5_leave 29 = .ok (.iadd, 1) := by decide +kernel
theorem dX5_leave_30 : decode cX5_leave 30 = .ok (.istore_n 3, 1) := by decide +kernel
theorem dX5_leave_31 : decode cX5_leave 31 = .ok (.iload_n 3, 1) := by decide +kernel
theorem dX5_leave_32 : decode cX5_leave 32 = .ok (.aload_n 0, 1) := by decide +kernel
theorem dX5_leave_33 : decode cX5_leave 33 = .ok (.getfield 48, 3) := by decide +kernel
theorem dX5_leave_36 : decode cX5_leave 36 = .ok (.getfield 88, 3) := by decide +kernel
theorem dX5_leave_39 : decode cX5_leave 39 = .ok (.if_icmp .ge 25, 3) := by decide +kernel
theorem dX5_leave_42 : decode cX5_leave 42 = .ok (.aload_n 0, 1) := by decide +kernel
theorem dX5_leave_43 : decode cX5_leave 43 = .ok (.iload_n 2, 1) := by decide +kernel
theorem dX5_leave_44 : decode cX5_leave 44 = .ok (.iload_n 3, 1) := by decide +kernel
theorem dX5_leave_45 : decode cX5_leave 45 = .ok (.invokevirtual 251, 3) := by decide +kernel
theorem dX5_leave_48 : decode cX5_leave 48 = .ok (.ifCond .eq 10, 3) := by decide +kernel
theorem dX5_leave_51 : decode cX5_leave 51 = .ok (.bipush 10, 2) := by decide +kernel
theorem dX5_leave_53 : decode cX5_leave 53 = .ok (.iload_n 2, 1) := by decide +kernel
theorem dX5_leave_54 : decode cX5_leave 54 = .ok (.imul, 1) := by decide +kernel
theorem dX5_leave_55 : decode cX5_leave 55 = .ok (.iload_n 3, 1) := by decide +kernel
theorem dX5_leave_56 : decode cX5_leave 56 = .ok (.iadd, 1) := by decide +kernel
theorem dX5_leave_57 : decode cX5_leave 57 = .ok (.ireturn, 1) := by decide +kernel
theorem dX5_leave_58 : decode cX5_leave 58 = .ok (.iinc 3 1, 3) := by decide +kernel
theorem dX5_leave_61 : decode cX5_leave 61 = .ok (.goto (-30), 3) := by decide +kernel
theorem dX5_leave_64 : decode cX5_leave 64 = .ok (.iinc 2 1, 3) := by decide +kernel
theorem dX5_leave_67 : decode cX5_leave 67 = .ok (.goto (-51), 3) := by decide +kernel
theorem dX5_leave_70 : decode cX5_leave 70 = .ok (.bipush (-4), 2) := by decide +kernel
theorem dX5_leave_72 : decode cX5_leave 72 = .ok (.ireturn, 1) := by decide +kernel
theorem dX5_wouldLeave_0 : decode cX5_wouldLeave 0 = .ok (.aload_n 0, 1) := by decide +kernel
theorem dX5_wouldLeave_1 : decode cX5_wouldLeave 1 = .ok (.getfield 41, 3) := by decide +kernel
theorem dX5_wouldLeave_4 : decode cX5_wouldLeave 4 = .ok (.iload_n 1, 1) := by decide +kernel
theorem dX5_wouldLeave_5 : decode cX5_wouldLeave 5 = .ok (.iload_n 2, 1) := by decide +kernel
theorem dX5_wouldLeave_6 : decode cX5_wouldLeave 6 = .ok (.invokevirtual 254, 3) := by decide +kernel
theorem dX5_wouldLeave_9 : decode cX5_wouldLeave 9 = .ok (.istore_n 3, 1) := by decide +kernel
theorem dX5_wouldLeave_10 : decode cX5_wouldLeave 10 = .ok (.iload_n 3, 1) := by decide +kernel
theorem dX5_wouldLeave_11 : decode cX5_wouldLeave 11 = .ok (.aload_n 0, 1) := by decide +kernel
theorem dX5_wouldLeave_12 : decode cX5_wouldLeave 12 = .ok (.getfield 41, 3) := by decide +kernel
theorem dX5_wouldLeave_15 : decode cX5_wouldLeave 15 = .ok (.iload_n 1, 1) := by decide +kernel
theorem dX5_wouldLeave_16 : decode cX5_wouldLeave 16 = .ok (.invokevirtual 257, 3) := by decide +kernel
theorem dX5_wouldLeave_19 : decode cX5_wouldLeave 19 = .ok (.if_icmp .le 19, 3) := by decide +kernel
theorem dX5_wouldLeave_22 : decode cX5_wouldLeave 22 = .ok (.iload_n 3, 1) := by decide +kernel
theorem dX5_wouldLeave_23 : decode cX5_wouldLeave 23 = .ok (.aload_n 0, 1) := by decide +kernel
theorem dX5_wouldLeave_24 : decode cX5_wouldLeave 24 = .ok (.getfield 41, 3) := by decide +kernel
theorem dX5_wouldLeave_27 : decode cX5_wouldLeave 27 = .ok (.iload_n 2, 1) := by decide +kernel
theorem dX5_wouldLeave_28 : decode cX5_wouldLeave 28 = .ok (.invokevirtual 257, 3) := by decide +kernel
theorem dX5_wouldLeave_31 : decode cX5_wouldLeave 31 = .ok (.if_icmp .le 7, 3) := by decide +kernel
theorem dX5_wouldLeave_34 : decode cX5_wouldLeave 34 = .ok (.iconst 1, 1) := by decide +kernel
theorem dX5_wouldLeave_35 : decode cX5_wouldLeave 35 = .ok (.goto 4, 3) := by decide +kernel
theorem dX5_wouldLeave_38 : decode cX5_wouldLeave 38 = .ok (.iconst 0, 1) := by decide +kernel
theorem dX5_wouldLeave_39 : decode cX5_wouldLeave 39 = .ok (.ireturn, 1) := by decide +kernel
theorem dX5_hears_0 : decode cX5_hears 0 = .ok (.aload_n 0, 1) := by decide +kernel
theorem dX5_hears_1 : decode cX5_hears 1 = .ok (.getfield 48, 3) := by decide +kernel
theorem dX5_hears_4 : decode cX5_hears 4 = .ok (.iload_n 1, 1) := by decide +kernel
theorem dX5_hears_5 : decode cX5_hears 5 = .ok (.invokevirtual 115, 3) := by decide +kernel
theorem dX5_hears_8 : decode cX5_hears 8 = .ok (.ifCond .eq 14, 3) := by decide +kernel
theorem dX5_hears_11 : decode cX5_hears 11 = .ok (.aload_n 0, 1) := by decide +kernel
theorem dX5_hears_12 : decode cX5_hears 12 = .ok (.getfield 48, 3) := by decide +kernel
theorem dX5_hears_15 : decode cX5_hears 15 = .ok (.iload_n 2, 1) := by decide +kernel
theorem dX5_hears_16 : decode cX5_hears 16 = .ok (.invokevirtual 99, 3) := by decide +kernel
theorem dX5_hears_19 : decode cX5_hears 19 = .ok (.ifCond .ne 5, 3) := by decide +kernel
theorem dX5_hears_22 : decode cX5_hears 22 = .ok (.iconst (-1), 1) := by decide +kernel
theorem dX5_hears_23 : decode cX5_hears 23 = .ok (.ireturn, 1) := by decide +kernel
theorem dX5_hears_24 : decode cX5_hears 24 = .ok (.aload_n 0, 1) := by decide +kernel
theorem dX5_hears_25 : decode cX5_hears 25 = .ok (.getfield 19, 3) := by decide +kernel
theorem dX5_hears_28 : decode cX5_hears 28 = .ok (.iload_n 1, 1) := by decide +kernel
theorem dX5_hears_29 : decode cX5_hears 29 = .ok (.invokevirtual 130, 3) := by decide +kernel
theorem dX5_hears_32 : decode cX5_hears 32 = .ok (.istore_n 3, 1) := by decide +kernel
theorem dX5_hears_33 : decode cX5_hears 33 = .ok (.iconst 0, 1) := by decide +kernel
theorem dX5_hears_34 : decode cX5_hears 34 = .ok (.istore 4, 2) := by decide +kernel
theorem dX5_hears_36 : decode cX5_hears 36 = .ok (.iload 4, 2) := by decide +kernel
theorem dX5_hears_38 : decode cX5_hears 38 = .ok (.aload_n 0, 1) := by decide +kernel
theorem dX5_hears_39 : decode cX5_hears 39 = .ok (.getfield 48, 3) := by decide +kernel
theorem dX5_hears_42 : decode cX5_hears 42 = .ok (.getfield 88, 3) := by decide +kernel
theorem dX5_hears_45 : decode cX5_hears 45 = .ok (.if_icmp .gt 37, 3) := by decide +kernel
theorem dX5_hears_48 : decode cX5_hears 48 = .ok (.iload_n 3, 1) := by decide +kernel
theorem dX5_hears_49 : decode cX5_hears 49 = .ok (.iload_n 2, 1) := by decide +kernel
theorem dX5_hears_50 : decode cX5_hears 50 = .ok (.invokestatic 201, 3) := by decide +kernel
theorem dX5_hears_53 : decode cX5_hears 53 = .ok (.iand, 1) := by decide +kernel
theorem dX5_hears_54 : decode cX5_hears 54 = .ok (.ifCond .eq 6, 3) := by decide +kernel
theorem dX5_hears_57 : decode cX5_hears 57 = .ok (.iload 4, 2) := by decide +kernel
theorem dX5_hears_59 : decode cX5_hears 59 = .ok (.ireturn, 1) := by decide +kernel
theorem dX5_hears_60 : decode cX5_hears 60 = .ok (.iload_n 3, 1) := by decide +kernel
theorem dX5_hears_61 : decode cX5_hears 61 = .ok (.aload_n 0, 1) := by decide +kernel
theorem dX5_hears_62 : decode cX5_hears 62 = .ok (.getfield 19, 3) := by decide +kernel
theorem dX5_hears_65 : decode cX5_hears 65 = .ok (.aload_n 0, 1) := by decide +kernel
theorem dX5_hears_66 : decode cX5_hears 66 = .ok (.getfield 48, 3) := by decide +kernel
theorem dX5_hears_69 : decode cX5_hears 69 = .ok (.iload_n 1, 1) := by decide +kernel
theorem dX5_hears_70 : decode cX5_hears 70 = .ok (.iload_n 3, 1) := by decide +kernel
theorem dX5_hears_71 : decode cX5_hears 71 = .ok (.invokevirtual 260, 3) := by decide +kernel
theorem dX5_hears_74 : decode cX5_hears 74 = .ok (.ior, 1) := by decide +kernel
theorem dX5_hears_75 : decode cX5_hears 75 = .ok (.istore_n 3, 1) := by decide +kernel
theorem dX5_hears_76 : decode cX5_hears 76 = .ok (.iinc 4 1, 3) := by decide +kernel
theorem dX5_hears_79 : decode cX5_hears 79 = .ok (.goto (-43), 3) := by decide +kernel
theorem dX5_hears_82 : decode cX5_hears 82 = .ok (.bipush (-4), 2) := by decide +kernel
theorem dX5_hears_84 : decode cX5_hears 84 = .ok (.ireturn, 1) := by decide +kernel
theorem dX5_cost_0 : decode cX5_cost 0 = .ok (.iload_n 1, 1) := by decide +kernel
theorem dX5_cost_1 : decode cX5_cost 1 = .ok (.invokestatic 185, 3) := by decide +kernel
theorem dX5_cost_4 : decode cX5_cost 4 = .ok (.ifCond .eq 12, 3) := by decide +kernel
theorem dX5_cost_7 : decode cX5_cost 7 = .ok (.iload_n 2, 1) := by decide +kernel
theorem dX5_cost_8 : decode cX5_cost 8 = .ok (.iconst 0, 1) := by decide +kernel
theorem dX5_cost_9 : decode cX5_cost 9 = .ok (.iconst 1, 1) := by decide +kernel
theorem dX5_cost_10 : decode cX5_cost 10 = .ok (.invokestatic 81, 3) := by decide +kernel
theorem dX5_cost_13 : decode cX5_cost 13 = .ok (.ifCond .ne 5, 3) := by decide +kernel
theorem dX5_cost_16 : decode cX5_cost 16 = .ok (.iconst (-1), 1) := by decide +kernel
theorem dX5_cost_17 : decode cX5_cost 17 = .ok (.ireturn, 1) := by decide +kernel
theorem dX5_cost_18 : decode cX5_cost 18 = .ok (.iconst (-1), 1) := by decide +kernel
theorem dX5_cost_19 : decode cX5_cost 19 = .ok (.istore_n 3, 1) := by decide +kernel
theorem dX5_cost_20 : decode cX5_cost 20 = .ok (.iconst 0, 1) := by decide +kernel
theorem dX5_cost_21 : decode cX5_cost 21 = .ok (.istore 4, 2) := by decide +kernel
theorem dX5_cost_23 : decode cX5_cost 23 = .ok (.iconst 0, 1) := by decide +kernel
theorem dX5_cost_24 : decode cX5_cost 24 = .ok (.istore 5, 2) := by decide +kernel
theorem dX5_cost_26 : decode cX5_cost 26 = .ok (.iload 5, 2) := by decide +kernel
theorem dX5_cost_28 : decode cX5_cost 28 = .ok (.aload_n 0, 1) := by decide +kernel
theorem dX5_cost_29 : decode cX5_cost 29 = .ok (.getfield 48, 3) := by decide +kernel
theorem dX5_cost_32 : decode cX5_cost 32 = .ok (.getfield 204, 3) := by decide +kernel
theorem dX5_cost_35 : decode cX5_cost 35 = .ok (.if_icmp .ge 63, 3) := by decide +kernel
theorem dX5_cost_38 : decode cX5_cost 38 = .ok (.aload_n 0, 1) := by decide +kernel
theorem dX5_cost_39 : decode cX5_cost 39 = .ok (.getfield 19, 3) := by decide +kernel
theorem dX5_cost_42 : decode cX5_cost 42 = .ok (.iload 5, 2) := by decide +kernel
theorem dX5_cost_44 : decode cX5_cost 44 = .ok (.invokevirtual 127, 3) := by decide +kernel
theorem dX5_cost_47 : decode cX5_cost 47 = .ok (.ifCond .eq 6, 3) := by decide +kernel
theorem dX5_cost_50 : decode cX5_cost 50 = .ok (.goto 42, 3) := by decide +kernel
theorem dX5_cost_53 : decode cX5_cost 53 = .ok (.aload_n 0, 1) := by decide +kernel
theorem dX5_cost_54 : decode cX5_cost 54 = .ok (.iload_n 1, 1) := by decide +kernel
theorem dX5_cost_55 : decode cX5_cost 55 = .ok (.aload_n 0, 1) := by decide +kernel
theorem dX5_cost_56 : decode cX5_cost 56 = .ok (.getfield 19, 3) := by decide +kernel
theorem dX5_cost_59 : decode cX5_cost 59 = .ok (.getfield 198, 3) := by decide +kernel
theorem dX5_cost_62 : decode cX5_cost 62 = .ok (.iload 5, 2) := by decide +kernel
theorem dX5_cost_64 : decode cX5_cost 64 = .ok (.invokestatic 201, 3) := by decide +kernel
theorem dX5_cost_67 : decode cX5_cost 67 = .ok (.ior, 1) := by decide +kernel
theorem dX5_cost_68 : decode cX5_cost 68 = .ok (.invokevirtual 223, 3) := by decide +kernel
theorem dX5_cost_71 : decode cX5_cost 71 = .ok (.istore 6, 2) := by decide +kernel
theorem dX5_cost_73 : decode cX5_cost 73 = .ok (.iload_n 3, 1) := by decide +kernel
theorem dX5_cost_74 : decode cX5_cost 74 = .ok (.iconst (-1), 1) := by decide +kernel
theorem dX5_cost_75 : decode cX5_cost 75 = .ok (.if_icmp .eq 10, 3) := by decide +kernel
theorem dX5_cost_78 : decode cX5_cost 78 = .ok (.iload 6, 2) := by decide +kernel
theorem dX5_cost_80 : decode cX5_cost 80 = .ok (.iload 4, 2) := by decide +kernel
theorem dX5_cost_82 : decode cX5_cost 82 = .ok (.if_icmp .le 10, 3) := by decide +kernel
theorem dX5_cost_85 : decode cX5_cost 85 = .ok (.iload 5, 2) := by decide +kernel
theorem dX5_cost_87 : decode cX5_cost 87 = .ok (.istore_n 3, 1) := by decide +kernel
theorem dX5_cost_88 : decode cX5_cost 88 = .ok (.iload 6, 2) := by decide +kernel
theorem dX5_cost_90 : decode cX5_cost 90 = .ok (.istore 4, 2) := by decide +kernel
theorem dX5_cost_92 : decode cX5_cost 92 = .ok (.iinc 5 1, 3) := by decide +kernel
theorem dX5_cost_95 : decode cX5_cost 95 = .ok (.goto (-69), 3) := by decide +kernel
theorem dX5_cost_98 : decode cX5_cost 98 = .ok (.iload_n 3, 1) := by decide +kernel
theorem dX5_cost_99 : decode cX5_cost 99 = .ok (.iconst (-1), 1) := by decide +kernel
theorem dX5_cost_100 : decode cX5_cost 100 = .ok (.if_icmp .ne 6, 3) := by decide +kernel
theorem dX5_cost_103 : decode cX5_cost 103 = .ok (.bipush (-4), 2) := by decide +kernel
theorem dX5_cost_105 : decode cX5_cost 105 = .ok (.ireturn, 1) := by decide +kernel
theorem dX5_cost_106 : decode cX5_cost 106 = .ok (.iload_n 2, 1) := by decide +kernel
theorem dX5_cost_107 : decode cX5_cost 107 = .ok (.ifCond .ne 7, 3) := by decide +kernel
theorem dX5_cost_110 : decode cX5_cost 110 = .ok (.iload_n 3, 1) := by decide +kernel
theorem dX5_cost_111 : decode cX5_cost 111 = .ok (.goto 5, 3) := by decide +kernel
theorem dX5_cost_114 : decode cX5_cost 114 = .ok (.iload 4, 2) := by decide +kernel
theorem dX5_cost_116 : decode cX5_cost 116 = .ok (.ireturn, 1) := by decide +kernel
theorem dX5_said_0 : decode cX5_said 0 = .ok (.aload_n 0, 1) := by decide +kernel
theorem dX5_said_1 : decode cX5_said 1 = .ok (.iload_n 1, 1) := by decide +kernel
theorem dX5_said_2 : decode cX5_said 2 = .ok (.iload_n 2, 1) := by decide +kernel
theorem dX5_said_3 : decode cX5_said 3 = .ok (.invokevirtual 158, 3) := by decide +kernel
theorem dX5_said_6 : decode cX5_said 6 = .ok (.ifCond .eq 24, 3) := by decide +kernel
theorem dX5_said_9 : decode cX5_said 9 = .ok (.iload_n 3, 1) := by decide +kernel
theorem dX5_said_10 : decode cX5_said 10 = .ok (.iconst 0, 1) := by decide +kernel
theorem dX5_said_11 : decode cX5_said 11 = .ok (.sipush 180, 3) := by decide +kernel
theorem dX5_said_14 : decode cX5_said 14 = .ok (.invokestatic 81, 3) := by decide +kernel
theorem dX5_said_17 : decode cX5_said 17 = .ok (.ifCond .eq 13, 3) := by decide +kernel
theorem dX5_said_20 : decode cX5_said 20 = .ok (.iload 4, 2) := by decide +kernel
theorem dX5_said_22 : decode cX5_said 22 = .ok (.iconst 0, 1) := by decide +kernel
theorem dX5_said_23 : decode cX5_said 23 = .ok (.iconst 1, 1) := by decide +kernel
theorem dX5_said_24 : decode cX5_said 24 = .ok (.invokestatic 81, 3) := by decide +kernel
theorem dX5_said_27 : decode cX5_said 27 = .ok (.ifCond .ne 5, 3) := by decide +kernel
theorem dX5_said_30 : decode cX5_said 30 = .ok (.iconst (-1), 1) := by decide +kernel
theorem dX5_said_31 : decode cX5_said 31 = .ok (.ireturn, 1) := by decide +kernel
theorem dX5_said_32 : decode cX5_said 32 = .ok (.aload_n 0, 1) := by decide +kernel
theorem dX5_said_33 : decode cX5_said 33 = .ok (.getfield 19, 3) := by decide +kernel
theorem dX5_said_36 : decode cX5_said 36 = .ok (.aload_n 0, 1) := by decide +kernel
theorem dX5_said_37 : decode cX5_said 37 = .ok (.getfield 48, 3) := by decide +kernel
theorem dX5_said_40 : decode cX5_said 40 = .ok (.iload_n 1, 1) := by decide +kernel
theorem dX5_said_41 : decode cX5_said 41 = .ok (.iload_n 2, 1) := by decide +kernel
theorem dX5_said_42 : decode cX5_said 42 = .ok (.invokevirtual 173, 3) := by decide +kernel
theorem dX5_said_45 : decode cX5_said 45 = .ok (.istore 5, 2) := by decide +kernel
theorem dX5_said_47 : decode cX5_said 47 = .ok (.iconst 0, 1) := by decide +kernel
theorem dX5_said_48 : decode cX5_said 48 = .ok (.istore 6, 2) := by decide +kernel
theorem dX5_said_50 : decode cX5_said 50 = .ok (.bipush (-4), 2) := by decide +kernel
theorem dX5_said_52 : decode cX5_said 52 = .ok (.istore 7, 2) := by decide +kernel
theorem dX5_said_54 : decode cX5_said 54 = .ok (.iconst 0, 1) := by decide +kernel
theorem dX5_said_55 : decode cX5_said 55 = .ok (.istore 8, 2) := by decide +kernel
theorem dX5_said_57 : decode cX5_said 57 = .ok (.iload 8, 2) := by decide +kernel
theorem dX5_said_59 : decode cX5_said 59 = .ok (.bipush 9, 2) := by decide +kernel
theorem dX5_said_61 : decode cX5_said 61 = .ok (.invokestatic 201, 3) := by decide +kernel
theorem dX5_said_64 : decode cX5_said 64 = .ok (.if_icmp .ge 51, 3) := by decide +kernel
theorem dX5_said_67 : decode cX5_said 67 = .ok (.iload 8, 2) := by decide +kernel
theorem dX5_said_69 : decode cX5_said 69 = .ok (.iload 5, 2) := by decide +kernel
theorem dX5_said_71 : decode cX5_said 71 = .ok (.iconst (-1), 1) := by decide +kernel
theorem dX5_said_72 : decode cX5_said 72 = .ok (.ixor, 1) := by decide +kernel
theorem dX5_said_73 : decode cX5_said 73 = .ok (.iand, 1) := by decide +kernel
theorem dX5_said_74 : decode cX5_said 74 = .ok (.ifCond .ne 35, 3) := by decide +kernel
theorem dX5_said_77 : decode cX5_said 77 = .ok (.aload_n 0, 1) := by decide +kernel
theorem dX5_said_78 : decode cX5_said 78 = .ok (.getfield 48, 3) := by decide +kernel
theorem dX5_said_81 : decode cX5_said 81 = .ok (.iload 8, 2) := by decide +kernel
theorem dX5_said_83 : decode cX5_said 83 = .ok (.invokevirtual 263, 3) := by decide +kernel
theorem dX5_said_86 : decode cX5_said 86 = .ok (.iload_n 3, 1) := by decide +kernel
theorem dX5_said_87 : decode cX5_said 87 = .ok (.if_icmp .ne 22, 3) := by decide +kernel
theorem dX5_said_90 : decode cX5_said 90 = .ok (.iinc 6 1, 3) := by decide +kernel
theorem dX5_said_93 : decode cX5_said 93 = .ok (.iload 7, 2) := by decide +kernel
theorem dX5_said_95 : decode cX5_said 95 = .ok (.bipush (-4), 2) := by decide +kernel
theorem dX5_said_97 : decode cX5_said 97 = .ok (.if_icmp .ne 8, 3) := by decide +kernel
theorem dX5_said_100 : decode cX5_said 100 = .ok (.iload 8, 2) := by decide +kernel
theorem dX5_said_102 : decode cX5_said 102 = .ok (.goto 5, 3) := by decide +kernel
theorem dX5_said_105 : decode cX5_said 105 = .ok (.iload 7, 2) := by decide +kernel
theorem dX5_said_107 : decode cX5_said 107 = .ok (.istore 7, 2) := by decide +kernel
theorem dX5_said_109 : decode cX5_said 109 = .ok (.iinc 8 1, 3) := by decide +kernel
theorem dX5_said_112 : decode cX5_said 112 = .ok (.goto (-55), 3) := by decide +kernel
theorem dX5_said_115 : decode cX5_said 115 = .ok (.iload 4, 2) := by decide +kernel
theorem dX5_said_117 : decode cX5_said 117 = .ok (.ifCond .ne 8, 3) := by decide +kernel
theorem dX5_said_120 : decode cX5_said 120 = .ok (.iload 6, 2) := by decide +kernel
theorem dX5_said_122 : decode cX5_said 122 = .ok (.goto 5, 3) := by decide +kernel
theorem dX5_said_125 : decode cX5_said 125 = .ok (.iload 7, 2) := by decide +kernel
theorem dX5_said_127 : decode cX5_said 127 = .ok (.ireturn, 1) := by decide +kernel
theorem dX5_who_0 : decode cX5_who 0 = .ok (.iload_n 1, 1) := by decide +kernel
theorem dX5_who_1 : decode cX5_who 1 = .ok (.invokestatic 185, 3) := by decide +kernel
theorem dX5_who_4 : decode cX5_who 4 = .ok (.ifCond .eq 23, 3) := by decide +kernel
theorem dX5_who_7 : decode cX5_who 7 = .ok (.iload_n 2, 1) := by decide +kernel
theorem dX5_who_8 : decode cX5_who 8 = .ok (.iconst 0, 1) := by decide +kernel
theorem dX5_who_9 : decode cX5_who 9 = .ok (.sipush 999, 3) := by decide +kernel
theorem dX5_who_12 : decode cX5_who 12 = .ok (.invokestatic 81, 3) := by decide +kernel
theorem dX5_who_15 : decode cX5_who 15 = .ok (.ifCond .eq 12, 3) := by decide +kernel
theorem dX5_who_18 : decode cX5_who 18 = .ok (.iload_n 3, 1) := by decide +kernel
theorem dX5_who_19 : decode cX5_who 19 = .ok (.iconst 0, 1) := by decide +kernel
theorem dX5_who_20 : decode cX5_who 20 = .ok (.iconst 1, 1) := by decide +kernel
theorem dX5_who_21 : decode cX5_who 21 = .ok (.invokestatic 81, 3) := by decide +kernel
theorem dX5_who_24 : decode cX5_who 24 = .ok (.ifCond .ne 5, 3) := by decide +kernel
theorem dX5_who_27 : decode cX5_who 27 = .ok (.iconst (-1), 1) := by decide +kernel
theorem dX5_who_28 : decode cX5_who 28 = .ok (.ireturn, 1) := by decide +kernel
theorem dX5_who_29 : decode cX5_who 29 = .ok (.iload_n 3, 1) := by decide +kernel
theorem dX5_who_30 : decode cX5_who 30 = .ok (.ifCond .ne 12, 3) := by decide +kernel
theorem dX5_who_33 : decode cX5_who 33 = .ok (.aload_n 0, 1) := by decide +kernel
theorem dX5_who_34 : decode cX5_who 34 = .ok (.iload_n 1, 1) := by decide +kernel
theorem dX5_who_35 : decode cX5_who 35 = .ok (.iload_n 2, 1) := by decide +kernel
theorem dX5_who_36 : decode cX5_who 36 = .ok (.invokevirtual 266, 3) := by decide +kernel
theorem dX5_who_39 : decode cX5_who 39 = .ok (.goto 9, 3) := by decide +kernel
theorem dX5_who_42 : decode cX5_who 42 = .ok (.aload_n 0, 1) := by decide +kernel
theorem dX5_who_43 : decode cX5_who 43 = .ok (.iload_n 1, 1) := by decide +kernel
theorem dX5_who_44 : decode cX5_who 44 = .ok (.iload_n 2, 1) := by decide +kernel
theorem dX5_who_45 : decode cX5_who 45 = .ok (.invokevirtual 227, 3) := by decide +kernel
theorem dX5_who_48 : decode cX5_who 48 = .ok (.ireturn, 1) := by decide +kernel
theorem dX5_held_0 : decode cX5_held 0 = .ok (.aload_n 0, 1) := by decide +kernel
theorem dX5_held_1 : decode cX5_held 1 = .ok (.iload_n 1, 1) := by decide +kernel
theorem dX5_held_2 : decode cX5_held 2 = .ok (.iload_n 2, 1) := by decide +kernel
theorem dX5_held_3 : decode cX5_held 3 = .ok (.invokevirtual 158, 3) := by decide +kernel
theorem dX5_held_6 : decode cX5_held 6 = .ok (.ifCond .eq 43, 3) := by decide +kernel
theorem dX5_held_9 : decode cX5_held 9 = .ok (.iload_n 3, 1) := by decide +kernel
theorem dX5_held_10 : decode cX5_held 10 = .ok (.invokestatic 185, 3) := by decide +kernel
theorem dX5_held_13 : decode cX5_held 13 = .ok (.ifCond .eq 36, 3) := by decide +kernel
theorem dX5_held_16 : decode cX5_held 16 = .ok (.iload 4, 2) := by decide +kernel
theorem dX5_held_18 : decode cX5_held 18 = .ok (.iconst 0, 1) := by decide +kernel
theorem dX5_held_19 : decode cX5_held 19 = .ok (.sipush 999, 3) := by decide +kernel
theorem dX5_held_22 : decode cX5_held 22 = .ok (.invokestatic 81, 3) := by decide +kernel
theorem dX5_held_25 : decode cX5_held 25 = .ok (.ifCond .eq 24, 3) := by decide +kernel
theorem dX5_held_28 : decode cX5_held 28 = .ok (.iload 5, 2) := by decide +kernel
theorem dX5_held_30 : decode cX5_held 30 = .ok (.iconst 0, 1) := by decide +kernel
theorem dX5_held_31 : decode cX5_held 31 = .ok (.bipush 10, 2) := by decide +kernel
theorem dX5_held_33 : decode cX5_held 33 = .ok (.invokestatic 81, 3) := by decide +kernel
theorem dX5_held_36 : decode cX5_held 36 = .ok (.ifCond .eq 13, 3) := by decide +kernel
theorem dX5_held_39 : decode cX5_held 39 = .ok (.iload 6, 2) := by decide +kernel
theorem dX5_held_41 : decode cX5_held 41 = .ok (.iconst 0, 1) := by decide +kernel
theorem dX5_held_42 : decode cX5_held 42 = .ok (.iconst 1, 1) := by decide +kernel
theorem dX5_held_43 : decode cX5_held 43 = .ok (.invokestatic 81, 3) := by decide +kernel
theorem dX5_held_46 : decode cX5_held 46 = .ok (.ifCond .ne 5, 3) := by decide +kernel
theorem dX5_held_49 : decode cX5_held 49 = .ok (.iconst (-1), 1) := by decide +kernel
theorem dX5_held_50 : decode cX5_held 50 = .ok (.ireturn, 1) := by decide +kernel
theorem dX5_held_51 : decode cX5_held 51 = .ok (.aload_n 0, 1) := by decide +kernel
theorem dX5_held_52 : decode cX5_held 52 = .ok (.getfield 48, 3) := by decide +kernel
theorem dX5_held_55 : decode cX5_held 55 = .ok (.iload_n 1, 1) := by decide +kernel
theorem dX5_held_56 : decode cX5_held 56 = .ok (.iload_n 2, 1) := by decide +kernel
theorem dX5_held_57 : decode cX5_held 57 = .ok (.invokevirtual 162, 3) := by decide +kernel
theorem dX5_held_60 : decode cX5_held 60 = .ok (.ifCond .ne 6, 3) := by decide +kernel
theorem dX5_held_63 : decode cX5_held 63 = .ok (.bipush (-2), 2) := by decide +kernel
theorem dX5_held_65 : decode cX5_held 65 = .ok (.ireturn, 1) := by decide +kernel
theorem dX5_held_66 : decode cX5_held 66 = .ok (.aload_n 0, 1) := by decide +kernel
theorem dX5_held_67 : decode cX5_held 67 = .ok (.getfield 19, 3) := by decide +kernel
theorem dX5_held_70 : decode cX5_held 70 = .ok (.aload_n 0, 1) := by decide +kernel
theorem dX5_held_71 : decode cX5_held 71 = .ok (.getfield 48, 3) := by decide +kernel
theorem dX5_held_74 : decode cX5_held 74 = .ok (.iload_n 1, 1) := by decide +kernel
theorem dX5_held_75 : decode cX5_held 75 = .ok (.iload_n 2, 1) := by decide +kernel
theorem dX5_held_76 : decode cX5_held 76 = .ok (.invokevirtual 173, 3) := by decide +kernel
theorem dX5_held_79 : decode cX5_held 79 = .ok (.aload_n 0, 1) := by decide +kernel
theorem dX5_held_80 : decode cX5_held 80 = .ok (.getfield 19, 3) := by decide +kernel
theorem dX5_held_83 : decode cX5_held 83 = .ok (.aload_n 0, 1) := by decide +kernel
theorem dX5_held_84 : decode cX5_held 84 = .ok (.getfield 48, 3) := by decide +kernel
theorem dX5_held_87 : decode cX5_held 87 = .ok (.iload_n 2, 1) := by decide +kernel
theorem dX5_held_88 : decode cX5_held 88 = .ok (.iload_n 1, 1) := by decide +kernel
theorem dX5_held_89 : decode cX5_held 89 = .ok (.invokevirtual 173, 3) := by decide +kernel
theorem dX5_held_92 : decode cX5_held 92 = .ok (.ior, 1) := by decide +kernel
theorem dX5_held_93 : decode cX5_held 93 = .ok (.istore 7, 2) := by decide +kernel
theorem dX5_held_95 : decode cX5_held 95 = .ok (.iload 7, 2) := by decide +kernel
theorem dX5_held_97 : decode cX5_held 97 = .ok (.invokestatic 177, 3) := by decide +kernel
theorem dX5_held_100 : decode cX5_held 100 = .ok (.istore 8, 2) := by decide +kernel
theorem dX5_held_102 : decode cX5_held 102 = .ok (.lconst 0, 1) := by decide +kernel
theorem dX5_held_103 : decode cX5_held 103 = .ok (.lstore 9, 2) := by decide +kernel
theorem dX5_held_105 : decode cX5_held 105 = .ok (.iconst 0, 1) := by decide +kernel
theorem dX5_held_106 : decode cX5_held 106 = .ok (.istore 11, 2) := by decide +kernel
theorem dX5_held_108 : decode cX5_held 108 = .ok (.iload 11, 2) := by decide +kernel
theorem dX5_held_110 : decode cX5_held 110 = .ok (.bipush 9, 2) := by decide +kernel
theorem dX5_held_112 : decode cX5_held 112 = .ok (.invokestatic 201, 3) := by decide +kernel
theorem dX5_held_115 : decode cX5_held 115 = .ok (.if_icmp .ge 90, 3) := by decide +kernel
theorem dX5_held_118 : decode cX5_held 118 = .ok (.iload 11, 2) := by decide +kernel
theorem dX5_held_120 : decode cX5_held 120 = .ok (.iload 7, 2) := by decide +kernel
theorem dX5_held_122 : decode cX5_held 122 = .ok (.iconst (-1), 1) := by decide +kernel
theorem dX5_held_123 : decode cX5_held 123 = .ok (.ixor, 1) := by decide +kernel
theorem dX5_held_124 : decode cX5_held 124 = .ok (.iand, 1) := by decide +kernel
theorem dX5_held_125 : decode cX5_held 125 = .ok (.ifCond .eq 6, 3) := by decide +kernel
theorem dX5_held_128 : decode cX5_held 128 = .ok (.goto 71, 3) := by decide +kernel
theorem dX5_held_131 : decode cX5_held 131 = .ok (.iload 11, 2) := by decide +kernel
theorem dX5_held_133 : decode cX5_held 133 = .ok (.invokestatic 177, 3) := by decide +kernel
theorem dX5_held_136 : decode cX5_held 136 = .ok (.istore 12, 2) := by decide +kernel
theorem dX5_held_138 : decode cX5_held 138 = .ok (.iload 5, 2) := by decide +kernel
theorem dX5_held_140 : decode cX5_held 140 = .ok (.i2l, 1) := by decide +kernel
theorem dX5_held_141 : decode cX5_held 141 = .ok (.iload 12, 2) := by decide +kernel
theorem dX5_held_143 : decode cX5_held 143 = .ok (.invokestatic 269, 3) := by decide +kernel
theorem dX5_held_146 : decode cX5_held 146 = .ok (.bipush 10, 2) := by decide +kernel
theorem dX5_held_148 : decode cX5_held 148 = .ok (.iload 5, 2) := by decide +kernel
theorem dX5_held_150 : decode cX5_held 150 = .ok (.isub, 1) := by decide +kernel
theorem dX5_held_151 : decode cX5_held 151 = .ok (.i2l, 1) := by decide +kernel
theorem dX5_held_152 : decode cX5_held 152 = .ok (.iload 8, 2) := by decide +kernel
theorem dX5_held_154 : decode cX5_held 154 = .ok (.iload 12, 2) := by decide +kernel
theorem dX5_held_156 : decode cX5_held 156 = .ok (.isub, 1) := by decide +kernel
theorem dX5_held_157 : decode cX5_held 157 = .ok (.invokestatic 269, 3) := by decide +kernel
theorem dX5_held_160 : decode cX5_held 160 = .ok (.lmul, 1) := by decide +kernel
theorem dX5_held_161 : decode cX5_held 161 = .ok (.lstore 13, 2) := by decide +kernel
theorem dX5_held_163 : decode cX5_held 163 = .ok (.lload 13, 2) := by decide +kernel
theorem dX5_held_165 : decode cX5_held 165 = .ok (.lconst 0, 1) := by decide +kernel
theorem dX5_held_166 : decode cX5_held 166 = .ok (.lcmp, 1) := by decide +kernel
theorem dX5_held_167 : decode cX5_held 167 = .ok (.ifCond .le 32, 3) := by decide +kernel
theorem dX5_held_170 : decode cX5_held 170 = .ok (.aload_n 0, 1) := by decide +kernel
theorem dX5_held_171 : decode cX5_held 171 = .ok (.iload_n 1, 1) := by decide +kernel
theorem dX5_held_172 : decode cX5_held 172 = .ok (.iload_n 2, 1) := by decide +kernel
theorem dX5_held_173 : decode cX5_held 173 = .ok (.iload_n 3, 1) := by decide +kernel
theorem dX5_held_174 : decode cX5_held 174 = .ok (.aload_n 0, 1) := by decide +kernel
theorem dX5_held_175 : decode cX5_held 175 = .ok (.getfield 19, 3) := by decide +kernel
theorem dX5_held_178 : decode cX5_held 178 = .ok (.getfield 198, 3) := by decide +kernel
theorem dX5_held_181 : decode cX5_held 181 = .ok (.iload 11, 2) := by decide +kernel
theorem dX5_held_183 : decode cX5_held 183 = .ok (.ior, 1) := by decide +kernel
theorem dX5_held_184 : decode cX5_held 184 = .ok (.invokevirtual 219, 3) := by decide +kernel
theorem dX5_held_187 : decode cX5_held 187 = .ok (.iload 4, 2) := by decide +kernel
theorem dX5_held_189 : decode cX5_held 189 = .ok (.if_icmp .lt 10, 3) := by decide +kernel
theorem dX5_held_192 : decode cX5_held 192 = .ok (.lload 9, 2) := by decide +kernel
theorem dX5_held_194 : decode cX5_held 194 = .ok (.lload 13, 2) := by decide +kernel
theorem dX5_held_196 : decode cX5_held 196 = .ok (.ladd, 1) := by decide +kernel
theorem dX5_held_197 : decode cX5_held 197 = .ok (.lstore 9, 2) := by decide +kernel
theorem dX5_held_199 : decode cX5_held 199 = .ok (.iinc 11 1, 3) := by decide +kernel
theorem dX5_held_202 : decode cX5_held 202 = .ok (.goto (-94), 3) := by decide +kernel
theorem dX5_held_205 : decode cX5_held 205 = .ok (.ldc2_w 273, 3) := by decide +kernel
theorem dX5_held_208 : decode cX5_held 208 = .ok (.iload 8, 2) := by decide +kernel
theorem dX5_held_210 : decode cX5_held 210 = .ok (.invokestatic 269, 3) := by decide +kernel
theorem dX5_held_213 : decode cX5_held 213 = .ok (.lstore 11, 2) := by decide +kernel
theorem dX5_held_215 : decode cX5_held 215 = .ok (.lload 9, 2) := by decide +kernel
theorem dX5_held_217 : decode cX5_held 217 = .ok (.lload 11, 2) := by decide +kernel
theorem dX5_held_219 : decode cX5_held 219 = .ok (.invokestatic 275, 3) := by decide +kernel
theorem dX5_held_222 : decode cX5_held 222 = .ok (.lstore 13, 2) := by decide +kernel
theorem dX5_held_224 : decode cX5_held 224 = .ok (.lload 13, 2) := by decide +kernel
theorem dX5_held_226 : decode cX5_held 226 = .ok (.lconst 0, 1) := by decide +kernel
theorem dX5_held_227 : decode cX5_held 227 = .ok (.lcmp, 1) := by decide +kernel
theorem dX5_held_228 : decode cX5_held 228 = .ok (.ifCond .ne 7, 3) := by decide +kernel
theorem dX5_held_231 : decode cX5_held 231 = .ok (.iconst 0, 1) := by decide +kernel
theorem dX5_held_232 : decode cX5_held 232 = .ok (.goto 19, 3) := by decide +kernel
theorem dX5_held_235 : decode cX5_held 235 = .ok (.iload 6, 2) := by decide +kernel
theorem dX5_held_237 : decode cX5_held 237 = .ok (.ifCond .ne 8, 3) := by decide +kernel
theorem dX5_held_240 : decode cX5_held 240 = .ok (.lload 9, 2) := by decide +kernel
theorem dX5_held_242 : decode cX5_held 242 = .ok (.goto 5, 3) := by decide +kernel
theorem dX5_held_245 : decode cX5_held 245 = .ok (.lload 11, 2) := by decide +kernel
theorem dX5_held_247 : decode cX5_held 247 = .ok (.lload 13, 2) := by decide +kernel
theorem dX5_held_249 : decode cX5_held 249 = .ok (.ldiv, 1) := by decide +kernel
theorem dX5_held_250 : decode cX5_held 250 = .ok (.l2i, 1) := by decide +kernel
theorem dX5_held_251 : decode cX5_held 251 = .ok (.ireturn, 1) := by decide +kernel
theorem dX5_day_0 : decode cX5_day 0 = .ok (.iload_n 1, 1) := by decide +kernel
theorem dX5_day_1 : decode cX5_day 1 = .ok (.iconst 0, 1) := by decide +kernel
theorem dX5_day_2 : decode cX5_day 2 = .ok (.sipush 9999, 3) := by decide +kernel
theorem dX5_day_5 : decode cX5_day 5 = .ok (.invokestatic 81, 3) := by decide +kernel
theorem dX5_day_8 : decode cX5_day 8 = .ok (.ifCond .eq 19, 3) := by decide +kernel
theorem dX5_day_11 : decode cX5_day 11 = .ok (.iload_n 2, 1) := by decide +kernel
theorem dX5_day_12 : decode cX5_day 12 = .ok (.invokestatic 185, 3) := by decide +kernel
theorem dX5_day_15 : decode cX5_day 15 = .ok (.ifCond .eq 12, 3) := by decide +kernel
theorem dX5_day_18 : decode cX5_day 18 = .ok (.iload_n 3, 1) := by decide +kernel
theorem dX5_day_19 : decode cX5_day 19 = .ok (.iconst 0, 1) := by decide +kernel
theorem dX5_day_20 : decode cX5_day 20 = .ok (.iconst 1, 1) := by decide +kernel
theorem dX5_day_21 : decode cX5_day 21 = .ok (.invokestatic 81, 3) := by decide +kernel
theorem dX5_day_24 : decode cX5_day 24 = .ok (.ifCond .ne 5, 3) := by decide +kernel
theorem dX5_day_27 : decode cX5_day 27 = .ok (.iconst (-1), 1) := by decide +kernel
theorem dX5_day_28 : decode cX5_day 28 = .ok (.ireturn, 1) := by decide +kernel
theorem dX5_day_29 : decode cX5_day 29 = .ok (.aload_n 0, 1) := by decide +kernel
theorem dX5_day_30 : decode cX5_day 30 = .ok (.getfield 23, 3) := by decide +kernel
theorem dX5_day_33 : decode cX5_day 33 = .ok (.aload_n 0, 1) := by decide +kernel
theorem dX5_day_34 : decode cX5_day 34 = .ok (.getfield 19, 3) := by decide +kernel
theorem dX5_day_37 : decode cX5_day 37 = .ok (.invokevirtual 212, 3) := by decide +kernel
theorem dX5_day_40 : decode cX5_day 40 = .ok (.iconst 0, 1) := by decide +kernel
theorem dX5_day_41 : decode cX5_day 41 = .ok (.istore 4, 2) := by decide +kernel
theorem dX5_day_43 : decode cX5_day 43 = .ok (.iload 4, 2) := by decide +kernel
theorem dX5_day_45 : decode cX5_day 45 = .ok (.iload_n 2, 1) := by decide +kernel
theorem dX5_day_46 : decode cX5_day 46 = .ok (.if_icmp .ge 31, 3) := by decide +kernel
theorem dX5_day_49 : decode cX5_day 49 = .ok (.aload_n 0, 1) := by decide +kernel
theorem dX5_day_50 : decode cX5_day 50 = .ok (.iload_n 1, 1) := by decide +kernel
theorem dX5_day_51 : decode cX5_day 51 = .ok (.iload 4, 2) := by decide +kernel
theorem dX5_day_53 : decode cX5_day 53 = .ok (.invokestatic 279, 3) := by decide +kernel
theorem dX5_day_56 : decode cX5_day 56 = .ok (.invokevirtual 282, 3) := by decide +kernel
theorem dX5_day_59 : decode cX5_day 59 = .ok (.aload_n 0, 1) := by decide +kernel
theorem dX5_day_60 : decode cX5_day 60 = .ok (.getfield 23, 3) := by decide +kernel
theorem dX5_day_63 : decode cX5_day 63 = .ok (.aload_n 0, 1) := by decide +kernel
theorem dX5_day_64 : decode cX5_day 64 = .ok (.getfield 48, 3) := by decide +kernel
theorem dX5_day_67 : decode cX5_day 67 = .ok (.iconst 1, 1) := by decide +kernel
theorem dX5_day_68 : decode cX5_day 68 = .ok (.invokevirtual 188, 3) := by decide +kernel
theorem dX5_day_71 : decode cX5_day 71 = .ok (.iinc 4 1, 3) := by decide +kernel
theorem dX5_day_74 : decode cX5_day 74 = .ok (.goto (-31), 3) := by decide +kernel
theorem dX5_day_77 : decode cX5_day 77 = .ok (.iload_n 3, 1) := by decide +kernel
theorem dX5_day_78 : decode cX5_day 78 = .ok (.ifCond .ne 13, 3) := by decide +kernel
theorem dX5_day_81 : decode cX5_day 81 = .ok (.aload_n 0, 1) := by decide +kernel
theorem dX5_day_82 : decode cX5_day 82 = .ok (.getfield 23, 3) := by decide +kernel
theorem dX5_day_85 : decode cX5_day 85 = .ok (.getfield 192, 3) := by decide +kernel
theorem dX5_day_88 : decode cX5_day 88 = .ok (.goto 10, 3) := by decide +kernel
theorem dX5_day_91 : decode cX5_day 91 = .ok (.aload_n 0, 1) := by decide +kernel
theorem dX5_day_92 : decode cX5_day 92 = .ok (.getfield 23, 3) := by decide +kernel
theorem dX5_day_95 : decode cX5_day 95 = .ok (.invokevirtual 285, 3) := by decide +kernel
theorem dX5_day_98 : decode cX5_day 98 = .ok (.ireturn, 1) := by decide +kernel
theorem dX5_draw_0 : decode cX5_draw 0 = .ok (.ldc2_w 288, 3) := by decide +kernel
theorem dX5_draw_3 : decode cX5_draw 3 = .ok (.iload_n 0, 1) := by decide +kernel
theorem dX5_draw_4 : decode cX5_draw 4 = .ok (.i2l, 1) := by decide +kernel
theorem dX5_draw_5 : decode cX5_draw 5 = .ok (.lmul, 1) := by decide +kernel
theorem dX5_draw_6 : decode cX5_draw 6 = .ok (.ldc2_w 290, 3) := by decide +kernel
theorem dX5_draw_9 : decode cX5_draw 9 = .ok (.iload_n 1, 1) := by decide +kernel
theorem dX5_draw_10 : decode cX5_draw 10 = .ok (.i2l, 1) := by decide +kernel
theorem dX5_draw_11 : decode cX5_draw 11 = .ok (.lmul, 1) := by decide +kernel
theorem dX5_draw_12 : decode cX5_draw 12 = .ok (.ladd, 1) := by decide +kernel
theorem dX5_draw_13 : decode cX5_draw 13 = .ok (.lconst 1, 1) := by decide +kernel
theorem dX5_draw_14 : decode cX5_draw 14 = .ok (.ladd, 1) := by decide +kernel
theorem dX5_draw_15 : decode cX5_draw 15 = .ok (.lstore_n 2, 1) := by decide +kernel
theorem dX5_draw_16 : decode cX5_draw 16 = .ok (.lload_n 2, 1) := by decide +kernel
theorem dX5_draw_17 : decode cX5_draw 17 = .ok (.lload_n 2, 1) := by decide +kernel
theorem dX5_draw_18 : decode cX5_draw 18 = .ok (.lmul, 1) := by decide +kernel
theorem dX5_draw_19 : decode cX5_draw 19 = .ok (.ldc2_w 292, 3) := by decide +kernel
theorem dX5_draw_22 : decode cX5_draw 22 = .ok (.lrem, 1) := by decide +kernel
theorem dX5_draw_23 : decode cX5_draw 23 = .ok (.l2i, 1) := by decide +kernel
theorem dX5_draw_24 : decode cX5_draw 24 = .ok (.ireturn, 1) := by decide +kernel
theorem dX5_actByDraw_0 : decode cX5_actByDraw 0 = .ok (.aload_n 0, 1) := by decide +kernel
theorem dX5_actByDraw_1 : decode cX5_actByDraw 1 = .ok (.getfield 23, 3) := by decide +kernel
theorem dX5_actByDraw_4 : decode cX5_actByDraw 4 = .ok (.invokevirtual 133, 3) := by decide +kernel
theorem dX5_actByDraw_7 : decode cX5_actByDraw 7 = .ok (.ifCond .ne 11, 3) := by decide +kernel
theorem dX5_actByDraw_10 : decode cX5_actByDraw 10 = .ok (.aload_n 0, 1) := by decide +kernel
theorem dX5_actByDraw_11 : decode cX5_actByDraw 11 = .ok (.iload_n 1, 1) := by decide +kernel
theorem dX5_actByDraw_12 : decode cX5_actByDraw 12 = .ok (.invokevirtual 294, 3) := by decide +kernel
theorem dX5_actByDraw_15 : decode cX5_actByDraw 15 = .ok (.goto 78, 3) := by decide +kernel
theorem dX5_actByDraw_18 : decode cX5_actByDraw 18 = .ok (.iload_n 1, 1) := by decide +kernel
theorem dX5_actByDraw_19 : decode cX5_actByDraw 19 = .ok (.bipush 8, 2) := by decide +kernel
theorem dX5_actByDraw_21 : decode cX5_actByDraw 21 = .ok (.irem, 1) := by decide +kernel
theorem dX5_actByDraw_22 : decode cX5_actByDraw 22 = .ok (.ifCond .ne 13, 3) := by decide +kernel
theorem dX5_actByDraw_25 : decode cX5_actByDraw 25 = .ok (.aload_n 0, 1) := by decide +kernel
theorem dX5_actByDraw_26 : decode cX5_actByDraw 26 = .ok (.getfield 23, 3) := by decide +kernel
theorem dX5_actByDraw_29 : decode cX5_actByDraw 29 = .ok (.invokevirtual 182, 3) := by decide +kernel
theorem dX5_actByDraw_32 : decode cX5_actByDraw 32 = .ok (.goto 61, 3) := by decide +kernel
theorem dX5_actByDraw_35 : decode cX5_actByDraw 35 = .ok (.iload_n 1, 1) := by decide +kernel
theorem dX5_actByDraw_36 : decode cX5_actByDraw 36 = .ok (.bipush 8, 2) := by decide +kernel
theorem dX5_actByDraw_38 : decode cX5_actByDraw 38 = .ok (.irem, 1) := by decide +kernel
theorem dX5_actByDraw_39 : decode cX5_actByDraw 39 = .ok (.iconst 1, 1) := by decide +kernel
theorem dX5_actByDraw_40 : decode cX5_actByDraw 40 = .ok (.if_icmp .ne 53, 3) := by decide +kernel
theorem dX5_actByDraw_43 : decode cX5_actByDraw 43 = .ok (.aload_n 0, 1) := by decide +kernel
theorem dX5_actByDraw_44 : decode cX5_actByDraw 44 = .ok (.getfield 48, 3) := by decide +kernel
theorem dX5_actByDraw_47 : decode cX5_actByDraw 47 = .ok (.getfield 204, 3) := by decide +kernel
theorem dX5_actByDraw_50 : decode cX5_actByDraw 50 = .ok (.ifCond .le 43, 3) := by decide +kernel
theorem dX5_actByDraw_53 : decode cX5_actByDraw 53 = .ok (.iload_n 1, 1) := by decide +kernel
theorem dX5_actByDraw_54 : decode cX5_actByDraw 54 = .ok (.bipush 8, 2) := by decide +kernel
theorem dX5_actByDraw_56 : decode cX5_actByDraw 56 = .ok (.idiv, 1) := by decide +kernel
theorem dX5_actByDraw_57 : decode cX5_actByDraw 57 = .ok (.aload_n 0, 1) := by decide +kernel
theorem dX5_actByDraw_58 : decode cX5_actByDraw 58 = .ok (.getfield 48, 3) := by decide +kernel
theorem dX5_actByDraw_61 : decode cX5_actByDraw 61 = .ok (.getfield 204, 3) := by decide +kernel
theorem dX5_actByDraw_64 : decode cX5_actByDraw 64 = .ok (.irem, 1) := by decide +kernel
theorem dX5_actByDraw_65 : decode cX5_actByDraw 65 = .ok (.istore_n 2, 1) := by decide +kernel
theorem dX5_actByDraw_66 : decode cX5_actByDraw 66 = .ok (.aload_n 0, 1) := by decide +kernel
theorem dX5_actByDraw_67 : decode cX5_actByDraw 67 = .ok (.getfield 23, 3) := by decide +kernel
theorem dX5_actByDraw_70 : decode cX5_actByDraw 70 = .ok (.iload_n 2, 1) := by decide +kernel
theorem dX5_actByDraw_71 : decode cX5_actByDraw 71 = .ok (.invokevirtual 195, 3) := by decide +kernel
theorem dX5_actByDraw_74 : decode cX5_actByDraw 74 = .ok (.ifCond .eq 19, 3) := by decide +kernel
theorem dX5_actByDraw_77 : decode cX5_actByDraw 77 = .ok (.aload_n 0, 1) := by decide +kernel
theorem dX5_actByDraw_78 : decode cX5_actByDraw 78 = .ok (.getfield 23, 3) := by decide +kernel
theorem dX5_actByDraw_81 : decode cX5_actByDraw 81 = .ok (.dup, 1) := by decide +kernel
theorem dX5_actByDraw_82 : decode cX5_actByDraw 82 = .ok (.getfield 198, 3) := by decide +kernel
theorem dX5_actByDraw_85 : decode cX5_actByDraw 85 = .ok (.iload_n 2, 1) := by decide +kernel
theorem dX5_actByDraw_86 : decode cX5_actByDraw 86 = .ok (.invokestatic 201, 3) := by decide +kernel
theorem dX5_actByDraw_89 : decode cX5_actByDraw 89 = .ok (.ior, 1) := by decide +kernel
theorem dX5_actByDraw_90 : decode cX5_actByDraw 90 = .ok (.putfield 198, 3) := by decide +kernel
theorem dX5_actByDraw_93 : decode cX5_actByDraw 93 = .ok (.return_, 1) := by decide +kernel
theorem dX5_seatByDraw_0 : decode cX5_seatByDraw 0 = .ok (.aload_n 0, 1) := by decide +kernel
theorem dX5_seatByDraw_1 : decode cX5_seatByDraw 1 = .ok (.getfield 48, 3) := by decide +kernel
theorem dX5_seatByDraw_4 : decode cX5_seatByDraw 4 = .ok (.getfield 88, 3) := by decide +kernel
theorem dX5_seatByDraw_7 : decode cX5_seatByDraw 7 = .ok (.ifCond .gt 4, 3) := by decide +kernel
theorem dX5_seatByDraw_10 : decode cX5_seatByDraw 10 = .ok (.return_, 1) := by decide +kernel
theorem dX5_seatByDraw_11 : decode cX5_seatByDraw 11 = .ok (.iload_n 1, 1) := by decide +kernel
theorem dX5_seatByDraw_12 : decode cX5_seatByDraw 12 = .ok (.bipush 8, 2) := by decide +kernel
theorem dX5_seatByDraw_14 : decode cX5_seatByDraw 14 = .ok (.idiv, 1) := by decide +kernel
theorem dX5_seatByDraw_15 : decode cX5_seatByDraw 15 = .ok (.aload_n 0, 1) := by decide +kernel
theorem dX5_seatByDraw_16 : decode cX5_seatByDraw 16 = .ok (.getfield 48, 3) := by decide +kernel
theorem dX5_seatByDraw_19 : decode cX5_seatByDraw 19 = .ok (.getfield 88, 3) := by decide +kernel
theorem dX5_seatByDraw_22 : decode cX5_seatByDraw 22 = .ok (.irem, 1) := by decide +kernel
theorem dX5_seatByDraw_23 : decode cX5_seatByDraw 23 = .ok (.istore_n 2, 1) := by decide +kernel
theorem dX5_seatByDraw_24 : decode cX5_seatByDraw 24 = .ok (.iload_n 1, 1) := by decide +kernel
theorem dX5_seatByDraw_25 : decode cX5_seatByDraw 25 = .ok (.bipush 64, 2) := by decide +kernel
theorem dX5_seatByDraw_27 : decode cX5_seatByDraw 27 = .ok (.idiv, 1) := by decide +kernel
theorem dX5_seatByDraw_28 : decode cX5_seatByDraw 28 = .ok (.aload_n 0, 1) := by decide +kernel
theorem dX5_seatByDraw_29 : decode cX5_seatByDraw 29 = .ok (.getfield 48, 3) := by decide +kernel
theorem dX5_seatByDraw_32 : decode cX5_seatByDraw 32 = .ok (.getfield 88, 3) := by decide +kernel
theorem dX5_seatByDraw_35 : decode cX5_seatByDraw 35 = .ok (.irem, 1) := by decide +kernel
theorem dX5_seatByDraw_36 : decode cX5_seatByDraw 36 = .ok (.istore_n 3, 1) := by decide +kernel
theorem dX5_seatByDraw_37 : decode cX5_seatByDraw 37 = .ok (.aload_n 0, 1) := by decide +kernel
theorem dX5_seatByDraw_38 : decode cX5_seatByDraw 38 = .ok (.getfield 48, 3) := by decide +kernel
theorem dX5_seatByDraw_41 : decode cX5_seatByDraw 41 = .ok (.iload_n 2, 1) := by decide +kernel
theorem dX5_seatByDraw_42 : decode cX5_seatByDraw 42 = .ok (.iload_n 3, 1) := by decide +kernel
theorem dX5_seatByDraw_43 : decode cX5_seatByDraw 43 = .ok (.invokevirtual 162, 3) := by decide +kernel
theorem dX5_seatByDraw_46 : decode cX5_seatByDraw 46 = .ok (.ifCond .eq 12, 3) := by decide +kernel
theorem dX5_seatByDraw_49 : decode cX5_seatByDraw 49 = .ok (.aload_n 0, 1) := by decide +kernel
theorem dX5_seatByDraw_50 : decode cX5_seatByDraw 50 = .ok (.getfield 23, 3) := by decide +kernel
theorem dX5_seatByDraw_53 : decode cX5_seatByDraw 53 = .ok (.iload_n 2, 1) := by decide +kernel
theorem dX5_seatByDraw_54 : decode cX5_seatByDraw 54 = .ok (.iload_n 3, 1) := by decide +kernel
theorem dX5_seatByDraw_55 : decode cX5_seatByDraw 55 = .ok (.invokevirtual 169, 3) := by decide +kernel
theorem dX5_seatByDraw_58 : decode cX5_seatByDraw 58 = .ok (.return_, 1) := by decide +kernel
theorem dX5_keep_0 : decode cX5_keep 0 = .ok (.aload_n 0, 1) := by decide +kernel
theorem dX5_keep_1 : decode cX5_keep 1 = .ok (.getfield 35, 3) := by decide +kernel
theorem dX5_keep_4 : decode cX5_keep 4 = .ok (.invokevirtual 297, 3) := by decide +kernel
theorem dX5_keep_7 : decode cX5_keep 7 = .ok (.ifCond .eq 6, 3) := by decide +kernel
theorem dX5_keep_10 : decode cX5_keep 10 = .ok (.bipush (-3), 2) := by decide +kernel
theorem dX5_keep_12 : decode cX5_keep 12 = .ok (.ireturn, 1) := by decide +kernel
theorem dX5_keep_13 : decode cX5_keep 13 = .ok (.aload_n 0, 1) := by decide +kernel
theorem dX5_keep_14 : decode cX5_keep 14 = .ok (.getfield 35, 3) := by decide +kernel
theorem dX5_keep_17 : decode cX5_keep 17 = .ok (.aload_n 0, 1) := by decide +kernel
theorem dX5_keep_18 : decode cX5_keep 18 = .ok (.getfield 19, 3) := by decide +kernel
theorem dX5_keep_21 : decode cX5_keep 21 = .ok (.invokevirtual 165, 3) := by decide +kernel
theorem dX5_keep_24 : decode cX5_keep 24 = .ok (.aload_n 0, 1) := by decide +kernel
theorem dX5_keep_25 : decode cX5_keep 25 = .ok (.getfield 35, 3) := by decide +kernel
theorem dX5_keep_28 : decode cX5_keep 28 = .ok (.invokevirtual 211, 3) := by decide +kernel
theorem dX5_keep_31 : decode cX5_keep 31 = .ok (.ireturn, 1) := by decide +kernel
theorem dX5_back_0 : decode cX5_back 0 = .ok (.aload_n 0, 1) := by decide +kernel
theorem dX5_back_1 : decode cX5_back 1 = .ok (.getfield 35, 3) := by decide +kernel
theorem dX5_back_4 : decode cX5_back 4 = .ok (.aload_n 0, 1) := by decide +kernel
theorem dX5_back_5 : decode cX5_back 5 = .ok (.getfield 19, 3) := by decide +kernel
theorem dX5_back_8 : decode cX5_back 8 = .ok (.invokevirtual 207, 3) := by decide +kernel
theorem dX5_back_11 : decode cX5_back 11 = .ok (.ifCond .ne 6, 3) := by decide +kernel
theorem dX5_back_14 : decode cX5_back 14 = .ok (.bipush (-2), 2) := by decide +kernel
theorem dX5_back_16 : decode cX5_back 16 = .ok (.ireturn, 1) := by decide +kernel
theorem dX5_back_17 : decode cX5_back 17 = .ok (.aload_n 0, 1) := by decide +kernel
theorem dX5_back_18 : decode cX5_back 18 = .ok (.getfield 31, 3) := by decide +kernel
theorem dX5_back_21 : decode cX5_back 21 = .ok (.invokevirtual 96, 3) := by decide +kernel
theorem dX5_back_24 : decode cX5_back 24 = .ok (.aload_n 0, 1) := by decide +kernel
theorem dX5_back_25 : decode cX5_back 25 = .ok (.getfield 35, 3) := by decide +kernel
theorem dX5_back_28 : decode cX5_back 28 = .ok (.invokevirtual 211, 3) := by decide +kernel
theorem dX5_back_31 : decode cX5_back 31 = .ok (.ireturn, 1) := by decide +kernel
theorem dX5_count_0 : decode cX5_count 0 = .ok (.iload_n 1, 1) := by decide +kernel
theorem dX5_count_1 : decode cX5_count 1 = .ok (.tableswitch 138 0 9 #[55, 63, 71, 79, 87, 95, 106, 114, 122, 130], 55) := by decide +kernel
theorem dX5_count_56 : decode cX5_count 56 = .ok (.aload_n 0, 1) := by decide +kernel
theorem dX5_count_57 : decode cX5_count 57 = .ok (.getfield 48, 3) := by decide +kernel
theorem dX5_count_60 : decode cX5_count 60 = .ok (.getfield 88, 3) := by decide +kernel
theorem dX5_count_63 : decode cX5_count 63 = .ok (.ireturn, 1) := by decide +kernel
theorem dX5_count_64 : decode cX5_count 64 = .ok (.aload_n 0, 1) := by decide +kernel
theorem dX5_count_65 : decode cX5_count 65 = .ok (.getfield 48, 3) := by decide +kernel
theorem dX5_count_68 : decode cX5_count 68 = .ok (.getfield 204, 3) := by decide +kernel
theorem dX5_count_71 : decode cX5_count 71 = .ok (.ireturn, 1) := by decide +kernel
theorem dX5_count_72 : decode cX5_count 72 = .ok (.aload_n 0, 1) := by decide +kernel
theorem dX5_count_73 : decode cX5_count 73 = .ok (.getfield 48, 3) := by decide +kernel
theorem dX5_count_76 : decode cX5_count 76 = .ok (.invokevirtual 300, 3) := by decide +kernel
theorem dX5_count_79 : decode cX5_count 79 = .ok (.ireturn, 1) := by decide +kernel
theorem dX5_count_80 : decode cX5_count 80 = .ok (.aload_n 0, 1) := by decide +kernel
theorem dX5_count_81 : decode cX5_count 81 = .ok (.getfield 19, 3) := by decide +kernel
theorem dX5_count_84 : decode cX5_count 84 = .ok (.getfield 303, 3) := by decide +kernel
theorem dX5_count_87 : decode cX5_count 87 = .ok (.ireturn, 1) := by decide +kernel
theorem dX5_count_88 : decode cX5_count 88 = .ok (.aload_n 0, 1) := by decide +kernel
theorem dX5_count_89 : decode cX5_count 89 = .ok (.getfield 19, 3) := by decide +kernel
theorem dX5_count_92 : decode cX5_count 92 = .ok (.getfield 192, 3) := by decide +kernel
theorem dX5_count_95 : decode cX5_count 95 = .ok (.ireturn, 1) := by decide +kernel
theorem dX5_count_96 : decode cX5_count 96 = .ok (.aload_n 0, 1) := by decide +kernel
theorem dX5_count_97 : decode cX5_count 97 = .ok (.getfield 19, 3) := by decide +kernel
theorem dX5_count_100 : decode cX5_count 100 = .ok (.getfield 198, 3) := by decide +kernel
theorem dX5_count_103 : decode cX5_count 103 = .ok (.invokestatic 177, 3) := by decide +kernel
theorem dX5_count_106 : decode cX5_count 106 = .ok (.ireturn, 1) := by decide +kernel
theorem dX5_count_107 : decode cX5_count 107 = .ok (.aload_n 0, 1) := by decide +kernel
theorem dX5_count_108 : decode cX5_count 108 = .ok (.getfield 19, 3) := by decide +kernel
theorem dX5_count_111 : decode cX5_count 111 = .ok (.invokevirtual 285, 3) := by decide +kernel
theorem dX5_count_114 : decode cX5_count 114 = .ok (.ireturn, 1) := by decide +kernel
theorem dX5_count_115 : decode cX5_count 115 = .ok (.aload_n 0, 1) := by decide +kernel
theorem dX5_count_116 : decode cX5_count 116 = .ok (.getfield 31, 3) := by decide +kernel
theorem dX5_count_119 : decode cX5_count 119 = .ok (.invokevirtual 211, 3) := by decide +kernel
theorem dX5_count_122 : decode cX5_count 122 = .ok (.ireturn, 1) := by decide +kernel
theorem dX5_count_123 : decode cX5_count 123 = .ok (.aload_n 0, 1) := by decide +kernel
theorem dX5_count_124 : decode cX5_count 124 = .ok (.getfield 35, 3) := by decide +kernel
theorem dX5_count_127 : decode cX5_count 127 = .ok (.invokevirtual 211, 3) := by decide +kernel
theorem dX5_count_130 : decode cX5_count 130 = .ok (.ireturn, 1) := by decide +kernel
theorem dX5_count_131 : decode cX5_count 131 = .ok (.aload_n 0, 1) := by decide +kernel
theorem dX5_count_132 : decode cX5_count 132 = .ok (.getfield 10, 3) := by decide +kernel
theorem dX5_count_135 : decode cX5_count 135 = .ok (.invokevirtual 85, 3) := by decide +kernel
theorem dX5_count_138 : decode cX5_count 138 = .ok (.ireturn, 1) := by decide +kernel
theorem dX5_count_139 : decode cX5_count 139 = .ok (.iconst (-1), 1) := by decide +kernel
theorem dX5_count_140 : decode cX5_count 140 = .ok (.ireturn, 1) := by decide +kernel
theorem dX5_areTwo_0 : decode cX5_areTwo 0 = .ok (.aload_n 0, 1) := by decide +kernel
theorem dX5_areTwo_1 : decode cX5_areTwo 1 = .ok (.getfield 48, 3) := by decide +kernel
theorem dX5_areTwo_4 : decode cX5_areTwo 4 = .ok (.iload_n 1, 1) := by decide +kernel
theorem dX5_areTwo_5 : decode cX5_areTwo 5 = .ok (.invokevirtual 99, 3) := by decide +kernel
theorem dX5_areTwo_8 : decode cX5_areTwo 8 = .ok (.ifCond .eq 23, 3) := by decide +kernel
theorem dX5_areTwo_11 : decode cX5_areTwo 11 = .ok (.aload_n 0, 1) := by decide +kernel
theorem dX5_areTwo_12 : decode cX5_areTwo 12 = .ok (.getfield 48, 3) := by decide +kernel
theorem dX5_areTwo_15 : decode cX5_areTwo 15 = .ok (.iload_n 2, 1) := by decide +kernel
theorem dX5_areTwo_16 : decode cX5_areTwo 16 = .ok (.invokevirtual 99, 3) := by decide +kernel
theorem dX5_areTwo_19 : decode cX5_areTwo 19 = .ok (.ifCond .eq 12, 3) := by decide +kernel
theorem dX5_areTwo_22 : decode cX5_areTwo 22 = .ok (.iload_n 1, 1) := by decide +kernel
theorem dX5_areTwo_23 : decode cX5_areTwo 23 = .ok (.iload_n 2, 1) := by decide +kernel
theorem dX5_areTwo_24 : decode cX5_areTwo 24 = .ok (.if_icmp .eq 7, 3) := by decide +kernel
theorem dX5_areTwo_27 : decode cX5_areTwo 27 = .ok (.iconst 1, 1) := by decide +kernel
theorem dX5_areTwo_28 : decode cX5_areTwo 28 = .ok (.goto 4, 3) := by decide +kernel
theorem dX5_areTwo_31 : decode cX5_areTwo 31 = .ok (.iconst 0, 1) := by decide +kernel
theorem dX5_areTwo_32 : decode cX5_areTwo 32 = .ok (.ireturn, 1) := by decide +kernel
theorem dX5_isSpan_0 : decode cX5_isSpan 0 = .ok (.iload_n 0, 1) := by decide +kernel
theorem dX5_isSpan_1 : decode cX5_isSpan 1 = .ok (.iconst 1, 1) := by decide +kernel
theorem dX5_isSpan_2 : decode cX5_isSpan 2 = .ok (.bipush 60, 2) := by decide +kernel
theorem dX5_isSpan_4 : decode cX5_isSpan 4 = .ok (.invokestatic 81, 3) := by decide +kernel
theorem dX5_isSpan_7 : decode cX5_isSpan 7 = .ok (.ireturn, 1) := by decide +kernel
theorem dX5_isWithin_0 : decode cX5_isWithin 0 = .ok (.iload_n 0, 1) := by decide +kernel
theorem dX5_isWithin_1 : decode cX5_isWithin 1 = .ok (.iload_n 1, 1) := by decide +kernel
theorem dX5_isWithin_2 : decode cX5_isWithin 2 = .ok (.if_icmp .lt 12, 3) := by decide +kernel
theorem dX5_isWithin_5 : decode cX5_isWithin 5 = .ok (.iload_n 0, 1) := by decide +kernel
theorem dX5_isWithin_6 : decode cX5_isWithin 6 = .ok (.iload_n 2, 1) := by decide +kernel
theorem dX5_isWithin_7 : decode cX5_isWithin 7 = .ok (.if_icmp .gt 7, 3) := by decide +kernel
theorem dX5_isWithin_10 : decode cX5_isWithin 10 = .ok (.iconst 1, 1) := by decide +kernel
theorem dX5_isWithin_11 : decode cX5_isWithin 11 = .ok (.goto 4, 3) := by decide +kernel
theorem dX5_isWithin_14 : decode cX5_isWithin 14 = .ok (.iconst 0, 1) := by decide +kernel
theorem dX5_isWithin_15 : decode cX5_isWithin 15 = .ok (.ireturn, 1) := by decide +kernel
theorem dX5_at_0 : decode cX5_at 0 = .ok (.iload_n 1, 1) := by decide +kernel
theorem dX5_at_1 : decode cX5_at 1 = .ok (.ifCond .lt 15, 3) := by decide +kernel
theorem dX5_at_4 : decode cX5_at 4 = .ok (.iload_n 1, 1) := by decide +kernel
theorem dX5_at_5 : decode cX5_at 5 = .ok (.aload_n 0, 1) := by decide +kernel
theorem dX5_at_6 : decode cX5_at 6 = .ok (.arraylength, 1) := by decide +kernel
theorem dX5_at_7 : decode cX5_at 7 = .ok (.if_icmp .ge 9, 3) := by decide +kernel
theorem dX5_at_10 : decode cX5_at 10 = .ok (.aload_n 0, 1) := by decide +kernel
theorem dX5_at_11 : decode cX5_at 11 = .ok (.iload_n 1, 1) := by decide +kernel
theorem dX5_at_12 : decode cX5_at 12 = .ok (.iaload, 1) := by decide +kernel
theorem dX5_at_13 : decode cX5_at 13 = .ok (.goto 4, 3) := by decide +kernel
theorem dX5_at_16 : decode cX5_at 16 = .ok (.iconst 0, 1) := by decide +kernel
theorem dX5_at_17 : decode cX5_at 17 = .ok (.ireturn, 1) := by decide +kernel
theorem dX5_put_0 : decode cX5_put 0 = .ok (.iload_n 1, 1) := by decide +kernel
theorem dX5_put_1 : decode cX5_put 1 = .ok (.ifCond .lt 13, 3) := by decide +kernel
theorem dX5_put_4 : decode cX5_put 4 = .ok (.iload_n 1, 1) := by decide +kernel
theorem dX5_put_5 : decode cX5_put 5 = .ok (.aload_n 0, 1) := by decide +kernel
theorem dX5_put_6 : decode cX5_put 6 = .ok (.arraylength, 1) := by decide +kernel
theorem dX5_put_7 : decode cX5_put 7 = .ok (.if_icmp .ge 7, 3) := by decide +kernel
theorem dX5_put_10 : decode cX5_put 10 = .ok (.aload_n 0, 1) := by decide +kernel
theorem dX5_put_11 : decode cX5_put 11 = .ok (.iload_n 1, 1) := by decide +kernel
theorem dX5_put_12 : decode cX5_put 12 = .ok (.iload_n 2, 1) := by decide +kernel
theorem dX5_put_13 : decode cX5_put 13 = .ok (.iastore, 1) := by decide +kernel
theorem dX5_put_14 : decode cX5_put 14 = .ok (.return_, 1) := by decide +kernel
theorem dX5_bit_0 : decode cX5_bit 0 = .ok (.iconst 1, 1) := by decide +kernel
theorem dX5_bit_1 : decode cX5_bit 1 = .ok (.iload_n 0, 1) := by decide +kernel
theorem dX5_bit_2 : decode cX5_bit 2 = .ok (.ishl, 1) := by decide +kernel
theorem dX5_bit_3 : decode cX5_bit 3 = .ok (.ireturn, 1) := by decide +kernel
theorem dX5_lowestOf_0 : decode cX5_lowestOf 0 = .ok (.iload_n 0, 1) := by decide +kernel
theorem dX5_lowestOf_1 : decode cX5_lowestOf 1 = .ok (.ifCond .ne 7, 3) := by decide +kernel
theorem dX5_lowestOf_4 : decode cX5_lowestOf 4 = .ok (.iconst (-1), 1) := by decide +kernel
theorem dX5_lowestOf_5 : decode cX5_lowestOf 5 = .ok (.goto 12, 3) := by decide +kernel
theorem dX5_lowestOf_8 : decode cX5_lowestOf 8 = .ok (.iload_n 0, 1) := by decide +kernel
theorem dX5_lowestOf_9 : decode cX5_lowestOf 9 = .ok (.iload_n 0, 1) := by decide +kernel
theorem dX5_lowestOf_10 : decode cX5_lowestOf 10 = .ok (.ineg, 1) := by decide +kernel
theorem dX5_lowestOf_11 : decode cX5_lowestOf 11 = .ok (.iand, 1) := by decide +kernel
theorem dX5_lowestOf_12 : decode cX5_lowestOf 12 = .ok (.iconst 1, 1) := by decide +kernel
theorem dX5_lowestOf_13 : decode cX5_lowestOf 13 = .ok (.isub, 1) := by decide +kernel
theorem dX5_lowestOf_14 : decode cX5_lowestOf 14 = .ok (.invokestatic 177, 3) := by decide +kernel
theorem dX5_lowestOf_17 : decode cX5_lowestOf 17 = .ok (.ireturn, 1) := by decide +kernel
theorem dX5_power_0 : decode cX5_power 0 = .ok (.lconst 1, 1) := by decide +kernel
theorem dX5_power_1 : decode cX5_power 1 = .ok (.lstore_n 3, 1) := by decide +kernel
theorem dX5_power_2 : decode cX5_power 2 = .ok (.iconst 0, 1) := by decide +kernel
theorem dX5_power_3 : decode cX5_power 3 = .ok (.istore 5, 2) := by decide +kernel
theorem dX5_power_5 : decode cX5_power 5 = .ok (.iload 5, 2) := by decide +kernel
theorem dX5_power_7 : decode cX5_power 7 = .ok (.iload_n 2, 1) := by decide +kernel
theorem dX5_power_8 : decode cX5_power 8 = .ok (.if_icmp .ge 13, 3) := by decide +kernel
theorem dX5_power_11 : decode cX5_power 11 = .ok (.lload_n 3, 1) := by decide +kernel
theorem dX5_power_12 : decode cX5_power 12 = .ok (.lload_n 0, 1) := by decide +kernel
theorem dX5_power_13 : decode cX5_power 13 = .ok (.lmul, 1) := by decide +kernel
theorem dX5_power_14 : decode cX5_power 14 = .ok (.lstore_n 3, 1) := by decide +kernel
theorem dX5_power_15 : decode cX5_power 15 = .ok (.iinc 5 1, 3) := by decide +kernel
theorem dX5_power_18 : decode cX5_power 18 = .ok (.goto (-13), 3) := by decide +kernel
theorem dX5_power_21 : decode cX5_power 21 = .ok (.lload_n 3, 1) := by decide +kernel
theorem dX5_power_22 : decode cX5_power 22 = .ok (.lreturn, 1) := by decide +kernel
theorem dX5_commonDivisor_0 : decode cX5_commonDivisor 0 = .ok (.iconst 0, 1) := by decide +kernel
theorem dX5_commonDivisor_1 : decode cX5_commonDivisor 1 = .ok (.istore 4, 2) := by decide +kernel
theorem dX5_commonDivisor_3 : decode cX5_commonDivisor 3 = .ok (.iload 4, 2) := by decide +kernel
theorem dX5_commonDivisor_5 : decode cX5_commonDivisor 5 = .ok (.sipush 200, 3) := by decide +kernel
theorem dX5_commonDivisor_8 : decode cX5_commonDivisor 8 = .ok (.if_icmp .ge 25, 3) := by decide +kernel
theorem dX5_commonDivisor_11 : decode cX5_commonDivisor 11 = .ok (.lload_n 2, 1) := by decide +kernel
theorem dX5_commonDivisor_12 : decode cX5_commonDivisor 12 = .ok (.lconst 0, 1) := by decide +kernel
theorem dX5_commonDivisor_13 : decode cX5_commonDivisor 13 = .ok (.lcmp, 1) := by decide +kernel
theorem dX5_commonDivisor_14 : decode cX5_commonDivisor 14 = .ok (.ifCond .eq 19, 3) := by decide +kernel
theorem dX5_commonDivisor_17 : decode cX5_commonDivisor 17 = .ok (.lload_n 0, 1) := by decide +kernel
theorem dX5_commonDivisor_18 : decode cX5_commonDivisor 18 = .ok (.lload_n 2, 1) := by decide +kernel
theorem dX5_commonDivisor_19 : decode cX5_commonDivisor 19 = .ok (.lrem, 1) := by decide +kernel
theorem dX5_commonDivisor_20 : decode cX5_commonDivisor 20 = .ok (.lstore 5, 2) := by decide +kernel
theorem dX5_commonDivisor_22 : decode cX5_commonDivisor 22 = .ok (.lload_n 2, 1) := by decide +kernel
theorem dX5_commonDivisor_23 : decode cX5_commonDivisor 23 = .ok (.lstore_n 0, 1) := by decide +kernel
theorem dX5_commonDivisor_24 : decode cX5_commonDivisor 24 = .ok (.lload 5, 2) := by decide +kernel
theorem dX5_commonDivisor_26 : decode cX5_commonDivisor 26 = .ok (.lstore_n 2, 1) := by decide +kernel
theorem dX5_commonDivisor_27 : decode cX5_commonDivisor 27 = .ok (.iinc 4 1, 3) := by decide +kernel
theorem dX5_commonDivisor_30 : decode cX5_commonDivisor 30 = .ok (.goto (-27), 3) := by decide +kernel
theorem dX5_commonDivisor_33 : decode cX5_commonDivisor 33 = .ok (.lload_n 0, 1) := by decide +kernel
theorem dX5_commonDivisor_34 : decode cX5_commonDivisor 34 = .ok (.lreturn, 1) := by decide +kernel
