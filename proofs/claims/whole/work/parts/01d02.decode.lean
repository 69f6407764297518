theorem dc_N_workOut_161 : decode cd_N_workOut 161 = .ok (.ireturn, 1) := by decide +kernel
theorem dc_C_least_0 : decode cd_C_least 0 = .ok (.iconst 0, 1) := by decide +kernel
theorem dc_C_least_1 : decode cd_C_least 1 = .ok (.istore_n 1, 1) := by decide +kernel
theorem dc_C_least_2 : decode cd_C_least 2 = .ok (.iload_n 1, 1) := by decide +kernel
theorem dc_C_least_3 : decode cd_C_least 3 = .ok (.bipush 12, 2) := by decide +kernel
theorem dc_C_least_5 : decode cd_C_least 5 = .ok (.if_icmp .ge 17, 3) := by decide +kernel
theorem dc_C_least_8 : decode cd_C_least 8 = .ok (.iload_n 0, 1) := by decide +kernel
theorem dc_C_least_9 : decode cd_C_least 9 = .ok (.iload_n 1, 1) := by decide +kernel
theorem dc_C_least_10 : decode cd_C_least 10 = .ok (.invokestatic 117, 3) := by decide +kernel
theorem dc_C_least_13 : decode cd_C_least 13 = .ok (.ifCond .ne 9, 3) := by decide +kernel
theorem dc_C_least_16 : decode cd_C_least 16 = .ok (.iinc 1 1, 3) := by decide +kernel
theorem dc_C_least_19 : decode cd_C_least 19 = .ok (.goto (-17), 3) := by decide +kernel
theorem dc_C_least_22 : decode cd_C_least 22 = .ok (.iload_n 1, 1) := by decide +kernel
theorem dc_C_least_23 : decode cd_C_least 23 = .ok (.ireturn, 1) := by decide +kernel
theorem dc_M_isMarked_0 : decode cd_M_isMarked 0 = .ok (.aload_n 0, 1) := by decide +kernel
theorem dc_M_isMarked_1 : decode cd_M_isMarked 1 = .ok (.iload_n 1, 1) := by decide +kernel
theorem dc_M_isMarked_2 : decode cd_M_isMarked 2 = .ok (.iload_n 2, 1) := by decide +kernel
theorem dc_M_isMarked_3 : decode cd_M_isMarked 3 = .ok (.invokevirtual 25, 3) := by decide +kernel
theorem dc_M_isMarked_6 : decode cd_M_isMarked 6 = .ok (.aload_n 0, 1) := by decide +kernel
theorem dc_M_isMarked_7 : decode cd_M_isMarked 7 = .ok (.getfield 34, 3) := by decide +kernel
theorem dc_M_isMarked_10 : decode cd_M_isMarked 10 = .ok (.iload_n 1, 1) := by decide +kernel
theorem dc_M_isMarked_11 : decode cd_M_isMarked 11 = .ok (.baload, 1) := by decide +kernel
theorem dc_M_isMarked_12 : decode cd_M_isMarked 12 = .ok (.if_icmp .ne 7, 3) := by decide +kernel
theorem dc_M_isMarked_15 : decode cd_M_isMarked 15 = .ok (.iconst 1, 1) := by decide +kernel
theorem dc_M_isMarked_16 : decode cd_M_isMarked 16 = .ok (.goto 4, 3) := by decide +kernel
theorem dc_M_isMarked_19 : decode cd_M_isMarked 19 = .ok (.iconst 0, 1) := by decide +kernel
theorem dc_M_isMarked_20 : decode cd_M_isMarked 20 = .ok (.ireturn, 1) := by decide +kernel
theorem dc_N_isMarked_0 : decode cd_N_isMarked 0 = .ok (.aload_n 0, 1) := by decide +kernel
theorem dc_N_isMarked_1 : decode cd_N_isMarked 1 = .ok (.getfield 9, 3) := by decide +kernel
theorem dc_N_isMarked_4 : decode cd_N_isMarked 4 = .ok (.iload_n 1, 1) := by decide +kernel
theorem dc_N_isMarked_5 : decode cd_N_isMarked 5 = .ok (.iload_n 2, 1) := by decide +kernel
theorem dc_N_isMarked_6 : decode cd_N_isMarked 6 = .ok (.invokevirtual 33, 3) := by decide +kernel
theorem dc_N_isMarked_9 : decode cd_N_isMarked 9 = .ok (.ifCond .ne 21, 3) := by decide +kernel
theorem dc_N_isMarked_12 : decode cd_N_isMarked 12 = .ok (.aload_n 0, 1) := by decide +kernel
theorem dc_N_isMarked_13 : decode cd_N_isMarked 13 = .ok (.getfield 25, 3) := by decide +kernel
theorem dc_N_isMarked_16 : decode cd_N_isMarked 16 = .ok (.iload_n 1, 1) := by decide +kernel
theorem dc_N_isMarked_17 : decode cd_N_isMarked 17 = .ok (.iload_n 2, 1) := by decide +kernel
theorem dc_N_isMarked_18 : decode cd_N_isMarked 18 = .ok (.invokestatic 29, 3) := by decide +kernel
theorem dc_N_isMarked_21 : decode cd_N_isMarked 21 = .ok (.baload, 1) := by decide +kernel
theorem dc_N_isMarked_22 : decode cd_N_isMarked 22 = .ok (.iconst (-1), 1) := by decide +kernel
theorem dc_N_isMarked_23 : decode cd_N_isMarked 23 = .ok (.if_icmp .ne 7, 3) := by decide +kernel
theorem dc_N_isMarked_26 : decode cd_N_isMarked 26 = .ok (.iconst 1, 1) := by decide +kernel
theorem dc_N_isMarked_27 : decode cd_N_isMarked 27 = .ok (.goto 4, 3) := by decide +kernel
theorem dc_N_isMarked_30 : decode cd_N_isMarked 30 = .ok (.iconst 0, 1) := by decide +kernel
theorem dc_N_isMarked_31 : decode cd_N_isMarked 31 = .ok (.ireturn, 1) := by decide +kernel
theorem dc_L_taken_0 : decode cd_L_taken 0 = .ok (.aload_n 2, 1) := by decide +kernel
theorem dc_L_taken_1 : decode cd_L_taken 1 = .ok (.iconst 0, 1) := by decide +kernel
theorem dc_L_taken_2 : decode cd_L_taken 2 = .ok (.aload_n 0, 1) := by decide +kernel
theorem dc_L_taken_3 : decode cd_L_taken 3 = .ok (.iload_n 1, 1) := by decide +kernel
theorem dc_L_taken_4 : decode cd_L_taken 4 = .ok (.invokevirtual 38, 3) := by decide +kernel
theorem dc_L_taken_7 : decode cd_L_taken 7 = .ok (.i2l, 1) := by decide +kernel
theorem dc_L_taken_8 : decode cd_L_taken 8 = .ok (.lastore, 1) := by decide +kernel
theorem dc_L_taken_9 : decode cd_L_taken 9 = .ok (.goto 6, 3) := by decide +kernel
theorem dc_L_taken_12 : decode cd_L_taken 12 = .ok (.astore_n 3, 1) := by decide +kernel
theorem dc_L_taken_13 : decode cd_L_taken 13 = .ok (.iconst 1, 1) := by decide +kernel
theorem dc_L_taken_14 : decode cd_L_taken 14 = .ok (.ireturn, 1) := by decide +kernel
theorem dc_L_taken_15 : decode cd_L_taken 15 = .ok (.iconst 0, 1) := by decide +kernel
theorem dc_L_taken_16 : decode cd_L_taken 16 = .ok (.ireturn, 1) := by decide +kernel
theorem dc_C_taken_0 : decode cd_C_taken 0 = .ok (.iload_n 1, 1) := by decide +kernel
theorem dc_C_taken_1 : decode cd_C_taken 1 = .ok (.ifCond .lt 8, 3) := by decide +kernel
theorem dc_C_taken_4 : decode cd_C_taken 4 = .ok (.iload_n 1, 1) := by decide +kernel
theorem dc_C_taken_5 : decode cd_C_taken 5 = .ok (.iconst 2, 1) := by decide +kernel
theorem dc_C_taken_6 : decode cd_C_taken 6 = .ok (.if_icmp .lt 11, 3) := by decide +kernel
theorem dc_C_taken_9 : decode cd_C_taken 9 = .ok (.new 114, 3) := by decide +kernel
theorem dc_C_taken_12 : decode cd_C_taken 12 = .ok (.dup, 1) := by decide +kernel
theorem dc_C_taken_13 : decode cd_C_taken 13 = .ok (.invokespecial 116, 3) := by decide +kernel
theorem dc_C_taken_16 : decode cd_C_taken 16 = .ok (.athrow, 1) := by decide +kernel
theorem dc_C_taken_17 : decode cd_C_taken 17 = .ok (.aload_n 0, 1) := by decide +kernel
theorem dc_C_taken_18 : decode cd_C_taken 18 = .ok (.getfield 53, 3) := by decide +kernel
theorem dc_C_taken_21 : decode cd_C_taken 21 = .ok (.iload_n 1, 1) := by decide +kernel
theorem dc_C_taken_22 : decode cd_C_taken 22 = .ok (.iaload, 1) := by decide +kernel
theorem dc_C_taken_23 : decode cd_C_taken 23 = .ok (.ireturn, 1) := by decide +kernel
theorem dc_L_strings_0 : decode cd_L_strings 0 = .ok (.aload_n 2, 1) := by decide +kernel
theorem dc_L_strings_1 : decode cd_L_strings 1 = .ok (.iconst 0, 1) := by decide +kernel
theorem dc_L_strings_2 : decode cd_L_strings 2 = .ok (.aload_n 0, 1) := by decide +kernel
theorem dc_L_strings_3 : decode cd_L_strings 3 = .ok (.iload_n 1, 1) := by decide +kernel
theorem dc_L_strings_4 : decode cd_L_strings 4 = .ok (.invokevirtual 41, 3) := by decide +kernel
theorem dc_L_strings_7 : decode cd_L_strings 7 = .ok (.i2l, 1) := by decide +kernel
theorem dc_L_strings_8 : decode cd_L_strings 8 = .ok (.lastore, 1) := by decide +kernel
theorem dc_L_strings_9 : decode cd_L_strings 9 = .ok (.goto 6, 3) := by decide +kernel
theorem dc_L_strings_12 : decode cd_L_strings 12 = .ok (.astore_n 3, 1) := by decide +kernel
theorem dc_L_strings_13 : decode cd_L_strings 13 = .ok (.iconst 1, 1) := by decide +kernel
theorem dc_L_strings_14 : decode cd_L_strings 14 = .ok (.ireturn, 1) := by decide +kernel
theorem dc_L_strings_15 : decode cd_L_strings 15 = .ok (.iconst 0, 1) := by decide +kernel
theorem dc_L_strings_16 : decode cd_L_strings 16 = .ok (.ireturn, 1) := by decide +kernel
theorem dc_C_strings_0 : decode cd_C_strings 0 = .ok (.iload_n 1, 1) := by decide +kernel
theorem dc_C_strings_1 : decode cd_C_strings 1 = .ok (.invokestatic 56, 3) := by decide +kernel
theorem dc_C_strings_4 : decode cd_C_strings 4 = .ok (.ifCond .ne 11, 3) := by decide +kernel
theorem dc_C_strings_7 : decode cd_C_strings 7 = .ok (.new 114, 3) := by decide +kernel
theorem dc_C_strings_10 : decode cd_C_strings 10 = .ok (.dup, 1) := by decide +kernel
theorem dc_C_strings_11 : decode cd_C_strings 11 = .ok (.invokespecial 116, 3) := by decide +kernel
theorem dc_C_strings_14 : decode cd_C_strings 14 = .ok (.athrow, 1) := by decide +kernel
theorem dc_C_strings_15 : decode cd_C_strings 15 = .ok (.aload_n 0, 1) := by decide +kernel
theorem dc_C_strings_16 : decode cd_C_strings 16 = .ok (.getfield 12, 3) := by decide +kernel
theorem dc_C_strings_19 : decode cd_C_strings 19 = .ok (.aload_n 0, 1) := by decide +kernel
theorem dc_C_strings_20 : decode cd_C_strings 20 = .ok (.getfield 81, 3) := by decide +kernel
theorem dc_C_strings_23 : decode cd_C_strings 23 = .ok (.iload_n 1, 1) := by decide +kernel
theorem dc_C_strings_24 : decode cd_C_strings 24 = .ok (.invokevirtual 137, 3) := by decide +kernel
theorem dc_C_strings_27 : decode cd_C_strings 27 = .ok (.ireturn, 1) := by decide +kernel
theorem dc_L_margin_0 : decode cd_L_margin 0 = .ok (.aload_n 1, 1) := by decide +kernel
theorem dc_L_margin_1 : decode cd_L_margin 1 = .ok (.iconst 0, 1) := by decide +kernel
theorem dc_L_margin_2 : decode cd_L_margin 2 = .ok (.aload_n 0, 1) := by decide +kernel
theorem dc_L_margin_3 : decode cd_L_margin 3 = .ok (.invokevirtual 44, 3) := by decide +kernel
theorem dc_L_margin_6 : decode cd_L_margin 6 = .ok (.i2l, 1) := by decide +kernel
theorem dc_L_margin_7 : decode cd_L_margin 7 = .ok (.lastore, 1) := by decide +kernel
theorem dc_L_margin_8 : decode cd_L_margin 8 = .ok (.goto 6, 3) := by decide +kernel
theorem dc_L_margin_11 : decode cd_L_margin 11 = .ok (.astore_n 2, 1) := by decide +kernel
theorem dc_L_margin_12 : decode cd_L_margin 12 = .ok (.iconst 1, 1) := by decide +kernel
theorem dc_L_margin_13 : decode cd_L_margin 13 = .ok (.ireturn, 1) := by decide +kernel
theorem dc_L_margin_14 : decode cd_L_margin 14 = .ok (.iconst 0, 1) := by decide +kernel
theorem dc_L_margin_15 : decode cd_L_margin 15 = .ok (.ireturn, 1) := by decide +kernel
theorem dc_C_margin_0 : decode cd_C_margin 0 = .ok (.aload_n 0, 1) := by decide +kernel
theorem dc_C_margin_1 : decode cd_C_margin 1 = .ok (.invokevirtual 111, 3) := by decide +kernel
theorem dc_C_margin_4 : decode cd_C_margin 4 = .ok (.aload_n 0, 1) := by decide +kernel
theorem dc_C_margin_5 : decode cd_C_margin 5 = .ok (.getfield 21, 3) := by decide +kernel
theorem dc_C_margin_8 : decode cd_C_margin 8 = .ok (.aload_n 0, 1) := by decide +kernel
theorem dc_C_margin_9 : decode cd_C_margin 9 = .ok (.getfield 81, 3) := by decide +kernel
theorem dc_C_margin_12 : decode cd_C_margin 12 = .ok (.invokevirtual 140, 3) := by decide +kernel
theorem dc_C_margin_15 : decode cd_C_margin 15 = .ok (.ireturn, 1) := by decide +kernel
theorem dc_V_of_0 : decode cd_V_of 0 = .ok (.aload_n 0, 1) := by decide +kernel
theorem dc_V_of_1 : decode cd_V_of 1 = .ok (.invokevirtual 23, 3) := by decide +kernel
theorem dc_V_of_4 : decode cd_V_of 4 = .ok (.aload_n 0, 1) := by decide +kernel
theorem dc_V_of_5 : decode cd_V_of 5 = .ok (.getfield 9, 3) := by decide +kernel
theorem dc_V_of_8 : decode cd_V_of 8 = .ok (.iload_n 1, 1) := by decide +kernel
theorem dc_V_of_9 : decode cd_V_of 9 = .ok (.baload, 1) := by decide +kernel
theorem dc_V_of_10 : decode cd_V_of 10 = .ok (.ireturn, 1) := by decide +kernel
theorem dc_L_good_0 : decode cd_L_good 0 = .ok (.aload_n 1, 1) := by decide +kernel
theorem dc_L_good_1 : decode cd_L_good 1 = .ok (.iconst 0, 1) := by decide +kernel
theorem dc_L_good_2 : decode cd_L_good 2 = .ok (.aload_n 0, 1) := by decide +kernel
theorem dc_L_good_3 : decode cd_L_good 3 = .ok (.invokevirtual 47, 3) := by decide +kernel
theorem dc_L_good_6 : decode cd_L_good 6 = .ok (.i2l, 1) := by decide +kernel
theorem dc_L_good_7 : decode cd_L_good 7 = .ok (.lastore, 1) := by decide +kernel
theorem dc_L_good_8 : decode cd_L_good 8 = .ok (.goto 6, 3) := by decide +kernel
theorem dc_L_good_11 : decode cd_L_good 11 = .ok (.astore_n 2, 1) := by decide +kernel
theorem dc_L_good_12 : decode cd_L_good 12 = .ok (.iconst 1, 1) := by decide +kernel
theorem dc_L_good_13 : decode cd_L_good 13 = .ok (.ireturn, 1) := by decide +kernel
theorem dc_L_good_14 : decode cd_L_good 14 = .ok (.iconst 0, 1) := by decide +kernel
theorem dc_L_good_15 : decode cd_L_good 15 = .ok (.ireturn, 1) := by decide +kernel
theorem dc_C_good_0 : decode cd_C_good 0 = .ok (.aload_n 0, 1) := by decide +kernel
theorem dc_C_good_1 : decode cd_C_good 1 = .ok (.invokevirtual 111, 3) := by decide +kernel
theorem dc_C_good_4 : decode cd_C_good 4 = .ok (.aload_n 0, 1) := by decide +kernel
theorem dc_C_good_5 : decode cd_C_good 5 = .ok (.getfield 21, 3) := by decide +kernel
theorem dc_C_good_8 : decode cd_C_good 8 = .ok (.aload_n 0, 1) := by decide +kernel
theorem dc_C_good_9 : decode cd_C_good 9 = .ok (.getfield 81, 3) := by decide +kernel
theorem dc_C_good_12 : decode cd_C_good 12 = .ok (.invokevirtual 131, 3) := by decide +kernel
theorem dc_C_good_15 : decode cd_C_good 15 = .ok (.ireturn, 1) := by decide +kernel
theorem dc_L_nim_0 : decode cd_L_nim 0 = .ok (.aload_n 1, 1) := by decide +kernel
theorem dc_L_nim_1 : decode cd_L_nim 1 = .ok (.iconst 0, 1) := by decide +kernel
theorem dc_L_nim_2 : decode cd_L_nim 2 = .ok (.aload_n 0, 1) := by decide +kernel
theorem dc_L_nim_3 : decode cd_L_nim 3 = .ok (.invokevirtual 50, 3) := by decide +kernel
theorem dc_L_nim_6 : decode cd_L_nim 6 = .ok (.i2l, 1) := by decide +kernel
theorem dc_L_nim_7 : decode cd_L_nim 7 = .ok (.lastore, 1) := by decide +kernel
theorem dc_L_nim_8 : decode cd_L_nim 8 = .ok (.goto 6, 3) := by decide +kernel
theorem dc_L_nim_11 : decode cd_L_nim 11 = .ok (.astore_n 2, 1) := by decide +kernel
theorem dc_L_nim_12 : decode cd_L_nim 12 = .ok (.iconst 1, 1) := by decide +kernel
theorem dc_L_nim_13 : decode cd_L_nim 13 = .ok (.ireturn, 1) := by decide +kernel
theorem dc_L_nim_14 : decode cd_L_nim 14 = .ok (.iconst 0, 1) := by decide +kernel
theorem dc_L_nim_15 : decode cd_L_nim 15 = .ok (.ireturn, 1) := by decide +kernel
theorem dc_C_nim_0 : decode cd_C_nim 0 = .ok (.aload_n 0, 1) := by decide +kernel
theorem dc_C_nim_1 : decode cd_C_nim 1 = .ok (.invokevirtual 111, 3) := by decide +kernel
theorem dc_C_nim_4 : decode cd_C_nim 4 = .ok (.aload_n 0, 1) := by decide +kernel
theorem dc_C_nim_5 : decode cd_C_nim 5 = .ok (.getfield 28, 3) := by decide +kernel
theorem dc_C_nim_8 : decode cd_C_nim 8 = .ok (.aload_n 0, 1) := by decide +kernel
theorem dc_C_nim_9 : decode cd_C_nim 9 = .ok (.getfield 81, 3) := by decide +kernel
theorem dc_C_nim_12 : decode cd_C_nim 12 = .ok (.invokevirtual 143, 3) := by decide +kernel
theorem dc_C_nim_15 : decode cd_C_nim 15 = .ok (.ireturn, 1) := by decide +kernel
theorem dc_L_mad_0 : decode cd_L_mad 0 = .ok (.aload_n 1, 1) := by decide +kernel
theorem dc_L_mad_1 : decode cd_L_mad 1 = .ok (.iconst 0, 1) := by decide +kernel
theorem dc_L_mad_2 : decode cd_L_mad 2 = .ok (.aload_n 0, 1) := by decide +kernel
theorem dc_L_mad_3 : decode cd_L_mad 3 = .ok (.invokevirtual 53, 3) := by decide +kernel
theorem dc_L_mad_6 : decode cd_L_mad 6 = .ok (.i2l, 1) := by decide +kernel
theorem dc_L_mad_7 : decode cd_L_mad 7 = .ok (.lastore, 1) := by decide +kernel
theorem dc_L_mad_8 : decode cd_L_mad 8 = .ok (.goto 6, 3) := by decide +kernel
theorem dc_L_mad_11 : decode cd_L_mad 11 = .ok (.astore_n 2, 1) := by decide +kernel
theorem dc_L_mad_12 : decode cd_L_mad 12 = .ok (.iconst 1, 1) := by decide +kernel
theorem dc_L_mad_13 : decode cd_L_mad 13 = .ok (.ireturn, 1) := by decide +kernel
theorem dc_L_mad_14 : decode cd_L_mad 14 = .ok (.iconst 0, 1) := by decide +kernel
theorem dc_L_mad_15 : decode cd_L_mad 15 = .ok (.ireturn, 1) := by decide +kernel
theorem dc_C_mad_0 : decode cd_C_mad 0 = .ok (.aload_n 0, 1) := by decide +kernel
theorem dc_C_mad_1 : decode cd_C_mad 1 = .ok (.invokevirtual 111, 3) := by decide +kernel
theorem dc_C_mad_4 : decode cd_C_mad 4 = .ok (.aload_n 0, 1) := by decide +kernel
theorem dc_C_mad_5 : decode cd_C_mad 5 = .ok (.getfield 28, 3) := by decide +kernel
theorem dc_C_mad_8 : decode cd_C_mad 8 = .ok (.aload_n 0, 1) := by decide +kernel
theorem dc_C_mad_9 : decode cd_C_mad 9 = .ok (.getfield 81, 3) := by decide +kernel
theorem dc_C_mad_12 : decode cd_C_mad 12 = .ok (.invokevirtual 144, 3) := by decide +kernel
theorem dc_C_mad_15 : decode cd_C_mad 15 = .ok (.ireturn, 1) := by decide +kernel
theorem dc_L_group_0 : decode cd_L_group 0 = .ok (.aload_n 2, 1) := by decide +kernel
theorem dc_L_group_1 : decode cd_L_group 1 = .ok (.iconst 0, 1) := by decide +kernel
theorem dc_L_group_2 : decode cd_L_group 2 = .ok (.aload_n 0, 1) := by decide +kernel
theorem dc_L_group_3 : decode cd_L_group 3 = .ok (.iload_n 1, 1) := by decide +kernel
theorem dc_L_group_4 : decode cd_L_group 4 = .ok (.invokevirtual 56, 3) := by decide +kernel
theorem dc_L_group_7 : decode cd_L_group 7 = .ok (.i2l, 1) := by decide +kernel
theorem dc_L_group_8 : decode cd_L_group 8 = .ok (.lastore, 1) := by decide +kernel
theorem dc_L_group_9 : decode cd_L_group 9 = .ok (.goto 6, 3) := by decide +kernel
theorem dc_L_group_12 : decode cd_L_group 12 = .ok (.astore_n 3, 1) := by decide +kernel
theorem dc_L_group_13 : decode cd_L_group 13 = .ok (.iconst 1, 1) := by decide +kernel
theorem dc_L_group_14 : decode cd_L_group 14 = .ok (.ireturn, 1) := by decide +kernel
theorem dc_L_group_15 : decode cd_L_group 15 = .ok (.iconst 0, 1) := by decide +kernel
theorem dc_L_group_16 : decode cd_L_group 16 = .ok (.ireturn, 1) := by decide +kernel
theorem dc_C_group_0 : decode cd_C_group 0 = .ok (.aload_n 0, 1) := by decide +kernel
theorem dc_C_group_1 : decode cd_C_group 1 = .ok (.getfield 35, 3) := by decide +kernel
theorem dc_C_group_4 : decode cd_C_group 4 = .ok (.aload_n 0, 1) := by decide +kernel
theorem dc_C_group_5 : decode cd_C_group 5 = .ok (.getfield 81, 3) := by decide +kernel
theorem dc_C_group_8 : decode cd_C_group 8 = .ok (.invokevirtual 145, 3) := by decide +kernel
theorem dc_C_group_11 : decode cd_C_group 11 = .ok (.iload_n 1, 1) := by decide +kernel
theorem dc_C_group_12 : decode cd_C_group 12 = .ok (.ifCond .lt 14, 3) := by decide +kernel
theorem dc_C_group_15 : decode cd_C_group 15 = .ok (.iload_n 1, 1) := by decide +kernel
theorem dc_C_group_16 : decode cd_C_group 16 = .ok (.aload_n 0, 1) := by decide +kernel
theorem dc_C_group_17 : decode cd_C_group 17 = .ok (.getfield 35, 3) := by decide +kernel
theorem dc_C_group_20 : decode cd_C_group 20 = .ok (.invokevirtual 149, 3) := by decide +kernel
theorem dc_C_group_23 : decode cd_C_group 23 = .ok (.if_icmp .lt 11, 3) := by decide +kernel
theorem dc_C_group_26 : decode cd_C_group 26 = .ok (.new 114, 3) := by decide +kernel
theorem dc_C_group_29 : decode cd_C_group 29 = .ok (.dup, 1) := by decide +kernel
theorem dc_C_group_30 : decode cd_C_group 30 = .ok (.invokespecial 116, 3) := by decide +kernel
theorem dc_C_group_33 : decode cd_C_group 33 = .ok (.athrow, 1) := by decide +kernel
theorem dc_C_group_34 : decode cd_C_group 34 = .ok (.aload_n 0, 1) := by decide +kernel
theorem dc_C_group_35 : decode cd_C_group 35 = .ok (.getfield 35, 3) := by decide +kernel
theorem dc_C_group_38 : decode cd_C_group 38 = .ok (.iload_n 1, 1) := by decide +kernel
theorem dc_C_group_39 : decode cd_C_group 39 = .ok (.invokevirtual 152, 3) := by decide +kernel
theorem dc_C_group_42 : decode cd_C_group 42 = .ok (.istore_n 2, 1) := by decide +kernel
theorem dc_C_group_43 : decode cd_C_group 43 = .ok (.aload_n 0, 1) := by decide +kernel
theorem dc_C_group_44 : decode cd_C_group 44 = .ok (.getfield 35, 3) := by decide +kernel
theorem dc_C_group_47 : decode cd_C_group 47 = .ok (.iload_n 2, 1) := by decide +kernel
theorem dc_C_group_48 : decode cd_C_group 48 = .ok (.invokevirtual 155, 3) := by decide +kernel
theorem dc_C_group_51 : decode cd_C_group 51 = .ok (.istore_n 3, 1) := by decide +kernel
theorem dc_C_group_52 : decode cd_C_group 52 = .ok (.aload_n 0, 1) := by decide +kernel
theorem dc_C_group_53 : decode cd_C_group 53 = .ok (.getfield 35, 3) := by decide +kernel
theorem dc_C_group_56 : decode cd_C_group 56 = .ok (.iload_n 2, 1) := by decide +kernel
theorem dc_C_group_57 : decode cd_C_group 57 = .ok (.aload_n 0, 1) := by decide +kernel
theorem dc_C_group_58 : decode cd_C_group 58 = .ok (.getfield 81, 3) := by decide +kernel
theorem dc_C_group_61 : decode cd_C_group 61 = .ok (.invokevirtual 158, 3) := by decide +kernel
theorem dc_C_group_64 : decode cd_C_group 64 = .ok (.ifCond .eq 10, 3) := by decide +kernel
theorem dc_C_group_67 : decode cd_C_group 67 = .ok (.iload_n 3, 1) := by decide +kernel
theorem dc_C_group_68 : decode cd_C_group 68 = .ok (.bipush 100, 2) := by decide +kernel
theorem dc_C_group_70 : decode cd_C_group 70 = .ok (.iadd, 1) := by decide +kernel
theorem dc_C_group_71 : decode cd_C_group 71 = .ok (.goto 4, 3) := by decide +kernel
theorem dc_C_group_74 : decode cd_C_group 74 = .ok (.iload_n 3, 1) := by decide +kernel
theorem dc_C_group_75 : decode cd_C_group 75 = .ok (.ireturn, 1) := by decide +kernel
theorem dc_G_leader_0 : decode cd_G_leader 0 = .ok (.iconst 0, 1) := by decide +kernel
theorem dc_G_leader_1 : decode cd_G_leader 1 = .ok (.istore_n 2, 1) := by decide +kernel
theorem dc_G_leader_2 : decode cd_G_leader 2 = .ok (.iconst 0, 1) := by decide +kernel
theorem dc_G_leader_3 : decode cd_G_leader 3 = .ok (.istore_n 3, 1) := by decide +kernel
theorem dc_G_leader_4 : decode cd_G_leader 4 = .ok (.iload_n 3, 1) := by decide +kernel
theorem dc_G_leader_5 : decode cd_G_leader 5 = .ok (.bipush 8, 2) := by decide +kernel
theorem dc_G_leader_7 : decode cd_G_leader 7 = .ok (.if_icmp .ge 29, 3) := by decide +kernel
theorem dc_G_leader_10 : decode cd_G_leader 10 = .ok (.aload_n 0, 1) := by decide +kernel
theorem dc_G_leader_11 : decode cd_G_leader 11 = .ok (.getfield 9, 3) := by decide +kernel
theorem dc_G_leader_14 : decode cd_G_leader 14 = .ok (.iload_n 3, 1) := by decide +kernel
theorem dc_G_leader_15 : decode cd_G_leader 15 = .ok (.iaload, 1) := by decide +kernel
theorem dc_G_leader_16 : decode cd_G_leader 16 = .ok (.iload_n 3, 1) := by decide +kernel
theorem dc_G_leader_17 : decode cd_G_leader 17 = .ok (.if_icmp .ne 13, 3) := by decide +kernel
theorem dc_G_leader_20 : decode cd_G_leader 20 = .ok (.iload_n 2, 1) := by decide +kernel
theorem dc_G_leader_21 : decode cd_G_leader 21 = .ok (.iload_n 1, 1) := by decide +kernel
theorem dc_G_leader_22 : decode cd_G_leader 22 = .ok (.if_icmp .ne 5, 3) := by decide +kernel
theorem dc_G_leader_25 : decode cd_G_leader 25 = .ok (.iload_n 3, 1) := by decide +kernel
theorem dc_G_leader_26 : decode cd_G_leader 26 = .ok (.ireturn, 1) := by decide +kernel
theorem dc_G_leader_27 : decode cd_G_leader 27 = .ok (.iinc 2 1, 3) := by decide +kernel
theorem dc_G_leader_30 : decode cd_G_leader 30 = .ok (.iinc 3 1, 3) := by decide +kernel
theorem dc_G_leader_33 : decode cd_G_leader 33 = .ok (.goto (-29), 3) := by decide +kernel
theorem dc_G_leader_36 : decode cd_G_leader 36 = .ok (.iconst (-1), 1) := by decide +kernel
theorem dc_G_leader_37 : decode cd_G_leader 37 = .ok (.ireturn, 1) := by decide +kernel
theorem dc_G_length_0 : decode cd_G_length 0 = .ok (.iconst 0, 1) := by decide +kernel
theorem dc_G_length_1 : decode cd_G_length 1 = .ok (.istore_n 2, 1) := by decide +kernel
theorem dc_G_length_2 : decode cd_G_length 2 = .ok (.iconst 0, 1) := by decide +kernel
theorem dc_G_length_3 : decode cd_G_length 3 = .ok (.istore_n 3, 1) := by decide +kernel
theorem dc_G_length_4 : decode cd_G_length 4 = .ok (.iload_n 3, 1) := by decide +kernel
theorem dc_G_length_5 : decode cd_G_length 5 = .ok (.bipush 8, 2) := by decide +kernel
theorem dc_G_length_7 : decode cd_G_length 7 = .ok (.if_icmp .ge 22, 3) := by decide +kernel
theorem dc_G_length_10 : decode cd_G_length 10 = .ok (.aload_n 0, 1) := by decide +kernel
theorem dc_G_length_11 : decode cd_G_length 11 = .ok (.getfield 9, 3) := by decide +kernel
theorem dc_G_length_14 : decode cd_G_length 14 = .ok (.iload_n 3, 1) := by decide +kernel
theorem dc_G_length_15 : decode cd_G_length 15 = .ok (.iaload, 1) := by decide +kernel
theorem dc_G_length_16 : decode cd_G_length 16 = .ok (.iload_n 1, 1) := by decide +kernel
theorem dc_G_length_17 : decode cd_G_length 17 = .ok (.if_icmp .ne 6, 3) := by decide +kernel
theorem dc_G_length_20 : decode cd_G_length 20 = .ok (.iinc 2 1, 3) := by decide +kernel
theorem dc_G_length_23 : decode cd_G_length 23 = .ok (.iinc 3 1, 3) := by decide +kernel
theorem dc_G_length_26 : decode cd_G_length 26 = .ok (.goto (-22), 3) := by decide +kernel
theorem dc_G_length_29 : decode cd_G_length 29 = .ok (.iload_n 2, 1) := by decide +kernel
theorem dc_G_length_30 : decode cd_G_length 30 = .ok (.ireturn, 1) := by decide +kernel
theorem dc_G_isLoop_0 : decode cd_G_isLoop 0 = .ok (.iconst 0, 1) := by decide +kernel
theorem dc_G_isLoop_1 : decode cd_G_isLoop 1 = .ok (.istore_n 3, 1) := by decide +kernel
theorem dc_G_isLoop_2 : decode cd_G_isLoop 2 = .ok (.iload_n 3, 1) := by decide +kernel
theorem dc_G_isLoop_3 : decode cd_G_isLoop 3 = .ok (.aload_n 0, 1) := by decide +kernel
theorem dc_G_isLoop_4 : decode cd_G_isLoop 4 = .ok (.getfield 15, 3) := by decide +kernel
theorem dc_G_isLoop_7 : decode cd_G_isLoop 7 = .ok (.invokevirtual 25, 3) := by decide +kernel
theorem dc_G_isLoop_10 : decode cd_G_isLoop 10 = .ok (.if_icmp .ge 72, 3) := by decide +kernel
theorem dc_G_isLoop_13 : decode cd_G_isLoop 13 = .ok (.aload_n 0, 1) := by decide +kernel
theorem dc_G_isLoop_14 : decode cd_G_isLoop 14 = .ok (.aload_n 0, 1) := by decide +kernel
theorem dc_G_isLoop_15 : decode cd_G_isLoop 15 = .ok (.getfield 15, 3) := by decide +kernel
theorem dc_G_isLoop_18 : decode cd_G_isLoop 18 = .ok (.iload_n 3, 1) := by decide +kernel
theorem dc_G_isLoop_19 : decode cd_G_isLoop 19 = .ok (.invokevirtual 33, 3) := by decide +kernel
theorem dc_G_isLoop_22 : decode cd_G_isLoop 22 = .ok (.invokevirtual 37, 3) := by decide +kernel
theorem dc_G_isLoop_25 : decode cd_G_isLoop 25 = .ok (.iload_n 1, 1) := by decide +kernel
theorem dc_G_isLoop_26 : decode cd_G_isLoop 26 = .ok (.if_icmp .ne 7, 3) := by decide +kernel
theorem dc_G_isLoop_29 : decode cd_G_isLoop 29 = .ok (.iconst 1, 1) := by decide +kernel
theorem dc_G_isLoop_30 : decode cd_G_isLoop 30 = .ok (.goto 4, 3) := by decide +kernel
theorem dc_G_isLoop_33 : decode cd_G_isLoop 33 = .ok (.iconst 0, 1) := by decide +kernel
theorem dc_G_isLoop_34 : decode cd_G_isLoop 34 = .ok (.istore 4, 2) := by decide +kernel
theorem dc_G_isLoop_36 : decode cd_G_isLoop 36 = .ok (.aload_n 0, 1) := by decide +kernel
theorem dc_G_isLoop_37 : decode cd_G_isLoop 37 = .ok (.aload_n 0, 1) := by decide +kernel
theorem dc_G_isLoop_38 : decode cd_G_isLoop 38 = .ok (.getfield 15, 3) := by decide +kernel
theorem dc_G_isLoop_41 : decode cd_G_isLoop 41 = .ok (.iload_n 3, 1) := by decide +kernel
theorem dc_G_isLoop_42 : decode cd_G_isLoop 42 = .ok (.invokevirtual 40, 3) := by decide +kernel
theorem dc_G_isLoop_45 : decode cd_G_isLoop 45 = .ok (.invokevirtual 37, 3) := by decide +kernel
theorem dc_G_isLoop_48 : decode cd_G_isLoop 48 = .ok (.iload_n 1, 1) := by decide +kernel
theorem dc_G_isLoop_49 : decode cd_G_isLoop 49 = .ok (.if_icmp .ne 7, 3) := by decide +kernel
theorem dc_G_isLoop_52 : decode cd_G_isLoop 52 = .ok (.iconst 1, 1) := by decide +kernel
theorem dc_G_isLoop_53 : decode cd_G_isLoop 53 = .ok (.goto 4, 3) := by decide +kernel
theorem dc_G_isLoop_56 : decode cd_G_isLoop 56 = .ok (.iconst 0, 1) := by decide +kernel
theorem dc_G_isLoop_57 : decode cd_G_isLoop 57 = .ok (.istore 5, 2) := by decide +kernel
theorem dc_G_isLoop_59 : decode cd_G_isLoop 59 = .ok (.iload_n 2, 1) := by decide +kernel
theorem dc_G_isLoop_60 : decode cd_G_isLoop 60 = .ok (.iload_n 3, 1) := by decide +kernel
theorem dc_G_isLoop_61 : decode cd_G_isLoop 61 = .ok (.invokestatic 29, 3) := by decide +kernel
theorem dc_G_isLoop_64 : decode cd_G_isLoop 64 = .ok (.ifCond .eq 12, 3) := by decide +kernel
theorem dc_G_isLoop_67 : decode cd_G_isLoop 67 = .ok (.iload 4, 2) := by decide +kernel
theorem dc_G_isLoop_69 : decode cd_G_isLoop 69 = .ok (.iload 5, 2) := by decide +kernel
theorem dc_G_isLoop_71 : decode cd_G_isLoop 71 = .ok (.if_icmp .eq 5, 3) := by decide +kernel
theorem dc_G_isLoop_74 : decode cd_G_isLoop 74 = .ok (.iconst 0, 1) := by decide +kernel
theorem dc_G_isLoop_75 : decode cd_G_isLoop 75 = .ok (.ireturn, 1) := by decide +kernel
theorem dc_G_isLoop_76 : decode cd_G_isLoop 76 = .ok (.iinc 3 1, 3) := by decide +kernel
theorem dc_G_isLoop_79 : decode cd_G_isLoop 79 = .ok (.goto (-77), 3) := by decide +kernel
theorem dc_G_isLoop_82 : decode cd_G_isLoop 82 = .ok (.iconst 1, 1) := by decide +kernel
theorem dc_G_isLoop_83 : decode cd_G_isLoop 83 = .ok (.ireturn, 1) := by decide +kernel
theorem dc_L_at_0 : decode cd_L_at 0 = .ok (.aload_n 2, 1) := by decide +kernel
theorem dc_L_at_1 : decode cd_L_at 1 = .ok (.iconst 0, 1) := by decide +kernel
theorem dc_L_at_2 : decode cd_L_at 2 = .ok (.aload_n 0, 1) := by decide +kernel
theorem dc_L_at_3 : decode cd_L_at 3 = .ok (.iload_n 1, 1) := by decide +kernel
theorem dc_L_at_4 : decode cd_L_at 4 = .ok (.invokevirtual 59, 3) := by decide +kernel
theorem dc_L_at_7 : decode cd_L_at 7 = .ok (.i2l, 1) := by decide +kernel
theorem dc_L_at_8 : decode cd_L_at 8 = .ok (.lastore, 1) := by decide +kernel
theorem dc_L_at_9 : decode cd_L_at 9 = .ok (.goto 6, 3) := by decide +kernel
theorem dc_L_at_12 : decode cd_L_at 12 = .ok (.astore_n 3, 1) := by decide +kernel
theorem dc_L_at_13 : decode cd_L_at 13 = .ok (.iconst 1, 1) := by decide +kernel
theorem dc_L_at_14 : decode cd_L_at 14 = .ok (.ireturn, 1) := by decide +kernel
theorem dc_L_at_15 : decode cd_L_at 15 = .ok (.iconst 0, 1) := by decide +kernel
theorem dc_L_at_16 : decode cd_L_at 16 = .ok (.ireturn, 1) := by decide +kernel
theorem dc_C_at_0 : decode cd_C_at 0 = .ok (.iload_n 1, 1) := by decide +kernel
theorem dc_C_at_1 : decode cd_C_at 1 = .ok (.ifCond .lt 14, 3) := by decide +kernel
theorem dc_C_at_4 : decode cd_C_at 4 = .ok (.iload_n 1, 1) := by decide +kernel
theorem dc_C_at_5 : decode cd_C_at 5 = .ok (.aload_n 0, 1) := by decide +kernel
theorem dc_C_at_6 : decode cd_C_at 6 = .ok (.getfield 42, 3) := by decide +kernel
theorem dc_C_at_9 : decode cd_C_at 9 = .ok (.invokevirtual 164, 3) := by decide +kernel
theorem dc_C_at_12 : decode cd_C_at 12 = .ok (.if_icmp .lt 11, 3) := by decide +kernel
theorem dc_C_at_15 : decode cd_C_at 15 = .ok (.new 114, 3) := by decide +kernel
theorem dc_C_at_18 : decode cd_C_at 18 = .ok (.dup, 1) := by decide +kernel
theorem dc_C_at_19 : decode cd_C_at 19 = .ok (.invokespecial 116, 3) := by decide +kernel
theorem dc_C_at_22 : decode cd_C_at 22 = .ok (.athrow, 1) := by decide +kernel
theorem dc_C_at_23 : decode cd_C_at 23 = .ok (.aload_n 0, 1) := by decide +kernel
theorem dc_C_at_24 : decode cd_C_at 24 = .ok (.getfield 42, 3) := by decide +kernel
theorem dc_C_at_27 : decode cd_C_at 27 = .ok (.iload_n 1, 1) := by decide +kernel
theorem dc_C_at_28 : decode cd_C_at 28 = .ok (.invokevirtual 166, 3) := by decide +kernel
theorem dc_C_at_31 : decode cd_C_at 31 = .ok (.ireturn, 1) := by decide +kernel
theorem dc_T_character_0 : decode cd_T_character 0 = .ok (.aload_n 0, 1) := by decide +kernel
theorem dc_T_character_1 : decode cd_T_character 1 = .ok (.getfield 11, 3) := by decide +kernel
theorem dc_T_character_4 : decode cd_T_character 4 = .ok (.iload_n 1, 1) := by decide +kernel
theorem dc_T_character_5 : decode cd_T_character 5 = .ok (.caload, 1) := by decide +kernel
theorem dc_T_character_6 : decode cd_T_character 6 = .ok (.ireturn, 1) := by decide +kernel
theorem dc_R_init_0 : decode cd_R_init 0 = .ok (.aload_n 0, 1) := by decide +kernel
theorem dc_R_init_1 : decode cd_R_init 1 = .ok (.invokespecial 1, 3) := by decide +kernel
theorem dc_R_init_4 : decode cd_R_init 4 = .ok (.aload_n 0, 1) := by decide +kernel
theorem dc_R_init_5 : decode cd_R_init 5 = .ok (.bipush 12, 2) := by decide +kernel
theorem dc_R_init_7 : decode cd_R_init 7 = .ok (.newarray .int, 2) := by decide +kernel
theorem dc_R_init_9 : decode cd_R_init 9 = .ok (.putfield 7, 3) := by decide +kernel
theorem dc_R_init_12 : decode cd_R_init 12 = .ok (.aload_n 0, 1) := by decide +kernel
theorem dc_R_init_13 : decode cd_R_init 13 = .ok (.bipush 12, 2) := by decide +kernel
theorem dc_R_init_15 : decode cd_R_init 15 = .ok (.newarray .int, 2) := by decide +kernel
theorem dc_R_init_17 : decode cd_R_init 17 = .ok (.putfield 13, 3) := by decide +kernel
theorem dc_R_init_20 : decode cd_R_init 20 = .ok (.aload_n 0, 1) := by decide +kernel
theorem dc_R_init_21 : decode cd_R_init 21 = .ok (.bipush 8, 2) := by decide +kernel
theorem dc_R_init_23 : decode cd_R_init 23 = .ok (.newarray .int, 2) := by decide +kernel
theorem dc_R_init_25 : decode cd_R_init 25 = .ok (.putfield 16, 3) := by decide +kernel
theorem dc_R_init_28 : decode cd_R_init 28 = .ok (.aload_n 0, 1) := by decide +kernel
theorem dc_R_init_29 : decode cd_R_init 29 = .ok (.iconst 2, 1) := by decide +kernel
theorem dc_R_init_30 : decode cd_R_init 30 = .ok (.newarray .int, 2) := by decide +kernel
theorem dc_R_init_32 : decode cd_R_init 32 = .ok (.putfield 19, 3) := by decide +kernel
theorem dc_R_init_35 : decode cd_R_init 35 = .ok (.aload_n 0, 1) := by decide +kernel
theorem dc_R_init_36 : decode cd_R_init 36 = .ok (.bipush 12, 2) := by decide +kernel
theorem dc_R_init_38 : decode cd_R_init 38 = .ok (.newarray .int, 2) := by decide +kernel
theorem dc_R_init_40 : decode cd_R_init 40 = .ok (.putfield 22, 3) := by decide +kernel
theorem dc_R_init_43 : decode cd_R_init 43 = .ok (.aload_n 0, 1) := by decide +kernel
theorem dc_R_init_44 : decode cd_R_init 44 = .ok (.bipush 12, 2) := by decide +kernel
theorem dc_R_init_46 : decode cd_R_init 46 = .ok (.newarray .int, 2) := by decide +kernel
theorem dc_R_init_48 : decode cd_R_init 48 = .ok (.putfield 25, 3) := by decide +kernel
theorem dc_R_init_51 : decode cd_R_init 51 = .ok (.aload_n 0, 1) := by decide +kernel
theorem dc_R_init_52 : decode cd_R_init 52 = .ok (.bipush 12, 2) := by decide +kernel
theorem dc_R_init_54 : decode cd_R_init 54 = .ok (.newarray .int, 2) := by decide +kernel
theorem dc_R_init_56 : decode cd_R_init 56 = .ok (.putfield 28, 3) := by decide +kernel
theorem dc_R_init_59 : decode cd_R_init 59 = .ok (.aload_n 0, 1) := by decide +kernel
theorem dc_R_init_60 : decode cd_R_init 60 = .ok (.bipush 12, 2) := by decide +kernel
theorem dc_R_init_62 : decode cd_R_init 62 = .ok (.newarray .int, 2) := by decide +kernel
theorem dc_R_init_64 : decode cd_R_init 64 = .ok (.putfield 31, 3) := by decide +kernel
theorem dc_R_init_67 : decode cd_R_init 67 = .ok (.aload_n 0, 1) := by decide +kernel
theorem dc_R_init_68 : decode cd_R_init 68 = .ok (.sipush 4096, 3) := by decide +kernel
theorem dc_R_init_71 : decode cd_R_init 71 = .ok (.newarray .int, 2) := by decide +kernel
theorem dc_R_init_73 : decode cd_R_init 73 = .ok (.putfield 34, 3) := by decide +kernel
theorem dc_R_init_76 : decode cd_R_init 76 = .ok (.aload_n 0, 1) := by decide +kernel
theorem dc_R_init_77 : decode cd_R_init 77 = .ok (.sipush 4096, 3) := by decide +kernel
theorem dc_R_init_80 : decode cd_R_init 80 = .ok (.newarray .int, 2) := by decide +kernel
theorem dc_R_init_82 : decode cd_R_init 82 = .ok (.putfield 37, 3) := by decide +kernel
theorem dc_R_init_85 : decode cd_R_init 85 = .ok (.aload_n 0, 1) := by decide +kernel
theorem dc_R_init_86 : decode cd_R_init 86 = .ok (.bipush 8, 2) := by decide +kernel
theorem dc_R_init_88 : decode cd_R_init 88 = .ok (.newarray .int, 2) := by decide +kernel
theorem dc_R_init_90 : decode cd_R_init 90 = .ok (.putfield 40, 3) := by decide +kernel
theorem dc_R_init_93 : decode cd_R_init 93 = .ok (.aload_n 0, 1) := by decide +kernel
theorem dc_R_init_94 : decode cd_R_init 94 = .ok (.bipush 96, 2) := by decide +kernel
theorem dc_R_init_96 : decode cd_R_init 96 = .ok (.newarray .int, 2) := by decide +kernel
theorem dc_R_init_98 : decode cd_R_init 98 = .ok (.putfield 43, 3) := by decide +kernel
theorem dc_R_init_101 : decode cd_R_init 101 = .ok (.return_, 1) := by decide +kernel
theorem dc_R_thrown_0 : decode cd_R_thrown 0 = .ok (.aload_n 0, 1) := by decide +kernel
theorem dc_R_thrown_1 : decode cd_R_thrown 1 = .ok (.getfield 46, 3) := by decide +kernel
theorem dc_R_thrown_4 : decode cd_R_thrown 4 = .ok (.ireturn, 1) := by decide +kernel
theorem dc_R_add_0 : decode cd_R_add 0 = .ok (.aload_n 0, 1) := by decide +kernel
theorem dc_R_add_1 : decode cd_R_add 1 = .ok (.iload_n 1, 1) := by decide +kernel
theorem dc_R_add_2 : decode cd_R_add 2 = .ok (.invokestatic 56, 3) := by decide +kernel
theorem dc_R_add_5 : decode cd_R_add 5 = .ok (.ifCond .eq 19, 3) := by decide +kernel
theorem dc_R_add_8 : decode cd_R_add 8 = .ok (.iload_n 2, 1) := by decide +kernel
theorem dc_R_add_9 : decode cd_R_add 9 = .ok (.iconst (-1), 1) := by decide +kernel
theorem dc_R_add_10 : decode cd_R_add 10 = .ok (.if_icmp .lt 14, 3) := by decide +kernel
theorem dc_R_add_13 : decode cd_R_add 13 = .ok (.iload_n 2, 1) := by decide +kernel
theorem dc_R_add_14 : decode cd_R_add 14 = .ok (.bipush 7, 2) := by decide +kernel
theorem dc_R_add_16 : decode cd_R_add 16 = .ok (.if_icmp .gt 8, 3) := by decide +kernel
theorem dc_R_add_19 : decode cd_R_add 19 = .ok (.iload_n 1, 1) := by decide +kernel
theorem dc_R_add_20 : decode cd_R_add 20 = .ok (.iload_n 2, 1) := by decide +kernel
theorem dc_R_add_21 : decode cd_R_add 21 = .ok (.if_icmp .ne 7, 3) := by decide +kernel
theorem dc_R_add_24 : decode cd_R_add 24 = .ok (.iconst 1, 1) := by decide +kernel
theorem dc_R_add_25 : decode cd_R_add 25 = .ok (.goto 24, 3) := by decide +kernel
theorem dc_R_add_28 : decode cd_R_add 28 = .ok (.aload_n 0, 1) := by decide +kernel
theorem dc_R_add_29 : decode cd_R_add 29 = .ok (.getfield 60, 3) := by decide +kernel
theorem dc_R_add_32 : decode cd_R_add 32 = .ok (.ifCond .ne 12, 3) := by decide +kernel
theorem dc_R_add_35 : decode cd_R_add 35 = .ok (.aload_n 0, 1) := by decide +kernel
theorem dc_R_add_36 : decode cd_R_add 36 = .ok (.getfield 50, 3) := by decide +kernel
theorem dc_R_add_39 : decode cd_R_add 39 = .ok (.bipush 12, 2) := by decide +kernel
theorem dc_R_add_41 : decode cd_R_add 41 = .ok (.if_icmp .ne 7, 3) := by decide +kernel
theorem dc_R_add_44 : decode cd_R_add 44 = .ok (.iconst 2, 1) := by decide +kernel
theorem dc_R_add_45 : decode cd_R_add 45 = .ok (.goto 4, 3) := by decide +kernel
theorem dc_R_add_48 : decode cd_R_add 48 = .ok (.iconst 0, 1) := by decide +kernel
theorem dc_R_add_49 : decode cd_R_add 49 = .ok (.putfield 46, 3) := by decide +kernel
theorem dc_R_add_52 : decode cd_R_add 52 = .ok (.aload_n 0, 1) := by decide +kernel
theorem dc_R_add_53 : decode cd_R_add 53 = .ok (.getfield 46, 3) := by decide +kernel
theorem dc_R_add_56 : decode cd_R_add 56 = .ok (.ifCond .le 5, 3) := by decide +kernel
theorem dc_R_add_59 : decode cd_R_add 59 = .ok (.iconst 0, 1) := by decide +kernel
theorem dc_R_add_60 : decode cd_R_add 60 = .ok (.ireturn, 1) := by decide +kernel
theorem dc_R_add_61 : decode cd_R_add 61 = .ok (.aload_n 0, 1) := by decide +kernel
theorem dc_R_add_62 : decode cd_R_add 62 = .ok (.iload_n 1, 1) := by decide +kernel
theorem dc_R_add_63 : decode cd_R_add 63 = .ok (.iload_n 2, 1) := by decide +kernel
theorem dc_R_add_64 : decode cd_R_add 64 = .ok (.invokevirtual 64, 3) := by decide +kernel
theorem dc_R_add_67 : decode cd_R_add 67 = .ok (.aload_n 0, 1) := by decide +kernel
theorem dc_R_add_68 : decode cd_R_add 68 = .ok (.getfield 50, 3) := by decide +kernel
theorem dc_R_add_71 : decode cd_R_add 71 = .ok (.iconst 1, 1) := by decide +kernel
theorem dc_R_add_72 : decode cd_R_add 72 = .ok (.isub, 1) := by decide +kernel
theorem dc_R_add_73 : decode cd_R_add 73 = .ok (.ireturn, 1) := by decide +kernel
theorem dc_R_isCoin_0 : decode cd_R_isCoin 0 = .ok (.iload_n 0, 1) := by decide +kernel
theorem dc_R_isCoin_1 : decode cd_R_isCoin 1 = .ok (.ifCond .lt 13, 3) := by decide +kernel
theorem dc_R_isCoin_4 : decode cd_R_isCoin 4 = .ok (.iload_n 0, 1) := by decide +kernel
theorem dc_R_isCoin_5 : decode cd_R_isCoin 5 = .ok (.bipush 7, 2) := by decide +kernel
theorem dc_R_isCoin_7 : decode cd_R_isCoin 7 = .ok (.if_icmp .gt 7, 3) := by decide +kernel
theorem dc_R_isCoin_10 : decode cd_R_isCoin 10 = .ok (.iconst 1, 1) := by decide +kernel
theorem dc_R_isCoin_11 : decode cd_R_isCoin 11 = .ok (.goto 4, 3) := by decide +kernel
theorem dc_R_isCoin_14 : decode cd_R_isCoin 14 = .ok (.iconst 0, 1) := by decide +kernel
theorem dc_R_isCoin_15 : decode cd_R_isCoin 15 = .ok (.ireturn, 1) := by decide +kernel
theorem dc_R_hang_0 : decode cd_R_hang 0 = .ok (.aload_n 0, 1) := by decide +kernel
theorem dc_R_hang_1 : decode cd_R_hang 1 = .ok (.getfield 7, 3) := by decide +kernel
theorem dc_R_hang_4 : decode cd_R_hang 4 = .ok (.aload_n 0, 1) := by decide +kernel
theorem dc_R_hang_5 : decode cd_R_hang 5 = .ok (.getfield 50, 3) := by decide +kernel
theorem dc_R_hang_8 : decode cd_R_hang 8 = .ok (.iload_n 1, 1) := by decide +kernel
theorem dc_R_hang_9 : decode cd_R_hang 9 = .ok (.iastore, 1) := by decide +kernel
theorem dc_R_hang_10 : decode cd_R_hang 10 = .ok (.aload_n 0, 1) := by decide +kernel
theorem dc_R_hang_11 : decode cd_R_hang 11 = .ok (.getfield 13, 3) := by decide +kernel
theorem dc_R_hang_14 : decode cd_R_hang 14 = .ok (.aload_n 0, 1) := by decide +kernel
theorem dc_R_hang_15 : decode cd_R_hang 15 = .ok (.getfield 50, 3) := by decide +kernel
theorem dc_R_hang_18 : decode cd_R_hang 18 = .ok (.iload_n 2, 1) := by decide +kernel
theorem dc_R_hang_19 : decode cd_R_hang 19 = .ok (.iastore, 1) := by decide +kernel
theorem dc_R_hang_20 : decode cd_R_hang 20 = .ok (.aload_n 0, 1) := by decide +kernel
theorem dc_R_hang_21 : decode cd_R_hang 21 = .ok (.getfield 16, 3) := by decide +kernel
theorem dc_R_hang_24 : decode cd_R_hang 24 = .ok (.iload_n 1, 1) := by decide +kernel
theorem dc_R_hang_25 : decode cd_R_hang 25 = .ok (.aload_n 0, 1) := by decide +kernel
theorem dc_R_hang_26 : decode cd_R_hang 26 = .ok (.getfield 16, 3) := by decide +kernel
theorem dc_R_hang_29 : decode cd_R_hang 29 = .ok (.iload_n 1, 1) := by decide +kernel
theorem dc_R_hang_30 : decode cd_R_hang 30 = .ok (.iaload, 1) := by decide +kernel
theorem dc_R_hang_31 : decode cd_R_hang 31 = .ok (.iconst 1, 1) := by decide +kernel
theorem dc_R_hang_32 : decode cd_R_hang 32 = .ok (.aload_n 0, 1) := by decide +kernel
theorem dc_R_hang_33 : decode cd_R_hang 33 = .ok (.getfield 50, 3) := by decide +kernel
theorem dc_R_hang_36 : decode cd_R_hang 36 = .ok (.ishl, 1) := by decide +kernel
theorem dc_R_hang_37 : decode cd_R_hang 37 = .ok (.ior, 1) := by decide +kernel
theorem dc_R_hang_38 : decode cd_R_hang 38 = .ok (.iastore, 1) := by decide +kernel
theorem dc_R_hang_39 : decode cd_R_hang 39 = .ok (.iload_n 2, 1) := by decide +kernel
theorem dc_R_hang_40 : decode cd_R_hang 40 = .ok (.ifCond .lt 22, 3) := by decide +kernel
theorem dc_R_hang_43 : decode cd_R_hang 43 = .ok (.aload_n 0, 1) := by decide +kernel
theorem dc_R_hang_44 : decode cd_R_hang 44 = .ok (.getfield 16, 3) := by decide +kernel
theorem dc_R_hang_47 : decode cd_R_hang 47 = .ok (.iload_n 2, 1) := by decide +kernel
theorem dc_R_hang_48 : decode cd_R_hang 48 = .ok (.aload_n 0, 1) := by decide +kernel
theorem dc_R_hang_49 : decode cd_R_hang 49 = .ok (.getfield 16, 3) := by decide +kernel
theorem dc_R_hang_52 : decode cd_R_hang 52 = .ok (.iload_n 2, 1) := by decide +kernel
theorem dc_R_hang_53 : decode cd_R_hang 53 = .ok (.iaload, 1) := by decide +kernel
theorem dc_R_hang_54 : decode cd_R_hang 54 = .ok (.iconst 1, 1) := by decide +kernel
theorem dc_R_hang_55 : decode cd_R_hang 55 = .ok (.aload_n 0, 1) := by decide +kernel
theorem dc_R_hang_56 : decode cd_R_hang 56 = .ok (.getfield 50, 3) := by decide +kernel
theorem dc_R_hang_59 : decode cd_R_hang 59 = .ok (.ishl, 1) := by decide +kernel
theorem dc_R_hang_60 : decode cd_R_hang 60 = .ok (.ior, 1) := by decide +kernel
theorem dc_R_hang_61 : decode cd_R_hang 61 = .ok (.iastore, 1) := by decide +kernel
theorem dc_R_hang_62 : decode cd_R_hang 62 = .ok (.aload_n 0, 1) := by decide +kernel
theorem dc_R_hang_63 : decode cd_R_hang 63 = .ok (.aload_n 0, 1) := by decide +kernel
theorem dc_R_hang_64 : decode cd_R_hang 64 = .ok (.getfield 53, 3) := by decide +kernel
theorem dc_R_hang_67 : decode cd_R_hang 67 = .ok (.iconst 1, 1) := by decide +kernel
theorem dc_R_hang_68 : decode cd_R_hang 68 = .ok (.aload_n 0, 1) := by decide +kernel
theorem dc_R_hang_69 : decode cd_R_hang 69 = .ok (.getfield 50, 3) := by decide +kernel
theorem dc_R_hang_72 : decode cd_R_hang 72 = .ok (.ishl, 1) := by decide +kernel
theorem dc_R_hang_73 : decode cd_R_hang 73 = .ok (.ior, 1) := by decide +kernel
theorem dc_R_hang_74 : decode cd_R_hang 74 = .ok (.putfield 53, 3) := by decide +kernel
theorem dc_R_hang_77 : decode cd_R_hang 77 = .ok (.aload_n 0, 1) := by decide +kernel
theorem dc_R_hang_78 : decode cd_R_hang 78 = .ok (.dup, 1) := by decide +kernel
theorem dc_R_hang_79 : decode cd_R_hang 79 = .ok (.getfield 50, 3) := by decide +kernel
theorem dc_R_hang_82 : decode cd_R_hang 82 = .ok (.iconst 1, 1) := by decide +kernel
theorem dc_R_hang_83 : decode cd_R_hang 83 = .ok (.iadd, 1) := by decide +kernel
theorem dc_R_hang_84 : decode cd_R_hang 84 = .ok (.putfield 50, 3) := by decide +kernel
theorem dc_R_hang_87 : decode cd_R_hang 87 = .ok (.return_, 1) := by decide +kernel
theorem dc_R_board_0 : decode cd_R_board 0 = .ok (.iload_n 1, 1) := by decide +kernel
theorem dc_R_board_1 : decode cd_R_board 1 = .ok (.iconst 1, 1) := by decide +kernel
theorem dc_R_board_2 : decode cd_R_board 2 = .ok (.if_icmp .lt 38, 3) := by decide +kernel
theorem dc_R_board_5 : decode cd_R_board 5 = .ok (.iload_n 2, 1) := by decide +kernel
theorem dc_R_board_6 : decode cd_R_board 6 = .ok (.iconst 1, 1) := by decide +kernel
theorem dc_R_board_7 : decode cd_R_board 7 = .ok (.if_icmp .lt 33, 3) := by decide +kernel
theorem dc_R_board_10 : decode cd_R_board 10 = .ok (.iload_n 1, 1) := by decide +kernel
theorem dc_R_board_11 : decode cd_R_board 11 = .ok (.bipush 12, 2) := by decide +kernel
theorem dc_R_board_13 : decode cd_R_board 13 = .ok (.if_icmp .gt 27, 3) := by decide +kernel
theorem dc_R_board_16 : decode cd_R_board 16 = .ok (.iload_n 2, 1) := by decide +kernel
theorem dc_R_board_17 : decode cd_R_board 17 = .ok (.bipush 12, 2) := by decide +kernel
theorem dc_R_board_19 : decode cd_R_board 19 = .ok (.if_icmp .gt 21, 3) := by decide +kernel
theorem dc_R_board_22 : decode cd_R_board 22 = .ok (.iload_n 1, 1) := by decide +kernel
theorem dc_R_board_23 : decode cd_R_board 23 = .ok (.iload_n 2, 1) := by decide +kernel
theorem dc_R_board_24 : decode cd_R_board 24 = .ok (.iadd, 1) := by decide +kernel
theorem dc_R_board_25 : decode cd_R_board 25 = .ok (.iconst 2, 1) := by decide +kernel
theorem dc_R_board_26 : decode cd_R_board 26 = .ok (.iload_n 1, 1) := by decide +kernel
theorem dc_R_board_27 : decode cd_R_board 27 = .ok (.imul, 1) := by decide +kernel
theorem dc_R_board_28 : decode cd_R_board 28 = .ok (.iload_n 2, 1) := by decide +kernel
theorem dc_R_board_29 : decode cd_R_board 29 = .ok (.imul, 1) := by decide +kernel
theorem dc_R_board_30 : decode cd_R_board 30 = .ok (.iadd, 1) := by decide +kernel
theorem dc_R_board_31 : decode cd_R_board 31 = .ok (.bipush 12, 2) := by decide +kernel
theorem dc_R_board_33 : decode cd_R_board 33 = .ok (.if_icmp .gt 7, 3) := by decide +kernel
theorem dc_R_board_36 : decode cd_R_board 36 = .ok (.iconst 1, 1) := by decide +kernel
theorem dc_R_board_37 : decode cd_R_board 37 = .ok (.goto 4, 3) := by decide +kernel
theorem dc_R_board_40 : decode cd_R_board 40 = .ok (.iconst 0, 1) := by decide +kernel
theorem dc_R_board_41 : decode cd_R_board 41 = .ok (.istore_n 3, 1) := by decide +kernel
theorem dc_R_board_42 : decode cd_R_board 42 = .ok (.aload_n 0, 1) := by decide +kernel
theorem dc_R_board_43 : decode cd_R_board 43 = .ok (.iload_n 3, 1) := by decide +kernel
theorem dc_R_board_44 : decode cd_R_board 44 = .ok (.ifCond .ne 7, 3) := by decide +kernel
theorem dc_R_board_47 : decode cd_R_board 47 = .ok (.iconst 1, 1) := by decide +kernel
theorem dc_R_board_48 : decode cd_R_board 48 = .ok (.goto 22, 3) := by decide +kernel
theorem dc_R_board_51 : decode cd_R_board 51 = .ok (.aload_n 0, 1) := by decide +kernel
theorem dc_R_board_52 : decode cd_R_board 52 = .ok (.getfield 60, 3) := by decide +kernel
theorem dc_R_board_55 : decode cd_R_board 55 = .ok (.ifCond .ne 10, 3) := by decide +kernel
theorem dc_R_board_58 : decode cd_R_board 58 = .ok (.aload_n 0, 1) := by decide +kernel
theorem dc_R_board_59 : decode cd_R_board 59 = .ok (.getfield 50, 3) := by decide +kernel
theorem dc_R_board_62 : decode cd_R_board 62 = .ok (.ifCond .le 7, 3) := by decide +kernel
theorem dc_R_board_65 : decode cd_R_board 65 = .ok (.iconst 2, 1) := by decide +kernel
theorem dc_R_board_66 : decode cd_R_board 66 = .ok (.goto 4, 3) := by decide +kernel
theorem dc_R_board_69 : decode cd_R_board 69 = .ok (.iconst 0, 1) := by decide +kernel
theorem dc_R_board_70 : decode cd_R_board 70 = .ok (.putfield 46, 3) := by decide +kernel
theorem dc_R_board_73 : decode cd_R_board 73 = .ok (.aload_n 0, 1) := by decide +kernel
theorem dc_R_board_74 : decode cd_R_board 74 = .ok (.getfield 46, 3) := by decide +kernel
theorem dc_R_board_77 : decode cd_R_board 77 = .ok (.ifCond .le 5, 3) := by decide +kernel
theorem dc_R_board_80 : decode cd_R_board 80 = .ok (.iconst 0, 1) := by decide +kernel
theorem dc_R_board_81 : decode cd_R_board 81 = .ok (.ireturn, 1) := by decide +kernel
theorem dc_R_board_82 : decode cd_R_board 82 = .ok (.iconst 0, 1) := by decide +kernel
theorem dc_R_board_83 : decode cd_R_board 83 = .ok (.istore 4, 2) := by decide +kernel
theorem dc_R_board_85 : decode cd_R_board 85 = .ok (.iload 4, 2) := by decide +kernel
theorem dc_R_board_87 : decode cd_R_board 87 = .ok (.iload_n 1, 1) := by decide +kernel
theorem dc_R_board_88 : decode cd_R_board 88 = .ok (.iload_n 2, 1) := by decide +kernel
theorem dc_R_board_89 : decode cd_R_board 89 = .ok (.imul, 1) := by decide +kernel
theorem dc_R_board_90 : decode cd_R_board 90 = .ok (.if_icmp .ge 89, 3) := by decide +kernel
theorem dc_R_board_93 : decode cd_R_board 93 = .ok (.iload 4, 2) := by decide +kernel
theorem dc_R_board_95 : decode cd_R_board 95 = .ok (.iload_n 2, 1) := by decide +kernel
theorem dc_R_board_96 : decode cd_R_board 96 = .ok (.idiv, 1) := by decide +kernel
theorem dc_R_board_97 : decode cd_R_board 97 = .ok (.istore 5, 2) := by decide +kernel
theorem dc_R_board_99 : decode cd_R_board 99 = .ok (.iload 4, 2) := by decide +kernel
theorem dc_R_board_101 : decode cd_R_board 101 = .ok (.iload_n 2, 1) := by decide +kernel
theorem dc_R_board_102 : decode cd_R_board 102 = .ok (.irem, 1) := by decide +kernel
theorem dc_R_board_103 : decode cd_R_board 103 = .ok (.istore 6, 2) := by decide +kernel
theorem dc_R_board_105 : decode cd_R_board 105 = .ok (.iload 5, 2) := by decide +kernel
theorem dc_R_board_107 : decode cd_R_board 107 = .ok (.ifCond .ne 10, 3) := by decide +kernel
theorem dc_R_board_110 : decode cd_R_board 110 = .ok (.aload_n 0, 1) := by decide +kernel
theorem dc_R_board_111 : decode cd_R_board 111 = .ok (.iload 4, 2) := by decide +kernel
theorem dc_R_board_113 : decode cd_R_board 113 = .ok (.iconst (-1), 1) := by decide +kernel
theorem dc_R_board_114 : decode cd_R_board 114 = .ok (.invokevirtual 64, 3) := by decide +kernel
theorem dc_R_board_117 : decode cd_R_board 117 = .ok (.iload 6, 2) := by decide +kernel
theorem dc_R_board_119 : decode cd_R_board 119 = .ok (.ifCond .ne 10, 3) := by decide +kernel
theorem dc_R_board_122 : decode cd_R_board 122 = .ok (.aload_n 0, 1) := by decide +kernel
theorem dc_R_board_123 : decode cd_R_board 123 = .ok (.iload 4, 2) := by decide +kernel
theorem dc_R_board_125 : decode cd_R_board 125 = .ok (.iconst (-1), 1) := by decide +kernel
theorem dc_R_board_126 : decode cd_R_board 126 = .ok (.invokevirtual 64, 3) := by decide +kernel
theorem dc_R_board_129 : decode cd_R_board 129 = .ok (.aload_n 0, 1) := by decide +kernel
theorem dc_R_board_130 : decode cd_R_board 130 = .ok (.iload 4, 2) := by decide +kernel
theorem dc_R_board_132 : decode cd_R_board 132 = .ok (.iload 6, 2) := by decide +kernel
theorem dc_R_board_134 : decode cd_R_board 134 = .ok (.iconst 1, 1) := by decide +kernel
theorem dc_R_board_135 : decode cd_R_board 135 = .ok (.iadd, 1) := by decide +kernel
theorem dc_R_board_136 : decode cd_R_board 136 = .ok (.iload_n 2, 1) := by decide +kernel
theorem dc_R_board_137 : decode cd_R_board 137 = .ok (.if_icmp .ge 10, 3) := by decide +kernel
theorem dc_R_board_140 : decode cd_R_board 140 = .ok (.iload 4, 2) := by decide +kernel
theorem dc_R_board_142 : decode cd_R_board 142 = .ok (.iconst 1, 1) := by decide +kernel
theorem dc_R_board_143 : decode cd_R_board 143 = .ok (.iadd, 1) := by decide +kernel
