theorem dc_C_init_0 : decode cd_C_init 0 = .ok (.aload_n 0, 1) := by decide +kernel
theorem dc_C_init_1 : decode cd_C_init 1 = .ok (.invokespecial 3, 3) := by decide +kernel
theorem dc_C_init_4 : decode cd_C_init 4 = .ok (.aload_n 0, 1) := by decide +kernel
theorem dc_C_init_5 : decode cd_C_init 5 = .ok (.new 9, 3) := by decide +kernel
theorem dc_C_init_8 : decode cd_C_init 8 = .ok (.dup, 1) := by decide +kernel
theorem dc_C_init_9 : decode cd_C_init 9 = .ok (.invokespecial 11, 3) := by decide +kernel
theorem dc_C_init_12 : decode cd_C_init 12 = .ok (.putfield 12, 3) := by decide +kernel
theorem dc_C_init_15 : decode cd_C_init 15 = .ok (.aload_n 0, 1) := by decide +kernel
theorem dc_C_init_16 : decode cd_C_init 16 = .ok (.new 16, 3) := by decide +kernel
theorem dc_C_init_19 : decode cd_C_init 19 = .ok (.dup, 1) := by decide +kernel
theorem dc_C_init_20 : decode cd_C_init 20 = .ok (.aload_n 0, 1) := by decide +kernel
theorem dc_C_init_21 : decode cd_C_init 21 = .ok (.getfield 12, 3) := by decide +kernel
theorem dc_C_init_24 : decode cd_C_init 24 = .ok (.invokespecial 18, 3) := by decide +kernel
theorem dc_C_init_27 : decode cd_C_init 27 = .ok (.putfield 21, 3) := by decide +kernel
theorem dc_C_init_30 : decode cd_C_init 30 = .ok (.aload_n 0, 1) := by decide +kernel
theorem dc_C_init_31 : decode cd_C_init 31 = .ok (.new 25, 3) := by decide +kernel
theorem dc_C_init_34 : decode cd_C_init 34 = .ok (.dup, 1) := by decide +kernel
theorem dc_C_init_35 : decode cd_C_init 35 = .ok (.aload_n 0, 1) := by decide +kernel
theorem dc_C_init_36 : decode cd_C_init 36 = .ok (.getfield 12, 3) := by decide +kernel
theorem dc_C_init_39 : decode cd_C_init 39 = .ok (.invokespecial 27, 3) := by decide +kernel
theorem dc_C_init_42 : decode cd_C_init 42 = .ok (.putfield 28, 3) := by decide +kernel
theorem dc_C_init_45 : decode cd_C_init 45 = .ok (.aload_n 0, 1) := by decide +kernel
theorem dc_C_init_46 : decode cd_C_init 46 = .ok (.new 32, 3) := by decide +kernel
theorem dc_C_init_49 : decode cd_C_init 49 = .ok (.dup, 1) := by decide +kernel
theorem dc_C_init_50 : decode cd_C_init 50 = .ok (.aload_n 0, 1) := by decide +kernel
theorem dc_C_init_51 : decode cd_C_init 51 = .ok (.getfield 12, 3) := by decide +kernel
theorem dc_C_init_54 : decode cd_C_init 54 = .ok (.invokespecial 34, 3) := by decide +kernel
theorem dc_C_init_57 : decode cd_C_init 57 = .ok (.putfield 35, 3) := by decide +kernel
theorem dc_C_init_60 : decode cd_C_init 60 = .ok (.aload_n 0, 1) := by decide +kernel
theorem dc_C_init_61 : decode cd_C_init 61 = .ok (.new 39, 3) := by decide +kernel
theorem dc_C_init_64 : decode cd_C_init 64 = .ok (.dup, 1) := by decide +kernel
theorem dc_C_init_65 : decode cd_C_init 65 = .ok (.aload_n 0, 1) := by decide +kernel
theorem dc_C_init_66 : decode cd_C_init 66 = .ok (.getfield 12, 3) := by decide +kernel
theorem dc_C_init_69 : decode cd_C_init 69 = .ok (.invokespecial 41, 3) := by decide +kernel
theorem dc_C_init_72 : decode cd_C_init 72 = .ok (.putfield 42, 3) := by decide +kernel
theorem dc_C_init_75 : decode cd_C_init 75 = .ok (.aload_n 0, 1) := by decide +kernel
theorem dc_C_init_76 : decode cd_C_init 76 = .ok (.bipush 12, 2) := by decide +kernel
theorem dc_C_init_78 : decode cd_C_init 78 = .ok (.newarray .int, 2) := by decide +kernel
theorem dc_C_init_80 : decode cd_C_init 80 = .ok (.putfield 46, 3) := by decide +kernel
theorem dc_C_init_83 : decode cd_C_init 83 = .ok (.aload_n 0, 1) := by decide +kernel
theorem dc_C_init_84 : decode cd_C_init 84 = .ok (.bipush 12, 2) := by decide +kernel
theorem dc_C_init_86 : decode cd_C_init 86 = .ok (.newarray .int, 2) := by decide +kernel
theorem dc_C_init_88 : decode cd_C_init 88 = .ok (.putfield 50, 3) := by decide +kernel
theorem dc_C_init_91 : decode cd_C_init 91 = .ok (.aload_n 0, 1) := by decide +kernel
theorem dc_C_init_92 : decode cd_C_init 92 = .ok (.iconst 2, 1) := by decide +kernel
theorem dc_C_init_93 : decode cd_C_init 93 = .ok (.newarray .int, 2) := by decide +kernel
theorem dc_C_init_95 : decode cd_C_init 95 = .ok (.putfield 53, 3) := by decide +kernel
theorem dc_C_init_98 : decode cd_C_init 98 = .ok (.return_, 1) := by decide +kernel
theorem dc_W_init_0 : decode cd_W_init 0 = .ok (.aload_n 0, 1) := by decide +kernel
theorem dc_W_init_1 : decode cd_W_init 1 = .ok (.invokespecial 3, 3) := by decide +kernel
theorem dc_W_init_4 : decode cd_W_init 4 = .ok (.aload_n 0, 1) := by decide +kernel
theorem dc_W_init_5 : decode cd_W_init 5 = .ok (.bipush 12, 2) := by decide +kernel
theorem dc_W_init_7 : decode cd_W_init 7 = .ok (.newarray .int, 2) := by decide +kernel
theorem dc_W_init_9 : decode cd_W_init 9 = .ok (.putfield 9, 3) := by decide +kernel
theorem dc_W_init_12 : decode cd_W_init 12 = .ok (.aload_n 0, 1) := by decide +kernel
theorem dc_W_init_13 : decode cd_W_init 13 = .ok (.bipush 12, 2) := by decide +kernel
theorem dc_W_init_15 : decode cd_W_init 15 = .ok (.newarray .int, 2) := by decide +kernel
theorem dc_W_init_17 : decode cd_W_init 17 = .ok (.putfield 15, 3) := by decide +kernel
theorem dc_W_init_20 : decode cd_W_init 20 = .ok (.aload_n 0, 1) := by decide +kernel
theorem dc_W_init_21 : decode cd_W_init 21 = .ok (.bipush 8, 2) := by decide +kernel
theorem dc_W_init_23 : decode cd_W_init 23 = .ok (.newarray .int, 2) := by decide +kernel
theorem dc_W_init_25 : decode cd_W_init 25 = .ok (.putfield 18, 3) := by decide +kernel
theorem dc_W_init_28 : decode cd_W_init 28 = .ok (.return_, 1) := by decide +kernel
theorem dc_M_init_0 : decode cd_M_init 0 = .ok (.aload_n 0, 1) := by decide +kernel
theorem dc_M_init_1 : decode cd_M_init 1 = .ok (.aload_n 1, 1) := by decide +kernel
theorem dc_M_init_2 : decode cd_M_init 2 = .ok (.invokespecial 3, 3) := by decide +kernel
theorem dc_M_init_5 : decode cd_M_init 5 = .ok (.return_, 1) := by decide +kernel
theorem dc_V_init_0 : decode cd_V_init 0 = .ok (.aload_n 0, 1) := by decide +kernel
theorem dc_V_init_1 : decode cd_V_init 1 = .ok (.invokespecial 3, 3) := by decide +kernel
theorem dc_V_init_4 : decode cd_V_init 4 = .ok (.aload_n 0, 1) := by decide +kernel
theorem dc_V_init_5 : decode cd_V_init 5 = .ok (.sipush 4096, 3) := by decide +kernel
theorem dc_V_init_8 : decode cd_V_init 8 = .ok (.newarray .byte, 2) := by decide +kernel
theorem dc_V_init_10 : decode cd_V_init 10 = .ok (.putfield 9, 3) := by decide +kernel
theorem dc_V_init_13 : decode cd_V_init 13 = .ok (.aload_n 0, 1) := by decide +kernel
theorem dc_V_init_14 : decode cd_V_init 14 = .ok (.aload_n 1, 1) := by decide +kernel
theorem dc_V_init_15 : decode cd_V_init 15 = .ok (.putfield 15, 3) := by decide +kernel
theorem dc_V_init_18 : decode cd_V_init 18 = .ok (.return_, 1) := by decide +kernel
theorem dc_N_init_0 : decode cd_N_init 0 = .ok (.aload_n 0, 1) := by decide +kernel
theorem dc_N_init_1 : decode cd_N_init 1 = .ok (.aload_n 1, 1) := by decide +kernel
theorem dc_N_init_2 : decode cd_N_init 2 = .ok (.invokespecial 3, 3) := by decide +kernel
theorem dc_N_init_5 : decode cd_N_init 5 = .ok (.return_, 1) := by decide +kernel
theorem dc_G_init_0 : decode cd_G_init 0 = .ok (.aload_n 0, 1) := by decide +kernel
theorem dc_G_init_1 : decode cd_G_init 1 = .ok (.invokespecial 3, 3) := by decide +kernel
theorem dc_G_init_4 : decode cd_G_init 4 = .ok (.aload_n 0, 1) := by decide +kernel
theorem dc_G_init_5 : decode cd_G_init 5 = .ok (.bipush 8, 2) := by decide +kernel
theorem dc_G_init_7 : decode cd_G_init 7 = .ok (.newarray .int, 2) := by decide +kernel
theorem dc_G_init_9 : decode cd_G_init 9 = .ok (.putfield 9, 3) := by decide +kernel
theorem dc_G_init_12 : decode cd_G_init 12 = .ok (.aload_n 0, 1) := by decide +kernel
theorem dc_G_init_13 : decode cd_G_init 13 = .ok (.aload_n 1, 1) := by decide +kernel
theorem dc_G_init_14 : decode cd_G_init 14 = .ok (.putfield 15, 3) := by decide +kernel
theorem dc_G_init_17 : decode cd_G_init 17 = .ok (.return_, 1) := by decide +kernel
theorem dc_T_init_0 : decode cd_T_init 0 = .ok (.aload_n 0, 1) := by decide +kernel
theorem dc_T_init_1 : decode cd_T_init 1 = .ok (.invokespecial 3, 3) := by decide +kernel
theorem dc_T_init_4 : decode cd_T_init 4 = .ok (.aload_n 0, 1) := by decide +kernel
theorem dc_T_init_5 : decode cd_T_init 5 = .ok (.bipush 84, 2) := by decide +kernel
theorem dc_T_init_7 : decode cd_T_init 7 = .ok (.newarray .char, 2) := by decide +kernel
theorem dc_T_init_9 : decode cd_T_init 9 = .ok (.putfield 11, 3) := by decide +kernel
theorem dc_T_init_12 : decode cd_T_init 12 = .ok (.aload_n 0, 1) := by decide +kernel
theorem dc_T_init_13 : decode cd_T_init 13 = .ok (.aload_n 1, 1) := by decide +kernel
theorem dc_T_init_14 : decode cd_T_init 14 = .ok (.putfield 15, 3) := by decide +kernel
theorem dc_T_init_17 : decode cd_T_init 17 = .ok (.return_, 1) := by decide +kernel
theorem dc_C_clear_0 : decode cd_C_clear 0 = .ok (.aload_n 0, 1) := by decide +kernel
theorem dc_C_clear_1 : decode cd_C_clear 1 = .ok (.getfield 12, 3) := by decide +kernel
theorem dc_C_clear_4 : decode cd_C_clear 4 = .ok (.invokevirtual 96, 3) := by decide +kernel
theorem dc_C_clear_7 : decode cd_C_clear 7 = .ok (.aload_n 0, 1) := by decide +kernel
theorem dc_C_clear_8 : decode cd_C_clear 8 = .ok (.getfield 53, 3) := by decide +kernel
theorem dc_C_clear_11 : decode cd_C_clear 11 = .ok (.iconst 0, 1) := by decide +kernel
theorem dc_C_clear_12 : decode cd_C_clear 12 = .ok (.invokestatic 99, 3) := by decide +kernel
theorem dc_C_clear_15 : decode cd_C_clear 15 = .ok (.aload_n 0, 1) := by decide +kernel
theorem dc_C_clear_16 : decode cd_C_clear 16 = .ok (.iconst 0, 1) := by decide +kernel
theorem dc_C_clear_17 : decode cd_C_clear 17 = .ok (.putfield 105, 3) := by decide +kernel
theorem dc_C_clear_20 : decode cd_C_clear 20 = .ok (.aload_n 0, 1) := by decide +kernel
theorem dc_C_clear_21 : decode cd_C_clear 21 = .ok (.iconst 0, 1) := by decide +kernel
theorem dc_C_clear_22 : decode cd_C_clear 22 = .ok (.putfield 81, 3) := by decide +kernel
theorem dc_C_clear_25 : decode cd_C_clear 25 = .ok (.aload_n 0, 1) := by decide +kernel
theorem dc_C_clear_26 : decode cd_C_clear 26 = .ok (.iconst 0, 1) := by decide +kernel
theorem dc_C_clear_27 : decode cd_C_clear 27 = .ok (.putfield 108, 3) := by decide +kernel
theorem dc_C_clear_30 : decode cd_C_clear 30 = .ok (.aload_n 0, 1) := by decide +kernel
theorem dc_C_clear_31 : decode cd_C_clear 31 = .ok (.iconst 0, 1) := by decide +kernel
theorem dc_C_clear_32 : decode cd_C_clear 32 = .ok (.putfield 63, 3) := by decide +kernel
theorem dc_C_clear_35 : decode cd_C_clear 35 = .ok (.return_, 1) := by decide +kernel
theorem dc_W_dropAll_0 : decode cd_W_dropAll 0 = .ok (.aload_n 0, 1) := by decide +kernel
theorem dc_W_dropAll_1 : decode cd_W_dropAll 1 = .ok (.iconst 0, 1) := by decide +kernel
theorem dc_W_dropAll_2 : decode cd_W_dropAll 2 = .ok (.putfield 21, 3) := by decide +kernel
theorem dc_W_dropAll_5 : decode cd_W_dropAll 5 = .ok (.aload_n 0, 1) := by decide +kernel
theorem dc_W_dropAll_6 : decode cd_W_dropAll 6 = .ok (.getfield 18, 3) := by decide +kernel
theorem dc_W_dropAll_9 : decode cd_W_dropAll 9 = .ok (.iconst 0, 1) := by decide +kernel
theorem dc_W_dropAll_10 : decode cd_W_dropAll 10 = .ok (.invokestatic 25, 3) := by decide +kernel
theorem dc_W_dropAll_13 : decode cd_W_dropAll 13 = .ok (.return_, 1) := by decide +kernel
theorem dc_A_fill_0 : decode cd_A_fill 0 = .ok (.iconst 0, 1) := by decide +kernel
theorem dc_A_fill_1 : decode cd_A_fill 1 = .ok (.istore_n 2, 1) := by decide +kernel
theorem dc_A_fill_2 : decode cd_A_fill 2 = .ok (.aload_n 0, 1) := by decide +kernel
theorem dc_A_fill_3 : decode cd_A_fill 3 = .ok (.arraylength, 1) := by decide +kernel
theorem dc_A_fill_4 : decode cd_A_fill 4 = .ok (.istore_n 3, 1) := by decide +kernel
theorem dc_A_fill_5 : decode cd_A_fill 5 = .ok (.iload_n 2, 1) := by decide +kernel
theorem dc_A_fill_6 : decode cd_A_fill 6 = .ok (.iload_n 3, 1) := by decide +kernel
theorem dc_A_fill_7 : decode cd_A_fill 7 = .ok (.if_icmp .ge 13, 3) := by decide +kernel
theorem dc_A_fill_10 : decode cd_A_fill 10 = .ok (.aload_n 0, 1) := by decide +kernel
theorem dc_A_fill_11 : decode cd_A_fill 11 = .ok (.iload_n 2, 1) := by decide +kernel
theorem dc_A_fill_12 : decode cd_A_fill 12 = .ok (.iload_n 1, 1) := by decide +kernel
theorem dc_A_fill_13 : decode cd_A_fill 13 = .ok (.iastore, 1) := by decide +kernel
theorem dc_A_fill_14 : decode cd_A_fill 14 = .ok (.iinc 2 1, 3) := by decide +kernel
theorem dc_A_fill_17 : decode cd_A_fill 17 = .ok (.goto (-12), 3) := by decide +kernel
theorem dc_A_fill_20 : decode cd_A_fill 20 = .ok (.return_, 1) := by decide +kernel
theorem dc_C_turn_0 : decode cd_C_turn 0 = .ok (.aload_n 0, 1) := by decide +kernel
theorem dc_C_turn_1 : decode cd_C_turn 1 = .ok (.getfield 108, 3) := by decide +kernel
theorem dc_C_turn_4 : decode cd_C_turn 4 = .ok (.ireturn, 1) := by decide +kernel
theorem dc_C_left_0 : decode cd_C_left 0 = .ok (.aload_n 0, 1) := by decide +kernel
theorem dc_C_left_1 : decode cd_C_left 1 = .ok (.getfield 81, 3) := by decide +kernel
theorem dc_C_left_4 : decode cd_C_left 4 = .ok (.ireturn, 1) := by decide +kernel
theorem dc_C_groups_0 : decode cd_C_groups 0 = .ok (.aload_n 0, 1) := by decide +kernel
theorem dc_C_groups_1 : decode cd_C_groups 1 = .ok (.getfield 35, 3) := by decide +kernel
theorem dc_C_groups_4 : decode cd_C_groups 4 = .ok (.aload_n 0, 1) := by decide +kernel
theorem dc_C_groups_5 : decode cd_C_groups 5 = .ok (.getfield 81, 3) := by decide +kernel
theorem dc_C_groups_8 : decode cd_C_groups 8 = .ok (.invokevirtual 145, 3) := by decide +kernel
theorem dc_C_groups_11 : decode cd_C_groups 11 = .ok (.aload_n 0, 1) := by decide +kernel
theorem dc_C_groups_12 : decode cd_C_groups 12 = .ok (.getfield 35, 3) := by decide +kernel
theorem dc_C_groups_15 : decode cd_C_groups 15 = .ok (.invokevirtual 149, 3) := by decide +kernel
theorem dc_C_groups_18 : decode cd_C_groups 18 = .ok (.ireturn, 1) := by decide +kernel
theorem dc_G_sort_0 : decode cd_G_sort 0 = .ok (.iconst 0, 1) := by decide +kernel
theorem dc_G_sort_1 : decode cd_G_sort 1 = .ok (.istore_n 2, 1) := by decide +kernel
theorem dc_G_sort_2 : decode cd_G_sort 2 = .ok (.iload_n 2, 1) := by decide +kernel
theorem dc_G_sort_3 : decode cd_G_sort 3 = .ok (.bipush 8, 2) := by decide +kernel
theorem dc_G_sort_5 : decode cd_G_sort 5 = .ok (.if_icmp .ge 33, 3) := by decide +kernel
theorem dc_G_sort_8 : decode cd_G_sort 8 = .ok (.aload_n 0, 1) := by decide +kernel
theorem dc_G_sort_9 : decode cd_G_sort 9 = .ok (.getfield 9, 3) := by decide +kernel
theorem dc_G_sort_12 : decode cd_G_sort 12 = .ok (.iload_n 2, 1) := by decide +kernel
theorem dc_G_sort_13 : decode cd_G_sort 13 = .ok (.aload_n 0, 1) := by decide +kernel
theorem dc_G_sort_14 : decode cd_G_sort 14 = .ok (.getfield 15, 3) := by decide +kernel
theorem dc_G_sort_17 : decode cd_G_sort 17 = .ok (.iload_n 1, 1) := by decide +kernel
theorem dc_G_sort_18 : decode cd_G_sort 18 = .ok (.iload_n 2, 1) := by decide +kernel
theorem dc_G_sort_19 : decode cd_G_sort 19 = .ok (.invokevirtual 19, 3) := by decide +kernel
theorem dc_G_sort_22 : decode cd_G_sort 22 = .ok (.iconst 2, 1) := by decide +kernel
theorem dc_G_sort_23 : decode cd_G_sort 23 = .ok (.if_icmp .ne 7, 3) := by decide +kernel
theorem dc_G_sort_26 : decode cd_G_sort 26 = .ok (.iload_n 2, 1) := by decide +kernel
theorem dc_G_sort_27 : decode cd_G_sort 27 = .ok (.goto 4, 3) := by decide +kernel
theorem dc_G_sort_30 : decode cd_G_sort 30 = .ok (.iconst (-1), 1) := by decide +kernel
theorem dc_G_sort_31 : decode cd_G_sort 31 = .ok (.iastore, 1) := by decide +kernel
theorem dc_G_sort_32 : decode cd_G_sort 32 = .ok (.iinc 2 1, 3) := by decide +kernel
theorem dc_G_sort_35 : decode cd_G_sort 35 = .ok (.goto (-33), 3) := by decide +kernel
theorem dc_G_sort_38 : decode cd_G_sort 38 = .ok (.iconst 0, 1) := by decide +kernel
theorem dc_G_sort_39 : decode cd_G_sort 39 = .ok (.istore_n 2, 1) := by decide +kernel
theorem dc_G_sort_40 : decode cd_G_sort 40 = .ok (.iload_n 2, 1) := by decide +kernel
theorem dc_G_sort_41 : decode cd_G_sort 41 = .ok (.aload_n 0, 1) := by decide +kernel
theorem dc_G_sort_42 : decode cd_G_sort 42 = .ok (.getfield 15, 3) := by decide +kernel
theorem dc_G_sort_45 : decode cd_G_sort 45 = .ok (.invokevirtual 25, 3) := by decide +kernel
theorem dc_G_sort_48 : decode cd_G_sort 48 = .ok (.if_icmp .ge 45, 3) := by decide +kernel
theorem dc_G_sort_51 : decode cd_G_sort 51 = .ok (.iload_n 1, 1) := by decide +kernel
theorem dc_G_sort_52 : decode cd_G_sort 52 = .ok (.iload_n 2, 1) := by decide +kernel
theorem dc_G_sort_53 : decode cd_G_sort 53 = .ok (.invokestatic 29, 3) := by decide +kernel
theorem dc_G_sort_56 : decode cd_G_sort 56 = .ok (.ifCond .eq 31, 3) := by decide +kernel
theorem dc_G_sort_59 : decode cd_G_sort 59 = .ok (.aload_n 0, 1) := by decide +kernel
theorem dc_G_sort_60 : decode cd_G_sort 60 = .ok (.aload_n 0, 1) := by decide +kernel
theorem dc_G_sort_61 : decode cd_G_sort 61 = .ok (.aload_n 0, 1) := by decide +kernel
theorem dc_G_sort_62 : decode cd_G_sort 62 = .ok (.getfield 15, 3) := by decide +kernel
theorem dc_G_sort_65 : decode cd_G_sort 65 = .ok (.iload_n 2, 1) := by decide +kernel
theorem dc_G_sort_66 : decode cd_G_sort 66 = .ok (.invokevirtual 33, 3) := by decide +kernel
theorem dc_G_sort_69 : decode cd_G_sort 69 = .ok (.invokevirtual 37, 3) := by decide +kernel
theorem dc_G_sort_72 : decode cd_G_sort 72 = .ok (.aload_n 0, 1) := by decide +kernel
theorem dc_G_sort_73 : decode cd_G_sort 73 = .ok (.aload_n 0, 1) := by decide +kernel
theorem dc_G_sort_74 : decode cd_G_sort 74 = .ok (.getfield 15, 3) := by decide +kernel
theorem dc_G_sort_77 : decode cd_G_sort 77 = .ok (.iload_n 2, 1) := by decide +kernel
theorem dc_G_sort_78 : decode cd_G_sort 78 = .ok (.invokevirtual 40, 3) := by decide +kernel
theorem dc_G_sort_81 : decode cd_G_sort 81 = .ok (.invokevirtual 37, 3) := by decide +kernel
theorem dc_G_sort_84 : decode cd_G_sort 84 = .ok (.invokevirtual 43, 3) := by decide +kernel
theorem dc_G_sort_87 : decode cd_G_sort 87 = .ok (.iinc 2 1, 3) := by decide +kernel
theorem dc_G_sort_90 : decode cd_G_sort 90 = .ok (.goto (-50), 3) := by decide +kernel
theorem dc_G_sort_93 : decode cd_G_sort 93 = .ok (.return_, 1) := by decide +kernel
theorem dc_W_holding_0 : decode cd_W_holding 0 = .ok (.iload_n 1, 1) := by decide +kernel
theorem dc_W_holding_1 : decode cd_W_holding 1 = .ok (.aload_n 0, 1) := by decide +kernel
theorem dc_W_holding_2 : decode cd_W_holding 2 = .ok (.getfield 18, 3) := by decide +kernel
theorem dc_W_holding_5 : decode cd_W_holding 5 = .ok (.iload_n 2, 1) := by decide +kernel
theorem dc_W_holding_6 : decode cd_W_holding 6 = .ok (.iaload, 1) := by decide +kernel
theorem dc_W_holding_7 : decode cd_W_holding 7 = .ok (.iand, 1) := by decide +kernel
theorem dc_W_holding_8 : decode cd_W_holding 8 = .ok (.invokestatic 44, 3) := by decide +kernel
theorem dc_W_holding_11 : decode cd_W_holding 11 = .ok (.ireturn, 1) := by decide +kernel
theorem dc_I_bitCount_0 : decode cd_I_bitCount 0 = .ok (.iload_n 0, 1) := by decide +kernel
theorem dc_I_bitCount_1 : decode cd_I_bitCount 1 = .ok (.iload_n 0, 1) := by decide +kernel
theorem dc_I_bitCount_2 : decode cd_I_bitCount 2 = .ok (.iconst 1, 1) := by decide +kernel
theorem dc_I_bitCount_3 : decode cd_I_bitCount 3 = .ok (.iushr, 1) := by decide +kernel
theorem dc_I_bitCount_4 : decode cd_I_bitCount 4 = .ok (.ldc_w 265, 3) := by decide +kernel
theorem dc_I_bitCount_7 : decode cd_I_bitCount 7 = .ok (.iand, 1) := by decide +kernel
theorem dc_I_bitCount_8 : decode cd_I_bitCount 8 = .ok (.isub, 1) := by decide +kernel
theorem dc_I_bitCount_9 : decode cd_I_bitCount 9 = .ok (.istore_n 0, 1) := by decide +kernel
theorem dc_I_bitCount_10 : decode cd_I_bitCount 10 = .ok (.iload_n 0, 1) := by decide +kernel
theorem dc_I_bitCount_11 : decode cd_I_bitCount 11 = .ok (.ldc_w 266, 3) := by decide +kernel
theorem dc_I_bitCount_14 : decode cd_I_bitCount 14 = .ok (.iand, 1) := by decide +kernel
theorem dc_I_bitCount_15 : decode cd_I_bitCount 15 = .ok (.iload_n 0, 1) := by decide +kernel
theorem dc_I_bitCount_16 : decode cd_I_bitCount 16 = .ok (.iconst 2, 1) := by decide +kernel
theorem dc_I_bitCount_17 : decode cd_I_bitCount 17 = .ok (.iushr, 1) := by decide +kernel
theorem dc_I_bitCount_18 : decode cd_I_bitCount 18 = .ok (.ldc_w 266, 3) := by decide +kernel
theorem dc_I_bitCount_21 : decode cd_I_bitCount 21 = .ok (.iand, 1) := by decide +kernel
theorem dc_I_bitCount_22 : decode cd_I_bitCount 22 = .ok (.iadd, 1) := by decide +kernel
theorem dc_I_bitCount_23 : decode cd_I_bitCount 23 = .ok (.istore_n 0, 1) := by decide +kernel
theorem dc_I_bitCount_24 : decode cd_I_bitCount 24 = .ok (.iload_n 0, 1) := by decide +kernel
theorem dc_I_bitCount_25 : decode cd_I_bitCount 25 = .ok (.iload_n 0, 1) := by decide +kernel
theorem dc_I_bitCount_26 : decode cd_I_bitCount 26 = .ok (.iconst 4, 1) := by decide +kernel
theorem dc_I_bitCount_27 : decode cd_I_bitCount 27 = .ok (.iushr, 1) := by decide +kernel
theorem dc_I_bitCount_28 : decode cd_I_bitCount 28 = .ok (.iadd, 1) := by decide +kernel
theorem dc_I_bitCount_29 : decode cd_I_bitCount 29 = .ok (.ldc_w 267, 3) := by decide +kernel
theorem dc_I_bitCount_32 : decode cd_I_bitCount 32 = .ok (.iand, 1) := by decide +kernel
theorem dc_I_bitCount_33 : decode cd_I_bitCount 33 = .ok (.istore_n 0, 1) := by decide +kernel
theorem dc_I_bitCount_34 : decode cd_I_bitCount 34 = .ok (.iload_n 0, 1) := by decide +kernel
theorem dc_I_bitCount_35 : decode cd_I_bitCount 35 = .ok (.iload_n 0, 1) := by decide +kernel
theorem dc_I_bitCount_36 : decode cd_I_bitCount 36 = .ok (.bipush 8, 2) := by decide +kernel
theorem dc_I_bitCount_38 : decode cd_I_bitCount 38 = .ok (.iushr, 1) := by decide +kernel
theorem dc_I_bitCount_39 : decode cd_I_bitCount 39 = .ok (.iadd, 1) := by decide +kernel
theorem dc_I_bitCount_40 : decode cd_I_bitCount 40 = .ok (.istore_n 0, 1) := by decide +kernel
theorem dc_I_bitCount_41 : decode cd_I_bitCount 41 = .ok (.iload_n 0, 1) := by decide +kernel
theorem dc_I_bitCount_42 : decode cd_I_bitCount 42 = .ok (.iload_n 0, 1) := by decide +kernel
theorem dc_I_bitCount_43 : decode cd_I_bitCount 43 = .ok (.bipush 16, 2) := by decide +kernel
theorem dc_I_bitCount_45 : decode cd_I_bitCount 45 = .ok (.iushr, 1) := by decide +kernel
theorem dc_I_bitCount_46 : decode cd_I_bitCount 46 = .ok (.iadd, 1) := by decide +kernel
theorem dc_I_bitCount_47 : decode cd_I_bitCount 47 = .ok (.istore_n 0, 1) := by decide +kernel
theorem dc_I_bitCount_48 : decode cd_I_bitCount 48 = .ok (.iload_n 0, 1) := by decide +kernel
theorem dc_I_bitCount_49 : decode cd_I_bitCount 49 = .ok (.bipush 63, 2) := by decide +kernel
theorem dc_I_bitCount_51 : decode cd_I_bitCount 51 = .ok (.iand, 1) := by decide +kernel
theorem dc_I_bitCount_52 : decode cd_I_bitCount 52 = .ok (.ireturn, 1) := by decide +kernel
theorem dc_W_size_0 : decode cd_W_size 0 = .ok (.aload_n 0, 1) := by decide +kernel
theorem dc_W_size_1 : decode cd_W_size 1 = .ok (.getfield 21, 3) := by decide +kernel
theorem dc_W_size_4 : decode cd_W_size 4 = .ok (.ireturn, 1) := by decide +kernel
theorem dc_C_has_0 : decode cd_C_has 0 = .ok (.iload_n 0, 1) := by decide +kernel
theorem dc_C_has_1 : decode cd_C_has 1 = .ok (.iload_n 1, 1) := by decide +kernel
theorem dc_C_has_2 : decode cd_C_has 2 = .ok (.ishr, 1) := by decide +kernel
theorem dc_C_has_3 : decode cd_C_has 3 = .ok (.iconst 1, 1) := by decide +kernel
theorem dc_C_has_4 : decode cd_C_has 4 = .ok (.iand, 1) := by decide +kernel
theorem dc_C_has_5 : decode cd_C_has 5 = .ok (.iconst 1, 1) := by decide +kernel
theorem dc_C_has_6 : decode cd_C_has 6 = .ok (.if_icmp .ne 7, 3) := by decide +kernel
theorem dc_C_has_9 : decode cd_C_has 9 = .ok (.iconst 1, 1) := by decide +kernel
theorem dc_C_has_10 : decode cd_C_has 10 = .ok (.goto 4, 3) := by decide +kernel
theorem dc_C_has_13 : decode cd_C_has 13 = .ok (.iconst 0, 1) := by decide +kernel
theorem dc_C_has_14 : decode cd_C_has 14 = .ok (.ireturn, 1) := by decide +kernel
theorem dc_W_lesserEnd_0 : decode cd_W_lesserEnd 0 = .ok (.aload_n 0, 1) := by decide +kernel
theorem dc_W_lesserEnd_1 : decode cd_W_lesserEnd 1 = .ok (.getfield 9, 3) := by decide +kernel
theorem dc_W_lesserEnd_4 : decode cd_W_lesserEnd 4 = .ok (.iload_n 1, 1) := by decide +kernel
theorem dc_W_lesserEnd_5 : decode cd_W_lesserEnd 5 = .ok (.iaload, 1) := by decide +kernel
theorem dc_W_lesserEnd_6 : decode cd_W_lesserEnd 6 = .ok (.ireturn, 1) := by decide +kernel
theorem dc_G_leaderOf_0 : decode cd_G_leaderOf 0 = .ok (.iload_n 1, 1) := by decide +kernel
theorem dc_G_leaderOf_1 : decode cd_G_leaderOf 1 = .ok (.iconst (-1), 1) := by decide +kernel
theorem dc_G_leaderOf_2 : decode cd_G_leaderOf 2 = .ok (.if_icmp .ne 7, 3) := by decide +kernel
theorem dc_G_leaderOf_5 : decode cd_G_leaderOf 5 = .ok (.iconst (-1), 1) := by decide +kernel
theorem dc_G_leaderOf_6 : decode cd_G_leaderOf 6 = .ok (.goto 9, 3) := by decide +kernel
theorem dc_G_leaderOf_9 : decode cd_G_leaderOf 9 = .ok (.aload_n 0, 1) := by decide +kernel
theorem dc_G_leaderOf_10 : decode cd_G_leaderOf 10 = .ok (.getfield 9, 3) := by decide +kernel
theorem dc_G_leaderOf_13 : decode cd_G_leaderOf 13 = .ok (.iload_n 1, 1) := by decide +kernel
theorem dc_G_leaderOf_14 : decode cd_G_leaderOf 14 = .ok (.iaload, 1) := by decide +kernel
theorem dc_G_leaderOf_15 : decode cd_G_leaderOf 15 = .ok (.ireturn, 1) := by decide +kernel
theorem dc_W_otherEnd_0 : decode cd_W_otherEnd 0 = .ok (.aload_n 0, 1) := by decide +kernel
theorem dc_W_otherEnd_1 : decode cd_W_otherEnd 1 = .ok (.getfield 15, 3) := by decide +kernel
theorem dc_W_otherEnd_4 : decode cd_W_otherEnd 4 = .ok (.iload_n 1, 1) := by decide +kernel
theorem dc_W_otherEnd_5 : decode cd_W_otherEnd 5 = .ok (.iaload, 1) := by decide +kernel
theorem dc_W_otherEnd_6 : decode cd_W_otherEnd 6 = .ok (.ireturn, 1) := by decide +kernel
theorem dc_G_unite_0 : decode cd_G_unite 0 = .ok (.iload_n 1, 1) := by decide +kernel
theorem dc_G_unite_1 : decode cd_G_unite 1 = .ok (.iconst (-1), 1) := by decide +kernel
theorem dc_G_unite_2 : decode cd_G_unite 2 = .ok (.if_icmp .eq 8, 3) := by decide +kernel
theorem dc_G_unite_5 : decode cd_G_unite 5 = .ok (.iload_n 2, 1) := by decide +kernel
theorem dc_G_unite_6 : decode cd_G_unite 6 = .ok (.iconst (-1), 1) := by decide +kernel
theorem dc_G_unite_7 : decode cd_G_unite 7 = .ok (.if_icmp .ne 4, 3) := by decide +kernel
theorem dc_G_unite_10 : decode cd_G_unite 10 = .ok (.return_, 1) := by decide +kernel
theorem dc_G_unite_11 : decode cd_G_unite 11 = .ok (.iconst 0, 1) := by decide +kernel
theorem dc_G_unite_12 : decode cd_G_unite 12 = .ok (.istore_n 3, 1) := by decide +kernel
theorem dc_G_unite_13 : decode cd_G_unite 13 = .ok (.iload_n 3, 1) := by decide +kernel
theorem dc_G_unite_14 : decode cd_G_unite 14 = .ok (.bipush 8, 2) := by decide +kernel
theorem dc_G_unite_16 : decode cd_G_unite 16 = .ok (.if_icmp .ge 34, 3) := by decide +kernel
theorem dc_G_unite_19 : decode cd_G_unite 19 = .ok (.aload_n 0, 1) := by decide +kernel
theorem dc_G_unite_20 : decode cd_G_unite 20 = .ok (.getfield 9, 3) := by decide +kernel
theorem dc_G_unite_23 : decode cd_G_unite 23 = .ok (.iload_n 3, 1) := by decide +kernel
theorem dc_G_unite_24 : decode cd_G_unite 24 = .ok (.iaload, 1) := by decide +kernel
theorem dc_G_unite_25 : decode cd_G_unite 25 = .ok (.iload_n 1, 1) := by decide +kernel
theorem dc_G_unite_26 : decode cd_G_unite 26 = .ok (.iload_n 2, 1) := by decide +kernel
theorem dc_G_unite_27 : decode cd_G_unite 27 = .ok (.invokestatic 47, 3) := by decide +kernel
theorem dc_G_unite_30 : decode cd_G_unite 30 = .ok (.if_icmp .ne 14, 3) := by decide +kernel
theorem dc_G_unite_33 : decode cd_G_unite 33 = .ok (.aload_n 0, 1) := by decide +kernel
theorem dc_G_unite_34 : decode cd_G_unite 34 = .ok (.getfield 9, 3) := by decide +kernel
theorem dc_G_unite_37 : decode cd_G_unite 37 = .ok (.iload_n 3, 1) := by decide +kernel
theorem dc_G_unite_38 : decode cd_G_unite 38 = .ok (.iload_n 1, 1) := by decide +kernel
theorem dc_G_unite_39 : decode cd_G_unite 39 = .ok (.iload_n 2, 1) := by decide +kernel
theorem dc_G_unite_40 : decode cd_G_unite 40 = .ok (.invokestatic 52, 3) := by decide +kernel
theorem dc_G_unite_43 : decode cd_G_unite 43 = .ok (.iastore, 1) := by decide +kernel
theorem dc_G_unite_44 : decode cd_G_unite 44 = .ok (.iinc 3 1, 3) := by decide +kernel
theorem dc_G_unite_47 : decode cd_G_unite 47 = .ok (.goto (-34), 3) := by decide +kernel
theorem dc_G_unite_50 : decode cd_G_unite 50 = .ok (.return_, 1) := by decide +kernel
theorem dc_G_count_0 : decode cd_G_count 0 = .ok (.iconst 0, 1) := by decide +kernel
theorem dc_G_count_1 : decode cd_G_count 1 = .ok (.istore_n 1, 1) := by decide +kernel
theorem dc_G_count_2 : decode cd_G_count 2 = .ok (.iconst 0, 1) := by decide +kernel
theorem dc_G_count_3 : decode cd_G_count 3 = .ok (.istore_n 2, 1) := by decide +kernel
theorem dc_G_count_4 : decode cd_G_count 4 = .ok (.iload_n 2, 1) := by decide +kernel
theorem dc_G_count_5 : decode cd_G_count 5 = .ok (.bipush 8, 2) := by decide +kernel
theorem dc_G_count_7 : decode cd_G_count 7 = .ok (.if_icmp .ge 22, 3) := by decide +kernel
theorem dc_G_count_10 : decode cd_G_count 10 = .ok (.aload_n 0, 1) := by decide +kernel
theorem dc_G_count_11 : decode cd_G_count 11 = .ok (.getfield 9, 3) := by decide +kernel
theorem dc_G_count_14 : decode cd_G_count 14 = .ok (.iload_n 2, 1) := by decide +kernel
theorem dc_G_count_15 : decode cd_G_count 15 = .ok (.iaload, 1) := by decide +kernel
theorem dc_G_count_16 : decode cd_G_count 16 = .ok (.iload_n 2, 1) := by decide +kernel
theorem dc_G_count_17 : decode cd_G_count 17 = .ok (.if_icmp .ne 6, 3) := by decide +kernel
theorem dc_G_count_20 : decode cd_G_count 20 = .ok (.iinc 1 1, 3) := by decide +kernel
theorem dc_G_count_23 : decode cd_G_count 23 = .ok (.iinc 2 1, 3) := by decide +kernel
theorem dc_G_count_26 : decode cd_G_count 26 = .ok (.goto (-22), 3) := by decide +kernel
theorem dc_G_count_29 : decode cd_G_count 29 = .ok (.iload_n 1, 1) := by decide +kernel
theorem dc_G_count_30 : decode cd_G_count 30 = .ok (.ireturn, 1) := by decide +kernel
theorem dc_C_show_0 : decode cd_C_show 0 = .ok (.aload_n 0, 1) := by decide +kernel
theorem dc_C_show_1 : decode cd_C_show 1 = .ok (.getfield 42, 3) := by decide +kernel
theorem dc_C_show_4 : decode cd_C_show 4 = .ok (.aload_n 0, 1) := by decide +kernel
theorem dc_C_show_5 : decode cd_C_show 5 = .ok (.getfield 81, 3) := by decide +kernel
theorem dc_C_show_8 : decode cd_C_show 8 = .ok (.invokevirtual 161, 3) := by decide +kernel
theorem dc_C_show_11 : decode cd_C_show 11 = .ok (.aload_n 0, 1) := by decide +kernel
theorem dc_C_show_12 : decode cd_C_show 12 = .ok (.getfield 42, 3) := by decide +kernel
theorem dc_C_show_15 : decode cd_C_show 15 = .ok (.invokevirtual 164, 3) := by decide +kernel
theorem dc_C_show_18 : decode cd_C_show 18 = .ok (.ireturn, 1) := by decide +kernel
theorem dc_T_write_0 : decode cd_T_write 0 = .ok (.aload_n 0, 1) := by decide +kernel
theorem dc_T_write_1 : decode cd_T_write 1 = .ok (.iconst 0, 1) := by decide +kernel
theorem dc_T_write_2 : decode cd_T_write 2 = .ok (.putfield 19, 3) := by decide +kernel
theorem dc_T_write_5 : decode cd_T_write 5 = .ok (.iconst 0, 1) := by decide +kernel
theorem dc_T_write_6 : decode cd_T_write 6 = .ok (.istore_n 2, 1) := by decide +kernel
theorem dc_T_write_7 : decode cd_T_write 7 = .ok (.iload_n 2, 1) := by decide +kernel
theorem dc_T_write_8 : decode cd_T_write 8 = .ok (.aload_n 0, 1) := by decide +kernel
theorem dc_T_write_9 : decode cd_T_write 9 = .ok (.getfield 15, 3) := by decide +kernel
theorem dc_T_write_12 : decode cd_T_write 12 = .ok (.invokevirtual 23, 3) := by decide +kernel
theorem dc_T_write_15 : decode cd_T_write 15 = .ok (.if_icmp .ge 22, 3) := by decide +kernel
theorem dc_T_write_18 : decode cd_T_write 18 = .ok (.iload_n 1, 1) := by decide +kernel
theorem dc_T_write_19 : decode cd_T_write 19 = .ok (.iload_n 2, 1) := by decide +kernel
theorem dc_T_write_20 : decode cd_T_write 20 = .ok (.invokestatic 29, 3) := by decide +kernel
theorem dc_T_write_23 : decode cd_T_write 23 = .ok (.ifCond .eq 8, 3) := by decide +kernel
theorem dc_T_write_26 : decode cd_T_write 26 = .ok (.aload_n 0, 1) := by decide +kernel
theorem dc_T_write_27 : decode cd_T_write 27 = .ok (.iload_n 2, 1) := by decide +kernel
theorem dc_T_write_28 : decode cd_T_write 28 = .ok (.invokevirtual 33, 3) := by decide +kernel
theorem dc_T_write_31 : decode cd_T_write 31 = .ok (.iinc 2 1, 3) := by decide +kernel
theorem dc_T_write_34 : decode cd_T_write 34 = .ok (.goto (-27), 3) := by decide +kernel
theorem dc_T_write_37 : decode cd_T_write 37 = .ok (.return_, 1) := by decide +kernel
theorem dc_T_putString_0 : decode cd_T_putString 0 = .ok (.iload_n 1, 1) := by decide +kernel
theorem dc_T_putString_1 : decode cd_T_putString 1 = .ok (.bipush 10, 2) := by decide +kernel
theorem dc_T_putString_3 : decode cd_T_putString 3 = .ok (.if_icmp .lt 11, 3) := by decide +kernel
theorem dc_T_putString_6 : decode cd_T_putString 6 = .ok (.aload_n 0, 1) := by decide +kernel
theorem dc_T_putString_7 : decode cd_T_putString 7 = .ok (.iload_n 1, 1) := by decide +kernel
theorem dc_T_putString_8 : decode cd_T_putString 8 = .ok (.bipush 10, 2) := by decide +kernel
theorem dc_T_putString_10 : decode cd_T_putString 10 = .ok (.idiv, 1) := by decide +kernel
theorem dc_T_putString_11 : decode cd_T_putString 11 = .ok (.invokevirtual 37, 3) := by decide +kernel
theorem dc_T_putString_14 : decode cd_T_putString 14 = .ok (.aload_n 0, 1) := by decide +kernel
theorem dc_T_putString_15 : decode cd_T_putString 15 = .ok (.iload_n 1, 1) := by decide +kernel
theorem dc_T_putString_16 : decode cd_T_putString 16 = .ok (.bipush 10, 2) := by decide +kernel
theorem dc_T_putString_18 : decode cd_T_putString 18 = .ok (.irem, 1) := by decide +kernel
theorem dc_T_putString_19 : decode cd_T_putString 19 = .ok (.invokevirtual 37, 3) := by decide +kernel
theorem dc_T_putString_22 : decode cd_T_putString 22 = .ok (.aload_n 0, 1) := by decide +kernel
theorem dc_T_putString_23 : decode cd_T_putString 23 = .ok (.bipush 58, 2) := by decide +kernel
theorem dc_T_putString_25 : decode cd_T_putString 25 = .ok (.invokevirtual 40, 3) := by decide +kernel
theorem dc_T_putString_28 : decode cd_T_putString 28 = .ok (.aload_n 0, 1) := by decide +kernel
theorem dc_T_putString_29 : decode cd_T_putString 29 = .ok (.aload_n 0, 1) := by decide +kernel
theorem dc_T_putString_30 : decode cd_T_putString 30 = .ok (.getfield 15, 3) := by decide +kernel
theorem dc_T_putString_33 : decode cd_T_putString 33 = .ok (.iload_n 1, 1) := by decide +kernel
theorem dc_T_putString_34 : decode cd_T_putString 34 = .ok (.invokevirtual 44, 3) := by decide +kernel
theorem dc_T_putString_37 : decode cd_T_putString 37 = .ok (.invokevirtual 37, 3) := by decide +kernel
theorem dc_T_putString_40 : decode cd_T_putString 40 = .ok (.aload_n 0, 1) := by decide +kernel
theorem dc_T_putString_41 : decode cd_T_putString 41 = .ok (.getfield 15, 3) := by decide +kernel
theorem dc_T_putString_44 : decode cd_T_putString 44 = .ok (.iload_n 1, 1) := by decide +kernel
theorem dc_T_putString_45 : decode cd_T_putString 45 = .ok (.invokevirtual 48, 3) := by decide +kernel
theorem dc_T_putString_48 : decode cd_T_putString 48 = .ok (.iconst (-1), 1) := by decide +kernel
theorem dc_T_putString_49 : decode cd_T_putString 49 = .ok (.if_icmp .ne 12, 3) := by decide +kernel
theorem dc_T_putString_52 : decode cd_T_putString 52 = .ok (.aload_n 0, 1) := by decide +kernel
theorem dc_T_putString_53 : decode cd_T_putString 53 = .ok (.bipush 61, 2) := by decide +kernel
theorem dc_T_putString_55 : decode cd_T_putString 55 = .ok (.invokevirtual 40, 3) := by decide +kernel
theorem dc_T_putString_58 : decode cd_T_putString 58 = .ok (.goto 21, 3) := by decide +kernel
theorem dc_T_putString_61 : decode cd_T_putString 61 = .ok (.aload_n 0, 1) := by decide +kernel
theorem dc_T_putString_62 : decode cd_T_putString 62 = .ok (.bipush 45, 2) := by decide +kernel
theorem dc_T_putString_64 : decode cd_T_putString 64 = .ok (.invokevirtual 40, 3) := by decide +kernel
theorem dc_T_putString_67 : decode cd_T_putString 67 = .ok (.aload_n 0, 1) := by decide +kernel
theorem dc_T_putString_68 : decode cd_T_putString 68 = .ok (.aload_n 0, 1) := by decide +kernel
theorem dc_T_putString_69 : decode cd_T_putString 69 = .ok (.getfield 15, 3) := by decide +kernel
theorem dc_T_putString_72 : decode cd_T_putString 72 = .ok (.iload_n 1, 1) := by decide +kernel
theorem dc_T_putString_73 : decode cd_T_putString 73 = .ok (.invokevirtual 48, 3) := by decide +kernel
theorem dc_T_putString_76 : decode cd_T_putString 76 = .ok (.invokevirtual 37, 3) := by decide +kernel
theorem dc_T_putString_79 : decode cd_T_putString 79 = .ok (.aload_n 0, 1) := by decide +kernel
theorem dc_T_putString_80 : decode cd_T_putString 80 = .ok (.bipush 59, 2) := by decide +kernel
theorem dc_T_putString_82 : decode cd_T_putString 82 = .ok (.invokevirtual 40, 3) := by decide +kernel
theorem dc_T_putString_85 : decode cd_T_putString 85 = .ok (.return_, 1) := by decide +kernel
theorem dc_T_putDigit_0 : decode cd_T_putDigit 0 = .ok (.aload_n 0, 1) := by decide +kernel
theorem dc_T_putDigit_1 : decode cd_T_putDigit 1 = .ok (.bipush 48, 2) := by decide +kernel
theorem dc_T_putDigit_3 : decode cd_T_putDigit 3 = .ok (.iload_n 1, 1) := by decide +kernel
theorem dc_T_putDigit_4 : decode cd_T_putDigit 4 = .ok (.iadd, 1) := by decide +kernel
theorem dc_T_putDigit_5 : decode cd_T_putDigit 5 = .ok (.i2c, 1) := by decide +kernel
theorem dc_T_putDigit_6 : decode cd_T_putDigit 6 = .ok (.invokevirtual 40, 3) := by decide +kernel
theorem dc_T_putDigit_9 : decode cd_T_putDigit 9 = .ok (.return_, 1) := by decide +kernel
theorem dc_T_put_0 : decode cd_T_put 0 = .ok (.aload_n 0, 1) := by decide +kernel
theorem dc_T_put_1 : decode cd_T_put 1 = .ok (.getfield 11, 3) := by decide +kernel
theorem dc_T_put_4 : decode cd_T_put 4 = .ok (.aload_n 0, 1) := by decide +kernel
theorem dc_T_put_5 : decode cd_T_put 5 = .ok (.getfield 19, 3) := by decide +kernel
theorem dc_T_put_8 : decode cd_T_put 8 = .ok (.iload_n 1, 1) := by decide +kernel
theorem dc_T_put_9 : decode cd_T_put 9 = .ok (.castore, 1) := by decide +kernel
theorem dc_T_put_10 : decode cd_T_put 10 = .ok (.aload_n 0, 1) := by decide +kernel
theorem dc_T_put_11 : decode cd_T_put 11 = .ok (.dup, 1) := by decide +kernel
theorem dc_T_put_12 : decode cd_T_put 12 = .ok (.getfield 19, 3) := by decide +kernel
theorem dc_T_put_15 : decode cd_T_put 15 = .ok (.iconst 1, 1) := by decide +kernel
theorem dc_T_put_16 : decode cd_T_put 16 = .ok (.iadd, 1) := by decide +kernel
theorem dc_T_put_17 : decode cd_T_put 17 = .ok (.putfield 19, 3) := by decide +kernel
theorem dc_T_put_20 : decode cd_T_put 20 = .ok (.return_, 1) := by decide +kernel
theorem dc_T_length_0 : decode cd_T_length 0 = .ok (.aload_n 0, 1) := by decide +kernel
theorem dc_T_length_1 : decode cd_T_length 1 = .ok (.getfield 19, 3) := by decide +kernel
theorem dc_T_length_4 : decode cd_T_length 4 = .ok (.ireturn, 1) := by decide +kernel
theorem dc_L_add_0 : decode cd_L_add 0 = .ok (.aload_n 3, 1) := by decide +kernel
theorem dc_L_add_1 : decode cd_L_add 1 = .ok (.iconst 0, 1) := by decide +kernel
theorem dc_L_add_2 : decode cd_L_add 2 = .ok (.aload_n 0, 1) := by decide +kernel
theorem dc_L_add_3 : decode cd_L_add 3 = .ok (.iload_n 1, 1) := by decide +kernel
theorem dc_L_add_4 : decode cd_L_add 4 = .ok (.iload_n 2, 1) := by decide +kernel
theorem dc_L_add_5 : decode cd_L_add 5 = .ok (.invokevirtual 7, 3) := by decide +kernel
theorem dc_L_add_8 : decode cd_L_add 8 = .ok (.i2l, 1) := by decide +kernel
theorem dc_L_add_9 : decode cd_L_add 9 = .ok (.lastore, 1) := by decide +kernel
theorem dc_L_add_10 : decode cd_L_add 10 = .ok (.goto 11, 3) := by decide +kernel
theorem dc_L_add_13 : decode cd_L_add 13 = .ok (.astore 4, 2) := by decide +kernel
theorem dc_L_add_15 : decode cd_L_add 15 = .ok (.iconst 1, 1) := by decide +kernel
theorem dc_L_add_16 : decode cd_L_add 16 = .ok (.ireturn, 1) := by decide +kernel
theorem dc_L_add_17 : decode cd_L_add 17 = .ok (.astore 4, 2) := by decide +kernel
theorem dc_L_add_19 : decode cd_L_add 19 = .ok (.iconst 2, 1) := by decide +kernel
theorem dc_L_add_20 : decode cd_L_add 20 = .ok (.ireturn, 1) := by decide +kernel
theorem dc_L_add_21 : decode cd_L_add 21 = .ok (.iconst 0, 1) := by decide +kernel
theorem dc_L_add_22 : decode cd_L_add 22 = .ok (.ireturn, 1) := by decide +kernel
theorem dc_C_add_0 : decode cd_C_add 0 = .ok (.iload_n 1, 1) := by decide +kernel
theorem dc_C_add_1 : decode cd_C_add 1 = .ok (.invokestatic 56, 3) := by decide +kernel
theorem dc_C_add_4 : decode cd_C_add 4 = .ok (.ifCond .eq 20, 3) := by decide +kernel
theorem dc_C_add_7 : decode cd_C_add 7 = .ok (.iload_n 2, 1) := by decide +kernel
theorem dc_C_add_8 : decode cd_C_add 8 = .ok (.invokestatic 56, 3) := by decide +kernel
theorem dc_C_add_11 : decode cd_C_add 11 = .ok (.ifCond .ne 8, 3) := by decide +kernel
theorem dc_C_add_14 : decode cd_C_add 14 = .ok (.iload_n 2, 1) := by decide +kernel
theorem dc_C_add_15 : decode cd_C_add 15 = .ok (.iconst (-1), 1) := by decide +kernel
theorem dc_C_add_16 : decode cd_C_add 16 = .ok (.if_icmp .ne 8, 3) := by decide +kernel
theorem dc_C_add_19 : decode cd_C_add 19 = .ok (.iload_n 1, 1) := by decide +kernel
theorem dc_C_add_20 : decode cd_C_add 20 = .ok (.iload_n 2, 1) := by decide +kernel
theorem dc_C_add_21 : decode cd_C_add 21 = .ok (.if_icmp .ne 11, 3) := by decide +kernel
theorem dc_C_add_24 : decode cd_C_add 24 = .ok (.new 60, 3) := by decide +kernel
theorem dc_C_add_27 : decode cd_C_add 27 = .ok (.dup, 1) := by decide +kernel
theorem dc_C_add_28 : decode cd_C_add 28 = .ok (.invokespecial 62, 3) := by decide +kernel
theorem dc_C_add_31 : decode cd_C_add 31 = .ok (.athrow, 1) := by decide +kernel
theorem dc_C_add_32 : decode cd_C_add 32 = .ok (.aload_n 0, 1) := by decide +kernel
theorem dc_C_add_33 : decode cd_C_add 33 = .ok (.getfield 63, 3) := by decide +kernel
theorem dc_C_add_36 : decode cd_C_add 36 = .ok (.ifCond .ne 15, 3) := by decide +kernel
theorem dc_C_add_39 : decode cd_C_add 39 = .ok (.aload_n 0, 1) := by decide +kernel
theorem dc_C_add_40 : decode cd_C_add 40 = .ok (.getfield 12, 3) := by decide +kernel
theorem dc_C_add_43 : decode cd_C_add 43 = .ok (.invokevirtual 67, 3) := by decide +kernel
theorem dc_C_add_46 : decode cd_C_add 46 = .ok (.bipush 12, 2) := by decide +kernel
theorem dc_C_add_48 : decode cd_C_add 48 = .ok (.if_icmp .lt 11, 3) := by decide +kernel
theorem dc_C_add_51 : decode cd_C_add 51 = .ok (.new 71, 3) := by decide +kernel
theorem dc_C_add_54 : decode cd_C_add 54 = .ok (.dup, 1) := by decide +kernel
theorem dc_C_add_55 : decode cd_C_add 55 = .ok (.invokespecial 73, 3) := by decide +kernel
theorem dc_C_add_58 : decode cd_C_add 58 = .ok (.athrow, 1) := by decide +kernel
theorem dc_C_add_59 : decode cd_C_add 59 = .ok (.aload_n 0, 1) := by decide +kernel
theorem dc_C_add_60 : decode cd_C_add 60 = .ok (.getfield 12, 3) := by decide +kernel
theorem dc_C_add_63 : decode cd_C_add 63 = .ok (.iload_n 1, 1) := by decide +kernel
theorem dc_C_add_64 : decode cd_C_add 64 = .ok (.iload_n 2, 1) := by decide +kernel
theorem dc_C_add_65 : decode cd_C_add 65 = .ok (.invokevirtual 74, 3) := by decide +kernel
theorem dc_C_add_68 : decode cd_C_add 68 = .ok (.aload_n 0, 1) := by decide +kernel
theorem dc_C_add_69 : decode cd_C_add 69 = .ok (.aload_n 0, 1) := by decide +kernel
theorem dc_C_add_70 : decode cd_C_add 70 = .ok (.getfield 12, 3) := by decide +kernel
theorem dc_C_add_73 : decode cd_C_add 73 = .ok (.invokevirtual 78, 3) := by decide +kernel
theorem dc_C_add_76 : decode cd_C_add 76 = .ok (.putfield 81, 3) := by decide +kernel
theorem dc_C_add_79 : decode cd_C_add 79 = .ok (.aload_n 0, 1) := by decide +kernel
theorem dc_C_add_80 : decode cd_C_add 80 = .ok (.getfield 12, 3) := by decide +kernel
theorem dc_C_add_83 : decode cd_C_add 83 = .ok (.invokevirtual 67, 3) := by decide +kernel
theorem dc_C_add_86 : decode cd_C_add 86 = .ok (.iconst 1, 1) := by decide +kernel
theorem dc_C_add_87 : decode cd_C_add 87 = .ok (.isub, 1) := by decide +kernel
theorem dc_C_add_88 : decode cd_C_add 88 = .ok (.ireturn, 1) := by decide +kernel
theorem dc_C_isCoin_0 : decode cd_C_isCoin 0 = .ok (.iload_n 0, 1) := by decide +kernel
theorem dc_C_isCoin_1 : decode cd_C_isCoin 1 = .ok (.ifCond .lt 13, 3) := by decide +kernel
theorem dc_C_isCoin_4 : decode cd_C_isCoin 4 = .ok (.iload_n 0, 1) := by decide +kernel
theorem dc_C_isCoin_5 : decode cd_C_isCoin 5 = .ok (.bipush 8, 2) := by decide +kernel
theorem dc_C_isCoin_7 : decode cd_C_isCoin 7 = .ok (.if_icmp .ge 7, 3) := by decide +kernel
theorem dc_C_isCoin_10 : decode cd_C_isCoin 10 = .ok (.iconst 1, 1) := by decide +kernel
theorem dc_C_isCoin_11 : decode cd_C_isCoin 11 = .ok (.goto 4, 3) := by decide +kernel
theorem dc_C_isCoin_14 : decode cd_C_isCoin 14 = .ok (.iconst 0, 1) := by decide +kernel
theorem dc_C_isCoin_15 : decode cd_C_isCoin 15 = .ok (.ireturn, 1) := by decide +kernel
theorem dc_W_join_0 : decode cd_W_join 0 = .ok (.iconst 1, 1) := by decide +kernel
theorem dc_W_join_1 : decode cd_W_join 1 = .ok (.aload_n 0, 1) := by decide +kernel
theorem dc_W_join_2 : decode cd_W_join 2 = .ok (.getfield 21, 3) := by decide +kernel
theorem dc_W_join_5 : decode cd_W_join 5 = .ok (.ishl, 1) := by decide +kernel
theorem dc_W_join_6 : decode cd_W_join 6 = .ok (.istore_n 3, 1) := by decide +kernel
theorem dc_W_join_7 : decode cd_W_join 7 = .ok (.aload_n 0, 1) := by decide +kernel
theorem dc_W_join_8 : decode cd_W_join 8 = .ok (.getfield 18, 3) := by decide +kernel
theorem dc_W_join_11 : decode cd_W_join 11 = .ok (.iload_n 1, 1) := by decide +kernel
theorem dc_W_join_12 : decode cd_W_join 12 = .ok (.dup2, 1) := by decide +kernel
theorem dc_W_join_13 : decode cd_W_join 13 = .ok (.iaload, 1) := by decide +kernel
theorem dc_W_join_14 : decode cd_W_join 14 = .ok (.iload_n 3, 1) := by decide +kernel
theorem dc_W_join_15 : decode cd_W_join 15 = .ok (.ior, 1) := by decide +kernel
theorem dc_W_join_16 : decode cd_W_join 16 = .ok (.iastore, 1) := by decide +kernel
theorem dc_W_join_17 : decode cd_W_join 17 = .ok (.iload_n 2, 1) := by decide +kernel
theorem dc_W_join_18 : decode cd_W_join 18 = .ok (.iconst (-1), 1) := by decide +kernel
theorem dc_W_join_19 : decode cd_W_join 19 = .ok (.if_icmp .ne 26, 3) := by decide +kernel
theorem dc_W_join_22 : decode cd_W_join 22 = .ok (.aload_n 0, 1) := by decide +kernel
theorem dc_W_join_23 : decode cd_W_join 23 = .ok (.getfield 9, 3) := by decide +kernel
theorem dc_W_join_26 : decode cd_W_join 26 = .ok (.aload_n 0, 1) := by decide +kernel
theorem dc_W_join_27 : decode cd_W_join 27 = .ok (.getfield 21, 3) := by decide +kernel
theorem dc_W_join_30 : decode cd_W_join 30 = .ok (.iload_n 1, 1) := by decide +kernel
theorem dc_W_join_31 : decode cd_W_join 31 = .ok (.iastore, 1) := by decide +kernel
theorem dc_W_join_32 : decode cd_W_join 32 = .ok (.aload_n 0, 1) := by decide +kernel
theorem dc_W_join_33 : decode cd_W_join 33 = .ok (.getfield 15, 3) := by decide +kernel
theorem dc_W_join_36 : decode cd_W_join 36 = .ok (.aload_n 0, 1) := by decide +kernel
theorem dc_W_join_37 : decode cd_W_join 37 = .ok (.getfield 21, 3) := by decide +kernel
theorem dc_W_join_40 : decode cd_W_join 40 = .ok (.iconst (-1), 1) := by decide +kernel
theorem dc_W_join_41 : decode cd_W_join 41 = .ok (.iastore, 1) := by decide +kernel
theorem dc_W_join_42 : decode cd_W_join 42 = .ok (.goto 41, 3) := by decide +kernel
theorem dc_W_join_45 : decode cd_W_join 45 = .ok (.aload_n 0, 1) := by decide +kernel
theorem dc_W_join_46 : decode cd_W_join 46 = .ok (.getfield 18, 3) := by decide +kernel
theorem dc_W_join_49 : decode cd_W_join 49 = .ok (.iload_n 2, 1) := by decide +kernel
theorem dc_W_join_50 : decode cd_W_join 50 = .ok (.dup2, 1) := by decide +kernel
theorem dc_W_join_51 : decode cd_W_join 51 = .ok (.iaload, 1) := by decide +kernel
theorem dc_W_join_52 : decode cd_W_join 52 = .ok (.iload_n 3, 1) := by decide +kernel
theorem dc_W_join_53 : decode cd_W_join 53 = .ok (.ior, 1) := by decide +kernel
theorem dc_W_join_54 : decode cd_W_join 54 = .ok (.iastore, 1) := by decide +kernel
theorem dc_W_join_55 : decode cd_W_join 55 = .ok (.aload_n 0, 1) := by decide +kernel
theorem dc_W_join_56 : decode cd_W_join 56 = .ok (.getfield 9, 3) := by decide +kernel
theorem dc_W_join_59 : decode cd_W_join 59 = .ok (.aload_n 0, 1) := by decide +kernel
theorem dc_W_join_60 : decode cd_W_join 60 = .ok (.getfield 21, 3) := by decide +kernel
theorem dc_W_join_63 : decode cd_W_join 63 = .ok (.iload_n 1, 1) := by decide +kernel
theorem dc_W_join_64 : decode cd_W_join 64 = .ok (.iload_n 2, 1) := by decide +kernel
theorem dc_W_join_65 : decode cd_W_join 65 = .ok (.invokestatic 31, 3) := by decide +kernel
theorem dc_W_join_68 : decode cd_W_join 68 = .ok (.iastore, 1) := by decide +kernel
theorem dc_W_join_69 : decode cd_W_join 69 = .ok (.aload_n 0, 1) := by decide +kernel
theorem dc_W_join_70 : decode cd_W_join 70 = .ok (.getfield 15, 3) := by decide +kernel
theorem dc_W_join_73 : decode cd_W_join 73 = .ok (.aload_n 0, 1) := by decide +kernel
theorem dc_W_join_74 : decode cd_W_join 74 = .ok (.getfield 21, 3) := by decide +kernel
theorem dc_W_join_77 : decode cd_W_join 77 = .ok (.iload_n 1, 1) := by decide +kernel
theorem dc_W_join_78 : decode cd_W_join 78 = .ok (.iload_n 2, 1) := by decide +kernel
theorem dc_W_join_79 : decode cd_W_join 79 = .ok (.invokestatic 37, 3) := by decide +kernel
theorem dc_W_join_82 : decode cd_W_join 82 = .ok (.iastore, 1) := by decide +kernel
theorem dc_W_join_83 : decode cd_W_join 83 = .ok (.aload_n 0, 1) := by decide +kernel
theorem dc_W_join_84 : decode cd_W_join 84 = .ok (.dup, 1) := by decide +kernel
theorem dc_W_join_85 : decode cd_W_join 85 = .ok (.getfield 21, 3) := by decide +kernel
theorem dc_W_join_88 : decode cd_W_join 88 = .ok (.iconst 1, 1) := by decide +kernel
theorem dc_W_join_89 : decode cd_W_join 89 = .ok (.iadd, 1) := by decide +kernel
theorem dc_W_join_90 : decode cd_W_join 90 = .ok (.putfield 21, 3) := by decide +kernel
theorem dc_W_join_93 : decode cd_W_join 93 = .ok (.return_, 1) := by decide +kernel
theorem dc_W_everyString_0 : decode cd_W_everyString 0 = .ok (.iconst 1, 1) := by decide +kernel
theorem dc_W_everyString_1 : decode cd_W_everyString 1 = .ok (.aload_n 0, 1) := by decide +kernel
theorem dc_W_everyString_2 : decode cd_W_everyString 2 = .ok (.getfield 21, 3) := by decide +kernel
theorem dc_W_everyString_5 : decode cd_W_everyString 5 = .ok (.ishl, 1) := by decide +kernel
theorem dc_W_everyString_6 : decode cd_W_everyString 6 = .ok (.iconst 1, 1) := by decide +kernel
theorem dc_W_everyString_7 : decode cd_W_everyString 7 = .ok (.isub, 1) := by decide +kernel
theorem dc_W_everyString_8 : decode cd_W_everyString 8 = .ok (.ireturn, 1) := by decide +kernel
theorem dc_L_board_0 : decode cd_L_board 0 = .ok (.aload_n 3, 1) := by decide +kernel
theorem dc_L_board_1 : decode cd_L_board 1 = .ok (.iconst 0, 1) := by decide +kernel
theorem dc_L_board_2 : decode cd_L_board 2 = .ok (.aload_n 0, 1) := by decide +kernel
theorem dc_L_board_3 : decode cd_L_board 3 = .ok (.iload_n 1, 1) := by decide +kernel
theorem dc_L_board_4 : decode cd_L_board 4 = .ok (.iload_n 2, 1) := by decide +kernel
theorem dc_L_board_5 : decode cd_L_board 5 = .ok (.invokevirtual 17, 3) := by decide +kernel
theorem dc_L_board_8 : decode cd_L_board 8 = .ok (.i2l, 1) := by decide +kernel
theorem dc_L_board_9 : decode cd_L_board 9 = .ok (.lastore, 1) := by decide +kernel
theorem dc_L_board_10 : decode cd_L_board 10 = .ok (.goto 11, 3) := by decide +kernel
theorem dc_L_board_13 : decode cd_L_board 13 = .ok (.astore 4, 2) := by decide +kernel
theorem dc_L_board_15 : decode cd_L_board 15 = .ok (.iconst 1, 1) := by decide +kernel
theorem dc_L_board_16 : decode cd_L_board 16 = .ok (.ireturn, 1) := by decide +kernel
theorem dc_L_board_17 : decode cd_L_board 17 = .ok (.astore 4, 2) := by decide +kernel
theorem dc_L_board_19 : decode cd_L_board 19 = .ok (.iconst 2, 1) := by decide +kernel
theorem dc_L_board_20 : decode cd_L_board 20 = .ok (.ireturn, 1) := by decide +kernel
theorem dc_L_board_21 : decode cd_L_board 21 = .ok (.iconst 0, 1) := by decide +kernel
theorem dc_L_board_22 : decode cd_L_board 22 = .ok (.ireturn, 1) := by decide +kernel
theorem dc_C_board_0 : decode cd_C_board 0 = .ok (.iload_n 1, 1) := by decide +kernel
theorem dc_C_board_1 : decode cd_C_board 1 = .ok (.iload_n 2, 1) := by decide +kernel
theorem dc_C_board_2 : decode cd_C_board 2 = .ok (.invokestatic 85, 3) := by decide +kernel
theorem dc_C_board_5 : decode cd_C_board 5 = .ok (.ifCond .ne 11, 3) := by decide +kernel
theorem dc_C_board_8 : decode cd_C_board 8 = .ok (.new 60, 3) := by decide +kernel
theorem dc_C_board_11 : decode cd_C_board 11 = .ok (.dup, 1) := by decide +kernel
theorem dc_C_board_12 : decode cd_C_board 12 = .ok (.invokespecial 62, 3) := by decide +kernel
theorem dc_C_board_15 : decode cd_C_board 15 = .ok (.athrow, 1) := by decide +kernel
theorem dc_C_board_16 : decode cd_C_board 16 = .ok (.aload_n 0, 1) := by decide +kernel
