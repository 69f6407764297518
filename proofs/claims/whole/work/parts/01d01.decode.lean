theorem dc_C_board_17 : decode cd_C_board 17 = .ok (.getfield 63, 3) := by decide +kernel
theorem dc_C_board_20 : decode cd_C_board 20 = .ok (.ifCond .ne 13, 3) := by decide +kernel
theorem dc_C_board_23 : decode cd_C_board 23 = .ok (.aload_n 0, 1) := by decide +kernel
theorem dc_C_board_24 : decode cd_C_board 24 = .ok (.getfield 12, 3) := by decide +kernel
theorem dc_C_board_27 : decode cd_C_board 27 = .ok (.invokevirtual 67, 3) := by decide +kernel
theorem dc_C_board_30 : decode cd_C_board 30 = .ok (.ifCond .le 11, 3) := by decide +kernel
theorem dc_C_board_33 : decode cd_C_board 33 = .ok (.new 71, 3) := by decide +kernel
theorem dc_C_board_36 : decode cd_C_board 36 = .ok (.dup, 1) := by decide +kernel
theorem dc_C_board_37 : decode cd_C_board 37 = .ok (.invokespecial 73, 3) := by decide +kernel
theorem dc_C_board_40 : decode cd_C_board 40 = .ok (.athrow, 1) := by decide +kernel
theorem dc_C_board_41 : decode cd_C_board 41 = .ok (.aload_n 0, 1) := by decide +kernel
theorem dc_C_board_42 : decode cd_C_board 42 = .ok (.getfield 12, 3) := by decide +kernel
theorem dc_C_board_45 : decode cd_C_board 45 = .ok (.iload_n 1, 1) := by decide +kernel
theorem dc_C_board_46 : decode cd_C_board 46 = .ok (.iload_n 2, 1) := by decide +kernel
theorem dc_C_board_47 : decode cd_C_board 47 = .ok (.invokevirtual 89, 3) := by decide +kernel
theorem dc_C_board_50 : decode cd_C_board 50 = .ok (.aload_n 0, 1) := by decide +kernel
theorem dc_C_board_51 : decode cd_C_board 51 = .ok (.aload_n 0, 1) := by decide +kernel
theorem dc_C_board_52 : decode cd_C_board 52 = .ok (.getfield 12, 3) := by decide +kernel
theorem dc_C_board_55 : decode cd_C_board 55 = .ok (.invokevirtual 78, 3) := by decide +kernel
theorem dc_C_board_58 : decode cd_C_board 58 = .ok (.putfield 81, 3) := by decide +kernel
theorem dc_C_board_61 : decode cd_C_board 61 = .ok (.aload_n 0, 1) := by decide +kernel
theorem dc_C_board_62 : decode cd_C_board 62 = .ok (.getfield 12, 3) := by decide +kernel
theorem dc_C_board_65 : decode cd_C_board 65 = .ok (.invokevirtual 67, 3) := by decide +kernel
theorem dc_C_board_68 : decode cd_C_board 68 = .ok (.ireturn, 1) := by decide +kernel
theorem dc_C_isBoard_0 : decode cd_C_isBoard 0 = .ok (.iload_n 0, 1) := by decide +kernel
theorem dc_C_isBoard_1 : decode cd_C_isBoard 1 = .ok (.iconst 1, 1) := by decide +kernel
theorem dc_C_isBoard_2 : decode cd_C_isBoard 2 = .ok (.if_icmp .lt 20, 3) := by decide +kernel
theorem dc_C_isBoard_5 : decode cd_C_isBoard 5 = .ok (.iload_n 1, 1) := by decide +kernel
theorem dc_C_isBoard_6 : decode cd_C_isBoard 6 = .ok (.iconst 1, 1) := by decide +kernel
theorem dc_C_isBoard_7 : decode cd_C_isBoard 7 = .ok (.if_icmp .lt 15, 3) := by decide +kernel
theorem dc_C_isBoard_10 : decode cd_C_isBoard 10 = .ok (.iload_n 0, 1) := by decide +kernel
theorem dc_C_isBoard_11 : decode cd_C_isBoard 11 = .ok (.bipush 12, 2) := by decide +kernel
theorem dc_C_isBoard_13 : decode cd_C_isBoard 13 = .ok (.if_icmp .gt 9, 3) := by decide +kernel
theorem dc_C_isBoard_16 : decode cd_C_isBoard 16 = .ok (.iload_n 1, 1) := by decide +kernel
theorem dc_C_isBoard_17 : decode cd_C_isBoard 17 = .ok (.bipush 12, 2) := by decide +kernel
theorem dc_C_isBoard_19 : decode cd_C_isBoard 19 = .ok (.if_icmp .le 5, 3) := by decide +kernel
theorem dc_C_isBoard_22 : decode cd_C_isBoard 22 = .ok (.iconst 0, 1) := by decide +kernel
theorem dc_C_isBoard_23 : decode cd_C_isBoard 23 = .ok (.ireturn, 1) := by decide +kernel
theorem dc_C_isBoard_24 : decode cd_C_isBoard 24 = .ok (.iload_n 0, 1) := by decide +kernel
theorem dc_C_isBoard_25 : decode cd_C_isBoard 25 = .ok (.iload_n 1, 1) := by decide +kernel
theorem dc_C_isBoard_26 : decode cd_C_isBoard 26 = .ok (.iconst 1, 1) := by decide +kernel
theorem dc_C_isBoard_27 : decode cd_C_isBoard 27 = .ok (.iadd, 1) := by decide +kernel
theorem dc_C_isBoard_28 : decode cd_C_isBoard 28 = .ok (.imul, 1) := by decide +kernel
theorem dc_C_isBoard_29 : decode cd_C_isBoard 29 = .ok (.iload_n 1, 1) := by decide +kernel
theorem dc_C_isBoard_30 : decode cd_C_isBoard 30 = .ok (.iload_n 0, 1) := by decide +kernel
theorem dc_C_isBoard_31 : decode cd_C_isBoard 31 = .ok (.iconst 1, 1) := by decide +kernel
theorem dc_C_isBoard_32 : decode cd_C_isBoard 32 = .ok (.iadd, 1) := by decide +kernel
theorem dc_C_isBoard_33 : decode cd_C_isBoard 33 = .ok (.imul, 1) := by decide +kernel
theorem dc_C_isBoard_34 : decode cd_C_isBoard 34 = .ok (.iadd, 1) := by decide +kernel
theorem dc_C_isBoard_35 : decode cd_C_isBoard 35 = .ok (.bipush 12, 2) := by decide +kernel
theorem dc_C_isBoard_37 : decode cd_C_isBoard 37 = .ok (.if_icmp .gt 7, 3) := by decide +kernel
theorem dc_C_isBoard_40 : decode cd_C_isBoard 40 = .ok (.iconst 1, 1) := by decide +kernel
theorem dc_C_isBoard_41 : decode cd_C_isBoard 41 = .ok (.goto 4, 3) := by decide +kernel
theorem dc_C_isBoard_44 : decode cd_C_isBoard 44 = .ok (.iconst 0, 1) := by decide +kernel
theorem dc_C_isBoard_45 : decode cd_C_isBoard 45 = .ok (.ireturn, 1) := by decide +kernel
theorem dc_W_joinBoard_0 : decode cd_W_joinBoard 0 = .ok (.iconst 0, 1) := by decide +kernel
theorem dc_W_joinBoard_1 : decode cd_W_joinBoard 1 = .ok (.istore_n 3, 1) := by decide +kernel
theorem dc_W_joinBoard_2 : decode cd_W_joinBoard 2 = .ok (.iload_n 3, 1) := by decide +kernel
theorem dc_W_joinBoard_3 : decode cd_W_joinBoard 3 = .ok (.iload_n 1, 1) := by decide +kernel
theorem dc_W_joinBoard_4 : decode cd_W_joinBoard 4 = .ok (.if_icmp .ge 98, 3) := by decide +kernel
theorem dc_W_joinBoard_7 : decode cd_W_joinBoard 7 = .ok (.iconst 0, 1) := by decide +kernel
theorem dc_W_joinBoard_8 : decode cd_W_joinBoard 8 = .ok (.istore 4, 2) := by decide +kernel
theorem dc_W_joinBoard_10 : decode cd_W_joinBoard 10 = .ok (.iload 4, 2) := by decide +kernel
theorem dc_W_joinBoard_12 : decode cd_W_joinBoard 12 = .ok (.iload_n 2, 1) := by decide +kernel
theorem dc_W_joinBoard_13 : decode cd_W_joinBoard 13 = .ok (.if_icmp .ge 83, 3) := by decide +kernel
theorem dc_W_joinBoard_16 : decode cd_W_joinBoard 16 = .ok (.iload_n 3, 1) := by decide +kernel
theorem dc_W_joinBoard_17 : decode cd_W_joinBoard 17 = .ok (.iload_n 2, 1) := by decide +kernel
theorem dc_W_joinBoard_18 : decode cd_W_joinBoard 18 = .ok (.imul, 1) := by decide +kernel
theorem dc_W_joinBoard_19 : decode cd_W_joinBoard 19 = .ok (.iload 4, 2) := by decide +kernel
theorem dc_W_joinBoard_21 : decode cd_W_joinBoard 21 = .ok (.iadd, 1) := by decide +kernel
theorem dc_W_joinBoard_22 : decode cd_W_joinBoard 22 = .ok (.istore 5, 2) := by decide +kernel
theorem dc_W_joinBoard_24 : decode cd_W_joinBoard 24 = .ok (.iload_n 3, 1) := by decide +kernel
theorem dc_W_joinBoard_25 : decode cd_W_joinBoard 25 = .ok (.ifCond .ne 10, 3) := by decide +kernel
theorem dc_W_joinBoard_28 : decode cd_W_joinBoard 28 = .ok (.aload_n 0, 1) := by decide +kernel
theorem dc_W_joinBoard_29 : decode cd_W_joinBoard 29 = .ok (.iload 5, 2) := by decide +kernel
theorem dc_W_joinBoard_31 : decode cd_W_joinBoard 31 = .ok (.iconst (-1), 1) := by decide +kernel
theorem dc_W_joinBoard_32 : decode cd_W_joinBoard 32 = .ok (.invokevirtual 40, 3) := by decide +kernel
theorem dc_W_joinBoard_35 : decode cd_W_joinBoard 35 = .ok (.iload 4, 2) := by decide +kernel
theorem dc_W_joinBoard_37 : decode cd_W_joinBoard 37 = .ok (.ifCond .ne 10, 3) := by decide +kernel
theorem dc_W_joinBoard_40 : decode cd_W_joinBoard 40 = .ok (.aload_n 0, 1) := by decide +kernel
theorem dc_W_joinBoard_41 : decode cd_W_joinBoard 41 = .ok (.iload 5, 2) := by decide +kernel
theorem dc_W_joinBoard_43 : decode cd_W_joinBoard 43 = .ok (.iconst (-1), 1) := by decide +kernel
theorem dc_W_joinBoard_44 : decode cd_W_joinBoard 44 = .ok (.invokevirtual 40, 3) := by decide +kernel
theorem dc_W_joinBoard_47 : decode cd_W_joinBoard 47 = .ok (.aload_n 0, 1) := by decide +kernel
theorem dc_W_joinBoard_48 : decode cd_W_joinBoard 48 = .ok (.iload 5, 2) := by decide +kernel
theorem dc_W_joinBoard_50 : decode cd_W_joinBoard 50 = .ok (.iload 4, 2) := by decide +kernel
theorem dc_W_joinBoard_52 : decode cd_W_joinBoard 52 = .ok (.iload_n 2, 1) := by decide +kernel
theorem dc_W_joinBoard_53 : decode cd_W_joinBoard 53 = .ok (.iconst 1, 1) := by decide +kernel
theorem dc_W_joinBoard_54 : decode cd_W_joinBoard 54 = .ok (.isub, 1) := by decide +kernel
theorem dc_W_joinBoard_55 : decode cd_W_joinBoard 55 = .ok (.if_icmp .ne 7, 3) := by decide +kernel
theorem dc_W_joinBoard_58 : decode cd_W_joinBoard 58 = .ok (.iconst (-1), 1) := by decide +kernel
theorem dc_W_joinBoard_59 : decode cd_W_joinBoard 59 = .ok (.goto 7, 3) := by decide +kernel
theorem dc_W_joinBoard_62 : decode cd_W_joinBoard 62 = .ok (.iload 5, 2) := by decide +kernel
theorem dc_W_joinBoard_64 : decode cd_W_joinBoard 64 = .ok (.iconst 1, 1) := by decide +kernel
theorem dc_W_joinBoard_65 : decode cd_W_joinBoard 65 = .ok (.iadd, 1) := by decide +kernel
theorem dc_W_joinBoard_66 : decode cd_W_joinBoard 66 = .ok (.invokevirtual 40, 3) := by decide +kernel
theorem dc_W_joinBoard_69 : decode cd_W_joinBoard 69 = .ok (.aload_n 0, 1) := by decide +kernel
theorem dc_W_joinBoard_70 : decode cd_W_joinBoard 70 = .ok (.iload 5, 2) := by decide +kernel
theorem dc_W_joinBoard_72 : decode cd_W_joinBoard 72 = .ok (.iload_n 3, 1) := by decide +kernel
theorem dc_W_joinBoard_73 : decode cd_W_joinBoard 73 = .ok (.iload_n 1, 1) := by decide +kernel
theorem dc_W_joinBoard_74 : decode cd_W_joinBoard 74 = .ok (.iconst 1, 1) := by decide +kernel
theorem dc_W_joinBoard_75 : decode cd_W_joinBoard 75 = .ok (.isub, 1) := by decide +kernel
theorem dc_W_joinBoard_76 : decode cd_W_joinBoard 76 = .ok (.if_icmp .ne 7, 3) := by decide +kernel
theorem dc_W_joinBoard_79 : decode cd_W_joinBoard 79 = .ok (.iconst (-1), 1) := by decide +kernel
theorem dc_W_joinBoard_80 : decode cd_W_joinBoard 80 = .ok (.goto 7, 3) := by decide +kernel
theorem dc_W_joinBoard_83 : decode cd_W_joinBoard 83 = .ok (.iload 5, 2) := by decide +kernel
theorem dc_W_joinBoard_85 : decode cd_W_joinBoard 85 = .ok (.iload_n 2, 1) := by decide +kernel
theorem dc_W_joinBoard_86 : decode cd_W_joinBoard 86 = .ok (.iadd, 1) := by decide +kernel
theorem dc_W_joinBoard_87 : decode cd_W_joinBoard 87 = .ok (.invokevirtual 40, 3) := by decide +kernel
theorem dc_W_joinBoard_90 : decode cd_W_joinBoard 90 = .ok (.iinc 4 1, 3) := by decide +kernel
theorem dc_W_joinBoard_93 : decode cd_W_joinBoard 93 = .ok (.goto (-83), 3) := by decide +kernel
theorem dc_W_joinBoard_96 : decode cd_W_joinBoard 96 = .ok (.iinc 3 1, 3) := by decide +kernel
theorem dc_W_joinBoard_99 : decode cd_W_joinBoard 99 = .ok (.goto (-97), 3) := by decide +kernel
theorem dc_W_joinBoard_102 : decode cd_W_joinBoard 102 = .ok (.return_, 1) := by decide +kernel
theorem dc_L_begin_0 : decode cd_L_begin 0 = .ok (.aload_n 0, 1) := by decide +kernel
theorem dc_L_begin_1 : decode cd_L_begin 1 = .ok (.invokevirtual 20, 3) := by decide +kernel
theorem dc_L_begin_4 : decode cd_L_begin 4 = .ok (.goto 6, 3) := by decide +kernel
theorem dc_L_begin_7 : decode cd_L_begin 7 = .ok (.astore_n 1, 1) := by decide +kernel
theorem dc_L_begin_8 : decode cd_L_begin 8 = .ok (.iconst 1, 1) := by decide +kernel
theorem dc_L_begin_9 : decode cd_L_begin 9 = .ok (.ireturn, 1) := by decide +kernel
theorem dc_L_begin_10 : decode cd_L_begin 10 = .ok (.iconst 0, 1) := by decide +kernel
theorem dc_L_begin_11 : decode cd_L_begin 11 = .ok (.ireturn, 1) := by decide +kernel
theorem dc_C_begin_0 : decode cd_C_begin 0 = .ok (.aload_n 0, 1) := by decide +kernel
theorem dc_C_begin_1 : decode cd_C_begin 1 = .ok (.getfield 63, 3) := by decide +kernel
theorem dc_C_begin_4 : decode cd_C_begin 4 = .ok (.ifCond .ne 13, 3) := by decide +kernel
theorem dc_C_begin_7 : decode cd_C_begin 7 = .ok (.aload_n 0, 1) := by decide +kernel
theorem dc_C_begin_8 : decode cd_C_begin 8 = .ok (.getfield 12, 3) := by decide +kernel
theorem dc_C_begin_11 : decode cd_C_begin 11 = .ok (.invokevirtual 67, 3) := by decide +kernel
theorem dc_C_begin_14 : decode cd_C_begin 14 = .ok (.ifCond .ne 11, 3) := by decide +kernel
theorem dc_C_begin_17 : decode cd_C_begin 17 = .ok (.new 71, 3) := by decide +kernel
theorem dc_C_begin_20 : decode cd_C_begin 20 = .ok (.dup, 1) := by decide +kernel
theorem dc_C_begin_21 : decode cd_C_begin 21 = .ok (.invokespecial 73, 3) := by decide +kernel
theorem dc_C_begin_24 : decode cd_C_begin 24 = .ok (.athrow, 1) := by decide +kernel
theorem dc_C_begin_25 : decode cd_C_begin 25 = .ok (.aload_n 0, 1) := by decide +kernel
theorem dc_C_begin_26 : decode cd_C_begin 26 = .ok (.iconst 1, 1) := by decide +kernel
theorem dc_C_begin_27 : decode cd_C_begin 27 = .ok (.putfield 63, 3) := by decide +kernel
theorem dc_C_begin_30 : decode cd_C_begin 30 = .ok (.aload_n 0, 1) := by decide +kernel
theorem dc_C_begin_31 : decode cd_C_begin 31 = .ok (.getfield 21, 3) := by decide +kernel
theorem dc_C_begin_34 : decode cd_C_begin 34 = .ok (.invokevirtual 92, 3) := by decide +kernel
theorem dc_C_begin_37 : decode cd_C_begin 37 = .ok (.aload_n 0, 1) := by decide +kernel
theorem dc_C_begin_38 : decode cd_C_begin 38 = .ok (.getfield 28, 3) := by decide +kernel
theorem dc_C_begin_41 : decode cd_C_begin 41 = .ok (.invokevirtual 95, 3) := by decide +kernel
theorem dc_C_begin_44 : decode cd_C_begin 44 = .ok (.return_, 1) := by decide +kernel
theorem dc_V_forget_0 : decode cd_V_forget 0 = .ok (.aload_n 0, 1) := by decide +kernel
theorem dc_V_forget_1 : decode cd_V_forget 1 = .ok (.iconst 0, 1) := by decide +kernel
theorem dc_V_forget_2 : decode cd_V_forget 2 = .ok (.putfield 19, 3) := by decide +kernel
theorem dc_V_forget_5 : decode cd_V_forget 5 = .ok (.return_, 1) := by decide +kernel
theorem dc_L_cut_0 : decode cd_L_cut 0 = .ok (.aload_n 2, 1) := by decide +kernel
theorem dc_L_cut_1 : decode cd_L_cut 1 = .ok (.iconst 0, 1) := by decide +kernel
theorem dc_L_cut_2 : decode cd_L_cut 2 = .ok (.aload_n 0, 1) := by decide +kernel
theorem dc_L_cut_3 : decode cd_L_cut 3 = .ok (.iload_n 1, 1) := by decide +kernel
theorem dc_L_cut_4 : decode cd_L_cut 4 = .ok (.invokevirtual 23, 3) := by decide +kernel
theorem dc_L_cut_7 : decode cd_L_cut 7 = .ok (.i2l, 1) := by decide +kernel
theorem dc_L_cut_8 : decode cd_L_cut 8 = .ok (.lastore, 1) := by decide +kernel
theorem dc_L_cut_9 : decode cd_L_cut 9 = .ok (.goto 12, 3) := by decide +kernel
theorem dc_L_cut_12 : decode cd_L_cut 12 = .ok (.astore_n 3, 1) := by decide +kernel
theorem dc_L_cut_13 : decode cd_L_cut 13 = .ok (.iconst 1, 1) := by decide +kernel
theorem dc_L_cut_14 : decode cd_L_cut 14 = .ok (.ireturn, 1) := by decide +kernel
theorem dc_L_cut_15 : decode cd_L_cut 15 = .ok (.astore_n 3, 1) := by decide +kernel
theorem dc_L_cut_16 : decode cd_L_cut 16 = .ok (.iconst 2, 1) := by decide +kernel
theorem dc_L_cut_17 : decode cd_L_cut 17 = .ok (.ireturn, 1) := by decide +kernel
theorem dc_L_cut_18 : decode cd_L_cut 18 = .ok (.astore_n 3, 1) := by decide +kernel
theorem dc_L_cut_19 : decode cd_L_cut 19 = .ok (.iconst 3, 1) := by decide +kernel
theorem dc_L_cut_20 : decode cd_L_cut 20 = .ok (.ireturn, 1) := by decide +kernel
theorem dc_L_cut_21 : decode cd_L_cut 21 = .ok (.iconst 0, 1) := by decide +kernel
theorem dc_L_cut_22 : decode cd_L_cut 22 = .ok (.ireturn, 1) := by decide +kernel
theorem dc_C_cut_0 : decode cd_C_cut 0 = .ok (.aload_n 0, 1) := by decide +kernel
theorem dc_C_cut_1 : decode cd_C_cut 1 = .ok (.invokevirtual 111, 3) := by decide +kernel
theorem dc_C_cut_4 : decode cd_C_cut 4 = .ok (.iload_n 1, 1) := by decide +kernel
theorem dc_C_cut_5 : decode cd_C_cut 5 = .ok (.ifCond .lt 14, 3) := by decide +kernel
theorem dc_C_cut_8 : decode cd_C_cut 8 = .ok (.iload_n 1, 1) := by decide +kernel
theorem dc_C_cut_9 : decode cd_C_cut 9 = .ok (.aload_n 0, 1) := by decide +kernel
theorem dc_C_cut_10 : decode cd_C_cut 10 = .ok (.getfield 12, 3) := by decide +kernel
theorem dc_C_cut_13 : decode cd_C_cut 13 = .ok (.invokevirtual 67, 3) := by decide +kernel
theorem dc_C_cut_16 : decode cd_C_cut 16 = .ok (.if_icmp .lt 11, 3) := by decide +kernel
theorem dc_C_cut_19 : decode cd_C_cut 19 = .ok (.new 114, 3) := by decide +kernel
theorem dc_C_cut_22 : decode cd_C_cut 22 = .ok (.dup, 1) := by decide +kernel
theorem dc_C_cut_23 : decode cd_C_cut 23 = .ok (.invokespecial 116, 3) := by decide +kernel
theorem dc_C_cut_26 : decode cd_C_cut 26 = .ok (.athrow, 1) := by decide +kernel
theorem dc_C_cut_27 : decode cd_C_cut 27 = .ok (.aload_n 0, 1) := by decide +kernel
theorem dc_C_cut_28 : decode cd_C_cut 28 = .ok (.getfield 81, 3) := by decide +kernel
theorem dc_C_cut_31 : decode cd_C_cut 31 = .ok (.iload_n 1, 1) := by decide +kernel
theorem dc_C_cut_32 : decode cd_C_cut 32 = .ok (.invokestatic 117, 3) := by decide +kernel
theorem dc_C_cut_35 : decode cd_C_cut 35 = .ok (.ifCond .ne 11, 3) := by decide +kernel
theorem dc_C_cut_38 : decode cd_C_cut 38 = .ok (.new 120, 3) := by decide +kernel
theorem dc_C_cut_41 : decode cd_C_cut 41 = .ok (.dup, 1) := by decide +kernel
theorem dc_C_cut_42 : decode cd_C_cut 42 = .ok (.invokespecial 122, 3) := by decide +kernel
theorem dc_C_cut_45 : decode cd_C_cut 45 = .ok (.athrow, 1) := by decide +kernel
theorem dc_C_cut_46 : decode cd_C_cut 46 = .ok (.aload_n 0, 1) := by decide +kernel
theorem dc_C_cut_47 : decode cd_C_cut 47 = .ok (.iload_n 1, 1) := by decide +kernel
theorem dc_C_cut_48 : decode cd_C_cut 48 = .ok (.invokevirtual 123, 3) := by decide +kernel
theorem dc_C_cut_51 : decode cd_C_cut 51 = .ok (.ireturn, 1) := by decide +kernel
theorem dc_C_requireBegun_0 : decode cd_C_requireBegun 0 = .ok (.aload_n 0, 1) := by decide +kernel
theorem dc_C_requireBegun_1 : decode cd_C_requireBegun 1 = .ok (.getfield 63, 3) := by decide +kernel
theorem dc_C_requireBegun_4 : decode cd_C_requireBegun 4 = .ok (.ifCond .ne 11, 3) := by decide +kernel
theorem dc_C_requireBegun_7 : decode cd_C_requireBegun 7 = .ok (.new 71, 3) := by decide +kernel
theorem dc_C_requireBegun_10 : decode cd_C_requireBegun 10 = .ok (.dup, 1) := by decide +kernel
theorem dc_C_requireBegun_11 : decode cd_C_requireBegun 11 = .ok (.invokespecial 73, 3) := by decide +kernel
theorem dc_C_requireBegun_14 : decode cd_C_requireBegun 14 = .ok (.athrow, 1) := by decide +kernel
theorem dc_C_requireBegun_15 : decode cd_C_requireBegun 15 = .ok (.return_, 1) := by decide +kernel
theorem dc_C_sever_0 : decode cd_C_sever 0 = .ok (.aload_n 0, 1) := by decide +kernel
theorem dc_C_sever_1 : decode cd_C_sever 1 = .ok (.getfield 12, 3) := by decide +kernel
theorem dc_C_sever_4 : decode cd_C_sever 4 = .ok (.aload_n 0, 1) := by decide +kernel
theorem dc_C_sever_5 : decode cd_C_sever 5 = .ok (.getfield 81, 3) := by decide +kernel
theorem dc_C_sever_8 : decode cd_C_sever 8 = .ok (.iload_n 1, 1) := by decide +kernel
theorem dc_C_sever_9 : decode cd_C_sever 9 = .ok (.invokevirtual 127, 3) := by decide +kernel
theorem dc_C_sever_12 : decode cd_C_sever 12 = .ok (.istore_n 2, 1) := by decide +kernel
theorem dc_C_sever_13 : decode cd_C_sever 13 = .ok (.aload_n 0, 1) := by decide +kernel
theorem dc_C_sever_14 : decode cd_C_sever 14 = .ok (.getfield 46, 3) := by decide +kernel
theorem dc_C_sever_17 : decode cd_C_sever 17 = .ok (.aload_n 0, 1) := by decide +kernel
theorem dc_C_sever_18 : decode cd_C_sever 18 = .ok (.getfield 105, 3) := by decide +kernel
theorem dc_C_sever_21 : decode cd_C_sever 21 = .ok (.iload_n 1, 1) := by decide +kernel
theorem dc_C_sever_22 : decode cd_C_sever 22 = .ok (.iastore, 1) := by decide +kernel
theorem dc_C_sever_23 : decode cd_C_sever 23 = .ok (.aload_n 0, 1) := by decide +kernel
theorem dc_C_sever_24 : decode cd_C_sever 24 = .ok (.getfield 50, 3) := by decide +kernel
theorem dc_C_sever_27 : decode cd_C_sever 27 = .ok (.aload_n 0, 1) := by decide +kernel
theorem dc_C_sever_28 : decode cd_C_sever 28 = .ok (.getfield 105, 3) := by decide +kernel
theorem dc_C_sever_31 : decode cd_C_sever 31 = .ok (.aload_n 0, 1) := by decide +kernel
theorem dc_C_sever_32 : decode cd_C_sever 32 = .ok (.getfield 108, 3) := by decide +kernel
theorem dc_C_sever_35 : decode cd_C_sever 35 = .ok (.iastore, 1) := by decide +kernel
theorem dc_C_sever_36 : decode cd_C_sever 36 = .ok (.aload_n 0, 1) := by decide +kernel
theorem dc_C_sever_37 : decode cd_C_sever 37 = .ok (.dup, 1) := by decide +kernel
theorem dc_C_sever_38 : decode cd_C_sever 38 = .ok (.getfield 105, 3) := by decide +kernel
theorem dc_C_sever_41 : decode cd_C_sever 41 = .ok (.iconst 1, 1) := by decide +kernel
theorem dc_C_sever_42 : decode cd_C_sever 42 = .ok (.iadd, 1) := by decide +kernel
theorem dc_C_sever_43 : decode cd_C_sever 43 = .ok (.putfield 105, 3) := by decide +kernel
theorem dc_C_sever_46 : decode cd_C_sever 46 = .ok (.aload_n 0, 1) := by decide +kernel
theorem dc_C_sever_47 : decode cd_C_sever 47 = .ok (.aload_n 0, 1) := by decide +kernel
theorem dc_C_sever_48 : decode cd_C_sever 48 = .ok (.getfield 81, 3) := by decide +kernel
theorem dc_C_sever_51 : decode cd_C_sever 51 = .ok (.iload_n 1, 1) := by decide +kernel
theorem dc_C_sever_52 : decode cd_C_sever 52 = .ok (.invokestatic 169, 3) := by decide +kernel
theorem dc_C_sever_55 : decode cd_C_sever 55 = .ok (.putfield 81, 3) := by decide +kernel
theorem dc_C_sever_58 : decode cd_C_sever 58 = .ok (.aload_n 0, 1) := by decide +kernel
theorem dc_C_sever_59 : decode cd_C_sever 59 = .ok (.getfield 53, 3) := by decide +kernel
theorem dc_C_sever_62 : decode cd_C_sever 62 = .ok (.aload_n 0, 1) := by decide +kernel
theorem dc_C_sever_63 : decode cd_C_sever 63 = .ok (.getfield 108, 3) := by decide +kernel
theorem dc_C_sever_66 : decode cd_C_sever 66 = .ok (.dup2, 1) := by decide +kernel
theorem dc_C_sever_67 : decode cd_C_sever 67 = .ok (.iaload, 1) := by decide +kernel
theorem dc_C_sever_68 : decode cd_C_sever 68 = .ok (.iload_n 2, 1) := by decide +kernel
theorem dc_C_sever_69 : decode cd_C_sever 69 = .ok (.iadd, 1) := by decide +kernel
theorem dc_C_sever_70 : decode cd_C_sever 70 = .ok (.iastore, 1) := by decide +kernel
theorem dc_C_sever_71 : decode cd_C_sever 71 = .ok (.iload_n 2, 1) := by decide +kernel
theorem dc_C_sever_72 : decode cd_C_sever 72 = .ok (.ifCond .ne 13, 3) := by decide +kernel
theorem dc_C_sever_75 : decode cd_C_sever 75 = .ok (.aload_n 0, 1) := by decide +kernel
theorem dc_C_sever_76 : decode cd_C_sever 76 = .ok (.iconst 1, 1) := by decide +kernel
theorem dc_C_sever_77 : decode cd_C_sever 77 = .ok (.aload_n 0, 1) := by decide +kernel
theorem dc_C_sever_78 : decode cd_C_sever 78 = .ok (.getfield 108, 3) := by decide +kernel
theorem dc_C_sever_81 : decode cd_C_sever 81 = .ok (.isub, 1) := by decide +kernel
theorem dc_C_sever_82 : decode cd_C_sever 82 = .ok (.putfield 108, 3) := by decide +kernel
theorem dc_C_sever_85 : decode cd_C_sever 85 = .ok (.iload_n 2, 1) := by decide +kernel
theorem dc_C_sever_86 : decode cd_C_sever 86 = .ok (.ireturn, 1) := by decide +kernel
theorem dc_W_freed_0 : decode cd_W_freed 0 = .ok (.aload_n 0, 1) := by decide +kernel
theorem dc_W_freed_1 : decode cd_W_freed 1 = .ok (.iload_n 1, 1) := by decide +kernel
theorem dc_W_freed_2 : decode cd_W_freed 2 = .ok (.aload_n 0, 1) := by decide +kernel
theorem dc_W_freed_3 : decode cd_W_freed 3 = .ok (.getfield 9, 3) := by decide +kernel
theorem dc_W_freed_6 : decode cd_W_freed 6 = .ok (.iload_n 2, 1) := by decide +kernel
theorem dc_W_freed_7 : decode cd_W_freed 7 = .ok (.iaload, 1) := by decide +kernel
theorem dc_W_freed_8 : decode cd_W_freed 8 = .ok (.iload_n 2, 1) := by decide +kernel
theorem dc_W_freed_9 : decode cd_W_freed 9 = .ok (.invokevirtual 50, 3) := by decide +kernel
theorem dc_W_freed_12 : decode cd_W_freed 12 = .ok (.ifCond .eq 7, 3) := by decide +kernel
theorem dc_W_freed_15 : decode cd_W_freed 15 = .ok (.iconst 1, 1) := by decide +kernel
theorem dc_W_freed_16 : decode cd_W_freed 16 = .ok (.goto 4, 3) := by decide +kernel
theorem dc_W_freed_19 : decode cd_W_freed 19 = .ok (.iconst 0, 1) := by decide +kernel
theorem dc_W_freed_20 : decode cd_W_freed 20 = .ok (.istore_n 3, 1) := by decide +kernel
theorem dc_W_freed_21 : decode cd_W_freed 21 = .ok (.aload_n 0, 1) := by decide +kernel
theorem dc_W_freed_22 : decode cd_W_freed 22 = .ok (.getfield 15, 3) := by decide +kernel
theorem dc_W_freed_25 : decode cd_W_freed 25 = .ok (.iload_n 2, 1) := by decide +kernel
theorem dc_W_freed_26 : decode cd_W_freed 26 = .ok (.iaload, 1) := by decide +kernel
theorem dc_W_freed_27 : decode cd_W_freed 27 = .ok (.iconst (-1), 1) := by decide +kernel
theorem dc_W_freed_28 : decode cd_W_freed 28 = .ok (.if_icmp .eq 21, 3) := by decide +kernel
theorem dc_W_freed_31 : decode cd_W_freed 31 = .ok (.aload_n 0, 1) := by decide +kernel
theorem dc_W_freed_32 : decode cd_W_freed 32 = .ok (.iload_n 1, 1) := by decide +kernel
theorem dc_W_freed_33 : decode cd_W_freed 33 = .ok (.aload_n 0, 1) := by decide +kernel
theorem dc_W_freed_34 : decode cd_W_freed 34 = .ok (.getfield 15, 3) := by decide +kernel
theorem dc_W_freed_37 : decode cd_W_freed 37 = .ok (.iload_n 2, 1) := by decide +kernel
theorem dc_W_freed_38 : decode cd_W_freed 38 = .ok (.iaload, 1) := by decide +kernel
theorem dc_W_freed_39 : decode cd_W_freed 39 = .ok (.iload_n 2, 1) := by decide +kernel
theorem dc_W_freed_40 : decode cd_W_freed 40 = .ok (.invokevirtual 50, 3) := by decide +kernel
theorem dc_W_freed_43 : decode cd_W_freed 43 = .ok (.ifCond .eq 6, 3) := by decide +kernel
theorem dc_W_freed_46 : decode cd_W_freed 46 = .ok (.iinc 3 1, 3) := by decide +kernel
theorem dc_W_freed_49 : decode cd_W_freed 49 = .ok (.iload_n 3, 1) := by decide +kernel
theorem dc_W_freed_50 : decode cd_W_freed 50 = .ok (.ireturn, 1) := by decide +kernel
theorem dc_W_hangsOnlyOn_0 : decode cd_W_hangsOnlyOn 0 = .ok (.iload_n 1, 1) := by decide +kernel
theorem dc_W_hangsOnlyOn_1 : decode cd_W_hangsOnlyOn 1 = .ok (.aload_n 0, 1) := by decide +kernel
theorem dc_W_hangsOnlyOn_2 : decode cd_W_hangsOnlyOn 2 = .ok (.getfield 18, 3) := by decide +kernel
theorem dc_W_hangsOnlyOn_5 : decode cd_W_hangsOnlyOn 5 = .ok (.iload_n 2, 1) := by decide +kernel
theorem dc_W_hangsOnlyOn_6 : decode cd_W_hangsOnlyOn 6 = .ok (.iaload, 1) := by decide +kernel
theorem dc_W_hangsOnlyOn_7 : decode cd_W_hangsOnlyOn 7 = .ok (.iand, 1) := by decide +kernel
theorem dc_W_hangsOnlyOn_8 : decode cd_W_hangsOnlyOn 8 = .ok (.iconst 1, 1) := by decide +kernel
theorem dc_W_hangsOnlyOn_9 : decode cd_W_hangsOnlyOn 9 = .ok (.iload_n 3, 1) := by decide +kernel
theorem dc_W_hangsOnlyOn_10 : decode cd_W_hangsOnlyOn 10 = .ok (.ishl, 1) := by decide +kernel
theorem dc_W_hangsOnlyOn_11 : decode cd_W_hangsOnlyOn 11 = .ok (.if_icmp .ne 7, 3) := by decide +kernel
theorem dc_W_hangsOnlyOn_14 : decode cd_W_hangsOnlyOn 14 = .ok (.iconst 1, 1) := by decide +kernel
theorem dc_W_hangsOnlyOn_15 : decode cd_W_hangsOnlyOn 15 = .ok (.goto 4, 3) := by decide +kernel
theorem dc_W_hangsOnlyOn_18 : decode cd_W_hangsOnlyOn 18 = .ok (.iconst 0, 1) := by decide +kernel
theorem dc_W_hangsOnlyOn_19 : decode cd_W_hangsOnlyOn 19 = .ok (.ireturn, 1) := by decide +kernel
theorem dc_C_without_0 : decode cd_C_without 0 = .ok (.iload_n 0, 1) := by decide +kernel
theorem dc_C_without_1 : decode cd_C_without 1 = .ok (.iconst 1, 1) := by decide +kernel
theorem dc_C_without_2 : decode cd_C_without 2 = .ok (.iload_n 1, 1) := by decide +kernel
theorem dc_C_without_3 : decode cd_C_without 3 = .ok (.ishl, 1) := by decide +kernel
theorem dc_C_without_4 : decode cd_C_without 4 = .ok (.iconst (-1), 1) := by decide +kernel
theorem dc_C_without_5 : decode cd_C_without 5 = .ok (.ixor, 1) := by decide +kernel
theorem dc_C_without_6 : decode cd_C_without 6 = .ok (.iand, 1) := by decide +kernel
theorem dc_C_without_7 : decode cd_C_without 7 = .ok (.ireturn, 1) := by decide +kernel
theorem dc_L_undo_0 : decode cd_L_undo 0 = .ok (.aload_n 1, 1) := by decide +kernel
theorem dc_L_undo_1 : decode cd_L_undo 1 = .ok (.iconst 0, 1) := by decide +kernel
theorem dc_L_undo_2 : decode cd_L_undo 2 = .ok (.aload_n 0, 1) := by decide +kernel
theorem dc_L_undo_3 : decode cd_L_undo 3 = .ok (.invokevirtual 31, 3) := by decide +kernel
theorem dc_L_undo_6 : decode cd_L_undo 6 = .ok (.i2l, 1) := by decide +kernel
theorem dc_L_undo_7 : decode cd_L_undo 7 = .ok (.lastore, 1) := by decide +kernel
theorem dc_L_undo_8 : decode cd_L_undo 8 = .ok (.goto 6, 3) := by decide +kernel
theorem dc_L_undo_11 : decode cd_L_undo 11 = .ok (.astore_n 2, 1) := by decide +kernel
theorem dc_L_undo_12 : decode cd_L_undo 12 = .ok (.iconst 1, 1) := by decide +kernel
theorem dc_L_undo_13 : decode cd_L_undo 13 = .ok (.ireturn, 1) := by decide +kernel
theorem dc_L_undo_14 : decode cd_L_undo 14 = .ok (.iconst 0, 1) := by decide +kernel
theorem dc_L_undo_15 : decode cd_L_undo 15 = .ok (.ireturn, 1) := by decide +kernel
theorem dc_C_undo_0 : decode cd_C_undo 0 = .ok (.aload_n 0, 1) := by decide +kernel
theorem dc_C_undo_1 : decode cd_C_undo 1 = .ok (.getfield 105, 3) := by decide +kernel
theorem dc_C_undo_4 : decode cd_C_undo 4 = .ok (.ifCond .ne 11, 3) := by decide +kernel
theorem dc_C_undo_7 : decode cd_C_undo 7 = .ok (.new 120, 3) := by decide +kernel
theorem dc_C_undo_10 : decode cd_C_undo 10 = .ok (.dup, 1) := by decide +kernel
theorem dc_C_undo_11 : decode cd_C_undo 11 = .ok (.invokespecial 122, 3) := by decide +kernel
theorem dc_C_undo_14 : decode cd_C_undo 14 = .ok (.athrow, 1) := by decide +kernel
theorem dc_C_undo_15 : decode cd_C_undo 15 = .ok (.aload_n 0, 1) := by decide +kernel
theorem dc_C_undo_16 : decode cd_C_undo 16 = .ok (.dup, 1) := by decide +kernel
theorem dc_C_undo_17 : decode cd_C_undo 17 = .ok (.getfield 105, 3) := by decide +kernel
theorem dc_C_undo_20 : decode cd_C_undo 20 = .ok (.iconst 1, 1) := by decide +kernel
theorem dc_C_undo_21 : decode cd_C_undo 21 = .ok (.isub, 1) := by decide +kernel
theorem dc_C_undo_22 : decode cd_C_undo 22 = .ok (.putfield 105, 3) := by decide +kernel
theorem dc_C_undo_25 : decode cd_C_undo 25 = .ok (.aload_n 0, 1) := by decide +kernel
theorem dc_C_undo_26 : decode cd_C_undo 26 = .ok (.getfield 46, 3) := by decide +kernel
theorem dc_C_undo_29 : decode cd_C_undo 29 = .ok (.aload_n 0, 1) := by decide +kernel
theorem dc_C_undo_30 : decode cd_C_undo 30 = .ok (.getfield 105, 3) := by decide +kernel
theorem dc_C_undo_33 : decode cd_C_undo 33 = .ok (.iaload, 1) := by decide +kernel
theorem dc_C_undo_34 : decode cd_C_undo 34 = .ok (.istore_n 1, 1) := by decide +kernel
theorem dc_C_undo_35 : decode cd_C_undo 35 = .ok (.aload_n 0, 1) := by decide +kernel
theorem dc_C_undo_36 : decode cd_C_undo 36 = .ok (.dup, 1) := by decide +kernel
theorem dc_C_undo_37 : decode cd_C_undo 37 = .ok (.getfield 81, 3) := by decide +kernel
theorem dc_C_undo_40 : decode cd_C_undo 40 = .ok (.iconst 1, 1) := by decide +kernel
theorem dc_C_undo_41 : decode cd_C_undo 41 = .ok (.iload_n 1, 1) := by decide +kernel
theorem dc_C_undo_42 : decode cd_C_undo 42 = .ok (.ishl, 1) := by decide +kernel
theorem dc_C_undo_43 : decode cd_C_undo 43 = .ok (.ior, 1) := by decide +kernel
theorem dc_C_undo_44 : decode cd_C_undo 44 = .ok (.putfield 81, 3) := by decide +kernel
theorem dc_C_undo_47 : decode cd_C_undo 47 = .ok (.aload_n 0, 1) := by decide +kernel
theorem dc_C_undo_48 : decode cd_C_undo 48 = .ok (.aload_n 0, 1) := by decide +kernel
theorem dc_C_undo_49 : decode cd_C_undo 49 = .ok (.getfield 50, 3) := by decide +kernel
theorem dc_C_undo_52 : decode cd_C_undo 52 = .ok (.aload_n 0, 1) := by decide +kernel
theorem dc_C_undo_53 : decode cd_C_undo 53 = .ok (.getfield 105, 3) := by decide +kernel
theorem dc_C_undo_56 : decode cd_C_undo 56 = .ok (.iaload, 1) := by decide +kernel
theorem dc_C_undo_57 : decode cd_C_undo 57 = .ok (.putfield 108, 3) := by decide +kernel
theorem dc_C_undo_60 : decode cd_C_undo 60 = .ok (.aload_n 0, 1) := by decide +kernel
theorem dc_C_undo_61 : decode cd_C_undo 61 = .ok (.getfield 53, 3) := by decide +kernel
theorem dc_C_undo_64 : decode cd_C_undo 64 = .ok (.aload_n 0, 1) := by decide +kernel
theorem dc_C_undo_65 : decode cd_C_undo 65 = .ok (.getfield 108, 3) := by decide +kernel
theorem dc_C_undo_68 : decode cd_C_undo 68 = .ok (.dup2, 1) := by decide +kernel
theorem dc_C_undo_69 : decode cd_C_undo 69 = .ok (.iaload, 1) := by decide +kernel
theorem dc_C_undo_70 : decode cd_C_undo 70 = .ok (.aload_n 0, 1) := by decide +kernel
theorem dc_C_undo_71 : decode cd_C_undo 71 = .ok (.getfield 12, 3) := by decide +kernel
theorem dc_C_undo_74 : decode cd_C_undo 74 = .ok (.aload_n 0, 1) := by decide +kernel
theorem dc_C_undo_75 : decode cd_C_undo 75 = .ok (.getfield 81, 3) := by decide +kernel
theorem dc_C_undo_78 : decode cd_C_undo 78 = .ok (.iload_n 1, 1) := by decide +kernel
theorem dc_C_undo_79 : decode cd_C_undo 79 = .ok (.invokevirtual 127, 3) := by decide +kernel
theorem dc_C_undo_82 : decode cd_C_undo 82 = .ok (.isub, 1) := by decide +kernel
theorem dc_C_undo_83 : decode cd_C_undo 83 = .ok (.iastore, 1) := by decide +kernel
theorem dc_C_undo_84 : decode cd_C_undo 84 = .ok (.iload_n 1, 1) := by decide +kernel
theorem dc_C_undo_85 : decode cd_C_undo 85 = .ok (.ireturn, 1) := by decide +kernel
theorem dc_L_play_0 : decode cd_L_play 0 = .ok (.aload_n 1, 1) := by decide +kernel
theorem dc_L_play_1 : decode cd_L_play 1 = .ok (.iconst 0, 1) := by decide +kernel
theorem dc_L_play_2 : decode cd_L_play 2 = .ok (.aload_n 0, 1) := by decide +kernel
theorem dc_L_play_3 : decode cd_L_play 3 = .ok (.invokevirtual 35, 3) := by decide +kernel
theorem dc_L_play_6 : decode cd_L_play 6 = .ok (.i2l, 1) := by decide +kernel
theorem dc_L_play_7 : decode cd_L_play 7 = .ok (.lastore, 1) := by decide +kernel
theorem dc_L_play_8 : decode cd_L_play 8 = .ok (.goto 6, 3) := by decide +kernel
theorem dc_L_play_11 : decode cd_L_play 11 = .ok (.astore_n 2, 1) := by decide +kernel
theorem dc_L_play_12 : decode cd_L_play 12 = .ok (.iconst 1, 1) := by decide +kernel
theorem dc_L_play_13 : decode cd_L_play 13 = .ok (.ireturn, 1) := by decide +kernel
theorem dc_L_play_14 : decode cd_L_play 14 = .ok (.iconst 0, 1) := by decide +kernel
theorem dc_L_play_15 : decode cd_L_play 15 = .ok (.ireturn, 1) := by decide +kernel
theorem dc_C_play_0 : decode cd_C_play 0 = .ok (.aload_n 0, 1) := by decide +kernel
theorem dc_C_play_1 : decode cd_C_play 1 = .ok (.invokevirtual 111, 3) := by decide +kernel
theorem dc_C_play_4 : decode cd_C_play 4 = .ok (.aload_n 0, 1) := by decide +kernel
theorem dc_C_play_5 : decode cd_C_play 5 = .ok (.getfield 108, 3) := by decide +kernel
theorem dc_C_play_8 : decode cd_C_play 8 = .ok (.istore_n 1, 1) := by decide +kernel
theorem dc_C_play_9 : decode cd_C_play 9 = .ok (.iconst 0, 1) := by decide +kernel
theorem dc_C_play_10 : decode cd_C_play 10 = .ok (.istore_n 2, 1) := by decide +kernel
theorem dc_C_play_11 : decode cd_C_play 11 = .ok (.iload_n 2, 1) := by decide +kernel
theorem dc_C_play_12 : decode cd_C_play 12 = .ok (.bipush 12, 2) := by decide +kernel
theorem dc_C_play_14 : decode cd_C_play 14 = .ok (.if_icmp .ge 43, 3) := by decide +kernel
theorem dc_C_play_17 : decode cd_C_play 17 = .ok (.aload_n 0, 1) := by decide +kernel
theorem dc_C_play_18 : decode cd_C_play 18 = .ok (.getfield 81, 3) := by decide +kernel
theorem dc_C_play_21 : decode cd_C_play 21 = .ok (.ifCond .eq 36, 3) := by decide +kernel
theorem dc_C_play_24 : decode cd_C_play 24 = .ok (.aload_n 0, 1) := by decide +kernel
theorem dc_C_play_25 : decode cd_C_play 25 = .ok (.getfield 108, 3) := by decide +kernel
theorem dc_C_play_28 : decode cd_C_play 28 = .ok (.iload_n 1, 1) := by decide +kernel
theorem dc_C_play_29 : decode cd_C_play 29 = .ok (.if_icmp .ne 28, 3) := by decide +kernel
theorem dc_C_play_32 : decode cd_C_play 32 = .ok (.aload_n 0, 1) := by decide +kernel
theorem dc_C_play_33 : decode cd_C_play 33 = .ok (.aload_n 0, 1) := by decide +kernel
theorem dc_C_play_34 : decode cd_C_play 34 = .ok (.getfield 21, 3) := by decide +kernel
theorem dc_C_play_37 : decode cd_C_play 37 = .ok (.aload_n 0, 1) := by decide +kernel
theorem dc_C_play_38 : decode cd_C_play 38 = .ok (.getfield 81, 3) := by decide +kernel
theorem dc_C_play_41 : decode cd_C_play 41 = .ok (.invokevirtual 131, 3) := by decide +kernel
theorem dc_C_play_44 : decode cd_C_play 44 = .ok (.invokestatic 134, 3) := by decide +kernel
theorem dc_C_play_47 : decode cd_C_play 47 = .ok (.invokevirtual 123, 3) := by decide +kernel
theorem dc_C_play_50 : decode cd_C_play 50 = .ok (.pop, 1) := by decide +kernel
theorem dc_C_play_51 : decode cd_C_play 51 = .ok (.iinc 2 1, 3) := by decide +kernel
theorem dc_C_play_54 : decode cd_C_play 54 = .ok (.goto (-43), 3) := by decide +kernel
theorem dc_C_play_57 : decode cd_C_play 57 = .ok (.iload_n 2, 1) := by decide +kernel
theorem dc_C_play_58 : decode cd_C_play 58 = .ok (.ireturn, 1) := by decide +kernel
theorem dc_V_markedStrings_0 : decode cd_V_markedStrings 0 = .ok (.aload_n 0, 1) := by decide +kernel
theorem dc_V_markedStrings_1 : decode cd_V_markedStrings 1 = .ok (.invokevirtual 23, 3) := by decide +kernel
theorem dc_V_markedStrings_4 : decode cd_V_markedStrings 4 = .ok (.iconst 0, 1) := by decide +kernel
theorem dc_V_markedStrings_5 : decode cd_V_markedStrings 5 = .ok (.istore_n 2, 1) := by decide +kernel
theorem dc_V_markedStrings_6 : decode cd_V_markedStrings 6 = .ok (.iconst 0, 1) := by decide +kernel
theorem dc_V_markedStrings_7 : decode cd_V_markedStrings 7 = .ok (.istore_n 3, 1) := by decide +kernel
theorem dc_V_markedStrings_8 : decode cd_V_markedStrings 8 = .ok (.iload_n 3, 1) := by decide +kernel
theorem dc_V_markedStrings_9 : decode cd_V_markedStrings 9 = .ok (.aload_n 0, 1) := by decide +kernel
theorem dc_V_markedStrings_10 : decode cd_V_markedStrings 10 = .ok (.getfield 15, 3) := by decide +kernel
theorem dc_V_markedStrings_13 : decode cd_V_markedStrings 13 = .ok (.invokevirtual 26, 3) := by decide +kernel
theorem dc_V_markedStrings_16 : decode cd_V_markedStrings 16 = .ok (.if_icmp .ge 32, 3) := by decide +kernel
theorem dc_V_markedStrings_19 : decode cd_V_markedStrings 19 = .ok (.iload_n 1, 1) := by decide +kernel
theorem dc_V_markedStrings_20 : decode cd_V_markedStrings 20 = .ok (.iload_n 3, 1) := by decide +kernel
theorem dc_V_markedStrings_21 : decode cd_V_markedStrings 21 = .ok (.invokestatic 32, 3) := by decide +kernel
theorem dc_V_markedStrings_24 : decode cd_V_markedStrings 24 = .ok (.ifCond .eq 18, 3) := by decide +kernel
theorem dc_V_markedStrings_27 : decode cd_V_markedStrings 27 = .ok (.aload_n 0, 1) := by decide +kernel
theorem dc_V_markedStrings_28 : decode cd_V_markedStrings 28 = .ok (.iload_n 1, 1) := by decide +kernel
theorem dc_V_markedStrings_29 : decode cd_V_markedStrings 29 = .ok (.iload_n 3, 1) := by decide +kernel
theorem dc_V_markedStrings_30 : decode cd_V_markedStrings 30 = .ok (.invokevirtual 36, 3) := by decide +kernel
theorem dc_V_markedStrings_33 : decode cd_V_markedStrings 33 = .ok (.ifCond .eq 9, 3) := by decide +kernel
theorem dc_V_markedStrings_36 : decode cd_V_markedStrings 36 = .ok (.iload_n 2, 1) := by decide +kernel
theorem dc_V_markedStrings_37 : decode cd_V_markedStrings 37 = .ok (.iconst 1, 1) := by decide +kernel
theorem dc_V_markedStrings_38 : decode cd_V_markedStrings 38 = .ok (.iload_n 3, 1) := by decide +kernel
theorem dc_V_markedStrings_39 : decode cd_V_markedStrings 39 = .ok (.ishl, 1) := by decide +kernel
theorem dc_V_markedStrings_40 : decode cd_V_markedStrings 40 = .ok (.ior, 1) := by decide +kernel
theorem dc_V_markedStrings_41 : decode cd_V_markedStrings 41 = .ok (.istore_n 2, 1) := by decide +kernel
theorem dc_V_markedStrings_42 : decode cd_V_markedStrings 42 = .ok (.iinc 3 1, 3) := by decide +kernel
theorem dc_V_markedStrings_45 : decode cd_V_markedStrings 45 = .ok (.goto (-37), 3) := by decide +kernel
theorem dc_V_markedStrings_48 : decode cd_V_markedStrings 48 = .ok (.iload_n 2, 1) := by decide +kernel
theorem dc_V_markedStrings_49 : decode cd_V_markedStrings 49 = .ok (.ireturn, 1) := by decide +kernel
theorem dc_V_prepare_0 : decode cd_V_prepare 0 = .ok (.aload_n 0, 1) := by decide +kernel
theorem dc_V_prepare_1 : decode cd_V_prepare 1 = .ok (.getfield 19, 3) := by decide +kernel
theorem dc_V_prepare_4 : decode cd_V_prepare 4 = .ok (.ifCond .eq 4, 3) := by decide +kernel
theorem dc_V_prepare_7 : decode cd_V_prepare 7 = .ok (.return_, 1) := by decide +kernel
theorem dc_V_prepare_8 : decode cd_V_prepare 8 = .ok (.iconst 0, 1) := by decide +kernel
theorem dc_V_prepare_9 : decode cd_V_prepare 9 = .ok (.istore_n 1, 1) := by decide +kernel
theorem dc_V_prepare_10 : decode cd_V_prepare 10 = .ok (.iload_n 1, 1) := by decide +kernel
theorem dc_V_prepare_11 : decode cd_V_prepare 11 = .ok (.aload_n 0, 1) := by decide +kernel
theorem dc_V_prepare_12 : decode cd_V_prepare 12 = .ok (.getfield 15, 3) := by decide +kernel
theorem dc_V_prepare_15 : decode cd_V_prepare 15 = .ok (.invokevirtual 39, 3) := by decide +kernel
theorem dc_V_prepare_18 : decode cd_V_prepare 18 = .ok (.if_icmp .gt 21, 3) := by decide +kernel
theorem dc_V_prepare_21 : decode cd_V_prepare 21 = .ok (.aload_n 0, 1) := by decide +kernel
theorem dc_V_prepare_22 : decode cd_V_prepare 22 = .ok (.getfield 9, 3) := by decide +kernel
theorem dc_V_prepare_25 : decode cd_V_prepare 25 = .ok (.iload_n 1, 1) := by decide +kernel
theorem dc_V_prepare_26 : decode cd_V_prepare 26 = .ok (.aload_n 0, 1) := by decide +kernel
theorem dc_V_prepare_27 : decode cd_V_prepare 27 = .ok (.iload_n 1, 1) := by decide +kernel
theorem dc_V_prepare_28 : decode cd_V_prepare 28 = .ok (.invokevirtual 42, 3) := by decide +kernel
theorem dc_V_prepare_31 : decode cd_V_prepare 31 = .ok (.i2b, 1) := by decide +kernel
theorem dc_V_prepare_32 : decode cd_V_prepare 32 = .ok (.bastore, 1) := by decide +kernel
theorem dc_V_prepare_33 : decode cd_V_prepare 33 = .ok (.iinc 1 1, 3) := by decide +kernel
theorem dc_V_prepare_36 : decode cd_V_prepare 36 = .ok (.goto (-26), 3) := by decide +kernel
theorem dc_V_prepare_39 : decode cd_V_prepare 39 = .ok (.aload_n 0, 1) := by decide +kernel
theorem dc_V_prepare_40 : decode cd_V_prepare 40 = .ok (.iconst 1, 1) := by decide +kernel
theorem dc_V_prepare_41 : decode cd_V_prepare 41 = .ok (.putfield 19, 3) := by decide +kernel
theorem dc_V_prepare_44 : decode cd_V_prepare 44 = .ok (.return_, 1) := by decide +kernel
theorem dc_M_workOut_0 : decode cd_M_workOut 0 = .ok (.iload_n 1, 1) := by decide +kernel
theorem dc_M_workOut_1 : decode cd_M_workOut 1 = .ok (.ifCond .ne 5, 3) := by decide +kernel
theorem dc_M_workOut_4 : decode cd_M_workOut 4 = .ok (.iconst 0, 1) := by decide +kernel
theorem dc_M_workOut_5 : decode cd_M_workOut 5 = .ok (.ireturn, 1) := by decide +kernel
theorem dc_M_workOut_6 : decode cd_M_workOut 6 = .ok (.bipush (-8), 2) := by decide +kernel
theorem dc_M_workOut_8 : decode cd_M_workOut 8 = .ok (.istore_n 2, 1) := by decide +kernel
theorem dc_M_workOut_9 : decode cd_M_workOut 9 = .ok (.iconst 0, 1) := by decide +kernel
theorem dc_M_workOut_10 : decode cd_M_workOut 10 = .ok (.istore_n 3, 1) := by decide +kernel
theorem dc_M_workOut_11 : decode cd_M_workOut 11 = .ok (.iload_n 3, 1) := by decide +kernel
theorem dc_M_workOut_12 : decode cd_M_workOut 12 = .ok (.aload_n 0, 1) := by decide +kernel
theorem dc_M_workOut_13 : decode cd_M_workOut 13 = .ok (.getfield 9, 3) := by decide +kernel
theorem dc_M_workOut_16 : decode cd_M_workOut 16 = .ok (.invokevirtual 15, 3) := by decide +kernel
theorem dc_M_workOut_19 : decode cd_M_workOut 19 = .ok (.if_icmp .ge 28, 3) := by decide +kernel
theorem dc_M_workOut_22 : decode cd_M_workOut 22 = .ok (.iload_n 1, 1) := by decide +kernel
theorem dc_M_workOut_23 : decode cd_M_workOut 23 = .ok (.iload_n 3, 1) := by decide +kernel
theorem dc_M_workOut_24 : decode cd_M_workOut 24 = .ok (.invokestatic 21, 3) := by decide +kernel
theorem dc_M_workOut_27 : decode cd_M_workOut 27 = .ok (.ifCond .eq 14, 3) := by decide +kernel
theorem dc_M_workOut_30 : decode cd_M_workOut 30 = .ok (.iload_n 2, 1) := by decide +kernel
theorem dc_M_workOut_31 : decode cd_M_workOut 31 = .ok (.aload_n 0, 1) := by decide +kernel
theorem dc_M_workOut_32 : decode cd_M_workOut 32 = .ok (.iload_n 1, 1) := by decide +kernel
theorem dc_M_workOut_33 : decode cd_M_workOut 33 = .ok (.iload_n 3, 1) := by decide +kernel
theorem dc_M_workOut_34 : decode cd_M_workOut 34 = .ok (.invokevirtual 25, 3) := by decide +kernel
theorem dc_M_workOut_37 : decode cd_M_workOut 37 = .ok (.invokestatic 29, 3) := by decide +kernel
theorem dc_M_workOut_40 : decode cd_M_workOut 40 = .ok (.istore_n 2, 1) := by decide +kernel
theorem dc_M_workOut_41 : decode cd_M_workOut 41 = .ok (.iinc 3 1, 3) := by decide +kernel
theorem dc_M_workOut_44 : decode cd_M_workOut 44 = .ok (.goto (-33), 3) := by decide +kernel
theorem dc_M_workOut_47 : decode cd_M_workOut 47 = .ok (.iload_n 2, 1) := by decide +kernel
theorem dc_M_workOut_48 : decode cd_M_workOut 48 = .ok (.ireturn, 1) := by decide +kernel
theorem dc_M_given_0 : decode cd_M_given 0 = .ok (.aload_n 0, 1) := by decide +kernel
theorem dc_M_given_1 : decode cd_M_given 1 = .ok (.getfield 9, 3) := by decide +kernel
theorem dc_M_given_4 : decode cd_M_given 4 = .ok (.iload_n 1, 1) := by decide +kernel
theorem dc_M_given_5 : decode cd_M_given 5 = .ok (.iload_n 2, 1) := by decide +kernel
theorem dc_M_given_6 : decode cd_M_given 6 = .ok (.invokevirtual 38, 3) := by decide +kernel
theorem dc_M_given_9 : decode cd_M_given 9 = .ok (.istore_n 3, 1) := by decide +kernel
theorem dc_M_given_10 : decode cd_M_given 10 = .ok (.aload_n 0, 1) := by decide +kernel
theorem dc_M_given_11 : decode cd_M_given 11 = .ok (.getfield 34, 3) := by decide +kernel
theorem dc_M_given_14 : decode cd_M_given 14 = .ok (.iload_n 1, 1) := by decide +kernel
theorem dc_M_given_15 : decode cd_M_given 15 = .ok (.iload_n 2, 1) := by decide +kernel
theorem dc_M_given_16 : decode cd_M_given 16 = .ok (.invokestatic 41, 3) := by decide +kernel
theorem dc_M_given_19 : decode cd_M_given 19 = .ok (.baload, 1) := by decide +kernel
theorem dc_M_given_20 : decode cd_M_given 20 = .ok (.istore 4, 2) := by decide +kernel
theorem dc_M_given_22 : decode cd_M_given 22 = .ok (.iload_n 3, 1) := by decide +kernel
theorem dc_M_given_23 : decode cd_M_given 23 = .ok (.ifCond .le 10, 3) := by decide +kernel
theorem dc_M_given_26 : decode cd_M_given 26 = .ok (.iload_n 3, 1) := by decide +kernel
theorem dc_M_given_27 : decode cd_M_given 27 = .ok (.iload 4, 2) := by decide +kernel
theorem dc_M_given_29 : decode cd_M_given 29 = .ok (.iadd, 1) := by decide +kernel
theorem dc_M_given_30 : decode cd_M_given 30 = .ok (.goto 6, 3) := by decide +kernel
theorem dc_M_given_33 : decode cd_M_given 33 = .ok (.iload 4, 2) := by decide +kernel
theorem dc_M_given_35 : decode cd_M_given 35 = .ok (.ineg, 1) := by decide +kernel
theorem dc_M_given_36 : decode cd_M_given 36 = .ok (.ireturn, 1) := by decide +kernel
theorem dc_N_workOut_0 : decode cd_N_workOut 0 = .ok (.iconst 0, 1) := by decide +kernel
theorem dc_N_workOut_1 : decode cd_N_workOut 1 = .ok (.istore_n 2, 1) := by decide +kernel
theorem dc_N_workOut_2 : decode cd_N_workOut 2 = .ok (.iconst 0, 1) := by decide +kernel
theorem dc_N_workOut_3 : decode cd_N_workOut 3 = .ok (.istore_n 3, 1) := by decide +kernel
theorem dc_N_workOut_4 : decode cd_N_workOut 4 = .ok (.iconst 0, 1) := by decide +kernel
theorem dc_N_workOut_5 : decode cd_N_workOut 5 = .ok (.istore 4, 2) := by decide +kernel
theorem dc_N_workOut_7 : decode cd_N_workOut 7 = .ok (.iconst 0, 1) := by decide +kernel
theorem dc_N_workOut_8 : decode cd_N_workOut 8 = .ok (.istore 5, 2) := by decide +kernel
theorem dc_N_workOut_10 : decode cd_N_workOut 10 = .ok (.iload 5, 2) := by decide +kernel
theorem dc_N_workOut_12 : decode cd_N_workOut 12 = .ok (.aload_n 0, 1) := by decide +kernel
theorem dc_N_workOut_13 : decode cd_N_workOut 13 = .ok (.getfield 9, 3) := by decide +kernel
theorem dc_N_workOut_16 : decode cd_N_workOut 16 = .ok (.invokevirtual 15, 3) := by decide +kernel
theorem dc_N_workOut_19 : decode cd_N_workOut 19 = .ok (.if_icmp .ge 102, 3) := by decide +kernel
theorem dc_N_workOut_22 : decode cd_N_workOut 22 = .ok (.iload_n 1, 1) := by decide +kernel
theorem dc_N_workOut_23 : decode cd_N_workOut 23 = .ok (.iload 5, 2) := by decide +kernel
theorem dc_N_workOut_25 : decode cd_N_workOut 25 = .ok (.invokestatic 21, 3) := by decide +kernel
theorem dc_N_workOut_28 : decode cd_N_workOut 28 = .ok (.ifCond .ne 6, 3) := by decide +kernel
theorem dc_N_workOut_31 : decode cd_N_workOut 31 = .ok (.goto 84, 3) := by decide +kernel
theorem dc_N_workOut_34 : decode cd_N_workOut 34 = .ok (.aload_n 0, 1) := by decide +kernel
theorem dc_N_workOut_35 : decode cd_N_workOut 35 = .ok (.getfield 25, 3) := by decide +kernel
theorem dc_N_workOut_38 : decode cd_N_workOut 38 = .ok (.iload_n 1, 1) := by decide +kernel
theorem dc_N_workOut_39 : decode cd_N_workOut 39 = .ok (.iload 5, 2) := by decide +kernel
theorem dc_N_workOut_41 : decode cd_N_workOut 41 = .ok (.invokestatic 29, 3) := by decide +kernel
theorem dc_N_workOut_44 : decode cd_N_workOut 44 = .ok (.baload, 1) := by decide +kernel
theorem dc_N_workOut_45 : decode cd_N_workOut 45 = .ok (.istore 6, 2) := by decide +kernel
theorem dc_N_workOut_47 : decode cd_N_workOut 47 = .ok (.aload_n 0, 1) := by decide +kernel
theorem dc_N_workOut_48 : decode cd_N_workOut 48 = .ok (.getfield 9, 3) := by decide +kernel
theorem dc_N_workOut_51 : decode cd_N_workOut 51 = .ok (.iload_n 1, 1) := by decide +kernel
theorem dc_N_workOut_52 : decode cd_N_workOut 52 = .ok (.iload 5, 2) := by decide +kernel
theorem dc_N_workOut_54 : decode cd_N_workOut 54 = .ok (.invokevirtual 33, 3) := by decide +kernel
theorem dc_N_workOut_57 : decode cd_N_workOut 57 = .ok (.ifCond .le 7, 3) := by decide +kernel
theorem dc_N_workOut_60 : decode cd_N_workOut 60 = .ok (.iconst 1, 1) := by decide +kernel
theorem dc_N_workOut_61 : decode cd_N_workOut 61 = .ok (.goto 4, 3) := by decide +kernel
theorem dc_N_workOut_64 : decode cd_N_workOut 64 = .ok (.iconst 0, 1) := by decide +kernel
theorem dc_N_workOut_65 : decode cd_N_workOut 65 = .ok (.istore 7, 2) := by decide +kernel
theorem dc_N_workOut_67 : decode cd_N_workOut 67 = .ok (.iload 6, 2) := by decide +kernel
theorem dc_N_workOut_69 : decode cd_N_workOut 69 = .ok (.iconst (-1), 1) := by decide +kernel
theorem dc_N_workOut_70 : decode cd_N_workOut 70 = .ok (.if_icmp .ne 23, 3) := by decide +kernel
theorem dc_N_workOut_73 : decode cd_N_workOut 73 = .ok (.iload 4, 2) := by decide +kernel
theorem dc_N_workOut_75 : decode cd_N_workOut 75 = .ok (.ifCond .ne 8, 3) := by decide +kernel
theorem dc_N_workOut_78 : decode cd_N_workOut 78 = .ok (.iload 7, 2) := by decide +kernel
theorem dc_N_workOut_80 : decode cd_N_workOut 80 = .ok (.ifCond .eq 7, 3) := by decide +kernel
theorem dc_N_workOut_83 : decode cd_N_workOut 83 = .ok (.iconst 1, 1) := by decide +kernel
theorem dc_N_workOut_84 : decode cd_N_workOut 84 = .ok (.goto 4, 3) := by decide +kernel
theorem dc_N_workOut_87 : decode cd_N_workOut 87 = .ok (.iconst 0, 1) := by decide +kernel
theorem dc_N_workOut_88 : decode cd_N_workOut 88 = .ok (.istore 4, 2) := by decide +kernel
theorem dc_N_workOut_90 : decode cd_N_workOut 90 = .ok (.goto 25, 3) := by decide +kernel
theorem dc_N_workOut_93 : decode cd_N_workOut 93 = .ok (.iload 7, 2) := by decide +kernel
theorem dc_N_workOut_95 : decode cd_N_workOut 95 = .ok (.ifCond .eq 13, 3) := by decide +kernel
theorem dc_N_workOut_98 : decode cd_N_workOut 98 = .ok (.iload_n 3, 1) := by decide +kernel
theorem dc_N_workOut_99 : decode cd_N_workOut 99 = .ok (.iconst 1, 1) := by decide +kernel
theorem dc_N_workOut_100 : decode cd_N_workOut 100 = .ok (.iload 6, 2) := by decide +kernel
theorem dc_N_workOut_102 : decode cd_N_workOut 102 = .ok (.ishl, 1) := by decide +kernel
theorem dc_N_workOut_103 : decode cd_N_workOut 103 = .ok (.ior, 1) := by decide +kernel
theorem dc_N_workOut_104 : decode cd_N_workOut 104 = .ok (.istore_n 3, 1) := by decide +kernel
theorem dc_N_workOut_105 : decode cd_N_workOut 105 = .ok (.goto 10, 3) := by decide +kernel
theorem dc_N_workOut_108 : decode cd_N_workOut 108 = .ok (.iload_n 2, 1) := by decide +kernel
theorem dc_N_workOut_109 : decode cd_N_workOut 109 = .ok (.iconst 1, 1) := by decide +kernel
theorem dc_N_workOut_110 : decode cd_N_workOut 110 = .ok (.iload 6, 2) := by decide +kernel
theorem dc_N_workOut_112 : decode cd_N_workOut 112 = .ok (.ishl, 1) := by decide +kernel
theorem dc_N_workOut_113 : decode cd_N_workOut 113 = .ok (.ior, 1) := by decide +kernel
theorem dc_N_workOut_114 : decode cd_N_workOut 114 = .ok (.istore_n 2, 1) := by decide +kernel
theorem dc_N_workOut_115 : decode cd_N_workOut 115 = .ok (.iinc 5 1, 3) := by decide +kernel
theorem dc_N_workOut_118 : decode cd_N_workOut 118 = .ok (.goto (-108), 3) := by decide +kernel
theorem dc_N_workOut_121 : decode cd_N_workOut 121 = .ok (.iload 4, 2) := by decide +kernel
theorem dc_N_workOut_123 : decode cd_N_workOut 123 = .ok (.ifCond .eq 5, 3) := by decide +kernel
theorem dc_N_workOut_126 : decode cd_N_workOut 126 = .ok (.iconst (-1), 1) := by decide +kernel
theorem dc_N_workOut_127 : decode cd_N_workOut 127 = .ok (.ireturn, 1) := by decide +kernel
theorem dc_N_workOut_128 : decode cd_N_workOut 128 = .ok (.iload_n 3, 1) := by decide +kernel
theorem dc_N_workOut_129 : decode cd_N_workOut 129 = .ok (.ifCond .ne 10, 3) := by decide +kernel
theorem dc_N_workOut_132 : decode cd_N_workOut 132 = .ok (.iload_n 2, 1) := by decide +kernel
theorem dc_N_workOut_133 : decode cd_N_workOut 133 = .ok (.iconst (-1), 1) := by decide +kernel
theorem dc_N_workOut_134 : decode cd_N_workOut 134 = .ok (.ixor, 1) := by decide +kernel
theorem dc_N_workOut_135 : decode cd_N_workOut 135 = .ok (.invokestatic 36, 3) := by decide +kernel
theorem dc_N_workOut_138 : decode cd_N_workOut 138 = .ok (.ireturn, 1) := by decide +kernel
theorem dc_N_workOut_139 : decode cd_N_workOut 139 = .ok (.iload_n 3, 1) := by decide +kernel
theorem dc_N_workOut_140 : decode cd_N_workOut 140 = .ok (.invokestatic 40, 3) := by decide +kernel
theorem dc_N_workOut_143 : decode cd_N_workOut 143 = .ok (.iconst 1, 1) := by decide +kernel
theorem dc_N_workOut_144 : decode cd_N_workOut 144 = .ok (.if_icmp .gt 9, 3) := by decide +kernel
theorem dc_N_workOut_147 : decode cd_N_workOut 147 = .ok (.iload_n 3, 1) := by decide +kernel
theorem dc_N_workOut_148 : decode cd_N_workOut 148 = .ok (.iload_n 2, 1) := by decide +kernel
theorem dc_N_workOut_149 : decode cd_N_workOut 149 = .ok (.iand, 1) := by decide +kernel
theorem dc_N_workOut_150 : decode cd_N_workOut 150 = .ok (.ifCond .eq 7, 3) := by decide +kernel
theorem dc_N_workOut_153 : decode cd_N_workOut 153 = .ok (.iconst (-1), 1) := by decide +kernel
theorem dc_N_workOut_154 : decode cd_N_workOut 154 = .ok (.goto 7, 3) := by decide +kernel
theorem dc_N_workOut_157 : decode cd_N_workOut 157 = .ok (.iload_n 3, 1) := by decide +kernel
theorem dc_N_workOut_158 : decode cd_N_workOut 158 = .ok (.invokestatic 36, 3) := by decide +kernel
