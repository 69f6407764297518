theorem dc_R_board_144 : decode cd_R_board 144 = .ok (.goto 4, 3) := by decide +kernel
theorem dc_R_board_147 : decode cd_R_board 147 = .ok (.iconst (-1), 1) := by decide +kernel
theorem dc_R_board_148 : decode cd_R_board 148 = .ok (.invokevirtual 64, 3) := by decide +kernel
theorem dc_R_board_151 : decode cd_R_board 151 = .ok (.aload_n 0, 1) := by decide +kernel
theorem dc_R_board_152 : decode cd_R_board 152 = .ok (.iload 4, 2) := by decide +kernel
theorem dc_R_board_154 : decode cd_R_board 154 = .ok (.iload 5, 2) := by decide +kernel
theorem dc_R_board_156 : decode cd_R_board 156 = .ok (.iconst 1, 1) := by decide +kernel
theorem dc_R_board_157 : decode cd_R_board 157 = .ok (.iadd, 1) := by decide +kernel
theorem dc_R_board_158 : decode cd_R_board 158 = .ok (.iload_n 1, 1) := by decide +kernel
theorem dc_R_board_159 : decode cd_R_board 159 = .ok (.if_icmp .ge 10, 3) := by decide +kernel
theorem dc_R_board_162 : decode cd_R_board 162 = .ok (.iload 4, 2) := by decide +kernel
theorem dc_R_board_164 : decode cd_R_board 164 = .ok (.iload_n 2, 1) := by decide +kernel
theorem dc_R_board_165 : decode cd_R_board 165 = .ok (.iadd, 1) := by decide +kernel
theorem dc_R_board_166 : decode cd_R_board 166 = .ok (.goto 4, 3) := by decide +kernel
theorem dc_R_board_169 : decode cd_R_board 169 = .ok (.iconst (-1), 1) := by decide +kernel
theorem dc_R_board_170 : decode cd_R_board 170 = .ok (.invokevirtual 64, 3) := by decide +kernel
theorem dc_R_board_173 : decode cd_R_board 173 = .ok (.iinc 4 1, 3) := by decide +kernel
theorem dc_R_board_176 : decode cd_R_board 176 = .ok (.goto (-91), 3) := by decide +kernel
theorem dc_R_board_179 : decode cd_R_board 179 = .ok (.aload_n 0, 1) := by decide +kernel
theorem dc_R_board_180 : decode cd_R_board 180 = .ok (.getfield 50, 3) := by decide +kernel
theorem dc_R_board_183 : decode cd_R_board 183 = .ok (.ireturn, 1) := by decide +kernel
theorem dc_R_begin_0 : decode cd_R_begin 0 = .ok (.aload_n 0, 1) := by decide +kernel
theorem dc_R_begin_1 : decode cd_R_begin 1 = .ok (.aload_n 0, 1) := by decide +kernel
theorem dc_R_begin_2 : decode cd_R_begin 2 = .ok (.getfield 60, 3) := by decide +kernel
theorem dc_R_begin_5 : decode cd_R_begin 5 = .ok (.ifCond .ne 10, 3) := by decide +kernel
theorem dc_R_begin_8 : decode cd_R_begin 8 = .ok (.aload_n 0, 1) := by decide +kernel
theorem dc_R_begin_9 : decode cd_R_begin 9 = .ok (.getfield 50, 3) := by decide +kernel
theorem dc_R_begin_12 : decode cd_R_begin 12 = .ok (.ifCond .ne 7, 3) := by decide +kernel
theorem dc_R_begin_15 : decode cd_R_begin 15 = .ok (.iconst 1, 1) := by decide +kernel
theorem dc_R_begin_16 : decode cd_R_begin 16 = .ok (.goto 4, 3) := by decide +kernel
theorem dc_R_begin_19 : decode cd_R_begin 19 = .ok (.iconst 0, 1) := by decide +kernel
theorem dc_R_begin_20 : decode cd_R_begin 20 = .ok (.putfield 46, 3) := by decide +kernel
theorem dc_R_begin_23 : decode cd_R_begin 23 = .ok (.aload_n 0, 1) := by decide +kernel
theorem dc_R_begin_24 : decode cd_R_begin 24 = .ok (.getfield 46, 3) := by decide +kernel
theorem dc_R_begin_27 : decode cd_R_begin 27 = .ok (.ifCond .le 4, 3) := by decide +kernel
theorem dc_R_begin_30 : decode cd_R_begin 30 = .ok (.return_, 1) := by decide +kernel
theorem dc_R_begin_31 : decode cd_R_begin 31 = .ok (.aload_n 0, 1) := by decide +kernel
theorem dc_R_begin_32 : decode cd_R_begin 32 = .ok (.iconst 1, 1) := by decide +kernel
theorem dc_R_begin_33 : decode cd_R_begin 33 = .ok (.putfield 60, 3) := by decide +kernel
theorem dc_R_begin_36 : decode cd_R_begin 36 = .ok (.aload_n 0, 1) := by decide +kernel
theorem dc_R_begin_37 : decode cd_R_begin 37 = .ok (.iconst 0, 1) := by decide +kernel
theorem dc_R_begin_38 : decode cd_R_begin 38 = .ok (.putfield 68, 3) := by decide +kernel
theorem dc_R_begin_41 : decode cd_R_begin 41 = .ok (.aload_n 0, 1) := by decide +kernel
theorem dc_R_begin_42 : decode cd_R_begin 42 = .ok (.iconst 0, 1) := by decide +kernel
theorem dc_R_begin_43 : decode cd_R_begin 43 = .ok (.putfield 71, 3) := by decide +kernel
theorem dc_R_begin_46 : decode cd_R_begin 46 = .ok (.aload_n 0, 1) := by decide +kernel
theorem dc_R_begin_47 : decode cd_R_begin 47 = .ok (.iconst 0, 1) := by decide +kernel
theorem dc_R_begin_48 : decode cd_R_begin 48 = .ok (.putfield 74, 3) := by decide +kernel
theorem dc_R_begin_51 : decode cd_R_begin 51 = .ok (.return_, 1) := by decide +kernel
theorem dc_R_clear_0 : decode cd_R_clear 0 = .ok (.aload_n 0, 1) := by decide +kernel
theorem dc_R_clear_1 : decode cd_R_clear 1 = .ok (.iconst 0, 1) := by decide +kernel
theorem dc_R_clear_2 : decode cd_R_clear 2 = .ok (.putfield 46, 3) := by decide +kernel
theorem dc_R_clear_5 : decode cd_R_clear 5 = .ok (.aload_n 0, 1) := by decide +kernel
theorem dc_R_clear_6 : decode cd_R_clear 6 = .ok (.iconst 0, 1) := by decide +kernel
theorem dc_R_clear_7 : decode cd_R_clear 7 = .ok (.putfield 50, 3) := by decide +kernel
theorem dc_R_clear_10 : decode cd_R_clear 10 = .ok (.iconst 0, 1) := by decide +kernel
theorem dc_R_clear_11 : decode cd_R_clear 11 = .ok (.istore_n 1, 1) := by decide +kernel
theorem dc_R_clear_12 : decode cd_R_clear 12 = .ok (.iload_n 1, 1) := by decide +kernel
theorem dc_R_clear_13 : decode cd_R_clear 13 = .ok (.bipush 8, 2) := by decide +kernel
theorem dc_R_clear_15 : decode cd_R_clear 15 = .ok (.if_icmp .ge 16, 3) := by decide +kernel
theorem dc_R_clear_18 : decode cd_R_clear 18 = .ok (.aload_n 0, 1) := by decide +kernel
theorem dc_R_clear_19 : decode cd_R_clear 19 = .ok (.getfield 16, 3) := by decide +kernel
theorem dc_R_clear_22 : decode cd_R_clear 22 = .ok (.iload_n 1, 1) := by decide +kernel
theorem dc_R_clear_23 : decode cd_R_clear 23 = .ok (.iconst 0, 1) := by decide +kernel
theorem dc_R_clear_24 : decode cd_R_clear 24 = .ok (.iastore, 1) := by decide +kernel
theorem dc_R_clear_25 : decode cd_R_clear 25 = .ok (.iinc 1 1, 3) := by decide +kernel
theorem dc_R_clear_28 : decode cd_R_clear 28 = .ok (.goto (-16), 3) := by decide +kernel
theorem dc_R_clear_31 : decode cd_R_clear 31 = .ok (.aload_n 0, 1) := by decide +kernel
theorem dc_R_clear_32 : decode cd_R_clear 32 = .ok (.iconst 0, 1) := by decide +kernel
theorem dc_R_clear_33 : decode cd_R_clear 33 = .ok (.putfield 60, 3) := by decide +kernel
theorem dc_R_clear_36 : decode cd_R_clear 36 = .ok (.aload_n 0, 1) := by decide +kernel
theorem dc_R_clear_37 : decode cd_R_clear 37 = .ok (.iconst 0, 1) := by decide +kernel
theorem dc_R_clear_38 : decode cd_R_clear 38 = .ok (.putfield 53, 3) := by decide +kernel
theorem dc_R_clear_41 : decode cd_R_clear 41 = .ok (.aload_n 0, 1) := by decide +kernel
theorem dc_R_clear_42 : decode cd_R_clear 42 = .ok (.iconst 0, 1) := by decide +kernel
theorem dc_R_clear_43 : decode cd_R_clear 43 = .ok (.putfield 68, 3) := by decide +kernel
theorem dc_R_clear_46 : decode cd_R_clear 46 = .ok (.aload_n 0, 1) := by decide +kernel
theorem dc_R_clear_47 : decode cd_R_clear 47 = .ok (.iconst 0, 1) := by decide +kernel
theorem dc_R_clear_48 : decode cd_R_clear 48 = .ok (.putfield 71, 3) := by decide +kernel
theorem dc_R_clear_51 : decode cd_R_clear 51 = .ok (.aload_n 0, 1) := by decide +kernel
theorem dc_R_clear_52 : decode cd_R_clear 52 = .ok (.getfield 19, 3) := by decide +kernel
theorem dc_R_clear_55 : decode cd_R_clear 55 = .ok (.iconst 0, 1) := by decide +kernel
theorem dc_R_clear_56 : decode cd_R_clear 56 = .ok (.iconst 0, 1) := by decide +kernel
theorem dc_R_clear_57 : decode cd_R_clear 57 = .ok (.iastore, 1) := by decide +kernel
theorem dc_R_clear_58 : decode cd_R_clear 58 = .ok (.aload_n 0, 1) := by decide +kernel
theorem dc_R_clear_59 : decode cd_R_clear 59 = .ok (.getfield 19, 3) := by decide +kernel
theorem dc_R_clear_62 : decode cd_R_clear 62 = .ok (.iconst 1, 1) := by decide +kernel
theorem dc_R_clear_63 : decode cd_R_clear 63 = .ok (.iconst 0, 1) := by decide +kernel
theorem dc_R_clear_64 : decode cd_R_clear 64 = .ok (.iastore, 1) := by decide +kernel
theorem dc_R_clear_65 : decode cd_R_clear 65 = .ok (.aload_n 0, 1) := by decide +kernel
theorem dc_R_clear_66 : decode cd_R_clear 66 = .ok (.iconst 0, 1) := by decide +kernel
theorem dc_R_clear_67 : decode cd_R_clear 67 = .ok (.putfield 74, 3) := by decide +kernel
theorem dc_R_clear_70 : decode cd_R_clear 70 = .ok (.return_, 1) := by decide +kernel
theorem dc_R_margin_0 : decode cd_R_margin 0 = .ok (.aload_n 0, 1) := by decide +kernel
theorem dc_R_margin_1 : decode cd_R_margin 1 = .ok (.invokevirtual 94, 3) := by decide +kernel
theorem dc_R_margin_4 : decode cd_R_margin 4 = .ok (.ifCond .eq 15, 3) := by decide +kernel
theorem dc_R_margin_7 : decode cd_R_margin 7 = .ok (.aload_n 0, 1) := by decide +kernel
theorem dc_R_margin_8 : decode cd_R_margin 8 = .ok (.getfield 34, 3) := by decide +kernel
theorem dc_R_margin_11 : decode cd_R_margin 11 = .ok (.aload_n 0, 1) := by decide +kernel
theorem dc_R_margin_12 : decode cd_R_margin 12 = .ok (.getfield 53, 3) := by decide +kernel
theorem dc_R_margin_15 : decode cd_R_margin 15 = .ok (.iaload, 1) := by decide +kernel
theorem dc_R_margin_16 : decode cd_R_margin 16 = .ok (.goto 4, 3) := by decide +kernel
theorem dc_R_margin_19 : decode cd_R_margin 19 = .ok (.iconst 0, 1) := by decide +kernel
theorem dc_R_margin_20 : decode cd_R_margin 20 = .ok (.ireturn, 1) := by decide +kernel
theorem dc_R_asks_0 : decode cd_R_asks 0 = .ok (.aload_n 0, 1) := by decide +kernel
theorem dc_R_asks_1 : decode cd_R_asks 1 = .ok (.aload_n 0, 1) := by decide +kernel
theorem dc_R_asks_2 : decode cd_R_asks 2 = .ok (.getfield 60, 3) := by decide +kernel
theorem dc_R_asks_5 : decode cd_R_asks 5 = .ok (.ifCond .eq 7, 3) := by decide +kernel
theorem dc_R_asks_8 : decode cd_R_asks 8 = .ok (.iconst 0, 1) := by decide +kernel
theorem dc_R_asks_9 : decode cd_R_asks 9 = .ok (.goto 4, 3) := by decide +kernel
theorem dc_R_asks_12 : decode cd_R_asks 12 = .ok (.iconst 1, 1) := by decide +kernel
theorem dc_R_asks_13 : decode cd_R_asks 13 = .ok (.putfield 46, 3) := by decide +kernel
theorem dc_R_asks_16 : decode cd_R_asks 16 = .ok (.aload_n 0, 1) := by decide +kernel
theorem dc_R_asks_17 : decode cd_R_asks 17 = .ok (.getfield 60, 3) := by decide +kernel
theorem dc_R_asks_20 : decode cd_R_asks 20 = .ok (.ifCond .eq 7, 3) := by decide +kernel
theorem dc_R_asks_23 : decode cd_R_asks 23 = .ok (.aload_n 0, 1) := by decide +kernel
theorem dc_R_asks_24 : decode cd_R_asks 24 = .ok (.invokevirtual 91, 3) := by decide +kernel
theorem dc_R_asks_27 : decode cd_R_asks 27 = .ok (.aload_n 0, 1) := by decide +kernel
theorem dc_R_asks_28 : decode cd_R_asks 28 = .ok (.getfield 60, 3) := by decide +kernel
theorem dc_R_asks_31 : decode cd_R_asks 31 = .ok (.ireturn, 1) := by decide +kernel
theorem dc_R_solve_0 : decode cd_R_solve 0 = .ok (.iconst 0, 1) := by decide +kernel
theorem dc_R_solve_1 : decode cd_R_solve 1 = .ok (.istore_n 1, 1) := by decide +kernel
theorem dc_R_solve_2 : decode cd_R_solve 2 = .ok (.iload_n 1, 1) := by decide +kernel
theorem dc_R_solve_3 : decode cd_R_solve 3 = .ok (.iconst 1, 1) := by decide +kernel
theorem dc_R_solve_4 : decode cd_R_solve 4 = .ok (.aload_n 0, 1) := by decide +kernel
theorem dc_R_solve_5 : decode cd_R_solve 5 = .ok (.getfield 50, 3) := by decide +kernel
theorem dc_R_solve_8 : decode cd_R_solve 8 = .ok (.ishl, 1) := by decide +kernel
theorem dc_R_solve_9 : decode cd_R_solve 9 = .ok (.if_icmp .ge 38, 3) := by decide +kernel
theorem dc_R_solve_12 : decode cd_R_solve 12 = .ok (.aload_n 0, 1) := by decide +kernel
theorem dc_R_solve_13 : decode cd_R_solve 13 = .ok (.getfield 74, 3) := by decide +kernel
theorem dc_R_solve_16 : decode cd_R_solve 16 = .ok (.ifCond .ne 31, 3) := by decide +kernel
theorem dc_R_solve_19 : decode cd_R_solve 19 = .ok (.aload_n 0, 1) := by decide +kernel
theorem dc_R_solve_20 : decode cd_R_solve 20 = .ok (.getfield 34, 3) := by decide +kernel
theorem dc_R_solve_23 : decode cd_R_solve 23 = .ok (.iload_n 1, 1) := by decide +kernel
theorem dc_R_solve_24 : decode cd_R_solve 24 = .ok (.aload_n 0, 1) := by decide +kernel
theorem dc_R_solve_25 : decode cd_R_solve 25 = .ok (.iload_n 1, 1) := by decide +kernel
theorem dc_R_solve_26 : decode cd_R_solve 26 = .ok (.invokevirtual 84, 3) := by decide +kernel
theorem dc_R_solve_29 : decode cd_R_solve 29 = .ok (.iastore, 1) := by decide +kernel
theorem dc_R_solve_30 : decode cd_R_solve 30 = .ok (.aload_n 0, 1) := by decide +kernel
theorem dc_R_solve_31 : decode cd_R_solve 31 = .ok (.getfield 37, 3) := by decide +kernel
theorem dc_R_solve_34 : decode cd_R_solve 34 = .ok (.iload_n 1, 1) := by decide +kernel
theorem dc_R_solve_35 : decode cd_R_solve 35 = .ok (.aload_n 0, 1) := by decide +kernel
theorem dc_R_solve_36 : decode cd_R_solve 36 = .ok (.iload_n 1, 1) := by decide +kernel
theorem dc_R_solve_37 : decode cd_R_solve 37 = .ok (.invokevirtual 88, 3) := by decide +kernel
theorem dc_R_solve_40 : decode cd_R_solve 40 = .ok (.iastore, 1) := by decide +kernel
theorem dc_R_solve_41 : decode cd_R_solve 41 = .ok (.iinc 1 1, 3) := by decide +kernel
theorem dc_R_solve_44 : decode cd_R_solve 44 = .ok (.goto (-42), 3) := by decide +kernel
theorem dc_R_solve_47 : decode cd_R_solve 47 = .ok (.aload_n 0, 1) := by decide +kernel
theorem dc_R_solve_48 : decode cd_R_solve 48 = .ok (.iconst 1, 1) := by decide +kernel
theorem dc_R_solve_49 : decode cd_R_solve 49 = .ok (.putfield 74, 3) := by decide +kernel
theorem dc_R_solve_52 : decode cd_R_solve 52 = .ok (.return_, 1) := by decide +kernel
theorem dc_R_marginOf_0 : decode cd_R_marginOf 0 = .ok (.iconst 0, 1) := by decide +kernel
theorem dc_R_marginOf_1 : decode cd_R_marginOf 1 = .ok (.istore_n 2, 1) := by decide +kernel
theorem dc_R_marginOf_2 : decode cd_R_marginOf 2 = .ok (.iconst 0, 1) := by decide +kernel
theorem dc_R_marginOf_3 : decode cd_R_marginOf 3 = .ok (.istore_n 3, 1) := by decide +kernel
theorem dc_R_marginOf_4 : decode cd_R_marginOf 4 = .ok (.iconst 0, 1) := by decide +kernel
theorem dc_R_marginOf_5 : decode cd_R_marginOf 5 = .ok (.istore 4, 2) := by decide +kernel
theorem dc_R_marginOf_7 : decode cd_R_marginOf 7 = .ok (.iload 4, 2) := by decide +kernel
theorem dc_R_marginOf_9 : decode cd_R_marginOf 9 = .ok (.aload_n 0, 1) := by decide +kernel
theorem dc_R_marginOf_10 : decode cd_R_marginOf 10 = .ok (.getfield 50, 3) := by decide +kernel
theorem dc_R_marginOf_13 : decode cd_R_marginOf 13 = .ok (.if_icmp .ge 47, 3) := by decide +kernel
theorem dc_R_marginOf_16 : decode cd_R_marginOf 16 = .ok (.iload_n 1, 1) := by decide +kernel
theorem dc_R_marginOf_17 : decode cd_R_marginOf 17 = .ok (.iload 4, 2) := by decide +kernel
theorem dc_R_marginOf_19 : decode cd_R_marginOf 19 = .ok (.ishr, 1) := by decide +kernel
theorem dc_R_marginOf_20 : decode cd_R_marginOf 20 = .ok (.iconst 1, 1) := by decide +kernel
theorem dc_R_marginOf_21 : decode cd_R_marginOf 21 = .ok (.iand, 1) := by decide +kernel
theorem dc_R_marginOf_22 : decode cd_R_marginOf 22 = .ok (.iconst 1, 1) := by decide +kernel
theorem dc_R_marginOf_23 : decode cd_R_marginOf 23 = .ok (.if_icmp .ne 31, 3) := by decide +kernel
theorem dc_R_marginOf_26 : decode cd_R_marginOf 26 = .ok (.aload_n 0, 1) := by decide +kernel
theorem dc_R_marginOf_27 : decode cd_R_marginOf 27 = .ok (.iload 4, 2) := by decide +kernel
theorem dc_R_marginOf_29 : decode cd_R_marginOf 29 = .ok (.iload_n 1, 1) := by decide +kernel
theorem dc_R_marginOf_30 : decode cd_R_marginOf 30 = .ok (.invokevirtual 81, 3) := by decide +kernel
theorem dc_R_marginOf_33 : decode cd_R_marginOf 33 = .ok (.istore 5, 2) := by decide +kernel
theorem dc_R_marginOf_35 : decode cd_R_marginOf 35 = .ok (.iload_n 3, 1) := by decide +kernel
theorem dc_R_marginOf_36 : decode cd_R_marginOf 36 = .ok (.ifCond .eq 9, 3) := by decide +kernel
theorem dc_R_marginOf_39 : decode cd_R_marginOf 39 = .ok (.iload 5, 2) := by decide +kernel
theorem dc_R_marginOf_41 : decode cd_R_marginOf 41 = .ok (.iload_n 2, 1) := by decide +kernel
theorem dc_R_marginOf_42 : decode cd_R_marginOf 42 = .ok (.if_icmp .le 8, 3) := by decide +kernel
theorem dc_R_marginOf_45 : decode cd_R_marginOf 45 = .ok (.iload 5, 2) := by decide +kernel
theorem dc_R_marginOf_47 : decode cd_R_marginOf 47 = .ok (.goto 4, 3) := by decide +kernel
theorem dc_R_marginOf_50 : decode cd_R_marginOf 50 = .ok (.iload_n 2, 1) := by decide +kernel
theorem dc_R_marginOf_51 : decode cd_R_marginOf 51 = .ok (.istore_n 2, 1) := by decide +kernel
theorem dc_R_marginOf_52 : decode cd_R_marginOf 52 = .ok (.iconst 1, 1) := by decide +kernel
theorem dc_R_marginOf_53 : decode cd_R_marginOf 53 = .ok (.istore_n 3, 1) := by decide +kernel
theorem dc_R_marginOf_54 : decode cd_R_marginOf 54 = .ok (.iinc 4 1, 3) := by decide +kernel
theorem dc_R_marginOf_57 : decode cd_R_marginOf 57 = .ok (.goto (-50), 3) := by decide +kernel
theorem dc_R_marginOf_60 : decode cd_R_marginOf 60 = .ok (.iload_n 2, 1) := by decide +kernel
theorem dc_R_marginOf_61 : decode cd_R_marginOf 61 = .ok (.ireturn, 1) := by decide +kernel
theorem dc_R_marginBy_0 : decode cd_R_marginBy 0 = .ok (.iload_n 2, 1) := by decide +kernel
theorem dc_R_marginBy_1 : decode cd_R_marginBy 1 = .ok (.iconst 1, 1) := by decide +kernel
theorem dc_R_marginBy_2 : decode cd_R_marginBy 2 = .ok (.iload_n 1, 1) := by decide +kernel
theorem dc_R_marginBy_3 : decode cd_R_marginBy 3 = .ok (.ishl, 1) := by decide +kernel
theorem dc_R_marginBy_4 : decode cd_R_marginBy 4 = .ok (.iconst (-1), 1) := by decide +kernel
theorem dc_R_marginBy_5 : decode cd_R_marginBy 5 = .ok (.ixor, 1) := by decide +kernel
theorem dc_R_marginBy_6 : decode cd_R_marginBy 6 = .ok (.iand, 1) := by decide +kernel
theorem dc_R_marginBy_7 : decode cd_R_marginBy 7 = .ok (.istore_n 3, 1) := by decide +kernel
theorem dc_R_marginBy_8 : decode cd_R_marginBy 8 = .ok (.aload_n 0, 1) := by decide +kernel
theorem dc_R_marginBy_9 : decode cd_R_marginBy 9 = .ok (.iload_n 1, 1) := by decide +kernel
theorem dc_R_marginBy_10 : decode cd_R_marginBy 10 = .ok (.iload_n 3, 1) := by decide +kernel
theorem dc_R_marginBy_11 : decode cd_R_marginBy 11 = .ok (.invokevirtual 77, 3) := by decide +kernel
theorem dc_R_marginBy_14 : decode cd_R_marginBy 14 = .ok (.istore 4, 2) := by decide +kernel
theorem dc_R_marginBy_16 : decode cd_R_marginBy 16 = .ok (.iload 4, 2) := by decide +kernel
theorem dc_R_marginBy_18 : decode cd_R_marginBy 18 = .ok (.ifCond .le 15, 3) := by decide +kernel
theorem dc_R_marginBy_21 : decode cd_R_marginBy 21 = .ok (.iload 4, 2) := by decide +kernel
theorem dc_R_marginBy_23 : decode cd_R_marginBy 23 = .ok (.aload_n 0, 1) := by decide +kernel
theorem dc_R_marginBy_24 : decode cd_R_marginBy 24 = .ok (.getfield 34, 3) := by decide +kernel
theorem dc_R_marginBy_27 : decode cd_R_marginBy 27 = .ok (.iload_n 3, 1) := by decide +kernel
theorem dc_R_marginBy_28 : decode cd_R_marginBy 28 = .ok (.iaload, 1) := by decide +kernel
theorem dc_R_marginBy_29 : decode cd_R_marginBy 29 = .ok (.iadd, 1) := by decide +kernel
theorem dc_R_marginBy_30 : decode cd_R_marginBy 30 = .ok (.goto 10, 3) := by decide +kernel
theorem dc_R_marginBy_33 : decode cd_R_marginBy 33 = .ok (.aload_n 0, 1) := by decide +kernel
theorem dc_R_marginBy_34 : decode cd_R_marginBy 34 = .ok (.getfield 34, 3) := by decide +kernel
theorem dc_R_marginBy_37 : decode cd_R_marginBy 37 = .ok (.iload_n 3, 1) := by decide +kernel
theorem dc_R_marginBy_38 : decode cd_R_marginBy 38 = .ok (.iaload, 1) := by decide +kernel
theorem dc_R_marginBy_39 : decode cd_R_marginBy 39 = .ok (.ineg, 1) := by decide +kernel
theorem dc_R_marginBy_40 : decode cd_R_marginBy 40 = .ok (.ireturn, 1) := by decide +kernel
theorem dc_R_takes_0 : decode cd_R_takes 0 = .ok (.aload_n 0, 1) := by decide +kernel
theorem dc_R_takes_1 : decode cd_R_takes 1 = .ok (.getfield 16, 3) := by decide +kernel
theorem dc_R_takes_4 : decode cd_R_takes 4 = .ok (.aload_n 0, 1) := by decide +kernel
theorem dc_R_takes_5 : decode cd_R_takes 5 = .ok (.getfield 7, 3) := by decide +kernel
theorem dc_R_takes_8 : decode cd_R_takes 8 = .ok (.iload_n 1, 1) := by decide +kernel
theorem dc_R_takes_9 : decode cd_R_takes 9 = .ok (.iaload, 1) := by decide +kernel
theorem dc_R_takes_10 : decode cd_R_takes 10 = .ok (.iaload, 1) := by decide +kernel
theorem dc_R_takes_11 : decode cd_R_takes 11 = .ok (.iload_n 2, 1) := by decide +kernel
theorem dc_R_takes_12 : decode cd_R_takes 12 = .ok (.iand, 1) := by decide +kernel
theorem dc_R_takes_13 : decode cd_R_takes 13 = .ok (.ifCond .ne 7, 3) := by decide +kernel
theorem dc_R_takes_16 : decode cd_R_takes 16 = .ok (.iconst 1, 1) := by decide +kernel
theorem dc_R_takes_17 : decode cd_R_takes 17 = .ok (.goto 4, 3) := by decide +kernel
theorem dc_R_takes_20 : decode cd_R_takes 20 = .ok (.iconst 0, 1) := by decide +kernel
theorem dc_R_takes_21 : decode cd_R_takes 21 = .ok (.istore_n 3, 1) := by decide +kernel
theorem dc_R_takes_22 : decode cd_R_takes 22 = .ok (.aload_n 0, 1) := by decide +kernel
theorem dc_R_takes_23 : decode cd_R_takes 23 = .ok (.getfield 13, 3) := by decide +kernel
theorem dc_R_takes_26 : decode cd_R_takes 26 = .ok (.iload_n 1, 1) := by decide +kernel
theorem dc_R_takes_27 : decode cd_R_takes 27 = .ok (.iaload, 1) := by decide +kernel
theorem dc_R_takes_28 : decode cd_R_takes 28 = .ok (.ifCond .lt 25, 3) := by decide +kernel
theorem dc_R_takes_31 : decode cd_R_takes 31 = .ok (.aload_n 0, 1) := by decide +kernel
theorem dc_R_takes_32 : decode cd_R_takes 32 = .ok (.getfield 16, 3) := by decide +kernel
theorem dc_R_takes_35 : decode cd_R_takes 35 = .ok (.aload_n 0, 1) := by decide +kernel
theorem dc_R_takes_36 : decode cd_R_takes 36 = .ok (.getfield 13, 3) := by decide +kernel
theorem dc_R_takes_39 : decode cd_R_takes 39 = .ok (.iload_n 1, 1) := by decide +kernel
theorem dc_R_takes_40 : decode cd_R_takes 40 = .ok (.iaload, 1) := by decide +kernel
theorem dc_R_takes_41 : decode cd_R_takes 41 = .ok (.iaload, 1) := by decide +kernel
theorem dc_R_takes_42 : decode cd_R_takes 42 = .ok (.iload_n 2, 1) := by decide +kernel
theorem dc_R_takes_43 : decode cd_R_takes 43 = .ok (.iand, 1) := by decide +kernel
theorem dc_R_takes_44 : decode cd_R_takes 44 = .ok (.ifCond .ne 9, 3) := by decide +kernel
theorem dc_R_takes_47 : decode cd_R_takes 47 = .ok (.iload_n 3, 1) := by decide +kernel
theorem dc_R_takes_48 : decode cd_R_takes 48 = .ok (.iconst 1, 1) := by decide +kernel
theorem dc_R_takes_49 : decode cd_R_takes 49 = .ok (.iadd, 1) := by decide +kernel
theorem dc_R_takes_50 : decode cd_R_takes 50 = .ok (.goto 4, 3) := by decide +kernel
theorem dc_R_takes_53 : decode cd_R_takes 53 = .ok (.iload_n 3, 1) := by decide +kernel
theorem dc_R_takes_54 : decode cd_R_takes 54 = .ok (.ireturn, 1) := by decide +kernel
theorem dc_R_nimOf_0 : decode cd_R_nimOf 0 = .ok (.iconst 0, 1) := by decide +kernel
theorem dc_R_nimOf_1 : decode cd_R_nimOf 1 = .ok (.istore_n 2, 1) := by decide +kernel
theorem dc_R_nimOf_2 : decode cd_R_nimOf 2 = .ok (.iconst 0, 1) := by decide +kernel
theorem dc_R_nimOf_3 : decode cd_R_nimOf 3 = .ok (.istore_n 3, 1) := by decide +kernel
theorem dc_R_nimOf_4 : decode cd_R_nimOf 4 = .ok (.iconst 0, 1) := by decide +kernel
theorem dc_R_nimOf_5 : decode cd_R_nimOf 5 = .ok (.istore 4, 2) := by decide +kernel
theorem dc_R_nimOf_7 : decode cd_R_nimOf 7 = .ok (.iconst 0, 1) := by decide +kernel
theorem dc_R_nimOf_8 : decode cd_R_nimOf 8 = .ok (.istore 5, 2) := by decide +kernel
theorem dc_R_nimOf_10 : decode cd_R_nimOf 10 = .ok (.iconst 0, 1) := by decide +kernel
theorem dc_R_nimOf_11 : decode cd_R_nimOf 11 = .ok (.istore 6, 2) := by decide +kernel
theorem dc_R_nimOf_13 : decode cd_R_nimOf 13 = .ok (.iload 6, 2) := by decide +kernel
theorem dc_R_nimOf_15 : decode cd_R_nimOf 15 = .ok (.aload_n 0, 1) := by decide +kernel
theorem dc_R_nimOf_16 : decode cd_R_nimOf 16 = .ok (.getfield 50, 3) := by decide +kernel
theorem dc_R_nimOf_19 : decode cd_R_nimOf 19 = .ok (.if_icmp .ge 99, 3) := by decide +kernel
theorem dc_R_nimOf_22 : decode cd_R_nimOf 22 = .ok (.iload_n 1, 1) := by decide +kernel
theorem dc_R_nimOf_23 : decode cd_R_nimOf 23 = .ok (.iload 6, 2) := by decide +kernel
theorem dc_R_nimOf_25 : decode cd_R_nimOf 25 = .ok (.ishr, 1) := by decide +kernel
theorem dc_R_nimOf_26 : decode cd_R_nimOf 26 = .ok (.iconst 1, 1) := by decide +kernel
theorem dc_R_nimOf_27 : decode cd_R_nimOf 27 = .ok (.iand, 1) := by decide +kernel
theorem dc_R_nimOf_28 : decode cd_R_nimOf 28 = .ok (.iconst 1, 1) := by decide +kernel
theorem dc_R_nimOf_29 : decode cd_R_nimOf 29 = .ok (.if_icmp .ne 83, 3) := by decide +kernel
theorem dc_R_nimOf_32 : decode cd_R_nimOf 32 = .ok (.iload_n 1, 1) := by decide +kernel
theorem dc_R_nimOf_33 : decode cd_R_nimOf 33 = .ok (.iconst 1, 1) := by decide +kernel
theorem dc_R_nimOf_34 : decode cd_R_nimOf 34 = .ok (.iload 6, 2) := by decide +kernel
theorem dc_R_nimOf_36 : decode cd_R_nimOf 36 = .ok (.ishl, 1) := by decide +kernel
theorem dc_R_nimOf_37 : decode cd_R_nimOf 37 = .ok (.iconst (-1), 1) := by decide +kernel
theorem dc_R_nimOf_38 : decode cd_R_nimOf 38 = .ok (.ixor, 1) := by decide +kernel
theorem dc_R_nimOf_39 : decode cd_R_nimOf 39 = .ok (.iand, 1) := by decide +kernel
theorem dc_R_nimOf_40 : decode cd_R_nimOf 40 = .ok (.istore 7, 2) := by decide +kernel
theorem dc_R_nimOf_42 : decode cd_R_nimOf 42 = .ok (.aload_n 0, 1) := by decide +kernel
theorem dc_R_nimOf_43 : decode cd_R_nimOf 43 = .ok (.getfield 37, 3) := by decide +kernel
theorem dc_R_nimOf_46 : decode cd_R_nimOf 46 = .ok (.iload 7, 2) := by decide +kernel
theorem dc_R_nimOf_48 : decode cd_R_nimOf 48 = .ok (.iaload, 1) := by decide +kernel
theorem dc_R_nimOf_49 : decode cd_R_nimOf 49 = .ok (.iconst (-1), 1) := by decide +kernel
theorem dc_R_nimOf_50 : decode cd_R_nimOf 50 = .ok (.if_icmp .ne 7, 3) := by decide +kernel
theorem dc_R_nimOf_53 : decode cd_R_nimOf 53 = .ok (.iconst 0, 1) := by decide +kernel
theorem dc_R_nimOf_54 : decode cd_R_nimOf 54 = .ok (.goto 12, 3) := by decide +kernel
theorem dc_R_nimOf_57 : decode cd_R_nimOf 57 = .ok (.iconst 1, 1) := by decide +kernel
theorem dc_R_nimOf_58 : decode cd_R_nimOf 58 = .ok (.aload_n 0, 1) := by decide +kernel
theorem dc_R_nimOf_59 : decode cd_R_nimOf 59 = .ok (.getfield 37, 3) := by decide +kernel
theorem dc_R_nimOf_62 : decode cd_R_nimOf 62 = .ok (.iload 7, 2) := by decide +kernel
theorem dc_R_nimOf_64 : decode cd_R_nimOf 64 = .ok (.iaload, 1) := by decide +kernel
theorem dc_R_nimOf_65 : decode cd_R_nimOf 65 = .ok (.ishl, 1) := by decide +kernel
theorem dc_R_nimOf_66 : decode cd_R_nimOf 66 = .ok (.istore 8, 2) := by decide +kernel
theorem dc_R_nimOf_68 : decode cd_R_nimOf 68 = .ok (.aload_n 0, 1) := by decide +kernel
theorem dc_R_nimOf_69 : decode cd_R_nimOf 69 = .ok (.iload 6, 2) := by decide +kernel
theorem dc_R_nimOf_71 : decode cd_R_nimOf 71 = .ok (.iload 7, 2) := by decide +kernel
theorem dc_R_nimOf_73 : decode cd_R_nimOf 73 = .ok (.invokevirtual 77, 3) := by decide +kernel
theorem dc_R_nimOf_76 : decode cd_R_nimOf 76 = .ok (.ifCond .ne 11, 3) := by decide +kernel
theorem dc_R_nimOf_79 : decode cd_R_nimOf 79 = .ok (.iload_n 2, 1) := by decide +kernel
theorem dc_R_nimOf_80 : decode cd_R_nimOf 80 = .ok (.iload 8, 2) := by decide +kernel
theorem dc_R_nimOf_82 : decode cd_R_nimOf 82 = .ok (.ior, 1) := by decide +kernel
theorem dc_R_nimOf_83 : decode cd_R_nimOf 83 = .ok (.istore_n 2, 1) := by decide +kernel
theorem dc_R_nimOf_84 : decode cd_R_nimOf 84 = .ok (.goto 28, 3) := by decide +kernel
theorem dc_R_nimOf_87 : decode cd_R_nimOf 87 = .ok (.iconst 1, 1) := by decide +kernel
theorem dc_R_nimOf_88 : decode cd_R_nimOf 88 = .ok (.istore 5, 2) := by decide +kernel
theorem dc_R_nimOf_90 : decode cd_R_nimOf 90 = .ok (.iload 4, 2) := by decide +kernel
theorem dc_R_nimOf_92 : decode cd_R_nimOf 92 = .ok (.ifCond .ne 8, 3) := by decide +kernel
theorem dc_R_nimOf_95 : decode cd_R_nimOf 95 = .ok (.iload 8, 2) := by decide +kernel
theorem dc_R_nimOf_97 : decode cd_R_nimOf 97 = .ok (.ifCond .ne 7, 3) := by decide +kernel
theorem dc_R_nimOf_100 : decode cd_R_nimOf 100 = .ok (.iconst 1, 1) := by decide +kernel
theorem dc_R_nimOf_101 : decode cd_R_nimOf 101 = .ok (.goto 4, 3) := by decide +kernel
theorem dc_R_nimOf_104 : decode cd_R_nimOf 104 = .ok (.iconst 0, 1) := by decide +kernel
theorem dc_R_nimOf_105 : decode cd_R_nimOf 105 = .ok (.istore 4, 2) := by decide +kernel
theorem dc_R_nimOf_107 : decode cd_R_nimOf 107 = .ok (.iload_n 3, 1) := by decide +kernel
theorem dc_R_nimOf_108 : decode cd_R_nimOf 108 = .ok (.iload 8, 2) := by decide +kernel
theorem dc_R_nimOf_110 : decode cd_R_nimOf 110 = .ok (.ior, 1) := by decide +kernel
theorem dc_R_nimOf_111 : decode cd_R_nimOf 111 = .ok (.istore_n 3, 1) := by decide +kernel
theorem dc_R_nimOf_112 : decode cd_R_nimOf 112 = .ok (.iinc 6 1, 3) := by decide +kernel
theorem dc_R_nimOf_115 : decode cd_R_nimOf 115 = .ok (.goto (-102), 3) := by decide +kernel
theorem dc_R_nimOf_118 : decode cd_R_nimOf 118 = .ok (.iconst 0, 1) := by decide +kernel
theorem dc_R_nimOf_119 : decode cd_R_nimOf 119 = .ok (.istore 6, 2) := by decide +kernel
theorem dc_R_nimOf_121 : decode cd_R_nimOf 121 = .ok (.iload 5, 2) := by decide +kernel
theorem dc_R_nimOf_123 : decode cd_R_nimOf 123 = .ok (.ifCond .ne 22, 3) := by decide +kernel
theorem dc_R_nimOf_126 : decode cd_R_nimOf 126 = .ok (.iload_n 2, 1) := by decide +kernel
theorem dc_R_nimOf_127 : decode cd_R_nimOf 127 = .ok (.iload 6, 2) := by decide +kernel
theorem dc_R_nimOf_129 : decode cd_R_nimOf 129 = .ok (.ishr, 1) := by decide +kernel
theorem dc_R_nimOf_130 : decode cd_R_nimOf 130 = .ok (.iconst 1, 1) := by decide +kernel
theorem dc_R_nimOf_131 : decode cd_R_nimOf 131 = .ok (.iand, 1) := by decide +kernel
theorem dc_R_nimOf_132 : decode cd_R_nimOf 132 = .ok (.iconst 1, 1) := by decide +kernel
theorem dc_R_nimOf_133 : decode cd_R_nimOf 133 = .ok (.if_icmp .ne 9, 3) := by decide +kernel
theorem dc_R_nimOf_136 : decode cd_R_nimOf 136 = .ok (.iinc 6 1, 3) := by decide +kernel
theorem dc_R_nimOf_139 : decode cd_R_nimOf 139 = .ok (.goto (-13), 3) := by decide +kernel
theorem dc_R_nimOf_142 : decode cd_R_nimOf 142 = .ok (.iload 6, 2) := by decide +kernel
theorem dc_R_nimOf_144 : decode cd_R_nimOf 144 = .ok (.ireturn, 1) := by decide +kernel
theorem dc_R_nimOf_145 : decode cd_R_nimOf 145 = .ok (.iload 4, 2) := by decide +kernel
theorem dc_R_nimOf_147 : decode cd_R_nimOf 147 = .ok (.ifCond .ne 17, 3) := by decide +kernel
theorem dc_R_nimOf_150 : decode cd_R_nimOf 150 = .ok (.iload_n 3, 1) := by decide +kernel
theorem dc_R_nimOf_151 : decode cd_R_nimOf 151 = .ok (.iload_n 3, 1) := by decide +kernel
theorem dc_R_nimOf_152 : decode cd_R_nimOf 152 = .ok (.iconst 1, 1) := by decide +kernel
theorem dc_R_nimOf_153 : decode cd_R_nimOf 153 = .ok (.isub, 1) := by decide +kernel
theorem dc_R_nimOf_154 : decode cd_R_nimOf 154 = .ok (.iand, 1) := by decide +kernel
theorem dc_R_nimOf_155 : decode cd_R_nimOf 155 = .ok (.ifCond .ne 9, 3) := by decide +kernel
theorem dc_R_nimOf_158 : decode cd_R_nimOf 158 = .ok (.iload_n 3, 1) := by decide +kernel
theorem dc_R_nimOf_159 : decode cd_R_nimOf 159 = .ok (.iload_n 2, 1) := by decide +kernel
theorem dc_R_nimOf_160 : decode cd_R_nimOf 160 = .ok (.iand, 1) := by decide +kernel
theorem dc_R_nimOf_161 : decode cd_R_nimOf 161 = .ok (.ifCond .eq 5, 3) := by decide +kernel
theorem dc_R_nimOf_164 : decode cd_R_nimOf 164 = .ok (.iconst (-1), 1) := by decide +kernel
theorem dc_R_nimOf_165 : decode cd_R_nimOf 165 = .ok (.ireturn, 1) := by decide +kernel
theorem dc_R_nimOf_166 : decode cd_R_nimOf 166 = .ok (.iload_n 3, 1) := by decide +kernel
theorem dc_R_nimOf_167 : decode cd_R_nimOf 167 = .ok (.iload 6, 2) := by decide +kernel
theorem dc_R_nimOf_169 : decode cd_R_nimOf 169 = .ok (.ishr, 1) := by decide +kernel
theorem dc_R_nimOf_170 : decode cd_R_nimOf 170 = .ok (.iconst 1, 1) := by decide +kernel
theorem dc_R_nimOf_171 : decode cd_R_nimOf 171 = .ok (.if_icmp .eq 9, 3) := by decide +kernel
theorem dc_R_nimOf_174 : decode cd_R_nimOf 174 = .ok (.iinc 6 1, 3) := by decide +kernel
theorem dc_R_nimOf_177 : decode cd_R_nimOf 177 = .ok (.goto (-11), 3) := by decide +kernel
theorem dc_R_nimOf_180 : decode cd_R_nimOf 180 = .ok (.iload 6, 2) := by decide +kernel
theorem dc_R_nimOf_182 : decode cd_R_nimOf 182 = .ok (.ireturn, 1) := by decide +kernel
theorem dc_R_good_0 : decode cd_R_good 0 = .ok (.aload_n 0, 1) := by decide +kernel
theorem dc_R_good_1 : decode cd_R_good 1 = .ok (.invokevirtual 94, 3) := by decide +kernel
theorem dc_R_good_4 : decode cd_R_good 4 = .ok (.ifCond .eq 10, 3) := by decide +kernel
theorem dc_R_good_7 : decode cd_R_good 7 = .ok (.aload_n 0, 1) := by decide +kernel
theorem dc_R_good_8 : decode cd_R_good 8 = .ok (.invokevirtual 98, 3) := by decide +kernel
theorem dc_R_good_11 : decode cd_R_good 11 = .ok (.goto 4, 3) := by decide +kernel
theorem dc_R_good_14 : decode cd_R_good 14 = .ok (.iconst 0, 1) := by decide +kernel
theorem dc_R_good_15 : decode cd_R_good 15 = .ok (.ireturn, 1) := by decide +kernel
theorem dc_R_goodSet_0 : decode cd_R_goodSet 0 = .ok (.iconst 0, 1) := by decide +kernel
theorem dc_R_goodSet_1 : decode cd_R_goodSet 1 = .ok (.istore_n 1, 1) := by decide +kernel
theorem dc_R_goodSet_2 : decode cd_R_goodSet 2 = .ok (.iconst 0, 1) := by decide +kernel
theorem dc_R_goodSet_3 : decode cd_R_goodSet 3 = .ok (.istore_n 2, 1) := by decide +kernel
theorem dc_R_goodSet_4 : decode cd_R_goodSet 4 = .ok (.iload_n 2, 1) := by decide +kernel
theorem dc_R_goodSet_5 : decode cd_R_goodSet 5 = .ok (.aload_n 0, 1) := by decide +kernel
theorem dc_R_goodSet_6 : decode cd_R_goodSet 6 = .ok (.getfield 50, 3) := by decide +kernel
theorem dc_R_goodSet_9 : decode cd_R_goodSet 9 = .ok (.if_icmp .ge 52, 3) := by decide +kernel
theorem dc_R_goodSet_12 : decode cd_R_goodSet 12 = .ok (.aload_n 0, 1) := by decide +kernel
theorem dc_R_goodSet_13 : decode cd_R_goodSet 13 = .ok (.getfield 53, 3) := by decide +kernel
theorem dc_R_goodSet_16 : decode cd_R_goodSet 16 = .ok (.iload_n 2, 1) := by decide +kernel
theorem dc_R_goodSet_17 : decode cd_R_goodSet 17 = .ok (.ishr, 1) := by decide +kernel
theorem dc_R_goodSet_18 : decode cd_R_goodSet 18 = .ok (.iconst 1, 1) := by decide +kernel
theorem dc_R_goodSet_19 : decode cd_R_goodSet 19 = .ok (.iand, 1) := by decide +kernel
theorem dc_R_goodSet_20 : decode cd_R_goodSet 20 = .ok (.iconst 1, 1) := by decide +kernel
theorem dc_R_goodSet_21 : decode cd_R_goodSet 21 = .ok (.if_icmp .ne 32, 3) := by decide +kernel
theorem dc_R_goodSet_24 : decode cd_R_goodSet 24 = .ok (.aload_n 0, 1) := by decide +kernel
theorem dc_R_goodSet_25 : decode cd_R_goodSet 25 = .ok (.iload_n 2, 1) := by decide +kernel
theorem dc_R_goodSet_26 : decode cd_R_goodSet 26 = .ok (.aload_n 0, 1) := by decide +kernel
theorem dc_R_goodSet_27 : decode cd_R_goodSet 27 = .ok (.getfield 53, 3) := by decide +kernel
theorem dc_R_goodSet_30 : decode cd_R_goodSet 30 = .ok (.invokevirtual 81, 3) := by decide +kernel
theorem dc_R_goodSet_33 : decode cd_R_goodSet 33 = .ok (.aload_n 0, 1) := by decide +kernel
theorem dc_R_goodSet_34 : decode cd_R_goodSet 34 = .ok (.getfield 34, 3) := by decide +kernel
theorem dc_R_goodSet_37 : decode cd_R_goodSet 37 = .ok (.aload_n 0, 1) := by decide +kernel
theorem dc_R_goodSet_38 : decode cd_R_goodSet 38 = .ok (.getfield 53, 3) := by decide +kernel
theorem dc_R_goodSet_41 : decode cd_R_goodSet 41 = .ok (.iaload, 1) := by decide +kernel
theorem dc_R_goodSet_42 : decode cd_R_goodSet 42 = .ok (.if_icmp .ne 11, 3) := by decide +kernel
theorem dc_R_goodSet_45 : decode cd_R_goodSet 45 = .ok (.iload_n 1, 1) := by decide +kernel
theorem dc_R_goodSet_46 : decode cd_R_goodSet 46 = .ok (.iconst 1, 1) := by decide +kernel
theorem dc_R_goodSet_47 : decode cd_R_goodSet 47 = .ok (.iload_n 2, 1) := by decide +kernel
theorem dc_R_goodSet_48 : decode cd_R_goodSet 48 = .ok (.ishl, 1) := by decide +kernel
theorem dc_R_goodSet_49 : decode cd_R_goodSet 49 = .ok (.ior, 1) := by decide +kernel
theorem dc_R_goodSet_50 : decode cd_R_goodSet 50 = .ok (.goto 4, 3) := by decide +kernel
theorem dc_R_goodSet_53 : decode cd_R_goodSet 53 = .ok (.iload_n 1, 1) := by decide +kernel
theorem dc_R_goodSet_54 : decode cd_R_goodSet 54 = .ok (.istore_n 1, 1) := by decide +kernel
theorem dc_R_goodSet_55 : decode cd_R_goodSet 55 = .ok (.iinc 2 1, 3) := by decide +kernel
theorem dc_R_goodSet_58 : decode cd_R_goodSet 58 = .ok (.goto (-54), 3) := by decide +kernel
theorem dc_R_goodSet_61 : decode cd_R_goodSet 61 = .ok (.iload_n 1, 1) := by decide +kernel
theorem dc_R_goodSet_62 : decode cd_R_goodSet 62 = .ok (.ireturn, 1) := by decide +kernel
theorem dc_R_nim_0 : decode cd_R_nim 0 = .ok (.aload_n 0, 1) := by decide +kernel
theorem dc_R_nim_1 : decode cd_R_nim 1 = .ok (.invokevirtual 94, 3) := by decide +kernel
theorem dc_R_nim_4 : decode cd_R_nim 4 = .ok (.ifCond .eq 15, 3) := by decide +kernel
theorem dc_R_nim_7 : decode cd_R_nim 7 = .ok (.aload_n 0, 1) := by decide +kernel
theorem dc_R_nim_8 : decode cd_R_nim 8 = .ok (.getfield 37, 3) := by decide +kernel
theorem dc_R_nim_11 : decode cd_R_nim 11 = .ok (.aload_n 0, 1) := by decide +kernel
theorem dc_R_nim_12 : decode cd_R_nim 12 = .ok (.getfield 53, 3) := by decide +kernel
theorem dc_R_nim_15 : decode cd_R_nim 15 = .ok (.iaload, 1) := by decide +kernel
theorem dc_R_nim_16 : decode cd_R_nim 16 = .ok (.goto 4, 3) := by decide +kernel
theorem dc_R_nim_19 : decode cd_R_nim 19 = .ok (.iconst 0, 1) := by decide +kernel
theorem dc_R_nim_20 : decode cd_R_nim 20 = .ok (.ireturn, 1) := by decide +kernel
theorem dc_R_mad_0 : decode cd_R_mad 0 = .ok (.aload_n 0, 1) := by decide +kernel
theorem dc_R_mad_1 : decode cd_R_mad 1 = .ok (.invokevirtual 94, 3) := by decide +kernel
theorem dc_R_mad_4 : decode cd_R_mad 4 = .ok (.ifCond .ne 5, 3) := by decide +kernel
theorem dc_R_mad_7 : decode cd_R_mad 7 = .ok (.iconst 0, 1) := by decide +kernel
theorem dc_R_mad_8 : decode cd_R_mad 8 = .ok (.ireturn, 1) := by decide +kernel
theorem dc_R_mad_9 : decode cd_R_mad 9 = .ok (.iconst 0, 1) := by decide +kernel
theorem dc_R_mad_10 : decode cd_R_mad 10 = .ok (.istore_n 1, 1) := by decide +kernel
theorem dc_R_mad_11 : decode cd_R_mad 11 = .ok (.iconst 0, 1) := by decide +kernel
theorem dc_R_mad_12 : decode cd_R_mad 12 = .ok (.istore_n 2, 1) := by decide +kernel
theorem dc_R_mad_13 : decode cd_R_mad 13 = .ok (.iload_n 2, 1) := by decide +kernel
theorem dc_R_mad_14 : decode cd_R_mad 14 = .ok (.aload_n 0, 1) := by decide +kernel
theorem dc_R_mad_15 : decode cd_R_mad 15 = .ok (.getfield 50, 3) := by decide +kernel
theorem dc_R_mad_18 : decode cd_R_mad 18 = .ok (.if_icmp .ge 61, 3) := by decide +kernel
theorem dc_R_mad_21 : decode cd_R_mad 21 = .ok (.aload_n 0, 1) := by decide +kernel
theorem dc_R_mad_22 : decode cd_R_mad 22 = .ok (.getfield 53, 3) := by decide +kernel
theorem dc_R_mad_25 : decode cd_R_mad 25 = .ok (.iconst 1, 1) := by decide +kernel
theorem dc_R_mad_26 : decode cd_R_mad 26 = .ok (.iload_n 2, 1) := by decide +kernel
theorem dc_R_mad_27 : decode cd_R_mad 27 = .ok (.ishl, 1) := by decide +kernel
theorem dc_R_mad_28 : decode cd_R_mad 28 = .ok (.iconst (-1), 1) := by decide +kernel
theorem dc_R_mad_29 : decode cd_R_mad 29 = .ok (.ixor, 1) := by decide +kernel
theorem dc_R_mad_30 : decode cd_R_mad 30 = .ok (.iand, 1) := by decide +kernel
theorem dc_R_mad_31 : decode cd_R_mad 31 = .ok (.istore_n 3, 1) := by decide +kernel
theorem dc_R_mad_32 : decode cd_R_mad 32 = .ok (.aload_n 0, 1) := by decide +kernel
theorem dc_R_mad_33 : decode cd_R_mad 33 = .ok (.getfield 53, 3) := by decide +kernel
theorem dc_R_mad_36 : decode cd_R_mad 36 = .ok (.iload_n 2, 1) := by decide +kernel
theorem dc_R_mad_37 : decode cd_R_mad 37 = .ok (.ishr, 1) := by decide +kernel
theorem dc_R_mad_38 : decode cd_R_mad 38 = .ok (.iconst 1, 1) := by decide +kernel
theorem dc_R_mad_39 : decode cd_R_mad 39 = .ok (.iand, 1) := by decide +kernel
theorem dc_R_mad_40 : decode cd_R_mad 40 = .ok (.iconst 1, 1) := by decide +kernel
theorem dc_R_mad_41 : decode cd_R_mad 41 = .ok (.if_icmp .ne 30, 3) := by decide +kernel
theorem dc_R_mad_44 : decode cd_R_mad 44 = .ok (.aload_n 0, 1) := by decide +kernel
theorem dc_R_mad_45 : decode cd_R_mad 45 = .ok (.iload_n 2, 1) := by decide +kernel
theorem dc_R_mad_46 : decode cd_R_mad 46 = .ok (.iload_n 3, 1) := by decide +kernel
theorem dc_R_mad_47 : decode cd_R_mad 47 = .ok (.invokevirtual 77, 3) := by decide +kernel
theorem dc_R_mad_50 : decode cd_R_mad 50 = .ok (.ifCond .ne 21, 3) := by decide +kernel
theorem dc_R_mad_53 : decode cd_R_mad 53 = .ok (.aload_n 0, 1) := by decide +kernel
theorem dc_R_mad_54 : decode cd_R_mad 54 = .ok (.getfield 37, 3) := by decide +kernel
theorem dc_R_mad_57 : decode cd_R_mad 57 = .ok (.iload_n 3, 1) := by decide +kernel
theorem dc_R_mad_58 : decode cd_R_mad 58 = .ok (.iaload, 1) := by decide +kernel
theorem dc_R_mad_59 : decode cd_R_mad 59 = .ok (.iconst (-1), 1) := by decide +kernel
theorem dc_R_mad_60 : decode cd_R_mad 60 = .ok (.if_icmp .ne 11, 3) := by decide +kernel
theorem dc_R_mad_63 : decode cd_R_mad 63 = .ok (.iload_n 1, 1) := by decide +kernel
theorem dc_R_mad_64 : decode cd_R_mad 64 = .ok (.iconst 1, 1) := by decide +kernel
theorem dc_R_mad_65 : decode cd_R_mad 65 = .ok (.iload_n 2, 1) := by decide +kernel
theorem dc_R_mad_66 : decode cd_R_mad 66 = .ok (.ishl, 1) := by decide +kernel
theorem dc_R_mad_67 : decode cd_R_mad 67 = .ok (.ior, 1) := by decide +kernel
theorem dc_R_mad_68 : decode cd_R_mad 68 = .ok (.goto 4, 3) := by decide +kernel
theorem dc_R_mad_71 : decode cd_R_mad 71 = .ok (.iload_n 1, 1) := by decide +kernel
theorem dc_R_mad_72 : decode cd_R_mad 72 = .ok (.istore_n 1, 1) := by decide +kernel
theorem dc_R_mad_73 : decode cd_R_mad 73 = .ok (.iinc 2 1, 3) := by decide +kernel
theorem dc_R_mad_76 : decode cd_R_mad 76 = .ok (.goto (-63), 3) := by decide +kernel
theorem dc_R_mad_79 : decode cd_R_mad 79 = .ok (.iload_n 1, 1) := by decide +kernel
theorem dc_R_mad_80 : decode cd_R_mad 80 = .ok (.ireturn, 1) := by decide +kernel
theorem dc_R_cut_0 : decode cd_R_cut 0 = .ok (.aload_n 0, 1) := by decide +kernel
theorem dc_R_cut_1 : decode cd_R_cut 1 = .ok (.aload_n 0, 1) := by decide +kernel
theorem dc_R_cut_2 : decode cd_R_cut 2 = .ok (.getfield 60, 3) := by decide +kernel
theorem dc_R_cut_5 : decode cd_R_cut 5 = .ok (.ifCond .ne 7, 3) := by decide +kernel
theorem dc_R_cut_8 : decode cd_R_cut 8 = .ok (.iconst 1, 1) := by decide +kernel
theorem dc_R_cut_9 : decode cd_R_cut 9 = .ok (.goto 35, 3) := by decide +kernel
theorem dc_R_cut_12 : decode cd_R_cut 12 = .ok (.iload_n 1, 1) := by decide +kernel
theorem dc_R_cut_13 : decode cd_R_cut 13 = .ok (.ifCond .lt 11, 3) := by decide +kernel
theorem dc_R_cut_16 : decode cd_R_cut 16 = .ok (.iload_n 1, 1) := by decide +kernel
theorem dc_R_cut_17 : decode cd_R_cut 17 = .ok (.aload_n 0, 1) := by decide +kernel
theorem dc_R_cut_18 : decode cd_R_cut 18 = .ok (.getfield 50, 3) := by decide +kernel
theorem dc_R_cut_21 : decode cd_R_cut 21 = .ok (.if_icmp .lt 7, 3) := by decide +kernel
theorem dc_R_cut_24 : decode cd_R_cut 24 = .ok (.iconst 2, 1) := by decide +kernel
theorem dc_R_cut_25 : decode cd_R_cut 25 = .ok (.goto 19, 3) := by decide +kernel
theorem dc_R_cut_28 : decode cd_R_cut 28 = .ok (.aload_n 0, 1) := by decide +kernel
theorem dc_R_cut_29 : decode cd_R_cut 29 = .ok (.getfield 53, 3) := by decide +kernel
theorem dc_R_cut_32 : decode cd_R_cut 32 = .ok (.iload_n 1, 1) := by decide +kernel
theorem dc_R_cut_33 : decode cd_R_cut 33 = .ok (.ishr, 1) := by decide +kernel
theorem dc_R_cut_34 : decode cd_R_cut 34 = .ok (.iconst 1, 1) := by decide +kernel
theorem dc_R_cut_35 : decode cd_R_cut 35 = .ok (.iand, 1) := by decide +kernel
theorem dc_R_cut_36 : decode cd_R_cut 36 = .ok (.ifCond .ne 7, 3) := by decide +kernel
theorem dc_R_cut_39 : decode cd_R_cut 39 = .ok (.iconst 3, 1) := by decide +kernel
theorem dc_R_cut_40 : decode cd_R_cut 40 = .ok (.goto 4, 3) := by decide +kernel
theorem dc_R_cut_43 : decode cd_R_cut 43 = .ok (.iconst 0, 1) := by decide +kernel
theorem dc_R_cut_44 : decode cd_R_cut 44 = .ok (.putfield 46, 3) := by decide +kernel
theorem dc_R_cut_47 : decode cd_R_cut 47 = .ok (.aload_n 0, 1) := by decide +kernel
theorem dc_R_cut_48 : decode cd_R_cut 48 = .ok (.getfield 46, 3) := by decide +kernel
theorem dc_R_cut_51 : decode cd_R_cut 51 = .ok (.ifCond .le 7, 3) := by decide +kernel
theorem dc_R_cut_54 : decode cd_R_cut 54 = .ok (.iconst 0, 1) := by decide +kernel
theorem dc_R_cut_55 : decode cd_R_cut 55 = .ok (.goto 8, 3) := by decide +kernel
theorem dc_R_cut_58 : decode cd_R_cut 58 = .ok (.aload_n 0, 1) := by decide +kernel
theorem dc_R_cut_59 : decode cd_R_cut 59 = .ok (.iload_n 1, 1) := by decide +kernel
theorem dc_R_cut_60 : decode cd_R_cut 60 = .ok (.invokevirtual 102, 3) := by decide +kernel
theorem dc_R_cut_63 : decode cd_R_cut 63 = .ok (.ireturn, 1) := by decide +kernel
theorem dc_R_make_0 : decode cd_R_make 0 = .ok (.aload_n 0, 1) := by decide +kernel
theorem dc_R_make_1 : decode cd_R_make 1 = .ok (.getfield 22, 3) := by decide +kernel
theorem dc_R_make_4 : decode cd_R_make 4 = .ok (.aload_n 0, 1) := by decide +kernel
theorem dc_R_make_5 : decode cd_R_make 5 = .ok (.getfield 68, 3) := by decide +kernel
theorem dc_R_make_8 : decode cd_R_make 8 = .ok (.iload_n 1, 1) := by decide +kernel
theorem dc_R_make_9 : decode cd_R_make 9 = .ok (.iastore, 1) := by decide +kernel
theorem dc_R_make_10 : decode cd_R_make 10 = .ok (.aload_n 0, 1) := by decide +kernel
theorem dc_R_make_11 : decode cd_R_make 11 = .ok (.getfield 25, 3) := by decide +kernel
theorem dc_R_make_14 : decode cd_R_make 14 = .ok (.aload_n 0, 1) := by decide +kernel
theorem dc_R_make_15 : decode cd_R_make 15 = .ok (.getfield 68, 3) := by decide +kernel
theorem dc_R_make_18 : decode cd_R_make 18 = .ok (.aload_n 0, 1) := by decide +kernel
theorem dc_R_make_19 : decode cd_R_make 19 = .ok (.getfield 71, 3) := by decide +kernel
theorem dc_R_make_22 : decode cd_R_make 22 = .ok (.iastore, 1) := by decide +kernel
theorem dc_R_make_23 : decode cd_R_make 23 = .ok (.aload_n 0, 1) := by decide +kernel
theorem dc_R_make_24 : decode cd_R_make 24 = .ok (.getfield 28, 3) := by decide +kernel
theorem dc_R_make_27 : decode cd_R_make 27 = .ok (.aload_n 0, 1) := by decide +kernel
theorem dc_R_make_28 : decode cd_R_make 28 = .ok (.getfield 68, 3) := by decide +kernel
theorem dc_R_make_31 : decode cd_R_make 31 = .ok (.aload_n 0, 1) := by decide +kernel
theorem dc_R_make_32 : decode cd_R_make 32 = .ok (.getfield 19, 3) := by decide +kernel
theorem dc_R_make_35 : decode cd_R_make 35 = .ok (.iconst 0, 1) := by decide +kernel
theorem dc_R_make_36 : decode cd_R_make 36 = .ok (.iaload, 1) := by decide +kernel
theorem dc_R_make_37 : decode cd_R_make 37 = .ok (.iastore, 1) := by decide +kernel
theorem dc_R_make_38 : decode cd_R_make 38 = .ok (.aload_n 0, 1) := by decide +kernel
theorem dc_R_make_39 : decode cd_R_make 39 = .ok (.getfield 31, 3) := by decide +kernel
theorem dc_R_make_42 : decode cd_R_make 42 = .ok (.aload_n 0, 1) := by decide +kernel
theorem dc_R_make_43 : decode cd_R_make 43 = .ok (.getfield 68, 3) := by decide +kernel
theorem dc_R_make_46 : decode cd_R_make 46 = .ok (.aload_n 0, 1) := by decide +kernel
theorem dc_R_make_47 : decode cd_R_make 47 = .ok (.getfield 19, 3) := by decide +kernel
theorem dc_R_make_50 : decode cd_R_make 50 = .ok (.iconst 1, 1) := by decide +kernel
theorem dc_R_make_51 : decode cd_R_make 51 = .ok (.iaload, 1) := by decide +kernel
theorem dc_R_make_52 : decode cd_R_make 52 = .ok (.iastore, 1) := by decide +kernel
theorem dc_R_make_53 : decode cd_R_make 53 = .ok (.aload_n 0, 1) := by decide +kernel
theorem dc_R_make_54 : decode cd_R_make 54 = .ok (.dup, 1) := by decide +kernel
theorem dc_R_make_55 : decode cd_R_make 55 = .ok (.getfield 68, 3) := by decide +kernel
theorem dc_R_make_58 : decode cd_R_make 58 = .ok (.iconst 1, 1) := by decide +kernel
theorem dc_R_make_59 : decode cd_R_make 59 = .ok (.iadd, 1) := by decide +kernel
theorem dc_R_make_60 : decode cd_R_make 60 = .ok (.putfield 68, 3) := by decide +kernel
theorem dc_R_make_63 : decode cd_R_make 63 = .ok (.aload_n 0, 1) := by decide +kernel
theorem dc_R_make_64 : decode cd_R_make 64 = .ok (.aload_n 0, 1) := by decide +kernel
theorem dc_R_make_65 : decode cd_R_make 65 = .ok (.getfield 53, 3) := by decide +kernel
theorem dc_R_make_68 : decode cd_R_make 68 = .ok (.iconst 1, 1) := by decide +kernel
theorem dc_R_make_69 : decode cd_R_make 69 = .ok (.iload_n 1, 1) := by decide +kernel
theorem dc_R_make_70 : decode cd_R_make 70 = .ok (.ishl, 1) := by decide +kernel
theorem dc_R_make_71 : decode cd_R_make 71 = .ok (.iconst (-1), 1) := by decide +kernel
theorem dc_R_make_72 : decode cd_R_make 72 = .ok (.ixor, 1) := by decide +kernel
theorem dc_R_make_73 : decode cd_R_make 73 = .ok (.iand, 1) := by decide +kernel
theorem dc_R_make_74 : decode cd_R_make 74 = .ok (.putfield 53, 3) := by decide +kernel
theorem dc_R_make_77 : decode cd_R_make 77 = .ok (.aload_n 0, 1) := by decide +kernel
theorem dc_R_make_78 : decode cd_R_make 78 = .ok (.iload_n 1, 1) := by decide +kernel
theorem dc_R_make_79 : decode cd_R_make 79 = .ok (.aload_n 0, 1) := by decide +kernel
theorem dc_R_make_80 : decode cd_R_make 80 = .ok (.getfield 53, 3) := by decide +kernel
theorem dc_R_make_83 : decode cd_R_make 83 = .ok (.invokevirtual 77, 3) := by decide +kernel
theorem dc_R_make_86 : decode cd_R_make 86 = .ok (.istore_n 2, 1) := by decide +kernel
theorem dc_R_make_87 : decode cd_R_make 87 = .ok (.aload_n 0, 1) := by decide +kernel
theorem dc_R_make_88 : decode cd_R_make 88 = .ok (.getfield 19, 3) := by decide +kernel
theorem dc_R_make_91 : decode cd_R_make 91 = .ok (.aload_n 0, 1) := by decide +kernel
theorem dc_R_make_92 : decode cd_R_make 92 = .ok (.getfield 71, 3) := by decide +kernel
theorem dc_R_make_95 : decode cd_R_make 95 = .ok (.dup2, 1) := by decide +kernel
theorem dc_R_make_96 : decode cd_R_make 96 = .ok (.iaload, 1) := by decide +kernel
theorem dc_R_make_97 : decode cd_R_make 97 = .ok (.iload_n 2, 1) := by decide +kernel
theorem dc_R_make_98 : decode cd_R_make 98 = .ok (.iadd, 1) := by decide +kernel
theorem dc_R_make_99 : decode cd_R_make 99 = .ok (.iastore, 1) := by decide +kernel
theorem dc_R_make_100 : decode cd_R_make 100 = .ok (.aload_n 0, 1) := by decide +kernel
theorem dc_R_make_101 : decode cd_R_make 101 = .ok (.iload_n 2, 1) := by decide +kernel
theorem dc_R_make_102 : decode cd_R_make 102 = .ok (.ifCond .le 10, 3) := by decide +kernel
theorem dc_R_make_105 : decode cd_R_make 105 = .ok (.aload_n 0, 1) := by decide +kernel
theorem dc_R_make_106 : decode cd_R_make 106 = .ok (.getfield 71, 3) := by decide +kernel
theorem dc_R_make_109 : decode cd_R_make 109 = .ok (.goto 9, 3) := by decide +kernel
theorem dc_R_make_112 : decode cd_R_make 112 = .ok (.iconst 1, 1) := by decide +kernel
theorem dc_R_make_113 : decode cd_R_make 113 = .ok (.aload_n 0, 1) := by decide +kernel
theorem dc_R_make_114 : decode cd_R_make 114 = .ok (.getfield 71, 3) := by decide +kernel
theorem dc_R_make_117 : decode cd_R_make 117 = .ok (.isub, 1) := by decide +kernel
theorem dc_R_make_118 : decode cd_R_make 118 = .ok (.putfield 71, 3) := by decide +kernel
theorem dc_R_make_121 : decode cd_R_make 121 = .ok (.iload_n 2, 1) := by decide +kernel
theorem dc_R_make_122 : decode cd_R_make 122 = .ok (.ireturn, 1) := by decide +kernel
theorem dc_R_undo_0 : decode cd_R_undo 0 = .ok (.aload_n 0, 1) := by decide +kernel
theorem dc_R_undo_1 : decode cd_R_undo 1 = .ok (.aload_n 0, 1) := by decide +kernel
theorem dc_R_undo_2 : decode cd_R_undo 2 = .ok (.getfield 68, 3) := by decide +kernel
theorem dc_R_undo_5 : decode cd_R_undo 5 = .ok (.ifCond .ne 7, 3) := by decide +kernel
theorem dc_R_undo_8 : decode cd_R_undo 8 = .ok (.iconst 1, 1) := by decide +kernel
theorem dc_R_undo_9 : decode cd_R_undo 9 = .ok (.goto 4, 3) := by decide +kernel
theorem dc_R_undo_12 : decode cd_R_undo 12 = .ok (.iconst 0, 1) := by decide +kernel
theorem dc_R_undo_13 : decode cd_R_undo 13 = .ok (.putfield 46, 3) := by decide +kernel
theorem dc_R_undo_16 : decode cd_R_undo 16 = .ok (.aload_n 0, 1) := by decide +kernel
theorem dc_R_undo_17 : decode cd_R_undo 17 = .ok (.getfield 46, 3) := by decide +kernel
theorem dc_R_undo_20 : decode cd_R_undo 20 = .ok (.ifCond .le 5, 3) := by decide +kernel
theorem dc_R_undo_23 : decode cd_R_undo 23 = .ok (.iconst 0, 1) := by decide +kernel
theorem dc_R_undo_24 : decode cd_R_undo 24 = .ok (.ireturn, 1) := by decide +kernel
theorem dc_R_undo_25 : decode cd_R_undo 25 = .ok (.aload_n 0, 1) := by decide +kernel
theorem dc_R_undo_26 : decode cd_R_undo 26 = .ok (.dup, 1) := by decide +kernel
theorem dc_R_undo_27 : decode cd_R_undo 27 = .ok (.getfield 68, 3) := by decide +kernel
theorem dc_R_undo_30 : decode cd_R_undo 30 = .ok (.iconst 1, 1) := by decide +kernel
theorem dc_R_undo_31 : decode cd_R_undo 31 = .ok (.isub, 1) := by decide +kernel
theorem dc_R_undo_32 : decode cd_R_undo 32 = .ok (.putfield 68, 3) := by decide +kernel
theorem dc_R_undo_35 : decode cd_R_undo 35 = .ok (.aload_n 0, 1) := by decide +kernel
theorem dc_R_undo_36 : decode cd_R_undo 36 = .ok (.aload_n 0, 1) := by decide +kernel
