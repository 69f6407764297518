theorem dc_R_undo_37 : decode cd_R_undo 37 = .ok (.getfield 53, 3) := by decide +kernel
theorem dc_R_undo_40 : decode cd_R_undo 40 = .ok (.iconst 1, 1) := by decide +kernel
theorem dc_R_undo_41 : decode cd_R_undo 41 = .ok (.aload_n 0, 1) := by decide +kernel
theorem dc_R_undo_42 : decode cd_R_undo 42 = .ok (.getfield 22, 3) := by decide +kernel
theorem dc_R_undo_45 : decode cd_R_undo 45 = .ok (.aload_n 0, 1) := by decide +kernel
theorem dc_R_undo_46 : decode cd_R_undo 46 = .ok (.getfield 68, 3) := by decide +kernel
theorem dc_R_undo_49 : decode cd_R_undo 49 = .ok (.iaload, 1) := by decide +kernel
theorem dc_R_undo_50 : decode cd_R_undo 50 = .ok (.ishl, 1) := by decide +kernel
theorem dc_R_undo_51 : decode cd_R_undo 51 = .ok (.ior, 1) := by decide +kernel
theorem dc_R_undo_52 : decode cd_R_undo 52 = .ok (.putfield 53, 3) := by decide +kernel
theorem dc_R_undo_55 : decode cd_R_undo 55 = .ok (.aload_n 0, 1) := by decide +kernel
theorem dc_R_undo_56 : decode cd_R_undo 56 = .ok (.aload_n 0, 1) := by decide +kernel
theorem dc_R_undo_57 : decode cd_R_undo 57 = .ok (.getfield 25, 3) := by decide +kernel
theorem dc_R_undo_60 : decode cd_R_undo 60 = .ok (.aload_n 0, 1) := by decide +kernel
theorem dc_R_undo_61 : decode cd_R_undo 61 = .ok (.getfield 68, 3) := by decide +kernel
theorem dc_R_undo_64 : decode cd_R_undo 64 = .ok (.iaload, 1) := by decide +kernel
theorem dc_R_undo_65 : decode cd_R_undo 65 = .ok (.putfield 71, 3) := by decide +kernel
theorem dc_R_undo_68 : decode cd_R_undo 68 = .ok (.aload_n 0, 1) := by decide +kernel
theorem dc_R_undo_69 : decode cd_R_undo 69 = .ok (.getfield 19, 3) := by decide +kernel
theorem dc_R_undo_72 : decode cd_R_undo 72 = .ok (.iconst 0, 1) := by decide +kernel
theorem dc_R_undo_73 : decode cd_R_undo 73 = .ok (.aload_n 0, 1) := by decide +kernel
theorem dc_R_undo_74 : decode cd_R_undo 74 = .ok (.getfield 28, 3) := by decide +kernel
theorem dc_R_undo_77 : decode cd_R_undo 77 = .ok (.aload_n 0, 1) := by decide +kernel
theorem dc_R_undo_78 : decode cd_R_undo 78 = .ok (.getfield 68, 3) := by decide +kernel
theorem dc_R_undo_81 : decode cd_R_undo 81 = .ok (.iaload, 1) := by decide +kernel
theorem dc_R_undo_82 : decode cd_R_undo 82 = .ok (.iastore, 1) := by decide +kernel
theorem dc_R_undo_83 : decode cd_R_undo 83 = .ok (.aload_n 0, 1) := by decide +kernel
theorem dc_R_undo_84 : decode cd_R_undo 84 = .ok (.getfield 19, 3) := by decide +kernel
theorem dc_R_undo_87 : decode cd_R_undo 87 = .ok (.iconst 1, 1) := by decide +kernel
theorem dc_R_undo_88 : decode cd_R_undo 88 = .ok (.aload_n 0, 1) := by decide +kernel
theorem dc_R_undo_89 : decode cd_R_undo 89 = .ok (.getfield 31, 3) := by decide +kernel
theorem dc_R_undo_92 : decode cd_R_undo 92 = .ok (.aload_n 0, 1) := by decide +kernel
theorem dc_R_undo_93 : decode cd_R_undo 93 = .ok (.getfield 68, 3) := by decide +kernel
theorem dc_R_undo_96 : decode cd_R_undo 96 = .ok (.iaload, 1) := by decide +kernel
theorem dc_R_undo_97 : decode cd_R_undo 97 = .ok (.iastore, 1) := by decide +kernel
theorem dc_R_undo_98 : decode cd_R_undo 98 = .ok (.aload_n 0, 1) := by decide +kernel
theorem dc_R_undo_99 : decode cd_R_undo 99 = .ok (.getfield 22, 3) := by decide +kernel
theorem dc_R_undo_102 : decode cd_R_undo 102 = .ok (.aload_n 0, 1) := by decide +kernel
theorem dc_R_undo_103 : decode cd_R_undo 103 = .ok (.getfield 68, 3) := by decide +kernel
theorem dc_R_undo_106 : decode cd_R_undo 106 = .ok (.iaload, 1) := by decide +kernel
theorem dc_R_undo_107 : decode cd_R_undo 107 = .ok (.ireturn, 1) := by decide +kernel
theorem dc_R_play_0 : decode cd_R_play 0 = .ok (.aload_n 0, 1) := by decide +kernel
theorem dc_R_play_1 : decode cd_R_play 1 = .ok (.invokevirtual 94, 3) := by decide +kernel
theorem dc_R_play_4 : decode cd_R_play 4 = .ok (.ifCond .ne 5, 3) := by decide +kernel
theorem dc_R_play_7 : decode cd_R_play 7 = .ok (.iconst 0, 1) := by decide +kernel
theorem dc_R_play_8 : decode cd_R_play 8 = .ok (.ireturn, 1) := by decide +kernel
theorem dc_R_play_9 : decode cd_R_play 9 = .ok (.aload_n 0, 1) := by decide +kernel
theorem dc_R_play_10 : decode cd_R_play 10 = .ok (.getfield 71, 3) := by decide +kernel
theorem dc_R_play_13 : decode cd_R_play 13 = .ok (.istore_n 1, 1) := by decide +kernel
theorem dc_R_play_14 : decode cd_R_play 14 = .ok (.iconst 0, 1) := by decide +kernel
theorem dc_R_play_15 : decode cd_R_play 15 = .ok (.istore_n 2, 1) := by decide +kernel
theorem dc_R_play_16 : decode cd_R_play 16 = .ok (.aload_n 0, 1) := by decide +kernel
theorem dc_R_play_17 : decode cd_R_play 17 = .ok (.getfield 53, 3) := by decide +kernel
theorem dc_R_play_20 : decode cd_R_play 20 = .ok (.ifCond .eq 47, 3) := by decide +kernel
theorem dc_R_play_23 : decode cd_R_play 23 = .ok (.aload_n 0, 1) := by decide +kernel
theorem dc_R_play_24 : decode cd_R_play 24 = .ok (.getfield 71, 3) := by decide +kernel
theorem dc_R_play_27 : decode cd_R_play 27 = .ok (.iload_n 1, 1) := by decide +kernel
theorem dc_R_play_28 : decode cd_R_play 28 = .ok (.if_icmp .ne 39, 3) := by decide +kernel
theorem dc_R_play_31 : decode cd_R_play 31 = .ok (.aload_n 0, 1) := by decide +kernel
theorem dc_R_play_32 : decode cd_R_play 32 = .ok (.invokevirtual 98, 3) := by decide +kernel
theorem dc_R_play_35 : decode cd_R_play 35 = .ok (.istore_n 3, 1) := by decide +kernel
theorem dc_R_play_36 : decode cd_R_play 36 = .ok (.iconst 0, 1) := by decide +kernel
theorem dc_R_play_37 : decode cd_R_play 37 = .ok (.istore 4, 2) := by decide +kernel
theorem dc_R_play_39 : decode cd_R_play 39 = .ok (.iload_n 3, 1) := by decide +kernel
theorem dc_R_play_40 : decode cd_R_play 40 = .ok (.iload 4, 2) := by decide +kernel
theorem dc_R_play_42 : decode cd_R_play 42 = .ok (.ishr, 1) := by decide +kernel
theorem dc_R_play_43 : decode cd_R_play 43 = .ok (.iconst 1, 1) := by decide +kernel
theorem dc_R_play_44 : decode cd_R_play 44 = .ok (.iand, 1) := by decide +kernel
theorem dc_R_play_45 : decode cd_R_play 45 = .ok (.ifCond .ne 9, 3) := by decide +kernel
theorem dc_R_play_48 : decode cd_R_play 48 = .ok (.iinc 4 1, 3) := by decide +kernel
theorem dc_R_play_51 : decode cd_R_play 51 = .ok (.goto (-12), 3) := by decide +kernel
theorem dc_R_play_54 : decode cd_R_play 54 = .ok (.aload_n 0, 1) := by decide +kernel
theorem dc_R_play_55 : decode cd_R_play 55 = .ok (.iload 4, 2) := by decide +kernel
theorem dc_R_play_57 : decode cd_R_play 57 = .ok (.invokevirtual 102, 3) := by decide +kernel
theorem dc_R_play_60 : decode cd_R_play 60 = .ok (.pop, 1) := by decide +kernel
theorem dc_R_play_61 : decode cd_R_play 61 = .ok (.iinc 2 1, 3) := by decide +kernel
theorem dc_R_play_64 : decode cd_R_play 64 = .ok (.goto (-48), 3) := by decide +kernel
theorem dc_R_play_67 : decode cd_R_play 67 = .ok (.iload_n 2, 1) := by decide +kernel
theorem dc_R_play_68 : decode cd_R_play 68 = .ok (.ireturn, 1) := by decide +kernel
theorem dc_R_turn_0 : decode cd_R_turn 0 = .ok (.aload_n 0, 1) := by decide +kernel
theorem dc_R_turn_1 : decode cd_R_turn 1 = .ok (.iconst 0, 1) := by decide +kernel
theorem dc_R_turn_2 : decode cd_R_turn 2 = .ok (.putfield 46, 3) := by decide +kernel
theorem dc_R_turn_5 : decode cd_R_turn 5 = .ok (.aload_n 0, 1) := by decide +kernel
theorem dc_R_turn_6 : decode cd_R_turn 6 = .ok (.getfield 71, 3) := by decide +kernel
theorem dc_R_turn_9 : decode cd_R_turn 9 = .ok (.ireturn, 1) := by decide +kernel
theorem dc_R_taken_0 : decode cd_R_taken 0 = .ok (.aload_n 0, 1) := by decide +kernel
theorem dc_R_taken_1 : decode cd_R_taken 1 = .ok (.iload_n 1, 1) := by decide +kernel
theorem dc_R_taken_2 : decode cd_R_taken 2 = .ok (.ifCond .eq 8, 3) := by decide +kernel
theorem dc_R_taken_5 : decode cd_R_taken 5 = .ok (.iload_n 1, 1) := by decide +kernel
theorem dc_R_taken_6 : decode cd_R_taken 6 = .ok (.iconst 1, 1) := by decide +kernel
theorem dc_R_taken_7 : decode cd_R_taken 7 = .ok (.if_icmp .ne 7, 3) := by decide +kernel
theorem dc_R_taken_10 : decode cd_R_taken 10 = .ok (.iconst 0, 1) := by decide +kernel
theorem dc_R_taken_11 : decode cd_R_taken 11 = .ok (.goto 4, 3) := by decide +kernel
theorem dc_R_taken_14 : decode cd_R_taken 14 = .ok (.iconst 1, 1) := by decide +kernel
theorem dc_R_taken_15 : decode cd_R_taken 15 = .ok (.putfield 46, 3) := by decide +kernel
theorem dc_R_taken_18 : decode cd_R_taken 18 = .ok (.aload_n 0, 1) := by decide +kernel
theorem dc_R_taken_19 : decode cd_R_taken 19 = .ok (.getfield 46, 3) := by decide +kernel
theorem dc_R_taken_22 : decode cd_R_taken 22 = .ok (.ifCond .le 7, 3) := by decide +kernel
theorem dc_R_taken_25 : decode cd_R_taken 25 = .ok (.iconst 0, 1) := by decide +kernel
theorem dc_R_taken_26 : decode cd_R_taken 26 = .ok (.goto 9, 3) := by decide +kernel
theorem dc_R_taken_29 : decode cd_R_taken 29 = .ok (.aload_n 0, 1) := by decide +kernel
theorem dc_R_taken_30 : decode cd_R_taken 30 = .ok (.getfield 19, 3) := by decide +kernel
theorem dc_R_taken_33 : decode cd_R_taken 33 = .ok (.iload_n 1, 1) := by decide +kernel
theorem dc_R_taken_34 : decode cd_R_taken 34 = .ok (.iaload, 1) := by decide +kernel
theorem dc_R_taken_35 : decode cd_R_taken 35 = .ok (.ireturn, 1) := by decide +kernel
theorem dc_R_left_0 : decode cd_R_left 0 = .ok (.aload_n 0, 1) := by decide +kernel
theorem dc_R_left_1 : decode cd_R_left 1 = .ok (.iconst 0, 1) := by decide +kernel
theorem dc_R_left_2 : decode cd_R_left 2 = .ok (.putfield 46, 3) := by decide +kernel
theorem dc_R_left_5 : decode cd_R_left 5 = .ok (.aload_n 0, 1) := by decide +kernel
theorem dc_R_left_6 : decode cd_R_left 6 = .ok (.getfield 53, 3) := by decide +kernel
theorem dc_R_left_9 : decode cd_R_left 9 = .ok (.ireturn, 1) := by decide +kernel
theorem dc_R_strings_0 : decode cd_R_strings 0 = .ok (.aload_n 0, 1) := by decide +kernel
theorem dc_R_strings_1 : decode cd_R_strings 1 = .ok (.iload_n 1, 1) := by decide +kernel
theorem dc_R_strings_2 : decode cd_R_strings 2 = .ok (.invokestatic 56, 3) := by decide +kernel
theorem dc_R_strings_5 : decode cd_R_strings 5 = .ok (.ifCond .eq 7, 3) := by decide +kernel
theorem dc_R_strings_8 : decode cd_R_strings 8 = .ok (.iconst 0, 1) := by decide +kernel
theorem dc_R_strings_9 : decode cd_R_strings 9 = .ok (.goto 4, 3) := by decide +kernel
theorem dc_R_strings_12 : decode cd_R_strings 12 = .ok (.iconst 1, 1) := by decide +kernel
theorem dc_R_strings_13 : decode cd_R_strings 13 = .ok (.putfield 46, 3) := by decide +kernel
theorem dc_R_strings_16 : decode cd_R_strings 16 = .ok (.aload_n 0, 1) := by decide +kernel
theorem dc_R_strings_17 : decode cd_R_strings 17 = .ok (.getfield 46, 3) := by decide +kernel
theorem dc_R_strings_20 : decode cd_R_strings 20 = .ok (.ifCond .le 7, 3) := by decide +kernel
theorem dc_R_strings_23 : decode cd_R_strings 23 = .ok (.iconst 0, 1) := by decide +kernel
theorem dc_R_strings_24 : decode cd_R_strings 24 = .ok (.goto 12, 3) := by decide +kernel
theorem dc_R_strings_27 : decode cd_R_strings 27 = .ok (.aload_n 0, 1) := by decide +kernel
theorem dc_R_strings_28 : decode cd_R_strings 28 = .ok (.iload_n 1, 1) := by decide +kernel
theorem dc_R_strings_29 : decode cd_R_strings 29 = .ok (.aload_n 0, 1) := by decide +kernel
theorem dc_R_strings_30 : decode cd_R_strings 30 = .ok (.getfield 53, 3) := by decide +kernel
theorem dc_R_strings_33 : decode cd_R_strings 33 = .ok (.invokevirtual 105, 3) := by decide +kernel
theorem dc_R_strings_36 : decode cd_R_strings 36 = .ok (.ireturn, 1) := by decide +kernel
theorem dc_R_belong_0 : decode cd_R_belong 0 = .ok (.iconst 0, 1) := by decide +kernel
theorem dc_R_belong_1 : decode cd_R_belong 1 = .ok (.istore_n 3, 1) := by decide +kernel
theorem dc_R_belong_2 : decode cd_R_belong 2 = .ok (.iconst 0, 1) := by decide +kernel
theorem dc_R_belong_3 : decode cd_R_belong 3 = .ok (.istore 4, 2) := by decide +kernel
theorem dc_R_belong_5 : decode cd_R_belong 5 = .ok (.iload 4, 2) := by decide +kernel
theorem dc_R_belong_7 : decode cd_R_belong 7 = .ok (.aload_n 0, 1) := by decide +kernel
theorem dc_R_belong_8 : decode cd_R_belong 8 = .ok (.getfield 50, 3) := by decide +kernel
theorem dc_R_belong_11 : decode cd_R_belong 11 = .ok (.if_icmp .ge 28, 3) := by decide +kernel
theorem dc_R_belong_14 : decode cd_R_belong 14 = .ok (.iload_n 3, 1) := by decide +kernel
theorem dc_R_belong_15 : decode cd_R_belong 15 = .ok (.aload_n 0, 1) := by decide +kernel
theorem dc_R_belong_16 : decode cd_R_belong 16 = .ok (.getfield 16, 3) := by decide +kernel
theorem dc_R_belong_19 : decode cd_R_belong 19 = .ok (.iload_n 1, 1) := by decide +kernel
theorem dc_R_belong_20 : decode cd_R_belong 20 = .ok (.iaload, 1) := by decide +kernel
theorem dc_R_belong_21 : decode cd_R_belong 21 = .ok (.iload 4, 2) := by decide +kernel
theorem dc_R_belong_23 : decode cd_R_belong 23 = .ok (.ishr, 1) := by decide +kernel
theorem dc_R_belong_24 : decode cd_R_belong 24 = .ok (.iload_n 2, 1) := by decide +kernel
theorem dc_R_belong_25 : decode cd_R_belong 25 = .ok (.iload 4, 2) := by decide +kernel
theorem dc_R_belong_27 : decode cd_R_belong 27 = .ok (.ishr, 1) := by decide +kernel
theorem dc_R_belong_28 : decode cd_R_belong 28 = .ok (.iand, 1) := by decide +kernel
theorem dc_R_belong_29 : decode cd_R_belong 29 = .ok (.iconst 1, 1) := by decide +kernel
theorem dc_R_belong_30 : decode cd_R_belong 30 = .ok (.iand, 1) := by decide +kernel
theorem dc_R_belong_31 : decode cd_R_belong 31 = .ok (.iadd, 1) := by decide +kernel
theorem dc_R_belong_32 : decode cd_R_belong 32 = .ok (.istore_n 3, 1) := by decide +kernel
theorem dc_R_belong_33 : decode cd_R_belong 33 = .ok (.iinc 4 1, 3) := by decide +kernel
theorem dc_R_belong_36 : decode cd_R_belong 36 = .ok (.goto (-31), 3) := by decide +kernel
theorem dc_R_belong_39 : decode cd_R_belong 39 = .ok (.iload_n 3, 1) := by decide +kernel
theorem dc_R_belong_40 : decode cd_R_belong 40 = .ok (.ireturn, 1) := by decide +kernel
theorem dc_R_groups_0 : decode cd_R_groups 0 = .ok (.aload_n 0, 1) := by decide +kernel
theorem dc_R_groups_1 : decode cd_R_groups 1 = .ok (.iconst 0, 1) := by decide +kernel
theorem dc_R_groups_2 : decode cd_R_groups 2 = .ok (.putfield 46, 3) := by decide +kernel
theorem dc_R_groups_5 : decode cd_R_groups 5 = .ok (.aload_n 0, 1) := by decide +kernel
theorem dc_R_groups_6 : decode cd_R_groups 6 = .ok (.invokevirtual 118, 3) := by decide +kernel
theorem dc_R_groups_9 : decode cd_R_groups 9 = .ok (.aload_n 0, 1) := by decide +kernel
theorem dc_R_groups_10 : decode cd_R_groups 10 = .ok (.getfield 108, 3) := by decide +kernel
theorem dc_R_groups_13 : decode cd_R_groups 13 = .ok (.ireturn, 1) := by decide +kernel
theorem dc_R_part_0 : decode cd_R_part 0 = .ok (.aload_n 0, 1) := by decide +kernel
theorem dc_R_part_1 : decode cd_R_part 1 = .ok (.iconst 0, 1) := by decide +kernel
theorem dc_R_part_2 : decode cd_R_part 2 = .ok (.putfield 108, 3) := by decide +kernel
theorem dc_R_part_5 : decode cd_R_part 5 = .ok (.iconst 0, 1) := by decide +kernel
theorem dc_R_part_6 : decode cd_R_part 6 = .ok (.istore_n 1, 1) := by decide +kernel
theorem dc_R_part_7 : decode cd_R_part 7 = .ok (.iload_n 1, 1) := by decide +kernel
theorem dc_R_part_8 : decode cd_R_part 8 = .ok (.bipush 8, 2) := by decide +kernel
theorem dc_R_part_10 : decode cd_R_part 10 = .ok (.if_icmp .ge 16, 3) := by decide +kernel
theorem dc_R_part_13 : decode cd_R_part 13 = .ok (.aload_n 0, 1) := by decide +kernel
theorem dc_R_part_14 : decode cd_R_part 14 = .ok (.getfield 40, 3) := by decide +kernel
theorem dc_R_part_17 : decode cd_R_part 17 = .ok (.iload_n 1, 1) := by decide +kernel
theorem dc_R_part_18 : decode cd_R_part 18 = .ok (.iconst (-1), 1) := by decide +kernel
theorem dc_R_part_19 : decode cd_R_part 19 = .ok (.iastore, 1) := by decide +kernel
theorem dc_R_part_20 : decode cd_R_part 20 = .ok (.iinc 1 1, 3) := by decide +kernel
theorem dc_R_part_23 : decode cd_R_part 23 = .ok (.goto (-16), 3) := by decide +kernel
theorem dc_R_part_26 : decode cd_R_part 26 = .ok (.iconst 0, 1) := by decide +kernel
theorem dc_R_part_27 : decode cd_R_part 27 = .ok (.istore_n 1, 1) := by decide +kernel
theorem dc_R_part_28 : decode cd_R_part 28 = .ok (.iload_n 1, 1) := by decide +kernel
theorem dc_R_part_29 : decode cd_R_part 29 = .ok (.bipush 8, 2) := by decide +kernel
theorem dc_R_part_31 : decode cd_R_part 31 = .ok (.if_icmp .ge 55, 3) := by decide +kernel
theorem dc_R_part_34 : decode cd_R_part 34 = .ok (.aload_n 0, 1) := by decide +kernel
theorem dc_R_part_35 : decode cd_R_part 35 = .ok (.getfield 40, 3) := by decide +kernel
theorem dc_R_part_38 : decode cd_R_part 38 = .ok (.iload_n 1, 1) := by decide +kernel
theorem dc_R_part_39 : decode cd_R_part 39 = .ok (.iaload, 1) := by decide +kernel
theorem dc_R_part_40 : decode cd_R_part 40 = .ok (.ifCond .ge 40, 3) := by decide +kernel
theorem dc_R_part_43 : decode cd_R_part 43 = .ok (.aload_n 0, 1) := by decide +kernel
theorem dc_R_part_44 : decode cd_R_part 44 = .ok (.iload_n 1, 1) := by decide +kernel
theorem dc_R_part_45 : decode cd_R_part 45 = .ok (.aload_n 0, 1) := by decide +kernel
theorem dc_R_part_46 : decode cd_R_part 46 = .ok (.getfield 53, 3) := by decide +kernel
theorem dc_R_part_49 : decode cd_R_part 49 = .ok (.invokevirtual 105, 3) := by decide +kernel
theorem dc_R_part_52 : decode cd_R_part 52 = .ok (.iconst 2, 1) := by decide +kernel
theorem dc_R_part_53 : decode cd_R_part 53 = .ok (.if_icmp .ne 27, 3) := by decide +kernel
theorem dc_R_part_56 : decode cd_R_part 56 = .ok (.aload_n 0, 1) := by decide +kernel
theorem dc_R_part_57 : decode cd_R_part 57 = .ok (.getfield 40, 3) := by decide +kernel
theorem dc_R_part_60 : decode cd_R_part 60 = .ok (.iload_n 1, 1) := by decide +kernel
theorem dc_R_part_61 : decode cd_R_part 61 = .ok (.aload_n 0, 1) := by decide +kernel
theorem dc_R_part_62 : decode cd_R_part 62 = .ok (.getfield 108, 3) := by decide +kernel
theorem dc_R_part_65 : decode cd_R_part 65 = .ok (.iastore, 1) := by decide +kernel
theorem dc_R_part_66 : decode cd_R_part 66 = .ok (.aload_n 0, 1) := by decide +kernel
theorem dc_R_part_67 : decode cd_R_part 67 = .ok (.invokevirtual 111, 3) := by decide +kernel
theorem dc_R_part_70 : decode cd_R_part 70 = .ok (.aload_n 0, 1) := by decide +kernel
theorem dc_R_part_71 : decode cd_R_part 71 = .ok (.dup, 1) := by decide +kernel
theorem dc_R_part_72 : decode cd_R_part 72 = .ok (.getfield 108, 3) := by decide +kernel
theorem dc_R_part_75 : decode cd_R_part 75 = .ok (.iconst 1, 1) := by decide +kernel
theorem dc_R_part_76 : decode cd_R_part 76 = .ok (.iadd, 1) := by decide +kernel
theorem dc_R_part_77 : decode cd_R_part 77 = .ok (.putfield 108, 3) := by decide +kernel
theorem dc_R_part_80 : decode cd_R_part 80 = .ok (.iinc 1 1, 3) := by decide +kernel
theorem dc_R_part_83 : decode cd_R_part 83 = .ok (.goto (-55), 3) := by decide +kernel
theorem dc_R_part_86 : decode cd_R_part 86 = .ok (.return_, 1) := by decide +kernel
theorem dc_R_spread_0 : decode cd_R_spread 0 = .ok (.iconst 1, 1) := by decide +kernel
theorem dc_R_spread_1 : decode cd_R_spread 1 = .ok (.istore_n 1, 1) := by decide +kernel
theorem dc_R_spread_2 : decode cd_R_spread 2 = .ok (.iload_n 1, 1) := by decide +kernel
theorem dc_R_spread_3 : decode cd_R_spread 3 = .ok (.ifCond .eq 92, 3) := by decide +kernel
theorem dc_R_spread_6 : decode cd_R_spread 6 = .ok (.iconst 0, 1) := by decide +kernel
theorem dc_R_spread_7 : decode cd_R_spread 7 = .ok (.istore_n 1, 1) := by decide +kernel
theorem dc_R_spread_8 : decode cd_R_spread 8 = .ok (.iconst 0, 1) := by decide +kernel
theorem dc_R_spread_9 : decode cd_R_spread 9 = .ok (.istore_n 2, 1) := by decide +kernel
theorem dc_R_spread_10 : decode cd_R_spread 10 = .ok (.iload_n 2, 1) := by decide +kernel
theorem dc_R_spread_11 : decode cd_R_spread 11 = .ok (.bipush 8, 2) := by decide +kernel
theorem dc_R_spread_13 : decode cd_R_spread 13 = .ok (.if_icmp .ge 79, 3) := by decide +kernel
theorem dc_R_spread_16 : decode cd_R_spread 16 = .ok (.iconst 0, 1) := by decide +kernel
theorem dc_R_spread_17 : decode cd_R_spread 17 = .ok (.istore_n 3, 1) := by decide +kernel
theorem dc_R_spread_18 : decode cd_R_spread 18 = .ok (.iload_n 3, 1) := by decide +kernel
theorem dc_R_spread_19 : decode cd_R_spread 19 = .ok (.bipush 8, 2) := by decide +kernel
theorem dc_R_spread_21 : decode cd_R_spread 21 = .ok (.if_icmp .ge 65, 3) := by decide +kernel
theorem dc_R_spread_24 : decode cd_R_spread 24 = .ok (.aload_n 0, 1) := by decide +kernel
theorem dc_R_spread_25 : decode cd_R_spread 25 = .ok (.getfield 40, 3) := by decide +kernel
theorem dc_R_spread_28 : decode cd_R_spread 28 = .ok (.iload_n 2, 1) := by decide +kernel
theorem dc_R_spread_29 : decode cd_R_spread 29 = .ok (.iaload, 1) := by decide +kernel
theorem dc_R_spread_30 : decode cd_R_spread 30 = .ok (.ifCond .ge 56, 3) := by decide +kernel
theorem dc_R_spread_33 : decode cd_R_spread 33 = .ok (.aload_n 0, 1) := by decide +kernel
theorem dc_R_spread_34 : decode cd_R_spread 34 = .ok (.getfield 40, 3) := by decide +kernel
theorem dc_R_spread_37 : decode cd_R_spread 37 = .ok (.iload_n 3, 1) := by decide +kernel
theorem dc_R_spread_38 : decode cd_R_spread 38 = .ok (.iaload, 1) := by decide +kernel
theorem dc_R_spread_39 : decode cd_R_spread 39 = .ok (.aload_n 0, 1) := by decide +kernel
theorem dc_R_spread_40 : decode cd_R_spread 40 = .ok (.getfield 108, 3) := by decide +kernel
theorem dc_R_spread_43 : decode cd_R_spread 43 = .ok (.if_icmp .ne 37, 3) := by decide +kernel
theorem dc_R_spread_46 : decode cd_R_spread 46 = .ok (.aload_n 0, 1) := by decide +kernel
theorem dc_R_spread_47 : decode cd_R_spread 47 = .ok (.iload_n 2, 1) := by decide +kernel
theorem dc_R_spread_48 : decode cd_R_spread 48 = .ok (.aload_n 0, 1) := by decide +kernel
theorem dc_R_spread_49 : decode cd_R_spread 49 = .ok (.getfield 53, 3) := by decide +kernel
theorem dc_R_spread_52 : decode cd_R_spread 52 = .ok (.invokevirtual 105, 3) := by decide +kernel
theorem dc_R_spread_55 : decode cd_R_spread 55 = .ok (.iconst 2, 1) := by decide +kernel
theorem dc_R_spread_56 : decode cd_R_spread 56 = .ok (.if_icmp .ne 24, 3) := by decide +kernel
theorem dc_R_spread_59 : decode cd_R_spread 59 = .ok (.aload_n 0, 1) := by decide +kernel
theorem dc_R_spread_60 : decode cd_R_spread 60 = .ok (.iload_n 2, 1) := by decide +kernel
theorem dc_R_spread_61 : decode cd_R_spread 61 = .ok (.iload_n 3, 1) := by decide +kernel
theorem dc_R_spread_62 : decode cd_R_spread 62 = .ok (.invokevirtual 114, 3) := by decide +kernel
theorem dc_R_spread_65 : decode cd_R_spread 65 = .ok (.ifCond .eq 15, 3) := by decide +kernel
theorem dc_R_spread_68 : decode cd_R_spread 68 = .ok (.aload_n 0, 1) := by decide +kernel
theorem dc_R_spread_69 : decode cd_R_spread 69 = .ok (.getfield 40, 3) := by decide +kernel
theorem dc_R_spread_72 : decode cd_R_spread 72 = .ok (.iload_n 2, 1) := by decide +kernel
theorem dc_R_spread_73 : decode cd_R_spread 73 = .ok (.aload_n 0, 1) := by decide +kernel
theorem dc_R_spread_74 : decode cd_R_spread 74 = .ok (.getfield 108, 3) := by decide +kernel
theorem dc_R_spread_77 : decode cd_R_spread 77 = .ok (.iastore, 1) := by decide +kernel
theorem dc_R_spread_78 : decode cd_R_spread 78 = .ok (.iconst 1, 1) := by decide +kernel
theorem dc_R_spread_79 : decode cd_R_spread 79 = .ok (.istore_n 1, 1) := by decide +kernel
theorem dc_R_spread_80 : decode cd_R_spread 80 = .ok (.iinc 3 1, 3) := by decide +kernel
theorem dc_R_spread_83 : decode cd_R_spread 83 = .ok (.goto (-65), 3) := by decide +kernel
theorem dc_R_spread_86 : decode cd_R_spread 86 = .ok (.iinc 2 1, 3) := by decide +kernel
theorem dc_R_spread_89 : decode cd_R_spread 89 = .ok (.goto (-79), 3) := by decide +kernel
theorem dc_R_spread_92 : decode cd_R_spread 92 = .ok (.goto (-90), 3) := by decide +kernel
theorem dc_R_spread_95 : decode cd_R_spread 95 = .ok (.return_, 1) := by decide +kernel
theorem dc_R_joined_0 : decode cd_R_joined 0 = .ok (.iconst 0, 1) := by decide +kernel
theorem dc_R_joined_1 : decode cd_R_joined 1 = .ok (.istore_n 3, 1) := by decide +kernel
theorem dc_R_joined_2 : decode cd_R_joined 2 = .ok (.iconst 0, 1) := by decide +kernel
theorem dc_R_joined_3 : decode cd_R_joined 3 = .ok (.istore 4, 2) := by decide +kernel
theorem dc_R_joined_5 : decode cd_R_joined 5 = .ok (.iload 4, 2) := by decide +kernel
theorem dc_R_joined_7 : decode cd_R_joined 7 = .ok (.aload_n 0, 1) := by decide +kernel
theorem dc_R_joined_8 : decode cd_R_joined 8 = .ok (.getfield 50, 3) := by decide +kernel
theorem dc_R_joined_11 : decode cd_R_joined 11 = .ok (.if_icmp .ge 76, 3) := by decide +kernel
theorem dc_R_joined_14 : decode cd_R_joined 14 = .ok (.iload_n 3, 1) := by decide +kernel
theorem dc_R_joined_15 : decode cd_R_joined 15 = .ok (.ifCond .ne 60, 3) := by decide +kernel
theorem dc_R_joined_18 : decode cd_R_joined 18 = .ok (.aload_n 0, 1) := by decide +kernel
theorem dc_R_joined_19 : decode cd_R_joined 19 = .ok (.getfield 53, 3) := by decide +kernel
theorem dc_R_joined_22 : decode cd_R_joined 22 = .ok (.iload 4, 2) := by decide +kernel
theorem dc_R_joined_24 : decode cd_R_joined 24 = .ok (.ishr, 1) := by decide +kernel
theorem dc_R_joined_25 : decode cd_R_joined 25 = .ok (.iconst 1, 1) := by decide +kernel
theorem dc_R_joined_26 : decode cd_R_joined 26 = .ok (.iand, 1) := by decide +kernel
theorem dc_R_joined_27 : decode cd_R_joined 27 = .ok (.iconst 1, 1) := by decide +kernel
theorem dc_R_joined_28 : decode cd_R_joined 28 = .ok (.if_icmp .ne 51, 3) := by decide +kernel
theorem dc_R_joined_31 : decode cd_R_joined 31 = .ok (.aload_n 0, 1) := by decide +kernel
theorem dc_R_joined_32 : decode cd_R_joined 32 = .ok (.getfield 7, 3) := by decide +kernel
theorem dc_R_joined_35 : decode cd_R_joined 35 = .ok (.iload 4, 2) := by decide +kernel
theorem dc_R_joined_37 : decode cd_R_joined 37 = .ok (.iaload, 1) := by decide +kernel
theorem dc_R_joined_38 : decode cd_R_joined 38 = .ok (.iload_n 1, 1) := by decide +kernel
theorem dc_R_joined_39 : decode cd_R_joined 39 = .ok (.if_icmp .ne 14, 3) := by decide +kernel
theorem dc_R_joined_42 : decode cd_R_joined 42 = .ok (.aload_n 0, 1) := by decide +kernel
theorem dc_R_joined_43 : decode cd_R_joined 43 = .ok (.getfield 13, 3) := by decide +kernel
theorem dc_R_joined_46 : decode cd_R_joined 46 = .ok (.iload 4, 2) := by decide +kernel
theorem dc_R_joined_48 : decode cd_R_joined 48 = .ok (.iaload, 1) := by decide +kernel
theorem dc_R_joined_49 : decode cd_R_joined 49 = .ok (.iload_n 2, 1) := by decide +kernel
theorem dc_R_joined_50 : decode cd_R_joined 50 = .ok (.if_icmp .eq 25, 3) := by decide +kernel
theorem dc_R_joined_53 : decode cd_R_joined 53 = .ok (.aload_n 0, 1) := by decide +kernel
theorem dc_R_joined_54 : decode cd_R_joined 54 = .ok (.getfield 7, 3) := by decide +kernel
theorem dc_R_joined_57 : decode cd_R_joined 57 = .ok (.iload 4, 2) := by decide +kernel
theorem dc_R_joined_59 : decode cd_R_joined 59 = .ok (.iaload, 1) := by decide +kernel
theorem dc_R_joined_60 : decode cd_R_joined 60 = .ok (.iload_n 2, 1) := by decide +kernel
theorem dc_R_joined_61 : decode cd_R_joined 61 = .ok (.if_icmp .ne 18, 3) := by decide +kernel
theorem dc_R_joined_64 : decode cd_R_joined 64 = .ok (.aload_n 0, 1) := by decide +kernel
theorem dc_R_joined_65 : decode cd_R_joined 65 = .ok (.getfield 13, 3) := by decide +kernel
theorem dc_R_joined_68 : decode cd_R_joined 68 = .ok (.iload 4, 2) := by decide +kernel
theorem dc_R_joined_70 : decode cd_R_joined 70 = .ok (.iaload, 1) := by decide +kernel
theorem dc_R_joined_71 : decode cd_R_joined 71 = .ok (.iload_n 1, 1) := by decide +kernel
theorem dc_R_joined_72 : decode cd_R_joined 72 = .ok (.if_icmp .ne 7, 3) := by decide +kernel
theorem dc_R_joined_75 : decode cd_R_joined 75 = .ok (.iconst 1, 1) := by decide +kernel
theorem dc_R_joined_76 : decode cd_R_joined 76 = .ok (.goto 4, 3) := by decide +kernel
theorem dc_R_joined_79 : decode cd_R_joined 79 = .ok (.iconst 0, 1) := by decide +kernel
theorem dc_R_joined_80 : decode cd_R_joined 80 = .ok (.istore_n 3, 1) := by decide +kernel
theorem dc_R_joined_81 : decode cd_R_joined 81 = .ok (.iinc 4 1, 3) := by decide +kernel
theorem dc_R_joined_84 : decode cd_R_joined 84 = .ok (.goto (-79), 3) := by decide +kernel
theorem dc_R_joined_87 : decode cd_R_joined 87 = .ok (.iload_n 3, 1) := by decide +kernel
theorem dc_R_joined_88 : decode cd_R_joined 88 = .ok (.ireturn, 1) := by decide +kernel
theorem dc_R_group_0 : decode cd_R_group 0 = .ok (.aload_n 0, 1) := by decide +kernel
theorem dc_R_group_1 : decode cd_R_group 1 = .ok (.invokevirtual 118, 3) := by decide +kernel
theorem dc_R_group_4 : decode cd_R_group 4 = .ok (.aload_n 0, 1) := by decide +kernel
theorem dc_R_group_5 : decode cd_R_group 5 = .ok (.iload_n 1, 1) := by decide +kernel
theorem dc_R_group_6 : decode cd_R_group 6 = .ok (.ifCond .lt 11, 3) := by decide +kernel
theorem dc_R_group_9 : decode cd_R_group 9 = .ok (.iload_n 1, 1) := by decide +kernel
theorem dc_R_group_10 : decode cd_R_group 10 = .ok (.aload_n 0, 1) := by decide +kernel
theorem dc_R_group_11 : decode cd_R_group 11 = .ok (.getfield 108, 3) := by decide +kernel
theorem dc_R_group_14 : decode cd_R_group 14 = .ok (.if_icmp .lt 7, 3) := by decide +kernel
theorem dc_R_group_17 : decode cd_R_group 17 = .ok (.iconst 1, 1) := by decide +kernel
theorem dc_R_group_18 : decode cd_R_group 18 = .ok (.goto 4, 3) := by decide +kernel
theorem dc_R_group_21 : decode cd_R_group 21 = .ok (.iconst 0, 1) := by decide +kernel
theorem dc_R_group_22 : decode cd_R_group 22 = .ok (.putfield 46, 3) := by decide +kernel
theorem dc_R_group_25 : decode cd_R_group 25 = .ok (.aload_n 0, 1) := by decide +kernel
theorem dc_R_group_26 : decode cd_R_group 26 = .ok (.getfield 46, 3) := by decide +kernel
theorem dc_R_group_29 : decode cd_R_group 29 = .ok (.ifCond .le 5, 3) := by decide +kernel
theorem dc_R_group_32 : decode cd_R_group 32 = .ok (.iconst 0, 1) := by decide +kernel
theorem dc_R_group_33 : decode cd_R_group 33 = .ok (.ireturn, 1) := by decide +kernel
theorem dc_R_group_34 : decode cd_R_group 34 = .ok (.iconst 0, 1) := by decide +kernel
theorem dc_R_group_35 : decode cd_R_group 35 = .ok (.istore_n 2, 1) := by decide +kernel
theorem dc_R_group_36 : decode cd_R_group 36 = .ok (.iconst 1, 1) := by decide +kernel
theorem dc_R_group_37 : decode cd_R_group 37 = .ok (.istore_n 3, 1) := by decide +kernel
theorem dc_R_group_38 : decode cd_R_group 38 = .ok (.iconst 0, 1) := by decide +kernel
theorem dc_R_group_39 : decode cd_R_group 39 = .ok (.istore 4, 2) := by decide +kernel
theorem dc_R_group_41 : decode cd_R_group 41 = .ok (.iload 4, 2) := by decide +kernel
theorem dc_R_group_43 : decode cd_R_group 43 = .ok (.bipush 8, 2) := by decide +kernel
theorem dc_R_group_45 : decode cd_R_group 45 = .ok (.if_icmp .ge 28, 3) := by decide +kernel
theorem dc_R_group_48 : decode cd_R_group 48 = .ok (.iload_n 2, 1) := by decide +kernel
theorem dc_R_group_49 : decode cd_R_group 49 = .ok (.aload_n 0, 1) := by decide +kernel
theorem dc_R_group_50 : decode cd_R_group 50 = .ok (.getfield 40, 3) := by decide +kernel
theorem dc_R_group_53 : decode cd_R_group 53 = .ok (.iload 4, 2) := by decide +kernel
theorem dc_R_group_55 : decode cd_R_group 55 = .ok (.iaload, 1) := by decide +kernel
theorem dc_R_group_56 : decode cd_R_group 56 = .ok (.iload_n 1, 1) := by decide +kernel
theorem dc_R_group_57 : decode cd_R_group 57 = .ok (.if_icmp .ne 7, 3) := by decide +kernel
theorem dc_R_group_60 : decode cd_R_group 60 = .ok (.iconst 1, 1) := by decide +kernel
theorem dc_R_group_61 : decode cd_R_group 61 = .ok (.goto 4, 3) := by decide +kernel
theorem dc_R_group_64 : decode cd_R_group 64 = .ok (.iconst 0, 1) := by decide +kernel
theorem dc_R_group_65 : decode cd_R_group 65 = .ok (.iadd, 1) := by decide +kernel
theorem dc_R_group_66 : decode cd_R_group 66 = .ok (.istore_n 2, 1) := by decide +kernel
theorem dc_R_group_67 : decode cd_R_group 67 = .ok (.iinc 4 1, 3) := by decide +kernel
theorem dc_R_group_70 : decode cd_R_group 70 = .ok (.goto (-29), 3) := by decide +kernel
theorem dc_R_group_73 : decode cd_R_group 73 = .ok (.iconst 0, 1) := by decide +kernel
theorem dc_R_group_74 : decode cd_R_group 74 = .ok (.istore 4, 2) := by decide +kernel
theorem dc_R_group_76 : decode cd_R_group 76 = .ok (.iload 4, 2) := by decide +kernel
theorem dc_R_group_78 : decode cd_R_group 78 = .ok (.aload_n 0, 1) := by decide +kernel
theorem dc_R_group_79 : decode cd_R_group 79 = .ok (.getfield 50, 3) := by decide +kernel
theorem dc_R_group_82 : decode cd_R_group 82 = .ok (.if_icmp .ge 94, 3) := by decide +kernel
theorem dc_R_group_85 : decode cd_R_group 85 = .ok (.aload_n 0, 1) := by decide +kernel
theorem dc_R_group_86 : decode cd_R_group 86 = .ok (.getfield 40, 3) := by decide +kernel
theorem dc_R_group_89 : decode cd_R_group 89 = .ok (.aload_n 0, 1) := by decide +kernel
theorem dc_R_group_90 : decode cd_R_group 90 = .ok (.getfield 7, 3) := by decide +kernel
theorem dc_R_group_93 : decode cd_R_group 93 = .ok (.iload 4, 2) := by decide +kernel
theorem dc_R_group_95 : decode cd_R_group 95 = .ok (.iaload, 1) := by decide +kernel
theorem dc_R_group_96 : decode cd_R_group 96 = .ok (.iaload, 1) := by decide +kernel
theorem dc_R_group_97 : decode cd_R_group 97 = .ok (.iload_n 1, 1) := by decide +kernel
theorem dc_R_group_98 : decode cd_R_group 98 = .ok (.if_icmp .ne 7, 3) := by decide +kernel
theorem dc_R_group_101 : decode cd_R_group 101 = .ok (.iconst 1, 1) := by decide +kernel
theorem dc_R_group_102 : decode cd_R_group 102 = .ok (.goto 4, 3) := by decide +kernel
theorem dc_R_group_105 : decode cd_R_group 105 = .ok (.iconst 0, 1) := by decide +kernel
theorem dc_R_group_106 : decode cd_R_group 106 = .ok (.istore 5, 2) := by decide +kernel
theorem dc_R_group_108 : decode cd_R_group 108 = .ok (.aload_n 0, 1) := by decide +kernel
theorem dc_R_group_109 : decode cd_R_group 109 = .ok (.getfield 13, 3) := by decide +kernel
theorem dc_R_group_112 : decode cd_R_group 112 = .ok (.iload 4, 2) := by decide +kernel
theorem dc_R_group_114 : decode cd_R_group 114 = .ok (.iaload, 1) := by decide +kernel
theorem dc_R_group_115 : decode cd_R_group 115 = .ok (.ifCond .lt 23, 3) := by decide +kernel
theorem dc_R_group_118 : decode cd_R_group 118 = .ok (.aload_n 0, 1) := by decide +kernel
theorem dc_R_group_119 : decode cd_R_group 119 = .ok (.getfield 40, 3) := by decide +kernel
theorem dc_R_group_122 : decode cd_R_group 122 = .ok (.aload_n 0, 1) := by decide +kernel
theorem dc_R_group_123 : decode cd_R_group 123 = .ok (.getfield 13, 3) := by decide +kernel
theorem dc_R_group_126 : decode cd_R_group 126 = .ok (.iload 4, 2) := by decide +kernel
theorem dc_R_group_128 : decode cd_R_group 128 = .ok (.iaload, 1) := by decide +kernel
theorem dc_R_group_129 : decode cd_R_group 129 = .ok (.iaload, 1) := by decide +kernel
theorem dc_R_group_130 : decode cd_R_group 130 = .ok (.iload_n 1, 1) := by decide +kernel
theorem dc_R_group_131 : decode cd_R_group 131 = .ok (.if_icmp .ne 7, 3) := by decide +kernel
theorem dc_R_group_134 : decode cd_R_group 134 = .ok (.iconst 1, 1) := by decide +kernel
theorem dc_R_group_135 : decode cd_R_group 135 = .ok (.goto 4, 3) := by decide +kernel
theorem dc_R_group_138 : decode cd_R_group 138 = .ok (.iconst 0, 1) := by decide +kernel
theorem dc_R_group_139 : decode cd_R_group 139 = .ok (.istore 6, 2) := by decide +kernel
theorem dc_R_group_141 : decode cd_R_group 141 = .ok (.iload_n 3, 1) := by decide +kernel
theorem dc_R_group_142 : decode cd_R_group 142 = .ok (.ifCond .eq 26, 3) := by decide +kernel
theorem dc_R_group_145 : decode cd_R_group 145 = .ok (.aload_n 0, 1) := by decide +kernel
theorem dc_R_group_146 : decode cd_R_group 146 = .ok (.getfield 53, 3) := by decide +kernel
theorem dc_R_group_149 : decode cd_R_group 149 = .ok (.iload 4, 2) := by decide +kernel
theorem dc_R_group_151 : decode cd_R_group 151 = .ok (.ishr, 1) := by decide +kernel
theorem dc_R_group_152 : decode cd_R_group 152 = .ok (.iconst 1, 1) := by decide +kernel
theorem dc_R_group_153 : decode cd_R_group 153 = .ok (.iand, 1) := by decide +kernel
theorem dc_R_group_154 : decode cd_R_group 154 = .ok (.ifCond .eq 10, 3) := by decide +kernel
theorem dc_R_group_157 : decode cd_R_group 157 = .ok (.iload 5, 2) := by decide +kernel
theorem dc_R_group_159 : decode cd_R_group 159 = .ok (.iload 6, 2) := by decide +kernel
theorem dc_R_group_161 : decode cd_R_group 161 = .ok (.if_icmp .ne 7, 3) := by decide +kernel
theorem dc_R_group_164 : decode cd_R_group 164 = .ok (.iconst 1, 1) := by decide +kernel
theorem dc_R_group_165 : decode cd_R_group 165 = .ok (.goto 4, 3) := by decide +kernel
theorem dc_R_group_168 : decode cd_R_group 168 = .ok (.iconst 0, 1) := by decide +kernel
theorem dc_R_group_169 : decode cd_R_group 169 = .ok (.istore_n 3, 1) := by decide +kernel
theorem dc_R_group_170 : decode cd_R_group 170 = .ok (.iinc 4 1, 3) := by decide +kernel
theorem dc_R_group_173 : decode cd_R_group 173 = .ok (.goto (-97), 3) := by decide +kernel
theorem dc_R_group_176 : decode cd_R_group 176 = .ok (.iload_n 3, 1) := by decide +kernel
theorem dc_R_group_177 : decode cd_R_group 177 = .ok (.ifCond .eq 10, 3) := by decide +kernel
theorem dc_R_group_180 : decode cd_R_group 180 = .ok (.iload_n 2, 1) := by decide +kernel
theorem dc_R_group_181 : decode cd_R_group 181 = .ok (.bipush 100, 2) := by decide +kernel
theorem dc_R_group_183 : decode cd_R_group 183 = .ok (.iadd, 1) := by decide +kernel
theorem dc_R_group_184 : decode cd_R_group 184 = .ok (.goto 4, 3) := by decide +kernel
theorem dc_R_group_187 : decode cd_R_group 187 = .ok (.iload_n 2, 1) := by decide +kernel
theorem dc_R_group_188 : decode cd_R_group 188 = .ok (.ireturn, 1) := by decide +kernel
theorem dc_R_show_0 : decode cd_R_show 0 = .ok (.aload_n 0, 1) := by decide +kernel
theorem dc_R_show_1 : decode cd_R_show 1 = .ok (.iconst 0, 1) := by decide +kernel
theorem dc_R_show_2 : decode cd_R_show 2 = .ok (.putfield 46, 3) := by decide +kernel
theorem dc_R_show_5 : decode cd_R_show 5 = .ok (.aload_n 0, 1) := by decide +kernel
theorem dc_R_show_6 : decode cd_R_show 6 = .ok (.iconst 0, 1) := by decide +kernel
theorem dc_R_show_7 : decode cd_R_show 7 = .ok (.putfield 121, 3) := by decide +kernel
theorem dc_R_show_10 : decode cd_R_show 10 = .ok (.iconst 0, 1) := by decide +kernel
theorem dc_R_show_11 : decode cd_R_show 11 = .ok (.istore_n 1, 1) := by decide +kernel
theorem dc_R_show_12 : decode cd_R_show 12 = .ok (.iload_n 1, 1) := by decide +kernel
theorem dc_R_show_13 : decode cd_R_show 13 = .ok (.aload_n 0, 1) := by decide +kernel
theorem dc_R_show_14 : decode cd_R_show 14 = .ok (.getfield 50, 3) := by decide +kernel
theorem dc_R_show_17 : decode cd_R_show 17 = .ok (.if_icmp .ge 168, 3) := by decide +kernel
theorem dc_R_show_20 : decode cd_R_show 20 = .ok (.aload_n 0, 1) := by decide +kernel
theorem dc_R_show_21 : decode cd_R_show 21 = .ok (.getfield 53, 3) := by decide +kernel
theorem dc_R_show_24 : decode cd_R_show 24 = .ok (.iload_n 1, 1) := by decide +kernel
theorem dc_R_show_25 : decode cd_R_show 25 = .ok (.ishr, 1) := by decide +kernel
theorem dc_R_show_26 : decode cd_R_show 26 = .ok (.iconst 1, 1) := by decide +kernel
theorem dc_R_show_27 : decode cd_R_show 27 = .ok (.iand, 1) := by decide +kernel
theorem dc_R_show_28 : decode cd_R_show 28 = .ok (.iconst 1, 1) := by decide +kernel
theorem dc_R_show_29 : decode cd_R_show 29 = .ok (.if_icmp .ne 150, 3) := by decide +kernel
theorem dc_R_show_32 : decode cd_R_show 32 = .ok (.iload_n 1, 1) := by decide +kernel
theorem dc_R_show_33 : decode cd_R_show 33 = .ok (.bipush 9, 2) := by decide +kernel
theorem dc_R_show_35 : decode cd_R_show 35 = .ok (.if_icmp .le 9, 3) := by decide +kernel
theorem dc_R_show_38 : decode cd_R_show 38 = .ok (.aload_n 0, 1) := by decide +kernel
theorem dc_R_show_39 : decode cd_R_show 39 = .ok (.bipush 49, 2) := by decide +kernel
theorem dc_R_show_41 : decode cd_R_show 41 = .ok (.invokevirtual 124, 3) := by decide +kernel
theorem dc_R_show_44 : decode cd_R_show 44 = .ok (.aload_n 0, 1) := by decide +kernel
theorem dc_R_show_45 : decode cd_R_show 45 = .ok (.bipush 48, 2) := by decide +kernel
theorem dc_R_show_47 : decode cd_R_show 47 = .ok (.iload_n 1, 1) := by decide +kernel
theorem dc_R_show_48 : decode cd_R_show 48 = .ok (.bipush 10, 2) := by decide +kernel
theorem dc_R_show_50 : decode cd_R_show 50 = .ok (.irem, 1) := by decide +kernel
theorem dc_R_show_51 : decode cd_R_show 51 = .ok (.iadd, 1) := by decide +kernel
theorem dc_R_show_52 : decode cd_R_show 52 = .ok (.invokevirtual 124, 3) := by decide +kernel
theorem dc_R_show_55 : decode cd_R_show 55 = .ok (.aload_n 0, 1) := by decide +kernel
theorem dc_R_show_56 : decode cd_R_show 56 = .ok (.bipush 58, 2) := by decide +kernel
theorem dc_R_show_58 : decode cd_R_show 58 = .ok (.invokevirtual 124, 3) := by decide +kernel
theorem dc_R_show_61 : decode cd_R_show 61 = .ok (.aload_n 0, 1) := by decide +kernel
theorem dc_R_show_62 : decode cd_R_show 62 = .ok (.bipush 48, 2) := by decide +kernel
theorem dc_R_show_64 : decode cd_R_show 64 = .ok (.aload_n 0, 1) := by decide +kernel
theorem dc_R_show_65 : decode cd_R_show 65 = .ok (.getfield 13, 3) := by decide +kernel
theorem dc_R_show_68 : decode cd_R_show 68 = .ok (.iload_n 1, 1) := by decide +kernel
theorem dc_R_show_69 : decode cd_R_show 69 = .ok (.iaload, 1) := by decide +kernel
theorem dc_R_show_70 : decode cd_R_show 70 = .ok (.ifCond .lt 27, 3) := by decide +kernel
theorem dc_R_show_73 : decode cd_R_show 73 = .ok (.aload_n 0, 1) := by decide +kernel
theorem dc_R_show_74 : decode cd_R_show 74 = .ok (.getfield 13, 3) := by decide +kernel
theorem dc_R_show_77 : decode cd_R_show 77 = .ok (.iload_n 1, 1) := by decide +kernel
theorem dc_R_show_78 : decode cd_R_show 78 = .ok (.iaload, 1) := by decide +kernel
theorem dc_R_show_79 : decode cd_R_show 79 = .ok (.aload_n 0, 1) := by decide +kernel
theorem dc_R_show_80 : decode cd_R_show 80 = .ok (.getfield 7, 3) := by decide +kernel
theorem dc_R_show_83 : decode cd_R_show 83 = .ok (.iload_n 1, 1) := by decide +kernel
theorem dc_R_show_84 : decode cd_R_show 84 = .ok (.iaload, 1) := by decide +kernel
theorem dc_R_show_85 : decode cd_R_show 85 = .ok (.if_icmp .ge 12, 3) := by decide +kernel
theorem dc_R_show_88 : decode cd_R_show 88 = .ok (.aload_n 0, 1) := by decide +kernel
theorem dc_R_show_89 : decode cd_R_show 89 = .ok (.getfield 13, 3) := by decide +kernel
theorem dc_R_show_92 : decode cd_R_show 92 = .ok (.iload_n 1, 1) := by decide +kernel
theorem dc_R_show_93 : decode cd_R_show 93 = .ok (.iaload, 1) := by decide +kernel
theorem dc_R_show_94 : decode cd_R_show 94 = .ok (.goto 9, 3) := by decide +kernel
theorem dc_R_show_97 : decode cd_R_show 97 = .ok (.aload_n 0, 1) := by decide +kernel
theorem dc_R_show_98 : decode cd_R_show 98 = .ok (.getfield 7, 3) := by decide +kernel
theorem dc_R_show_101 : decode cd_R_show 101 = .ok (.iload_n 1, 1) := by decide +kernel
theorem dc_R_show_102 : decode cd_R_show 102 = .ok (.iaload, 1) := by decide +kernel
theorem dc_R_show_103 : decode cd_R_show 103 = .ok (.iadd, 1) := by decide +kernel
theorem dc_R_show_104 : decode cd_R_show 104 = .ok (.invokevirtual 124, 3) := by decide +kernel
theorem dc_R_show_107 : decode cd_R_show 107 = .ok (.aload_n 0, 1) := by decide +kernel
theorem dc_R_show_108 : decode cd_R_show 108 = .ok (.aload_n 0, 1) := by decide +kernel
theorem dc_R_show_109 : decode cd_R_show 109 = .ok (.getfield 13, 3) := by decide +kernel
theorem dc_R_show_112 : decode cd_R_show 112 = .ok (.iload_n 1, 1) := by decide +kernel
theorem dc_R_show_113 : decode cd_R_show 113 = .ok (.iaload, 1) := by decide +kernel
theorem dc_R_show_114 : decode cd_R_show 114 = .ok (.ifCond .ge 8, 3) := by decide +kernel
theorem dc_R_show_117 : decode cd_R_show 117 = .ok (.bipush 61, 2) := by decide +kernel
theorem dc_R_show_119 : decode cd_R_show 119 = .ok (.goto 5, 3) := by decide +kernel
theorem dc_R_show_122 : decode cd_R_show 122 = .ok (.bipush 45, 2) := by decide +kernel
theorem dc_R_show_124 : decode cd_R_show 124 = .ok (.invokevirtual 124, 3) := by decide +kernel
theorem dc_R_show_127 : decode cd_R_show 127 = .ok (.aload_n 0, 1) := by decide +kernel
theorem dc_R_show_128 : decode cd_R_show 128 = .ok (.getfield 13, 3) := by decide +kernel
theorem dc_R_show_131 : decode cd_R_show 131 = .ok (.iload_n 1, 1) := by decide +kernel
theorem dc_R_show_132 : decode cd_R_show 132 = .ok (.iaload, 1) := by decide +kernel
theorem dc_R_show_133 : decode cd_R_show 133 = .ok (.ifCond .lt 40, 3) := by decide +kernel
theorem dc_R_show_136 : decode cd_R_show 136 = .ok (.aload_n 0, 1) := by decide +kernel
theorem dc_R_show_137 : decode cd_R_show 137 = .ok (.bipush 48, 2) := by decide +kernel
theorem dc_R_show_139 : decode cd_R_show 139 = .ok (.aload_n 0, 1) := by decide +kernel
theorem dc_R_show_140 : decode cd_R_show 140 = .ok (.getfield 13, 3) := by decide +kernel
theorem dc_R_show_143 : decode cd_R_show 143 = .ok (.iload_n 1, 1) := by decide +kernel
theorem dc_R_show_144 : decode cd_R_show 144 = .ok (.iaload, 1) := by decide +kernel
theorem dc_R_show_145 : decode cd_R_show 145 = .ok (.aload_n 0, 1) := by decide +kernel
theorem dc_R_show_146 : decode cd_R_show 146 = .ok (.getfield 7, 3) := by decide +kernel
theorem dc_R_show_149 : decode cd_R_show 149 = .ok (.iload_n 1, 1) := by decide +kernel
theorem dc_R_show_150 : decode cd_R_show 150 = .ok (.iaload, 1) := by decide +kernel
theorem dc_R_show_151 : decode cd_R_show 151 = .ok (.if_icmp .ge 12, 3) := by decide +kernel
theorem dc_R_show_154 : decode cd_R_show 154 = .ok (.aload_n 0, 1) := by decide +kernel
theorem dc_R_show_155 : decode cd_R_show 155 = .ok (.getfield 7, 3) := by decide +kernel
theorem dc_R_show_158 : decode cd_R_show 158 = .ok (.iload_n 1, 1) := by decide +kernel
theorem dc_R_show_159 : decode cd_R_show 159 = .ok (.iaload, 1) := by decide +kernel
theorem dc_R_show_160 : decode cd_R_show 160 = .ok (.goto 9, 3) := by decide +kernel
theorem dc_R_show_163 : decode cd_R_show 163 = .ok (.aload_n 0, 1) := by decide +kernel
theorem dc_R_show_164 : decode cd_R_show 164 = .ok (.getfield 13, 3) := by decide +kernel
theorem dc_R_show_167 : decode cd_R_show 167 = .ok (.iload_n 1, 1) := by decide +kernel
theorem dc_R_show_168 : decode cd_R_show 168 = .ok (.iaload, 1) := by decide +kernel
theorem dc_R_show_169 : decode cd_R_show 169 = .ok (.iadd, 1) := by decide +kernel
theorem dc_R_show_170 : decode cd_R_show 170 = .ok (.invokevirtual 124, 3) := by decide +kernel
theorem dc_R_show_173 : decode cd_R_show 173 = .ok (.aload_n 0, 1) := by decide +kernel
theorem dc_R_show_174 : decode cd_R_show 174 = .ok (.bipush 59, 2) := by decide +kernel
theorem dc_R_show_176 : decode cd_R_show 176 = .ok (.invokevirtual 124, 3) := by decide +kernel
theorem dc_R_show_179 : decode cd_R_show 179 = .ok (.iinc 1 1, 3) := by decide +kernel
theorem dc_R_show_182 : decode cd_R_show 182 = .ok (.goto (-170), 3) := by decide +kernel
theorem dc_R_show_185 : decode cd_R_show 185 = .ok (.aload_n 0, 1) := by decide +kernel
theorem dc_R_show_186 : decode cd_R_show 186 = .ok (.getfield 121, 3) := by decide +kernel
theorem dc_R_show_189 : decode cd_R_show 189 = .ok (.ireturn, 1) := by decide +kernel
theorem dc_R_write_0 : decode cd_R_write 0 = .ok (.aload_n 0, 1) := by decide +kernel
theorem dc_R_write_1 : decode cd_R_write 1 = .ok (.getfield 43, 3) := by decide +kernel
theorem dc_R_write_4 : decode cd_R_write 4 = .ok (.aload_n 0, 1) := by decide +kernel
theorem dc_R_write_5 : decode cd_R_write 5 = .ok (.getfield 121, 3) := by decide +kernel
theorem dc_R_write_8 : decode cd_R_write 8 = .ok (.iload_n 1, 1) := by decide +kernel
theorem dc_R_write_9 : decode cd_R_write 9 = .ok (.iastore, 1) := by decide +kernel
theorem dc_R_write_10 : decode cd_R_write 10 = .ok (.aload_n 0, 1) := by decide +kernel
theorem dc_R_write_11 : decode cd_R_write 11 = .ok (.dup, 1) := by decide +kernel
theorem dc_R_write_12 : decode cd_R_write 12 = .ok (.getfield 121, 3) := by decide +kernel
theorem dc_R_write_15 : decode cd_R_write 15 = .ok (.iconst 1, 1) := by decide +kernel
theorem dc_R_write_16 : decode cd_R_write 16 = .ok (.iadd, 1) := by decide +kernel
theorem dc_R_write_17 : decode cd_R_write 17 = .ok (.putfield 121, 3) := by decide +kernel
theorem dc_R_write_20 : decode cd_R_write 20 = .ok (.return_, 1) := by decide +kernel
theorem dc_R_at_0 : decode cd_R_at 0 = .ok (.aload_n 0, 1) := by decide +kernel
theorem dc_R_at_1 : decode cd_R_at 1 = .ok (.iload_n 1, 1) := by decide +kernel
theorem dc_R_at_2 : decode cd_R_at 2 = .ok (.ifCond .lt 11, 3) := by decide +kernel
theorem dc_R_at_5 : decode cd_R_at 5 = .ok (.iload_n 1, 1) := by decide +kernel
theorem dc_R_at_6 : decode cd_R_at 6 = .ok (.aload_n 0, 1) := by decide +kernel
theorem dc_R_at_7 : decode cd_R_at 7 = .ok (.getfield 121, 3) := by decide +kernel
theorem dc_R_at_10 : decode cd_R_at 10 = .ok (.if_icmp .lt 7, 3) := by decide +kernel
theorem dc_R_at_13 : decode cd_R_at 13 = .ok (.iconst 1, 1) := by decide +kernel
theorem dc_R_at_14 : decode cd_R_at 14 = .ok (.goto 4, 3) := by decide +kernel
theorem dc_R_at_17 : decode cd_R_at 17 = .ok (.iconst 0, 1) := by decide +kernel
theorem dc_R_at_18 : decode cd_R_at 18 = .ok (.putfield 46, 3) := by decide +kernel
theorem dc_R_at_21 : decode cd_R_at 21 = .ok (.aload_n 0, 1) := by decide +kernel
theorem dc_R_at_22 : decode cd_R_at 22 = .ok (.getfield 46, 3) := by decide +kernel
theorem dc_R_at_25 : decode cd_R_at 25 = .ok (.ifCond .le 7, 3) := by decide +kernel
theorem dc_R_at_28 : decode cd_R_at 28 = .ok (.iconst 0, 1) := by decide +kernel
theorem dc_R_at_29 : decode cd_R_at 29 = .ok (.goto 9, 3) := by decide +kernel
theorem dc_R_at_32 : decode cd_R_at 32 = .ok (.aload_n 0, 1) := by decide +kernel
theorem dc_R_at_33 : decode cd_R_at 33 = .ok (.getfield 43, 3) := by decide +kernel
theorem dc_R_at_36 : decode cd_R_at 36 = .ok (.iload_n 1, 1) := by decide +kernel
theorem dc_R_at_37 : decode cd_R_at 37 = .ok (.iaload, 1) := by decide +kernel
theorem dc_R_at_38 : decode cd_R_at 38 = .ok (.ireturn, 1) := by decide +kernel
theorem dc_L_law_0 : decode cd_L_law 0 = .ok (.new 8, 3) := by decide +kernel
theorem dc_L_law_3 : decode cd_L_law 3 = .ok (.dup, 1) := by decide +kernel
theorem dc_L_law_4 : decode cd_L_law 4 = .ok (.invokespecial 62, 3) := by decide +kernel
theorem dc_L_law_7 : decode cd_L_law 7 = .ok (.astore_n 1, 1) := by decide +kernel
theorem dc_L_law_8 : decode cd_L_law 8 = .ok (.new 63, 3) := by decide +kernel
theorem dc_L_law_11 : decode cd_L_law 11 = .ok (.dup, 1) := by decide +kernel
theorem dc_L_law_12 : decode cd_L_law 12 = .ok (.invokespecial 65, 3) := by decide +kernel
theorem dc_L_law_15 : decode cd_L_law 15 = .ok (.astore_n 2, 1) := by decide +kernel
theorem dc_L_law_16 : decode cd_L_law 16 = .ok (.iconst 1, 1) := by decide +kernel
theorem dc_L_law_17 : decode cd_L_law 17 = .ok (.newarray .long, 2) := by decide +kernel
theorem dc_L_law_19 : decode cd_L_law 19 = .ok (.astore_n 3, 1) := by decide +kernel
theorem dc_L_law_20 : decode cd_L_law 20 = .ok (.iconst 0, 1) := by decide +kernel
theorem dc_L_law_21 : decode cd_L_law 21 = .ok (.istore 4, 2) := by decide +kernel
theorem dc_L_law_23 : decode cd_L_law 23 = .ok (.iload 4, 2) := by decide +kernel
theorem dc_L_law_25 : decode cd_L_law 25 = .ok (.aload_n 0, 1) := by decide +kernel
theorem dc_L_law_26 : decode cd_L_law 26 = .ok (.arraylength, 1) := by decide +kernel
theorem dc_L_law_27 : decode cd_L_law 27 = .ok (.iconst 3, 1) := by decide +kernel
theorem dc_L_law_28 : decode cd_L_law 28 = .ok (.isub, 1) := by decide +kernel
theorem dc_L_law_29 : decode cd_L_law 29 = .ok (.if_icmp .gt 872, 3) := by decide +kernel
theorem dc_L_law_32 : decode cd_L_law 32 = .ok (.aload_n 0, 1) := by decide +kernel
theorem dc_L_law_33 : decode cd_L_law 33 = .ok (.iload 4, 2) := by decide +kernel
theorem dc_L_law_35 : decode cd_L_law 35 = .ok (.iaload, 1) := by decide +kernel
theorem dc_L_law_36 : decode cd_L_law 36 = .ok (.bipush 31, 2) := by decide +kernel
theorem dc_L_law_38 : decode cd_L_law 38 = .ok (.iand, 1) := by decide +kernel
theorem dc_L_law_39 : decode cd_L_law 39 = .ok (.tableswitch 856 0 18 #[89, 157, 225, 249, 260, 316, 360, 404, 417, 473, 486, 542, 586, 630, 674, 718, 731, 787, 800], 89) := by decide +kernel
theorem dc_L_law_128 : decode cd_L_law 128 = .ok (.aload_n 1, 1) := by decide +kernel
theorem dc_L_law_129 : decode cd_L_law 129 = .ok (.aload_n 0, 1) := by decide +kernel
theorem dc_L_law_130 : decode cd_L_law 130 = .ok (.iload 4, 2) := by decide +kernel
theorem dc_L_law_132 : decode cd_L_law 132 = .ok (.iconst 1, 1) := by decide +kernel
theorem dc_L_law_133 : decode cd_L_law 133 = .ok (.iadd, 1) := by decide +kernel
theorem dc_L_law_134 : decode cd_L_law 134 = .ok (.iaload, 1) := by decide +kernel
theorem dc_L_law_135 : decode cd_L_law 135 = .ok (.aload_n 0, 1) := by decide +kernel
theorem dc_L_law_136 : decode cd_L_law 136 = .ok (.iload 4, 2) := by decide +kernel
theorem dc_L_law_138 : decode cd_L_law 138 = .ok (.iconst 2, 1) := by decide +kernel
theorem dc_L_law_139 : decode cd_L_law 139 = .ok (.iadd, 1) := by decide +kernel
theorem dc_L_law_140 : decode cd_L_law 140 = .ok (.iaload, 1) := by decide +kernel
