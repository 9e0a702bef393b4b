theorem dX7_clock_6 : decode cX7_clock 6 = .ok (.invokestatic 61, 3) := by decide +kernel
theorem dX7_clock_9 : decode cX7_clock 9 = .ok (.ifCond .ne 6, 3) := by decide +kernel
theorem dX7_clock_12 : decode cX7_clock 12 = .ok (.bipush (-2), 2) := by decide +kernel
theorem dX7_clock_14 : decode cX7_clock 14 = .ok (.ireturn, 1) := by decide +kernel
theorem dX7_clock_15 : decode cX7_clock 15 = .ok (.aload_n 0, 1) := by decide +kernel
theorem dX7_clock_16 : decode cX7_clock 16 = .ok (.invokevirtual 76, 3) := by decide +kernel
theorem dX7_clock_19 : decode cX7_clock 19 = .ok (.aload_n 0, 1) := by decide +kernel
theorem dX7_clock_20 : decode cX7_clock 20 = .ok (.getfield 7, 3) := by decide +kernel
theorem dX7_clock_23 : decode cX7_clock 23 = .ok (.bipush 50, 2) := by decide +kernel
theorem dX7_clock_25 : decode cX7_clock 25 = .ok (.iaload, 1) := by decide +kernel
theorem dX7_clock_26 : decode cX7_clock 26 = .ok (.istore_n 2, 1) := by decide +kernel
theorem dX7_clock_27 : decode cX7_clock 27 = .ok (.aload_n 0, 1) := by decide +kernel
theorem dX7_clock_28 : decode cX7_clock 28 = .ok (.getfield 7, 3) := by decide +kernel
theorem dX7_clock_31 : decode cX7_clock 31 = .ok (.bipush 50, 2) := by decide +kernel
theorem dX7_clock_33 : decode cX7_clock 33 = .ok (.iload_n 1, 1) := by decide +kernel
theorem dX7_clock_34 : decode cX7_clock 34 = .ok (.iastore, 1) := by decide +kernel
theorem dX7_clock_35 : decode cX7_clock 35 = .ok (.iload_n 2, 1) := by decide +kernel
theorem dX7_clock_36 : decode cX7_clock 36 = .ok (.ireturn, 1) := by decide +kernel
theorem dX7_pieces_0 : decode cX7_pieces 0 = .ok (.iconst 0, 1) := by decide +kernel
theorem dX7_pieces_1 : decode cX7_pieces 1 = .ok (.istore_n 3, 1) := by decide +kernel
theorem dX7_pieces_2 : decode cX7_pieces 2 = .ok (.iconst 0, 1) := by decide +kernel
theorem dX7_pieces_3 : decode cX7_pieces 3 = .ok (.istore 4, 2) := by decide +kernel
theorem dX7_pieces_5 : decode cX7_pieces 5 = .ok (.iload 4, 2) := by decide +kernel
theorem dX7_pieces_7 : decode cX7_pieces 7 = .ok (.bipush 48, 2) := by decide +kernel
theorem dX7_pieces_9 : decode cX7_pieces 9 = .ok (.if_icmp .ge 34, 3) := by decide +kernel
theorem dX7_pieces_12 : decode cX7_pieces 12 = .ok (.iload_n 3, 1) := by decide +kernel
theorem dX7_pieces_13 : decode cX7_pieces 13 = .ok (.aload_n 0, 1) := by decide +kernel
theorem dX7_pieces_14 : decode cX7_pieces 14 = .ok (.getfield 7, 3) := by decide +kernel
theorem dX7_pieces_17 : decode cX7_pieces 17 = .ok (.iconst 0, 1) := by decide +kernel
theorem dX7_pieces_18 : decode cX7_pieces 18 = .ok (.iload 4, 2) := by decide +kernel
theorem dX7_pieces_20 : decode cX7_pieces 20 = .ok (.iadd, 1) := by decide +kernel
theorem dX7_pieces_21 : decode cX7_pieces 21 = .ok (.iaload, 1) := by decide +kernel
theorem dX7_pieces_22 : decode cX7_pieces 22 = .ok (.iconst 2, 1) := by decide +kernel
theorem dX7_pieces_23 : decode cX7_pieces 23 = .ok (.iload_n 1, 1) := by decide +kernel
theorem dX7_pieces_24 : decode cX7_pieces 24 = .ok (.imul, 1) := by decide +kernel
theorem dX7_pieces_25 : decode cX7_pieces 25 = .ok (.iload_n 2, 1) := by decide +kernel
theorem dX7_pieces_26 : decode cX7_pieces 26 = .ok (.iadd, 1) := by decide +kernel
theorem dX7_pieces_27 : decode cX7_pieces 27 = .ok (.if_icmp .ne 7, 3) := by decide +kernel
theorem dX7_pieces_30 : decode cX7_pieces 30 = .ok (.iconst 1, 1) := by decide +kernel
theorem dX7_pieces_31 : decode cX7_pieces 31 = .ok (.goto 4, 3) := by decide +kernel
theorem dX7_pieces_34 : decode cX7_pieces 34 = .ok (.iconst 0, 1) := by decide +kernel
theorem dX7_pieces_35 : decode cX7_pieces 35 = .ok (.iadd, 1) := by decide +kernel
theorem dX7_pieces_36 : decode cX7_pieces 36 = .ok (.istore_n 3, 1) := by decide +kernel
theorem dX7_pieces_37 : decode cX7_pieces 37 = .ok (.iinc 4 1, 3) := by decide +kernel
theorem dX7_pieces_40 : decode cX7_pieces 40 = .ok (.goto (-35), 3) := by decide +kernel
theorem dX7_pieces_43 : decode cX7_pieces 43 = .ok (.iload_n 3, 1) := by decide +kernel
theorem dX7_pieces_44 : decode cX7_pieces 44 = .ok (.ireturn, 1) := by decide +kernel
theorem dX7_all_0 : decode cX7_all 0 = .ok (.aload_n 0, 1) := by decide +kernel
theorem dX7_all_1 : decode cX7_all 1 = .ok (.iload_n 1, 1) := by decide +kernel
theorem dX7_all_2 : decode cX7_all 2 = .ok (.iconst 0, 1) := by decide +kernel
theorem dX7_all_3 : decode cX7_all 3 = .ok (.invokevirtual 143, 3) := by decide +kernel
theorem dX7_all_6 : decode cX7_all 6 = .ok (.aload_n 0, 1) := by decide +kernel
theorem dX7_all_7 : decode cX7_all 7 = .ok (.iload_n 1, 1) := by decide +kernel
theorem dX7_all_8 : decode cX7_all 8 = .ok (.iconst 1, 1) := by decide +kernel
theorem dX7_all_9 : decode cX7_all 9 = .ok (.invokevirtual 143, 3) := by decide +kernel
theorem dX7_all_12 : decode cX7_all 12 = .ok (.iadd, 1) := by decide +kernel
theorem dX7_all_13 : decode cX7_all 13 = .ok (.ireturn, 1) := by decide +kernel
theorem dX7_begin_0 : decode cX7_begin 0 = .ok (.aload_n 0, 1) := by decide +kernel
theorem dX7_begin_1 : decode cX7_begin 1 = .ok (.invokevirtual 76, 3) := by decide +kernel
theorem dX7_begin_4 : decode cX7_begin 4 = .ok (.aload_n 0, 1) := by decide +kernel
theorem dX7_begin_5 : decode cX7_begin 5 = .ok (.iload_n 1, 1) := by decide +kernel
theorem dX7_begin_6 : decode cX7_begin 6 = .ok (.invokevirtual 57, 3) := by decide +kernel
theorem dX7_begin_9 : decode cX7_begin 9 = .ok (.aload_n 0, 1) := by decide +kernel
theorem dX7_begin_10 : decode cX7_begin 10 = .ok (.iconst 0, 1) := by decide +kernel
theorem dX7_begin_11 : decode cX7_begin 11 = .ok (.invokevirtual 146, 3) := by decide +kernel
theorem dX7_begin_14 : decode cX7_begin 14 = .ok (.aload_n 0, 1) := by decide +kernel
theorem dX7_begin_15 : decode cX7_begin 15 = .ok (.iconst 1, 1) := by decide +kernel
theorem dX7_begin_16 : decode cX7_begin 16 = .ok (.invokevirtual 146, 3) := by decide +kernel
theorem dX7_begin_19 : decode cX7_begin 19 = .ok (.iadd, 1) := by decide +kernel
theorem dX7_begin_20 : decode cX7_begin 20 = .ok (.ireturn, 1) := by decide +kernel
theorem dX7_set_0 : decode cX7_set 0 = .ok (.iload_n 1, 1) := by decide +kernel
theorem dX7_set_1 : decode cX7_set 1 = .ok (.invokestatic 149, 3) := by decide +kernel
theorem dX7_set_4 : decode cX7_set 4 = .ok (.ifCond .ne 5, 3) := by decide +kernel
theorem dX7_set_7 : decode cX7_set 7 = .ok (.iconst (-1), 1) := by decide +kernel
theorem dX7_set_8 : decode cX7_set 8 = .ok (.ireturn, 1) := by decide +kernel
theorem dX7_set_9 : decode cX7_set 9 = .ok (.iload_n 2, 1) := by decide +kernel
theorem dX7_set_10 : decode cX7_set 10 = .ok (.bipush (-6), 2) := by decide +kernel
theorem dX7_set_12 : decode cX7_set 12 = .ok (.if_icmp .eq 15, 3) := by decide +kernel
theorem dX7_set_15 : decode cX7_set 15 = .ok (.iload_n 2, 1) := by decide +kernel
theorem dX7_set_16 : decode cX7_set 16 = .ok (.iconst 0, 1) := by decide +kernel
theorem dX7_set_17 : decode cX7_set 17 = .ok (.iconst 3, 1) := by decide +kernel
theorem dX7_set_18 : decode cX7_set 18 = .ok (.invokestatic 61, 3) := by decide +kernel
theorem dX7_set_21 : decode cX7_set 21 = .ok (.ifCond .ne 6, 3) := by decide +kernel
theorem dX7_set_24 : decode cX7_set 24 = .ok (.bipush (-2), 2) := by decide +kernel
theorem dX7_set_26 : decode cX7_set 26 = .ok (.ireturn, 1) := by decide +kernel
theorem dX7_set_27 : decode cX7_set 27 = .ok (.aload_n 0, 1) := by decide +kernel
theorem dX7_set_28 : decode cX7_set 28 = .ok (.getfield 7, 3) := by decide +kernel
theorem dX7_set_31 : decode cX7_set 31 = .ok (.iconst 0, 1) := by decide +kernel
theorem dX7_set_32 : decode cX7_set 32 = .ok (.iload_n 1, 1) := by decide +kernel
theorem dX7_set_33 : decode cX7_set 33 = .ok (.iadd, 1) := by decide +kernel
theorem dX7_set_34 : decode cX7_set 34 = .ok (.iaload, 1) := by decide +kernel
theorem dX7_set_35 : decode cX7_set 35 = .ok (.istore_n 3, 1) := by decide +kernel
theorem dX7_set_36 : decode cX7_set 36 = .ok (.iload_n 2, 1) := by decide +kernel
theorem dX7_set_37 : decode cX7_set 37 = .ok (.bipush (-6), 2) := by decide +kernel
theorem dX7_set_39 : decode cX7_set 39 = .ok (.if_icmp .eq 36, 3) := by decide +kernel
theorem dX7_set_42 : decode cX7_set 42 = .ok (.aload_n 0, 1) := by decide +kernel
theorem dX7_set_43 : decode cX7_set 43 = .ok (.iload_n 2, 1) := by decide +kernel
theorem dX7_set_44 : decode cX7_set 44 = .ok (.invokestatic 87, 3) := by decide +kernel
theorem dX7_set_47 : decode cX7_set 47 = .ok (.invokevirtual 146, 3) := by decide +kernel
theorem dX7_set_50 : decode cX7_set 50 = .ok (.iload_n 3, 1) := by decide +kernel
theorem dX7_set_51 : decode cX7_set 51 = .ok (.invokestatic 87, 3) := by decide +kernel
theorem dX7_set_54 : decode cX7_set 54 = .ok (.iload_n 2, 1) := by decide +kernel
theorem dX7_set_55 : decode cX7_set 55 = .ok (.invokestatic 87, 3) := by decide +kernel
theorem dX7_set_58 : decode cX7_set 58 = .ok (.if_icmp .ne 7, 3) := by decide +kernel
theorem dX7_set_61 : decode cX7_set 61 = .ok (.iconst 1, 1) := by decide +kernel
theorem dX7_set_62 : decode cX7_set 62 = .ok (.goto 4, 3) := by decide +kernel
theorem dX7_set_65 : decode cX7_set 65 = .ok (.iconst 0, 1) := by decide +kernel
theorem dX7_set_66 : decode cX7_set 66 = .ok (.isub, 1) := by decide +kernel
theorem dX7_set_67 : decode cX7_set 67 = .ok (.bipush 16, 2) := by decide +kernel
theorem dX7_set_69 : decode cX7_set 69 = .ok (.if_icmp .ne 6, 3) := by decide +kernel
theorem dX7_set_72 : decode cX7_set 72 = .ok (.bipush (-4), 2) := by decide +kernel
theorem dX7_set_74 : decode cX7_set 74 = .ok (.ireturn, 1) := by decide +kernel
theorem dX7_set_75 : decode cX7_set 75 = .ok (.aload_n 0, 1) := by decide +kernel
theorem dX7_set_76 : decode cX7_set 76 = .ok (.invokevirtual 76, 3) := by decide +kernel
theorem dX7_set_79 : decode cX7_set 79 = .ok (.aload_n 0, 1) := by decide +kernel
theorem dX7_set_80 : decode cX7_set 80 = .ok (.getfield 7, 3) := by decide +kernel
theorem dX7_set_83 : decode cX7_set 83 = .ok (.iconst 0, 1) := by decide +kernel
theorem dX7_set_84 : decode cX7_set 84 = .ok (.iload_n 1, 1) := by decide +kernel
theorem dX7_set_85 : decode cX7_set 85 = .ok (.iadd, 1) := by decide +kernel
theorem dX7_set_86 : decode cX7_set 86 = .ok (.iload_n 2, 1) := by decide +kernel
theorem dX7_set_87 : decode cX7_set 87 = .ok (.iastore, 1) := by decide +kernel
theorem dX7_set_88 : decode cX7_set 88 = .ok (.aload_n 0, 1) := by decide +kernel
theorem dX7_set_89 : decode cX7_set 89 = .ok (.invokevirtual 140, 3) := by decide +kernel
theorem dX7_set_92 : decode cX7_set 92 = .ok (.iload_n 3, 1) := by decide +kernel
theorem dX7_set_93 : decode cX7_set 93 = .ok (.ireturn, 1) := by decide +kernel
theorem dX7_turn_0 : decode cX7_turn 0 = .ok (.iload_n 1, 1) := by decide +kernel
theorem dX7_turn_1 : decode cX7_turn 1 = .ok (.iconst 0, 1) := by decide +kernel
theorem dX7_turn_2 : decode cX7_turn 2 = .ok (.iconst 1, 1) := by decide +kernel
theorem dX7_turn_3 : decode cX7_turn 3 = .ok (.invokestatic 61, 3) := by decide +kernel
theorem dX7_turn_6 : decode cX7_turn 6 = .ok (.ifCond .ne 6, 3) := by decide +kernel
theorem dX7_turn_9 : decode cX7_turn 9 = .ok (.bipush (-2), 2) := by decide +kernel
theorem dX7_turn_11 : decode cX7_turn 11 = .ok (.ireturn, 1) := by decide +kernel
theorem dX7_turn_12 : decode cX7_turn 12 = .ok (.aload_n 0, 1) := by decide +kernel
theorem dX7_turn_13 : decode cX7_turn 13 = .ok (.invokevirtual 76, 3) := by decide +kernel
theorem dX7_turn_16 : decode cX7_turn 16 = .ok (.aload_n 0, 1) := by decide +kernel
theorem dX7_turn_17 : decode cX7_turn 17 = .ok (.getfield 7, 3) := by decide +kernel
theorem dX7_turn_20 : decode cX7_turn 20 = .ok (.bipush 48, 2) := by decide +kernel
theorem dX7_turn_22 : decode cX7_turn 22 = .ok (.iaload, 1) := by decide +kernel
theorem dX7_turn_23 : decode cX7_turn 23 = .ok (.istore_n 2, 1) := by decide +kernel
theorem dX7_turn_24 : decode cX7_turn 24 = .ok (.aload_n 0, 1) := by decide +kernel
theorem dX7_turn_25 : decode cX7_turn 25 = .ok (.getfield 7, 3) := by decide +kernel
theorem dX7_turn_28 : decode cX7_turn 28 = .ok (.bipush 48, 2) := by decide +kernel
theorem dX7_turn_30 : decode cX7_turn 30 = .ok (.iload_n 1, 1) := by decide +kernel
theorem dX7_turn_31 : decode cX7_turn 31 = .ok (.iastore, 1) := by decide +kernel
theorem dX7_turn_32 : decode cX7_turn 32 = .ok (.aload_n 0, 1) := by decide +kernel
theorem dX7_turn_33 : decode cX7_turn 33 = .ok (.invokevirtual 140, 3) := by decide +kernel
theorem dX7_turn_36 : decode cX7_turn 36 = .ok (.iload_n 2, 1) := by decide +kernel
theorem dX7_turn_37 : decode cX7_turn 37 = .ok (.ireturn, 1) := by decide +kernel
theorem dX7_makeIt_0 : decode cX7_makeIt 0 = .ok (.iload_n 1, 1) := by decide +kernel
theorem dX7_makeIt_1 : decode cX7_makeIt 1 = .ok (.istore_n 2, 1) := by decide +kernel
theorem dX7_makeIt_2 : decode cX7_makeIt 2 = .ok (.aload_n 0, 1) := by decide +kernel
theorem dX7_makeIt_3 : decode cX7_makeIt 3 = .ok (.iconst 0, 1) := by decide +kernel
theorem dX7_makeIt_4 : decode cX7_makeIt 4 = .ok (.aload_n 0, 1) := by decide +kernel
theorem dX7_makeIt_5 : decode cX7_makeIt 5 = .ok (.getfield 39, 3) := by decide +kernel
theorem dX7_makeIt_8 : decode cX7_makeIt 8 = .ok (.iload_n 2, 1) := by decide +kernel
theorem dX7_makeIt_9 : decode cX7_makeIt 9 = .ok (.iaload, 1) := by decide +kernel
theorem dX7_makeIt_10 : decode cX7_makeIt 10 = .ok (.invokevirtual 79, 3) := by decide +kernel
theorem dX7_makeIt_13 : decode cX7_makeIt 13 = .ok (.invokestatic 83, 3) := by decide +kernel
theorem dX7_makeIt_16 : decode cX7_makeIt 16 = .ok (.ifCond .eq 18, 3) := by decide +kernel
theorem dX7_makeIt_19 : decode cX7_makeIt 19 = .ok (.aload_n 0, 1) := by decide +kernel
theorem dX7_makeIt_20 : decode cX7_makeIt 20 = .ok (.getfield 51, 3) := by decide +kernel
theorem dX7_makeIt_23 : decode cX7_makeIt 23 = .ok (.iload_n 2, 1) := by decide +kernel
theorem dX7_makeIt_24 : decode cX7_makeIt 24 = .ok (.iaload, 1) := by decide +kernel
theorem dX7_makeIt_25 : decode cX7_makeIt 25 = .ok (.bipush (-6), 2) := by decide +kernel
theorem dX7_makeIt_27 : decode cX7_makeIt 27 = .ok (.if_icmp .ne 7, 3) := by decide +kernel
theorem dX7_makeIt_30 : decode cX7_makeIt 30 = .ok (.iconst 1, 1) := by decide +kernel
theorem dX7_makeIt_31 : decode cX7_makeIt 31 = .ok (.goto 4, 3) := by decide +kernel
theorem dX7_makeIt_34 : decode cX7_makeIt 34 = .ok (.iconst 0, 1) := by decide +kernel
theorem dX7_makeIt_35 : decode cX7_makeIt 35 = .ok (.istore_n 3, 1) := by decide +kernel
theorem dX7_makeIt_36 : decode cX7_makeIt 36 = .ok (.aload_n 0, 1) := by decide +kernel
theorem dX7_makeIt_37 : decode cX7_makeIt 37 = .ok (.getfield 51, 3) := by decide +kernel
theorem dX7_makeIt_40 : decode cX7_makeIt 40 = .ok (.iload_n 2, 1) := by decide +kernel
theorem dX7_makeIt_41 : decode cX7_makeIt 41 = .ok (.iaload, 1) := by decide +kernel
theorem dX7_makeIt_42 : decode cX7_makeIt 42 = .ok (.bipush (-6), 2) := by decide +kernel
theorem dX7_makeIt_44 : decode cX7_makeIt 44 = .ok (.if_icmp .eq 22, 3) := by decide +kernel
theorem dX7_makeIt_47 : decode cX7_makeIt 47 = .ok (.aload_n 0, 1) := by decide +kernel
theorem dX7_makeIt_48 : decode cX7_makeIt 48 = .ok (.getfield 7, 3) := by decide +kernel
theorem dX7_makeIt_51 : decode cX7_makeIt 51 = .ok (.bipush 56, 2) := by decide +kernel
theorem dX7_makeIt_53 : decode cX7_makeIt 53 = .ok (.aload_n 0, 1) := by decide +kernel
theorem dX7_makeIt_54 : decode cX7_makeIt 54 = .ok (.getfield 7, 3) := by decide +kernel
theorem dX7_makeIt_57 : decode cX7_makeIt 57 = .ok (.bipush 48, 2) := by decide +kernel
theorem dX7_makeIt_59 : decode cX7_makeIt 59 = .ok (.iaload, 1) := by decide +kernel
theorem dX7_makeIt_60 : decode cX7_makeIt 60 = .ok (.isub, 1) := by decide +kernel
theorem dX7_makeIt_61 : decode cX7_makeIt 61 = .ok (.dup2, 1) := by decide +kernel
theorem dX7_makeIt_62 : decode cX7_makeIt 62 = .ok (.iaload, 1) := by decide +kernel
theorem dX7_makeIt_63 : decode cX7_makeIt 63 = .ok (.iconst 1, 1) := by decide +kernel
theorem dX7_makeIt_64 : decode cX7_makeIt 64 = .ok (.iadd, 1) := by decide +kernel
theorem dX7_makeIt_65 : decode cX7_makeIt 65 = .ok (.iastore, 1) := by decide +kernel
theorem dX7_makeIt_66 : decode cX7_makeIt 66 = .ok (.aload_n 0, 1) := by decide +kernel
theorem dX7_makeIt_67 : decode cX7_makeIt 67 = .ok (.iconst 0, 1) := by decide +kernel
theorem dX7_makeIt_68 : decode cX7_makeIt 68 = .ok (.iload_n 1, 1) := by decide +kernel
theorem dX7_makeIt_69 : decode cX7_makeIt 69 = .ok (.invokevirtual 152, 3) := by decide +kernel
theorem dX7_makeIt_72 : decode cX7_makeIt 72 = .ok (.iconst 0, 1) := by decide +kernel
theorem dX7_makeIt_73 : decode cX7_makeIt 73 = .ok (.istore 4, 2) := by decide +kernel
theorem dX7_makeIt_75 : decode cX7_makeIt 75 = .ok (.iload 4, 2) := by decide +kernel
theorem dX7_makeIt_77 : decode cX7_makeIt 77 = .ok (.bipush 48, 2) := by decide +kernel
theorem dX7_makeIt_79 : decode cX7_makeIt 79 = .ok (.if_icmp .ge 25, 3) := by decide +kernel
theorem dX7_makeIt_82 : decode cX7_makeIt 82 = .ok (.aload_n 0, 1) := by decide +kernel
theorem dX7_makeIt_83 : decode cX7_makeIt 83 = .ok (.getfield 7, 3) := by decide +kernel
theorem dX7_makeIt_86 : decode cX7_makeIt 86 = .ok (.iconst 0, 1) := by decide +kernel
theorem dX7_makeIt_87 : decode cX7_makeIt 87 = .ok (.iload 4, 2) := by decide +kernel
theorem dX7_makeIt_89 : decode cX7_makeIt 89 = .ok (.iadd, 1) := by decide +kernel
theorem dX7_makeIt_90 : decode cX7_makeIt 90 = .ok (.aload_n 0, 1) := by decide +kernel
theorem dX7_makeIt_91 : decode cX7_makeIt 91 = .ok (.iconst 1, 1) := by decide +kernel
theorem dX7_makeIt_92 : decode cX7_makeIt 92 = .ok (.iload 4, 2) := by decide +kernel
theorem dX7_makeIt_94 : decode cX7_makeIt 94 = .ok (.invokevirtual 79, 3) := by decide +kernel
theorem dX7_makeIt_97 : decode cX7_makeIt 97 = .ok (.iastore, 1) := by decide +kernel
theorem dX7_makeIt_98 : decode cX7_makeIt 98 = .ok (.iinc 4 1, 3) := by decide +kernel
theorem dX7_makeIt_101 : decode cX7_makeIt 101 = .ok (.goto (-26), 3) := by decide +kernel
theorem dX7_makeIt_104 : decode cX7_makeIt 104 = .ok (.aload_n 0, 1) := by decide +kernel
theorem dX7_makeIt_105 : decode cX7_makeIt 105 = .ok (.getfield 7, 3) := by decide +kernel
theorem dX7_makeIt_108 : decode cX7_makeIt 108 = .ok (.bipush 48, 2) := by decide +kernel
theorem dX7_makeIt_110 : decode cX7_makeIt 110 = .ok (.aload_n 0, 1) := by decide +kernel
theorem dX7_makeIt_111 : decode cX7_makeIt 111 = .ok (.getfield 30, 3) := by decide +kernel
theorem dX7_makeIt_114 : decode cX7_makeIt 114 = .ok (.iconst 1, 1) := by decide +kernel
theorem dX7_makeIt_115 : decode cX7_makeIt 115 = .ok (.iaload, 1) := by decide +kernel
theorem dX7_makeIt_116 : decode cX7_makeIt 116 = .ok (.iastore, 1) := by decide +kernel
theorem dX7_makeIt_117 : decode cX7_makeIt 117 = .ok (.aload_n 0, 1) := by decide +kernel
theorem dX7_makeIt_118 : decode cX7_makeIt 118 = .ok (.getfield 7, 3) := by decide +kernel
theorem dX7_makeIt_121 : decode cX7_makeIt 121 = .ok (.bipush 54, 2) := by decide +kernel
theorem dX7_makeIt_123 : decode cX7_makeIt 123 = .ok (.aload_n 0, 1) := by decide +kernel
theorem dX7_makeIt_124 : decode cX7_makeIt 124 = .ok (.getfield 33, 3) := by decide +kernel
theorem dX7_makeIt_127 : decode cX7_makeIt 127 = .ok (.iconst 1, 1) := by decide +kernel
theorem dX7_makeIt_128 : decode cX7_makeIt 128 = .ok (.iaload, 1) := by decide +kernel
theorem dX7_makeIt_129 : decode cX7_makeIt 129 = .ok (.iastore, 1) := by decide +kernel
theorem dX7_makeIt_130 : decode cX7_makeIt 130 = .ok (.aload_n 0, 1) := by decide +kernel
theorem dX7_makeIt_131 : decode cX7_makeIt 131 = .ok (.getfield 7, 3) := by decide +kernel
theorem dX7_makeIt_134 : decode cX7_makeIt 134 = .ok (.bipush 53, 2) := by decide +kernel
theorem dX7_makeIt_136 : decode cX7_makeIt 136 = .ok (.dup2, 1) := by decide +kernel
theorem dX7_makeIt_137 : decode cX7_makeIt 137 = .ok (.iaload, 1) := by decide +kernel
theorem dX7_makeIt_138 : decode cX7_makeIt 138 = .ok (.iconst 1, 1) := by decide +kernel
theorem dX7_makeIt_139 : decode cX7_makeIt 139 = .ok (.iadd, 1) := by decide +kernel
theorem dX7_makeIt_140 : decode cX7_makeIt 140 = .ok (.iastore, 1) := by decide +kernel
theorem dX7_makeIt_141 : decode cX7_makeIt 141 = .ok (.aload_n 0, 1) := by decide +kernel
theorem dX7_makeIt_142 : decode cX7_makeIt 142 = .ok (.getfield 7, 3) := by decide +kernel
theorem dX7_makeIt_145 : decode cX7_makeIt 145 = .ok (.bipush 57, 2) := by decide +kernel
theorem dX7_makeIt_147 : decode cX7_makeIt 147 = .ok (.iload_n 3, 1) := by decide +kernel
theorem dX7_makeIt_148 : decode cX7_makeIt 148 = .ok (.ifCond .eq 15, 3) := by decide +kernel
theorem dX7_makeIt_151 : decode cX7_makeIt 151 = .ok (.aload_n 0, 1) := by decide +kernel
theorem dX7_makeIt_152 : decode cX7_makeIt 152 = .ok (.getfield 7, 3) := by decide +kernel
theorem dX7_makeIt_155 : decode cX7_makeIt 155 = .ok (.bipush 57, 2) := by decide +kernel
theorem dX7_makeIt_157 : decode cX7_makeIt 157 = .ok (.iaload, 1) := by decide +kernel
theorem dX7_makeIt_158 : decode cX7_makeIt 158 = .ok (.iconst 1, 1) := by decide +kernel
theorem dX7_makeIt_159 : decode cX7_makeIt 159 = .ok (.iadd, 1) := by decide +kernel
theorem dX7_makeIt_160 : decode cX7_makeIt 160 = .ok (.goto 4, 3) := by decide +kernel
theorem dX7_makeIt_163 : decode cX7_makeIt 163 = .ok (.iconst 0, 1) := by decide +kernel
theorem dX7_makeIt_164 : decode cX7_makeIt 164 = .ok (.iastore, 1) := by decide +kernel
theorem dX7_makeIt_165 : decode cX7_makeIt 165 = .ok (.iload_n 3, 1) := by decide +kernel
theorem dX7_makeIt_166 : decode cX7_makeIt 166 = .ok (.ifCond .ne 7, 3) := by decide +kernel
theorem dX7_makeIt_169 : decode cX7_makeIt 169 = .ok (.aload_n 0, 1) := by decide +kernel
theorem dX7_makeIt_170 : decode cX7_makeIt 170 = .ok (.invokevirtual 131, 3) := by decide +kernel
theorem dX7_makeIt_173 : decode cX7_makeIt 173 = .ok (.aload_n 0, 1) := by decide +kernel
theorem dX7_makeIt_174 : decode cX7_makeIt 174 = .ok (.invokevirtual 134, 3) := by decide +kernel
theorem dX7_makeIt_177 : decode cX7_makeIt 177 = .ok (.aload_n 0, 1) := by decide +kernel
theorem dX7_makeIt_178 : decode cX7_makeIt 178 = .ok (.invokevirtual 137, 3) := by decide +kernel
theorem dX7_makeIt_181 : decode cX7_makeIt 181 = .ok (.return_, 1) := by decide +kernel
theorem dX7_hop_0 : decode cX7_hop 0 = .ok (.aload_n 0, 1) := by decide +kernel
theorem dX7_hop_1 : decode cX7_hop 1 = .ok (.invokevirtual 124, 3) := by decide +kernel
theorem dX7_hop_4 : decode cX7_hop 4 = .ok (.iload_n 1, 1) := by decide +kernel
theorem dX7_hop_5 : decode cX7_hop 5 = .ok (.iconst 0, 1) := by decide +kernel
theorem dX7_hop_6 : decode cX7_hop 6 = .ok (.aload_n 0, 1) := by decide +kernel
theorem dX7_hop_7 : decode cX7_hop 7 = .ok (.getfield 36, 3) := by decide +kernel
theorem dX7_hop_10 : decode cX7_hop 10 = .ok (.iconst 0, 1) := by decide +kernel
theorem dX7_hop_11 : decode cX7_hop 11 = .ok (.iaload, 1) := by decide +kernel
theorem dX7_hop_12 : decode cX7_hop 12 = .ok (.iconst 1, 1) := by decide +kernel
theorem dX7_hop_13 : decode cX7_hop 13 = .ok (.isub, 1) := by decide +kernel
theorem dX7_hop_14 : decode cX7_hop 14 = .ok (.invokestatic 61, 3) := by decide +kernel
theorem dX7_hop_17 : decode cX7_hop 17 = .ok (.ifCond .ne 5, 3) := by decide +kernel
theorem dX7_hop_20 : decode cX7_hop 20 = .ok (.iconst (-1), 1) := by decide +kernel
theorem dX7_hop_21 : decode cX7_hop 21 = .ok (.ireturn, 1) := by decide +kernel
theorem dX7_hop_22 : decode cX7_hop 22 = .ok (.iload_n 2, 1) := by decide +kernel
theorem dX7_hop_23 : decode cX7_hop 23 = .ok (.iconst 0, 1) := by decide +kernel
theorem dX7_hop_24 : decode cX7_hop 24 = .ok (.sipush 9999, 3) := by decide +kernel
theorem dX7_hop_27 : decode cX7_hop 27 = .ok (.invokestatic 61, 3) := by decide +kernel
theorem dX7_hop_30 : decode cX7_hop 30 = .ok (.ifCond .ne 6, 3) := by decide +kernel
theorem dX7_hop_33 : decode cX7_hop 33 = .ok (.bipush (-2), 2) := by decide +kernel
theorem dX7_hop_35 : decode cX7_hop 35 = .ok (.ireturn, 1) := by decide +kernel
theorem dX7_hop_36 : decode cX7_hop 36 = .ok (.aload_n 0, 1) := by decide +kernel
theorem dX7_hop_37 : decode cX7_hop 37 = .ok (.invokevirtual 76, 3) := by decide +kernel
theorem dX7_hop_40 : decode cX7_hop 40 = .ok (.aload_n 0, 1) := by decide +kernel
theorem dX7_hop_41 : decode cX7_hop 41 = .ok (.getfield 7, 3) := by decide +kernel
theorem dX7_hop_44 : decode cX7_hop 44 = .ok (.bipush 48, 2) := by decide +kernel
theorem dX7_hop_46 : decode cX7_hop 46 = .ok (.iaload, 1) := by decide +kernel
theorem dX7_hop_47 : decode cX7_hop 47 = .ok (.istore_n 3, 1) := by decide +kernel
theorem dX7_hop_48 : decode cX7_hop 48 = .ok (.iload_n 2, 1) := by decide +kernel
theorem dX7_hop_49 : decode cX7_hop 49 = .ok (.aload_n 0, 1) := by decide +kernel
theorem dX7_hop_50 : decode cX7_hop 50 = .ok (.getfield 7, 3) := by decide +kernel
theorem dX7_hop_53 : decode cX7_hop 53 = .ok (.bipush 51, 2) := by decide +kernel
theorem dX7_hop_55 : decode cX7_hop 55 = .ok (.iload_n 3, 1) := by decide +kernel
theorem dX7_hop_56 : decode cX7_hop 56 = .ok (.iadd, 1) := by decide +kernel
theorem dX7_hop_57 : decode cX7_hop 57 = .ok (.iaload, 1) := by decide +kernel
theorem dX7_hop_58 : decode cX7_hop 58 = .ok (.if_icmp .le 32, 3) := by decide +kernel
theorem dX7_hop_61 : decode cX7_hop 61 = .ok (.aload_n 0, 1) := by decide +kernel
theorem dX7_hop_62 : decode cX7_hop 62 = .ok (.getfield 7, 3) := by decide +kernel
theorem dX7_hop_65 : decode cX7_hop 65 = .ok (.bipush 51, 2) := by decide +kernel
theorem dX7_hop_67 : decode cX7_hop 67 = .ok (.iload_n 3, 1) := by decide +kernel
theorem dX7_hop_68 : decode cX7_hop 68 = .ok (.iadd, 1) := by decide +kernel
theorem dX7_hop_69 : decode cX7_hop 69 = .ok (.iconst 0, 1) := by decide +kernel
theorem dX7_hop_70 : decode cX7_hop 70 = .ok (.iastore, 1) := by decide +kernel
theorem dX7_hop_71 : decode cX7_hop 71 = .ok (.aload_n 0, 1) := by decide +kernel
theorem dX7_hop_72 : decode cX7_hop 72 = .ok (.getfield 7, 3) := by decide +kernel
theorem dX7_hop_75 : decode cX7_hop 75 = .ok (.bipush 49, 2) := by decide +kernel
theorem dX7_hop_77 : decode cX7_hop 77 = .ok (.iload_n 3, 1) := by decide +kernel
theorem dX7_hop_78 : decode cX7_hop 78 = .ok (.ifCond .ne 7, 3) := by decide +kernel
theorem dX7_hop_81 : decode cX7_hop 81 = .ok (.iconst 2, 1) := by decide +kernel
theorem dX7_hop_82 : decode cX7_hop 82 = .ok (.goto 4, 3) := by decide +kernel
theorem dX7_hop_85 : decode cX7_hop 85 = .ok (.iconst 1, 1) := by decide +kernel
theorem dX7_hop_86 : decode cX7_hop 86 = .ok (.iastore, 1) := by decide +kernel
theorem dX7_hop_87 : decode cX7_hop 87 = .ok (.goto 21, 3) := by decide +kernel
theorem dX7_hop_90 : decode cX7_hop 90 = .ok (.aload_n 0, 1) := by decide +kernel
theorem dX7_hop_91 : decode cX7_hop 91 = .ok (.getfield 7, 3) := by decide +kernel
theorem dX7_hop_94 : decode cX7_hop 94 = .ok (.bipush 51, 2) := by decide +kernel
theorem dX7_hop_96 : decode cX7_hop 96 = .ok (.iload_n 3, 1) := by decide +kernel
theorem dX7_hop_97 : decode cX7_hop 97 = .ok (.iadd, 1) := by decide +kernel
theorem dX7_hop_98 : decode cX7_hop 98 = .ok (.dup2, 1) := by decide +kernel
theorem dX7_hop_99 : decode cX7_hop 99 = .ok (.iaload, 1) := by decide +kernel
theorem dX7_hop_100 : decode cX7_hop 100 = .ok (.iload_n 2, 1) := by decide +kernel
theorem dX7_hop_101 : decode cX7_hop 101 = .ok (.isub, 1) := by decide +kernel
theorem dX7_hop_102 : decode cX7_hop 102 = .ok (.iastore, 1) := by decide +kernel
theorem dX7_hop_103 : decode cX7_hop 103 = .ok (.aload_n 0, 1) := by decide +kernel
theorem dX7_hop_104 : decode cX7_hop 104 = .ok (.iload_n 1, 1) := by decide +kernel
theorem dX7_hop_105 : decode cX7_hop 105 = .ok (.invokevirtual 156, 3) := by decide +kernel
theorem dX7_hop_108 : decode cX7_hop 108 = .ok (.aload_n 0, 1) := by decide +kernel
theorem dX7_hop_109 : decode cX7_hop 109 = .ok (.getfield 7, 3) := by decide +kernel
theorem dX7_hop_112 : decode cX7_hop 112 = .ok (.bipush 49, 2) := by decide +kernel
theorem dX7_hop_114 : decode cX7_hop 114 = .ok (.iaload, 1) := by decide +kernel
theorem dX7_hop_115 : decode cX7_hop 115 = .ok (.ireturn, 1) := by decide +kernel
theorem dX7_hopFrom_0 : decode cX7_hopFrom 0 = .ok (.aload_n 0, 1) := by decide +kernel
theorem dX7_hopFrom_1 : decode cX7_hopFrom 1 = .ok (.invokevirtual 124, 3) := by decide +kernel
theorem dX7_hopFrom_4 : decode cX7_hopFrom 4 = .ok (.iconst 0, 1) := by decide +kernel
theorem dX7_hopFrom_5 : decode cX7_hopFrom 5 = .ok (.istore_n 3, 1) := by decide +kernel
theorem dX7_hopFrom_6 : decode cX7_hopFrom 6 = .ok (.iload_n 3, 1) := by decide +kernel
theorem dX7_hopFrom_7 : decode cX7_hopFrom 7 = .ok (.aload_n 0, 1) := by decide +kernel
theorem dX7_hopFrom_8 : decode cX7_hopFrom 8 = .ok (.getfield 36, 3) := by decide +kernel
theorem dX7_hopFrom_11 : decode cX7_hopFrom 11 = .ok (.iconst 0, 1) := by decide +kernel
theorem dX7_hopFrom_12 : decode cX7_hopFrom 12 = .ok (.iaload, 1) := by decide +kernel
theorem dX7_hopFrom_13 : decode cX7_hopFrom 13 = .ok (.if_icmp .ge 31, 3) := by decide +kernel
theorem dX7_hopFrom_16 : decode cX7_hopFrom 16 = .ok (.aload_n 0, 1) := by decide +kernel
theorem dX7_hopFrom_17 : decode cX7_hopFrom 17 = .ok (.getfield 39, 3) := by decide +kernel
theorem dX7_hopFrom_20 : decode cX7_hopFrom 20 = .ok (.iload_n 3, 1) := by decide +kernel
theorem dX7_hopFrom_21 : decode cX7_hopFrom 21 = .ok (.iaload, 1) := by decide +kernel
theorem dX7_hopFrom_22 : decode cX7_hopFrom 22 = .ok (.iload_n 1, 1) := by decide +kernel
theorem dX7_hopFrom_23 : decode cX7_hopFrom 23 = .ok (.if_icmp .ne 15, 3) := by decide +kernel
theorem dX7_hopFrom_26 : decode cX7_hopFrom 26 = .ok (.aload_n 0, 1) := by decide +kernel
theorem dX7_hopFrom_27 : decode cX7_hopFrom 27 = .ok (.getfield 48, 3) := by decide +kernel
theorem dX7_hopFrom_30 : decode cX7_hopFrom 30 = .ok (.iload_n 3, 1) := by decide +kernel
theorem dX7_hopFrom_31 : decode cX7_hopFrom 31 = .ok (.iaload, 1) := by decide +kernel
theorem dX7_hopFrom_32 : decode cX7_hopFrom 32 = .ok (.iload_n 2, 1) := by decide +kernel
theorem dX7_hopFrom_33 : decode cX7_hopFrom 33 = .ok (.if_icmp .ne 5, 3) := by decide +kernel
theorem dX7_hopFrom_36 : decode cX7_hopFrom 36 = .ok (.iload_n 3, 1) := by decide +kernel
theorem dX7_hopFrom_37 : decode cX7_hopFrom 37 = .ok (.ireturn, 1) := by decide +kernel
theorem dX7_hopFrom_38 : decode cX7_hopFrom 38 = .ok (.iinc 3 1, 3) := by decide +kernel
theorem dX7_hopFrom_41 : decode cX7_hopFrom 41 = .ok (.goto (-35), 3) := by decide +kernel
theorem dX7_hopFrom_44 : decode cX7_hopFrom 44 = .ok (.bipush (-6), 2) := by decide +kernel
theorem dX7_hopFrom_46 : decode cX7_hopFrom 46 = .ok (.ireturn, 1) := by decide +kernel
theorem dX7_play_0 : decode cX7_play 0 = .ok (.iload_n 1, 1) := by decide +kernel
theorem dX7_play_1 : decode cX7_play 1 = .ok (.invokestatic 149, 3) := by decide +kernel
theorem dX7_play_4 : decode cX7_play 4 = .ok (.ifCond .eq 10, 3) := by decide +kernel
theorem dX7_play_7 : decode cX7_play 7 = .ok (.iload_n 2, 1) := by decide +kernel
theorem dX7_play_8 : decode cX7_play 8 = .ok (.invokestatic 149, 3) := by decide +kernel
theorem dX7_play_11 : decode cX7_play 11 = .ok (.ifCond .ne 5, 3) := by decide +kernel
theorem dX7_play_14 : decode cX7_play 14 = .ok (.iconst (-1), 1) := by decide +kernel
theorem dX7_play_15 : decode cX7_play 15 = .ok (.ireturn, 1) := by decide +kernel
theorem dX7_play_16 : decode cX7_play 16 = .ok (.aload_n 0, 1) := by decide +kernel
theorem dX7_play_17 : decode cX7_play 17 = .ok (.iload_n 1, 1) := by decide +kernel
theorem dX7_play_18 : decode cX7_play 18 = .ok (.iload_n 2, 1) := by decide +kernel
theorem dX7_play_19 : decode cX7_play 19 = .ok (.invokevirtual 159, 3) := by decide +kernel
theorem dX7_play_22 : decode cX7_play 22 = .ok (.istore_n 3, 1) := by decide +kernel
theorem dX7_play_23 : decode cX7_play 23 = .ok (.iload_n 3, 1) := by decide +kernel
theorem dX7_play_24 : decode cX7_play 24 = .ok (.bipush (-6), 2) := by decide +kernel
theorem dX7_play_26 : decode cX7_play 26 = .ok (.if_icmp .ne 6, 3) := by decide +kernel
theorem dX7_play_29 : decode cX7_play 29 = .ok (.bipush (-5), 2) := by decide +kernel
theorem dX7_play_31 : decode cX7_play 31 = .ok (.ireturn, 1) := by decide +kernel
theorem dX7_play_32 : decode cX7_play 32 = .ok (.aload_n 0, 1) := by decide +kernel
theorem dX7_play_33 : decode cX7_play 33 = .ok (.invokevirtual 76, 3) := by decide +kernel
theorem dX7_play_36 : decode cX7_play 36 = .ok (.aload_n 0, 1) := by decide +kernel
theorem dX7_play_37 : decode cX7_play 37 = .ok (.iload_n 3, 1) := by decide +kernel
theorem dX7_play_38 : decode cX7_play 38 = .ok (.invokevirtual 156, 3) := by decide +kernel
theorem dX7_play_41 : decode cX7_play 41 = .ok (.aload_n 0, 1) := by decide +kernel
theorem dX7_play_42 : decode cX7_play 42 = .ok (.getfield 7, 3) := by decide +kernel
theorem dX7_play_45 : decode cX7_play 45 = .ok (.bipush 49, 2) := by decide +kernel
theorem dX7_play_47 : decode cX7_play 47 = .ok (.iaload, 1) := by decide +kernel
theorem dX7_play_48 : decode cX7_play 48 = .ok (.ireturn, 1) := by decide +kernel
theorem dX7_giveUp_0 : decode cX7_giveUp 0 = .ok (.aload_n 0, 1) := by decide +kernel
theorem dX7_giveUp_1 : decode cX7_giveUp 1 = .ok (.getfield 7, 3) := by decide +kernel
theorem dX7_giveUp_4 : decode cX7_giveUp 4 = .ok (.bipush 49, 2) := by decide +kernel
theorem dX7_giveUp_6 : decode cX7_giveUp 6 = .ok (.iaload, 1) := by decide +kernel
theorem dX7_giveUp_7 : decode cX7_giveUp 7 = .ok (.ifCond .eq 6, 3) := by decide +kernel
theorem dX7_giveUp_10 : decode cX7_giveUp 10 = .ok (.bipush (-5), 2) := by decide +kernel
theorem dX7_giveUp_12 : decode cX7_giveUp 12 = .ok (.ireturn, 1) := by decide +kernel
theorem dX7_giveUp_13 : decode cX7_giveUp 13 = .ok (.aload_n 0, 1) := by decide +kernel
theorem dX7_giveUp_14 : decode cX7_giveUp 14 = .ok (.invokevirtual 76, 3) := by decide +kernel
theorem dX7_giveUp_17 : decode cX7_giveUp 17 = .ok (.aload_n 0, 1) := by decide +kernel
theorem dX7_giveUp_18 : decode cX7_giveUp 18 = .ok (.getfield 7, 3) := by decide +kernel
theorem dX7_giveUp_21 : decode cX7_giveUp 21 = .ok (.bipush 49, 2) := by decide +kernel
theorem dX7_giveUp_23 : decode cX7_giveUp 23 = .ok (.aload_n 0, 1) := by decide +kernel
theorem dX7_giveUp_24 : decode cX7_giveUp 24 = .ok (.getfield 7, 3) := by decide +kernel
theorem dX7_giveUp_27 : decode cX7_giveUp 27 = .ok (.bipush 48, 2) := by decide +kernel
theorem dX7_giveUp_29 : decode cX7_giveUp 29 = .ok (.iaload, 1) := by decide +kernel
theorem dX7_giveUp_30 : decode cX7_giveUp 30 = .ok (.ifCond .ne 7, 3) := by decide +kernel
theorem dX7_giveUp_33 : decode cX7_giveUp 33 = .ok (.iconst 2, 1) := by decide +kernel
theorem dX7_giveUp_34 : decode cX7_giveUp 34 = .ok (.goto 4, 3) := by decide +kernel
theorem dX7_giveUp_37 : decode cX7_giveUp 37 = .ok (.iconst 1, 1) := by decide +kernel
theorem dX7_giveUp_38 : decode cX7_giveUp 38 = .ok (.iastore, 1) := by decide +kernel
theorem dX7_giveUp_39 : decode cX7_giveUp 39 = .ok (.aload_n 0, 1) := by decide +kernel
theorem dX7_giveUp_40 : decode cX7_giveUp 40 = .ok (.getfield 7, 3) := by decide +kernel
theorem dX7_giveUp_43 : decode cX7_giveUp 43 = .ok (.bipush 49, 2) := by decide +kernel
theorem dX7_giveUp_45 : decode cX7_giveUp 45 = .ok (.iaload, 1) := by decide +kernel
theorem dX7_giveUp_46 : decode cX7_giveUp 46 = .ok (.ireturn, 1) := by decide +kernel
theorem dX7_isInDanger_0 : decode cX7_isInDanger 0 = .ok (.aload_n 0, 1) := by decide +kernel
theorem dX7_isInDanger_1 : decode cX7_isInDanger 1 = .ok (.getfield 7, 3) := by decide +kernel
theorem dX7_isInDanger_4 : decode cX7_isInDanger 4 = .ok (.iconst 0, 1) := by decide +kernel
theorem dX7_isInDanger_5 : decode cX7_isInDanger 5 = .ok (.iload_n 1, 1) := by decide +kernel
theorem dX7_isInDanger_6 : decode cX7_isInDanger 6 = .ok (.iadd, 1) := by decide +kernel
theorem dX7_isInDanger_7 : decode cX7_isInDanger 7 = .ok (.iaload, 1) := by decide +kernel
theorem dX7_isInDanger_8 : decode cX7_isInDanger 8 = .ok (.bipush (-6), 2) := by decide +kernel
theorem dX7_isInDanger_10 : decode cX7_isInDanger 10 = .ok (.if_icmp .ne 5, 3) := by decide +kernel
theorem dX7_isInDanger_13 : decode cX7_isInDanger 13 = .ok (.iconst 0, 1) := by decide +kernel
theorem dX7_isInDanger_14 : decode cX7_isInDanger 14 = .ok (.ireturn, 1) := by decide +kernel
theorem dX7_isInDanger_15 : decode cX7_isInDanger 15 = .ok (.aload_n 0, 1) := by decide +kernel
theorem dX7_isInDanger_16 : decode cX7_isInDanger 16 = .ok (.invokevirtual 124, 3) := by decide +kernel
theorem dX7_isInDanger_19 : decode cX7_isInDanger 19 = .ok (.aload_n 0, 1) := by decide +kernel
theorem dX7_isInDanger_20 : decode cX7_isInDanger 20 = .ok (.iconst 0, 1) := by decide +kernel
theorem dX7_isInDanger_21 : decode cX7_isInDanger 21 = .ok (.iconst 1, 1) := by decide +kernel
theorem dX7_isInDanger_22 : decode cX7_isInDanger 22 = .ok (.aload_n 0, 1) := by decide +kernel
theorem dX7_isInDanger_23 : decode cX7_isInDanger 23 = .ok (.getfield 7, 3) := by decide +kernel
theorem dX7_isInDanger_26 : decode cX7_isInDanger 26 = .ok (.iconst 0, 1) := by decide +kernel
theorem dX7_isInDanger_27 : decode cX7_isInDanger 27 = .ok (.iload_n 1, 1) := by decide +kernel
theorem dX7_isInDanger_28 : decode cX7_isInDanger 28 = .ok (.iadd, 1) := by decide +kernel
theorem dX7_isInDanger_29 : decode cX7_isInDanger 29 = .ok (.iaload, 1) := by decide +kernel
theorem dX7_isInDanger_30 : decode cX7_isInDanger 30 = .ok (.invokestatic 87, 3) := by decide +kernel
theorem dX7_isInDanger_33 : decode cX7_isInDanger 33 = .ok (.isub, 1) := by decide +kernel
theorem dX7_isInDanger_34 : decode cX7_isInDanger 34 = .ok (.bipush (-6), 2) := by decide +kernel
theorem dX7_isInDanger_36 : decode cX7_isInDanger 36 = .ok (.invokevirtual 108, 3) := by decide +kernel
theorem dX7_isInDanger_39 : decode cX7_isInDanger 39 = .ok (.iconst 0, 1) := by decide +kernel
theorem dX7_isInDanger_40 : decode cX7_isInDanger 40 = .ok (.istore_n 2, 1) := by decide +kernel
theorem dX7_isInDanger_41 : decode cX7_isInDanger 41 = .ok (.iconst 0, 1) := by decide +kernel
theorem dX7_isInDanger_42 : decode cX7_isInDanger 42 = .ok (.istore_n 3, 1) := by decide +kernel
theorem dX7_isInDanger_43 : decode cX7_isInDanger 43 = .ok (.iload_n 3, 1) := by decide +kernel
theorem dX7_isInDanger_44 : decode cX7_isInDanger 44 = .ok (.aload_n 0, 1) := by decide +kernel
theorem dX7_isInDanger_45 : decode cX7_isInDanger 45 = .ok (.getfield 36, 3) := by decide +kernel
theorem dX7_isInDanger_48 : decode cX7_isInDanger 48 = .ok (.iconst 0, 1) := by decide +kernel
theorem dX7_isInDanger_49 : decode cX7_isInDanger 49 = .ok (.iaload, 1) := by decide +kernel
theorem dX7_isInDanger_50 : decode cX7_isInDanger 50 = .ok (.if_icmp .ge 29, 3) := by decide +kernel
theorem dX7_isInDanger_53 : decode cX7_isInDanger 53 = .ok (.iload_n 2, 1) := by decide +kernel
theorem dX7_isInDanger_54 : decode cX7_isInDanger 54 = .ok (.ifCond .ne 13, 3) := by decide +kernel
theorem dX7_isInDanger_57 : decode cX7_isInDanger 57 = .ok (.aload_n 0, 1) := by decide +kernel
theorem dX7_isInDanger_58 : decode cX7_isInDanger 58 = .ok (.getfield 51, 3) := by decide +kernel
theorem dX7_isInDanger_61 : decode cX7_isInDanger 61 = .ok (.iload_n 3, 1) := by decide +kernel
theorem dX7_isInDanger_62 : decode cX7_isInDanger 62 = .ok (.iaload, 1) := by decide +kernel
theorem dX7_isInDanger_63 : decode cX7_isInDanger 63 = .ok (.iload_n 1, 1) := by decide +kernel
theorem dX7_isInDanger_64 : decode cX7_isInDanger 64 = .ok (.if_icmp .ne 7, 3) := by decide +kernel
theorem dX7_isInDanger_67 : decode cX7_isInDanger 67 = .ok (.iconst 1, 1) := by decide +kernel
theorem dX7_isInDanger_68 : decode cX7_isInDanger 68 = .ok (.goto 4, 3) := by decide +kernel
theorem dX7_isInDanger_71 : decode cX7_isInDanger 71 = .ok (.iconst 0, 1) := by decide +kernel
theorem dX7_isInDanger_72 : decode cX7_isInDanger 72 = .ok (.istore_n 2, 1) := by decide +kernel
theorem dX7_isInDanger_73 : decode cX7_isInDanger 73 = .ok (.iinc 3 1, 3) := by decide +kernel
theorem dX7_isInDanger_76 : decode cX7_isInDanger 76 = .ok (.goto (-33), 3) := by decide +kernel
theorem dX7_isInDanger_79 : decode cX7_isInDanger 79 = .ok (.iload_n 2, 1) := by decide +kernel
theorem dX7_isInDanger_80 : decode cX7_isInDanger 80 = .ok (.ireturn, 1) := by decide +kernel
theorem dX7_hopsFrom_0 : decode cX7_hopsFrom 0 = .ok (.aload_n 0, 1) := by decide +kernel
theorem dX7_hopsFrom_1 : decode cX7_hopsFrom 1 = .ok (.invokevirtual 124, 3) := by decide +kernel
theorem dX7_hopsFrom_4 : decode cX7_hopsFrom 4 = .ok (.iconst 0, 1) := by decide +kernel
theorem dX7_hopsFrom_5 : decode cX7_hopsFrom 5 = .ok (.istore_n 2, 1) := by decide +kernel
theorem dX7_hopsFrom_6 : decode cX7_hopsFrom 6 = .ok (.iconst 0, 1) := by decide +kernel
theorem dX7_hopsFrom_7 : decode cX7_hopsFrom 7 = .ok (.istore_n 3, 1) := by decide +kernel
theorem dX7_hopsFrom_8 : decode cX7_hopsFrom 8 = .ok (.iload_n 3, 1) := by decide +kernel
theorem dX7_hopsFrom_9 : decode cX7_hopsFrom 9 = .ok (.aload_n 0, 1) := by decide +kernel
theorem dX7_hopsFrom_10 : decode cX7_hopsFrom 10 = .ok (.getfield 36, 3) := by decide +kernel
theorem dX7_hopsFrom_13 : decode cX7_hopsFrom 13 = .ok (.iconst 0, 1) := by decide +kernel
theorem dX7_hopsFrom_14 : decode cX7_hopsFrom 14 = .ok (.iaload, 1) := by decide +kernel
theorem dX7_hopsFrom_15 : decode cX7_hopsFrom 15 = .ok (.if_icmp .ge 27, 3) := by decide +kernel
theorem dX7_hopsFrom_18 : decode cX7_hopsFrom 18 = .ok (.iload_n 2, 1) := by decide +kernel
theorem dX7_hopsFrom_19 : decode cX7_hopsFrom 19 = .ok (.aload_n 0, 1) := by decide +kernel
theorem dX7_hopsFrom_20 : decode cX7_hopsFrom 20 = .ok (.getfield 39, 3) := by decide +kernel
theorem dX7_hopsFrom_23 : decode cX7_hopsFrom 23 = .ok (.iload_n 3, 1) := by decide +kernel
theorem dX7_hopsFrom_24 : decode cX7_hopsFrom 24 = .ok (.iaload, 1) := by decide +kernel
theorem dX7_hopsFrom_25 : decode cX7_hopsFrom 25 = .ok (.iload_n 1, 1) := by decide +kernel
theorem dX7_hopsFrom_26 : decode cX7_hopsFrom 26 = .ok (.if_icmp .ne 7, 3) := by decide +kernel
theorem dX7_hopsFrom_29 : decode cX7_hopsFrom 29 = .ok (.iconst 1, 1) := by decide +kernel
theorem dX7_hopsFrom_30 : decode cX7_hopsFrom 30 = .ok (.goto 4, 3) := by decide +kernel
theorem dX7_hopsFrom_33 : decode cX7_hopsFrom 33 = .ok (.iconst 0, 1) := by decide +kernel
theorem dX7_hopsFrom_34 : decode cX7_hopsFrom 34 = .ok (.iadd, 1) := by decide +kernel
theorem dX7_hopsFrom_35 : decode cX7_hopsFrom 35 = .ok (.istore_n 2, 1) := by decide +kernel
theorem dX7_hopsFrom_36 : decode cX7_hopsFrom 36 = .ok (.iinc 3 1, 3) := by decide +kernel
theorem dX7_hopsFrom_39 : decode cX7_hopsFrom 39 = .ok (.goto (-31), 3) := by decide +kernel
theorem dX7_hopsFrom_42 : decode cX7_hopsFrom 42 = .ok (.iload_n 2, 1) := by decide +kernel
theorem dX7_hopsFrom_43 : decode cX7_hopsFrom 43 = .ok (.ireturn, 1) := by decide +kernel
theorem dX7_square_0 : decode cX7_square 0 = .ok (.iload_n 1, 1) := by decide +kernel
theorem dX7_square_1 : decode cX7_square 1 = .ok (.invokestatic 149, 3) := by decide +kernel
theorem dX7_square_4 : decode cX7_square 4 = .ok (.ifCond .ne 5, 3) := by decide +kernel
theorem dX7_square_7 : decode cX7_square 7 = .ok (.iconst (-1), 1) := by decide +kernel
theorem dX7_square_8 : decode cX7_square 8 = .ok (.ireturn, 1) := by decide +kernel
theorem dX7_square_9 : decode cX7_square 9 = .ok (.iload_n 2, 1) := by decide +kernel
theorem dX7_square_10 : decode cX7_square 10 = .ok (.tableswitch 73 0 4 #[34, 43, 48, 53, 67], 34) := by decide +kernel
theorem dX7_square_44 : decode cX7_square 44 = .ok (.aload_n 0, 1) := by decide +kernel
theorem dX7_square_45 : decode cX7_square 45 = .ok (.getfield 7, 3) := by decide +kernel
theorem dX7_square_48 : decode cX7_square 48 = .ok (.iconst 0, 1) := by decide +kernel
theorem dX7_square_49 : decode cX7_square 49 = .ok (.iload_n 1, 1) := by decide +kernel
theorem dX7_square_50 : decode cX7_square 50 = .ok (.iadd, 1) := by decide +kernel
theorem dX7_square_51 : decode cX7_square 51 = .ok (.iaload, 1) := by decide +kernel
theorem dX7_square_52 : decode cX7_square 52 = .ok (.ireturn, 1) := by decide +kernel
theorem dX7_square_53 : decode cX7_square 53 = .ok (.iload_n 1, 1) := by decide +kernel
theorem dX7_square_54 : decode cX7_square 54 = .ok (.invokestatic 65, 3) := by decide +kernel
theorem dX7_square_57 : decode cX7_square 57 = .ok (.ireturn, 1) := by decide +kernel
theorem dX7_square_58 : decode cX7_square 58 = .ok (.iload_n 1, 1) := by decide +kernel
theorem dX7_square_59 : decode cX7_square 59 = .ok (.invokestatic 69, 3) := by decide +kernel
theorem dX7_square_62 : decode cX7_square 62 = .ok (.ireturn, 1) := by decide +kernel
theorem dX7_square_63 : decode cX7_square 63 = .ok (.aload_n 0, 1) := by decide +kernel
theorem dX7_square_64 : decode cX7_square 64 = .ok (.iload_n 1, 1) := by decide +kernel
theorem dX7_square_65 : decode cX7_square 65 = .ok (.invokevirtual 162, 3) := by decide +kernel
theorem dX7_square_68 : decode cX7_square 68 = .ok (.ifCond .eq 7, 3) := by decide +kernel
theorem dX7_square_71 : decode cX7_square 71 = .ok (.iconst 1, 1) := by decide +kernel
theorem dX7_square_72 : decode cX7_square 72 = .ok (.goto 4, 3) := by decide +kernel
theorem dX7_square_75 : decode cX7_square 75 = .ok (.iconst 0, 1) := by decide +kernel
theorem dX7_square_76 : decode cX7_square 76 = .ok (.ireturn, 1) := by decide +kernel
theorem dX7_square_77 : decode cX7_square 77 = .ok (.aload_n 0, 1) := by decide +kernel
theorem dX7_square_78 : decode cX7_square 78 = .ok (.iload_n 1, 1) := by decide +kernel
theorem dX7_square_79 : decode cX7_square 79 = .ok (.invokevirtual 165, 3) := by decide +kernel
theorem dX7_square_82 : decode cX7_square 82 = .ok (.ireturn, 1) := by decide +kernel
theorem dX7_square_83 : decode cX7_square 83 = .ok (.bipush (-2), 2) := by decide +kernel
theorem dX7_square_85 : decode cX7_square 85 = .ok (.ireturn, 1) := by decide +kernel
theorem dX7_step_0 : decode cX7_step 0 = .ok (.iload_n 1, 1) := by decide +kernel
theorem dX7_step_1 : decode cX7_step 1 = .ok (.invokestatic 149, 3) := by decide +kernel
theorem dX7_step_4 : decode cX7_step 4 = .ok (.ifCond .ne 5, 3) := by decide +kernel
theorem dX7_step_7 : decode cX7_step 7 = .ok (.iconst (-1), 1) := by decide +kernel
theorem dX7_step_8 : decode cX7_step 8 = .ok (.ireturn, 1) := by decide +kernel
theorem dX7_step_9 : decode cX7_step 9 = .ok (.iload_n 2, 1) := by decide +kernel
theorem dX7_step_10 : decode cX7_step 10 = .ok (.iconst 0, 1) := by decide +kernel
theorem dX7_step_11 : decode cX7_step 11 = .ok (.iconst 3, 1) := by decide +kernel
theorem dX7_step_12 : decode cX7_step 12 = .ok (.invokestatic 61, 3) := by decide +kernel
theorem dX7_step_15 : decode cX7_step 15 = .ok (.ifCond .eq 11, 3) := by decide +kernel
theorem dX7_step_18 : decode cX7_step 18 = .ok (.iload_n 1, 1) := by decide +kernel
theorem dX7_step_19 : decode cX7_step 19 = .ok (.iload_n 2, 1) := by decide +kernel
theorem dX7_step_20 : decode cX7_step 20 = .ok (.invokestatic 90, 3) := by decide +kernel
theorem dX7_step_23 : decode cX7_step 23 = .ok (.goto 5, 3) := by decide +kernel
theorem dX7_step_26 : decode cX7_step 26 = .ok (.bipush (-2), 2) := by decide +kernel
theorem dX7_step_28 : decode cX7_step 28 = .ok (.ireturn, 1) := by decide +kernel
theorem dX7_goesOn_0 : decode cX7_goesOn 0 = .ok (.aload_n 0, 1) := by decide +kernel
theorem dX7_goesOn_1 : decode cX7_goesOn 1 = .ok (.iconst 0, 1) := by decide +kernel
theorem dX7_goesOn_2 : decode cX7_goesOn 2 = .ok (.iload_n 1, 1) := by decide +kernel
theorem dX7_goesOn_3 : decode cX7_goesOn 3 = .ok (.invokevirtual 152, 3) := by decide +kernel
theorem dX7_goesOn_6 : decode cX7_goesOn 6 = .ok (.aload_n 0, 1) := by decide +kernel
theorem dX7_goesOn_7 : decode cX7_goesOn 7 = .ok (.getfield 33, 3) := by decide +kernel
theorem dX7_goesOn_10 : decode cX7_goesOn 10 = .ok (.iconst 1, 1) := by decide +kernel
theorem dX7_goesOn_11 : decode cX7_goesOn 11 = .ok (.iaload, 1) := by decide +kernel
theorem dX7_goesOn_12 : decode cX7_goesOn 12 = .ok (.bipush (-6), 2) := by decide +kernel
theorem dX7_goesOn_14 : decode cX7_goesOn 14 = .ok (.if_icmp .ne 7, 3) := by decide +kernel
theorem dX7_goesOn_17 : decode cX7_goesOn 17 = .ok (.iconst 0, 1) := by decide +kernel
theorem dX7_goesOn_18 : decode cX7_goesOn 18 = .ok (.goto 4, 3) := by decide +kernel
theorem dX7_goesOn_21 : decode cX7_goesOn 21 = .ok (.iconst 1, 1) := by decide +kernel
theorem dX7_goesOn_22 : decode cX7_goesOn 22 = .ok (.ireturn, 1) := by decide +kernel
theorem dX7_ofHop_0 : decode cX7_ofHop 0 = .ok (.aload_n 0, 1) := by decide +kernel
theorem dX7_ofHop_1 : decode cX7_ofHop 1 = .ok (.invokevirtual 124, 3) := by decide +kernel
theorem dX7_ofHop_4 : decode cX7_ofHop 4 = .ok (.iload_n 1, 1) := by decide +kernel
theorem dX7_ofHop_5 : decode cX7_ofHop 5 = .ok (.iconst 0, 1) := by decide +kernel
theorem dX7_ofHop_6 : decode cX7_ofHop 6 = .ok (.aload_n 0, 1) := by decide +kernel
theorem dX7_ofHop_7 : decode cX7_ofHop 7 = .ok (.getfield 36, 3) := by decide +kernel
theorem dX7_ofHop_10 : decode cX7_ofHop 10 = .ok (.iconst 0, 1) := by decide +kernel
theorem dX7_ofHop_11 : decode cX7_ofHop 11 = .ok (.iaload, 1) := by decide +kernel
theorem dX7_ofHop_12 : decode cX7_ofHop 12 = .ok (.iconst 1, 1) := by decide +kernel
theorem dX7_ofHop_13 : decode cX7_ofHop 13 = .ok (.isub, 1) := by decide +kernel
theorem dX7_ofHop_14 : decode cX7_ofHop 14 = .ok (.invokestatic 61, 3) := by decide +kernel
theorem dX7_ofHop_17 : decode cX7_ofHop 17 = .ok (.ifCond .ne 5, 3) := by decide +kernel
theorem dX7_ofHop_20 : decode cX7_ofHop 20 = .ok (.iconst (-1), 1) := by decide +kernel
theorem dX7_ofHop_21 : decode cX7_ofHop 21 = .ok (.ireturn, 1) := by decide +kernel
theorem dX7_ofHop_22 : decode cX7_ofHop 22 = .ok (.iload_n 2, 1) := by decide +kernel
theorem dX7_ofHop_23 : decode cX7_ofHop 23 = .ok (.tableswitch 97 0 6 #[41, 48, 55, 62, 69, 76, 91], 41) := by decide +kernel
theorem dX7_ofHop_64 : decode cX7_ofHop 64 = .ok (.aload_n 0, 1) := by decide +kernel
theorem dX7_ofHop_65 : decode cX7_ofHop 65 = .ok (.getfield 39, 3) := by decide +kernel
theorem dX7_ofHop_68 : decode cX7_ofHop 68 = .ok (.iload_n 1, 1) := by decide +kernel
theorem dX7_ofHop_69 : decode cX7_ofHop 69 = .ok (.iaload, 1) := by decide +kernel
theorem dX7_ofHop_70 : decode cX7_ofHop 70 = .ok (.ireturn, 1) := by decide +kernel
theorem dX7_ofHop_71 : decode cX7_ofHop 71 = .ok (.aload_n 0, 1) := by decide +kernel
theorem dX7_ofHop_72 : decode cX7_ofHop 72 = .ok (.getfield 48, 3) := by decide +kernel
theorem dX7_ofHop_75 : decode cX7_ofHop 75 = .ok (.iload_n 1, 1) := by decide +kernel
theorem dX7_ofHop_76 : decode cX7_ofHop 76 = .ok (.iaload, 1) := by decide +kernel
theorem dX7_ofHop_77 : decode cX7_ofHop 77 = .ok (.ireturn, 1) := by decide +kernel
theorem dX7_ofHop_78 : decode cX7_ofHop 78 = .ok (.aload_n 0, 1) := by decide +kernel
theorem dX7_ofHop_79 : decode cX7_ofHop 79 = .ok (.getfield 42, 3) := by decide +kernel
theorem dX7_ofHop_82 : decode cX7_ofHop 82 = .ok (.iload_n 1, 1) := by decide +kernel
theorem dX7_ofHop_83 : decode cX7_ofHop 83 = .ok (.iaload, 1) := by decide +kernel
theorem dX7_ofHop_84 : decode cX7_ofHop 84 = .ok (.ireturn, 1) := by decide +kernel
theorem dX7_ofHop_85 : decode cX7_ofHop 85 = .ok (.aload_n 0, 1) := by decide +kernel
theorem dX7_ofHop_86 : decode cX7_ofHop 86 = .ok (.getfield 45, 3) := by decide +kernel
theorem dX7_ofHop_89 : decode cX7_ofHop 89 = .ok (.iload_n 1, 1) := by decide +kernel
theorem dX7_ofHop_90 : decode cX7_ofHop 90 = .ok (.iaload, 1) := by decide +kernel
theorem dX7_ofHop_91 : decode cX7_ofHop 91 = .ok (.ireturn, 1) := by decide +kernel
theorem dX7_ofHop_92 : decode cX7_ofHop 92 = .ok (.aload_n 0, 1) := by decide +kernel
theorem dX7_ofHop_93 : decode cX7_ofHop 93 = .ok (.getfield 51, 3) := by decide +kernel
theorem dX7_ofHop_96 : decode cX7_ofHop 96 = .ok (.iload_n 1, 1) := by decide +kernel
theorem dX7_ofHop_97 : decode cX7_ofHop 97 = .ok (.iaload, 1) := by decide +kernel
theorem dX7_ofHop_98 : decode cX7_ofHop 98 = .ok (.ireturn, 1) := by decide +kernel
theorem dX7_ofHop_99 : decode cX7_ofHop 99 = .ok (.aload_n 0, 1) := by decide +kernel
theorem dX7_ofHop_100 : decode cX7_ofHop 100 = .ok (.iconst 0, 1) := by decide +kernel
theorem dX7_ofHop_101 : decode cX7_ofHop 101 = .ok (.iload_n 1, 1) := by decide +kernel
theorem dX7_ofHop_102 : decode cX7_ofHop 102 = .ok (.invokevirtual 114, 3) := by decide +kernel
theorem dX7_ofHop_105 : decode cX7_ofHop 105 = .ok (.ifCond .eq 7, 3) := by decide +kernel
theorem dX7_ofHop_108 : decode cX7_ofHop 108 = .ok (.iconst 1, 1) := by decide +kernel
theorem dX7_ofHop_109 : decode cX7_ofHop 109 = .ok (.goto 4, 3) := by decide +kernel
theorem dX7_ofHop_112 : decode cX7_ofHop 112 = .ok (.iconst 0, 1) := by decide +kernel
theorem dX7_ofHop_113 : decode cX7_ofHop 113 = .ok (.ireturn, 1) := by decide +kernel
theorem dX7_ofHop_114 : decode cX7_ofHop 114 = .ok (.aload_n 0, 1) := by decide +kernel
theorem dX7_ofHop_115 : decode cX7_ofHop 115 = .ok (.iload_n 1, 1) := by decide +kernel
theorem dX7_ofHop_116 : decode cX7_ofHop 116 = .ok (.invokevirtual 168, 3) := by decide +kernel
theorem dX7_ofHop_119 : decode cX7_ofHop 119 = .ok (.ireturn, 1) := by decide +kernel
theorem dX7_ofHop_120 : decode cX7_ofHop 120 = .ok (.bipush (-2), 2) := by decide +kernel
theorem dX7_ofHop_122 : decode cX7_ofHop 122 = .ok (.ireturn, 1) := by decide +kernel
theorem dX7_side_0 : decode cX7_side 0 = .ok (.iload_n 1, 1) := by decide +kernel
theorem dX7_side_1 : decode cX7_side 1 = .ok (.iconst 0, 1) := by decide +kernel
theorem dX7_side_2 : decode cX7_side 2 = .ok (.iconst 1, 1) := by decide +kernel
theorem dX7_side_3 : decode cX7_side 3 = .ok (.invokestatic 61, 3) := by decide +kernel
theorem dX7_side_6 : decode cX7_side 6 = .ok (.ifCond .ne 6, 3) := by decide +kernel
theorem dX7_side_9 : decode cX7_side 9 = .ok (.bipush (-2), 2) := by decide +kernel
theorem dX7_side_11 : decode cX7_side 11 = .ok (.ireturn, 1) := by decide +kernel
theorem dX7_side_12 : decode cX7_side 12 = .ok (.iload_n 2, 1) := by decide +kernel
theorem dX7_side_13 : decode cX7_side 13 = .ok (.tableswitch 78 0 4 #[35, 35, 42, 52, 62], 35) := by decide +kernel
theorem dX7_side_48 : decode cX7_side 48 = .ok (.aload_n 0, 1) := by decide +kernel
theorem dX7_side_49 : decode cX7_side 49 = .ok (.iload_n 1, 1) := by decide +kernel
theorem dX7_side_50 : decode cX7_side 50 = .ok (.iload_n 2, 1) := by decide +kernel
theorem dX7_side_51 : decode cX7_side 51 = .ok (.invokevirtual 143, 3) := by decide +kernel
theorem dX7_side_54 : decode cX7_side 54 = .ok (.ireturn, 1) := by decide +kernel
theorem dX7_side_55 : decode cX7_side 55 = .ok (.aload_n 0, 1) := by decide +kernel
theorem dX7_side_56 : decode cX7_side 56 = .ok (.getfield 7, 3) := by decide +kernel
theorem dX7_side_59 : decode cX7_side 59 = .ok (.bipush 51, 2) := by decide +kernel
theorem dX7_side_61 : decode cX7_side 61 = .ok (.iload_n 1, 1) := by decide +kernel
theorem dX7_side_62 : decode cX7_side 62 = .ok (.iadd, 1) := by decide +kernel
theorem dX7_side_63 : decode cX7_side 63 = .ok (.iaload, 1) := by decide +kernel
theorem dX7_side_64 : decode cX7_side 64 = .ok (.ireturn, 1) := by decide +kernel
theorem dX7_side_65 : decode cX7_side 65 = .ok (.aload_n 0, 1) := by decide +kernel
theorem dX7_side_66 : decode cX7_side 66 = .ok (.getfield 7, 3) := by decide +kernel
theorem dX7_side_69 : decode cX7_side 69 = .ok (.bipush 55, 2) := by decide +kernel
theorem dX7_side_71 : decode cX7_side 71 = .ok (.iload_n 1, 1) := by decide +kernel
theorem dX7_side_72 : decode cX7_side 72 = .ok (.iadd, 1) := by decide +kernel
theorem dX7_side_73 : decode cX7_side 73 = .ok (.iaload, 1) := by decide +kernel
theorem dX7_side_74 : decode cX7_side 74 = .ok (.ireturn, 1) := by decide +kernel
theorem dX7_side_75 : decode cX7_side 75 = .ok (.aload_n 0, 1) := by decide +kernel
theorem dX7_side_76 : decode cX7_side 76 = .ok (.iload_n 1, 1) := by decide +kernel
theorem dX7_side_77 : decode cX7_side 77 = .ok (.iconst 0, 1) := by decide +kernel
theorem dX7_side_78 : decode cX7_side 78 = .ok (.invokevirtual 143, 3) := by decide +kernel
theorem dX7_side_81 : decode cX7_side 81 = .ok (.iconst 3, 1) := by decide +kernel
theorem dX7_side_82 : decode cX7_side 82 = .ok (.aload_n 0, 1) := by decide +kernel
theorem dX7_side_83 : decode cX7_side 83 = .ok (.iload_n 1, 1) := by decide +kernel
theorem dX7_side_84 : decode cX7_side 84 = .ok (.iconst 1, 1) := by decide +kernel
theorem dX7_side_85 : decode cX7_side 85 = .ok (.invokevirtual 143, 3) := by decide +kernel
theorem dX7_side_88 : decode cX7_side 88 = .ok (.imul, 1) := by decide +kernel
theorem dX7_side_89 : decode cX7_side 89 = .ok (.iadd, 1) := by decide +kernel
theorem dX7_side_90 : decode cX7_side 90 = .ok (.ireturn, 1) := by decide +kernel
theorem dX7_side_91 : decode cX7_side 91 = .ok (.bipush (-2), 2) := by decide +kernel
theorem dX7_side_93 : decode cX7_side 93 = .ok (.ireturn, 1) := by decide +kernel
theorem dX7_hopsNow_0 : decode cX7_hopsNow 0 = .ok (.aload_n 0, 1) := by decide +kernel
theorem dX7_hopsNow_1 : decode cX7_hopsNow 1 = .ok (.invokevirtual 124, 3) := by decide +kernel
theorem dX7_hopsNow_4 : decode cX7_hopsNow 4 = .ok (.aload_n 0, 1) := by decide +kernel
theorem dX7_hopsNow_5 : decode cX7_hopsNow 5 = .ok (.getfield 36, 3) := by decide +kernel
theorem dX7_hopsNow_8 : decode cX7_hopsNow 8 = .ok (.iconst 0, 1) := by decide +kernel
theorem dX7_hopsNow_9 : decode cX7_hopsNow 9 = .ok (.iaload, 1) := by decide +kernel
theorem dX7_hopsNow_10 : decode cX7_hopsNow 10 = .ok (.ireturn, 1) := by decide +kernel
theorem dX7_count_0 : decode cX7_count 0 = .ok (.iload_n 1, 1) := by decide +kernel
theorem dX7_count_1 : decode cX7_count 1 = .ok (.tableswitch 123 0 9 #[55, 63, 71, 76, 84, 92, 97, 105, 113, 118], 55) := by decide +kernel
theorem dX7_count_56 : decode cX7_count 56 = .ok (.aload_n 0, 1) := by decide +kernel
theorem dX7_count_57 : decode cX7_count 57 = .ok (.getfield 7, 3) := by decide +kernel
theorem dX7_count_60 : decode cX7_count 60 = .ok (.bipush 49, 2) := by decide +kernel
theorem dX7_count_62 : decode cX7_count 62 = .ok (.iaload, 1) := by decide +kernel
theorem dX7_count_63 : decode cX7_count 63 = .ok (.ireturn, 1) := by decide +kernel
theorem dX7_count_64 : decode cX7_count 64 = .ok (.aload_n 0, 1) := by decide +kernel
theorem dX7_count_65 : decode cX7_count 65 = .ok (.getfield 7, 3) := by decide +kernel
theorem dX7_count_68 : decode cX7_count 68 = .ok (.bipush 48, 2) := by decide +kernel
theorem dX7_count_70 : decode cX7_count 70 = .ok (.iaload, 1) := by decide +kernel
theorem dX7_count_71 : decode cX7_count 71 = .ok (.ireturn, 1) := by decide +kernel
theorem dX7_count_72 : decode cX7_count 72 = .ok (.aload_n 0, 1) := by decide +kernel
theorem dX7_count_73 : decode cX7_count 73 = .ok (.invokevirtual 171, 3) := by decide +kernel
theorem dX7_count_76 : decode cX7_count 76 = .ok (.ireturn, 1) := by decide +kernel
theorem dX7_count_77 : decode cX7_count 77 = .ok (.aload_n 0, 1) := by decide +kernel
theorem dX7_count_78 : decode cX7_count 78 = .ok (.getfield 7, 3) := by decide +kernel
theorem dX7_count_81 : decode cX7_count 81 = .ok (.bipush 53, 2) := by decide +kernel
theorem dX7_count_83 : decode cX7_count 83 = .ok (.iaload, 1) := by decide +kernel
theorem dX7_count_84 : decode cX7_count 84 = .ok (.ireturn, 1) := by decide +kernel
theorem dX7_count_85 : decode cX7_count 85 = .ok (.aload_n 0, 1) := by decide +kernel
theorem dX7_count_86 : decode cX7_count 86 = .ok (.getfield 7, 3) := by decide +kernel
theorem dX7_count_89 : decode cX7_count 89 = .ok (.bipush 54, 2) := by decide +kernel
theorem dX7_count_91 : decode cX7_count 91 = .ok (.iaload, 1) := by decide +kernel
theorem dX7_count_92 : decode cX7_count 92 = .ok (.ireturn, 1) := by decide +kernel
theorem dX7_count_93 : decode cX7_count 93 = .ok (.aload_n 0, 1) := by decide +kernel
theorem dX7_count_94 : decode cX7_count 94 = .ok (.invokevirtual 127, 3) := by decide +kernel
theorem dX7_count_97 : decode cX7_count 97 = .ok (.ireturn, 1) := by decide +kernel
theorem dX7_count_98 : decode cX7_count 98 = .ok (.aload_n 0, 1) := by decide +kernel
theorem dX7_count_99 : decode cX7_count 99 = .ok (.getfield 7, 3) := by decide +kernel
theorem dX7_count_102 : decode cX7_count 102 = .ok (.bipush 57, 2) := by decide +kernel
theorem dX7_count_104 : decode cX7_count 104 = .ok (.iaload, 1) := by decide +kernel
theorem dX7_count_105 : decode cX7_count 105 = .ok (.ireturn, 1) := by decide +kernel
theorem dX7_count_106 : decode cX7_count 106 = .ok (.aload_n 0, 1) := by decide +kernel
theorem dX7_count_107 : decode cX7_count 107 = .ok (.getfield 7, 3) := by decide +kernel
theorem dX7_count_110 : decode cX7_count 110 = .ok (.bipush 50, 2) := by decide +kernel
theorem dX7_count_112 : decode cX7_count 112 = .ok (.iaload, 1) := by decide +kernel
theorem dX7_count_113 : decode cX7_count 113 = .ok (.ireturn, 1) := by decide +kernel
theorem dX7_count_114 : decode cX7_count 114 = .ok (.aload_n 0, 1) := by decide +kernel
theorem dX7_count_115 : decode cX7_count 115 = .ok (.getfield 174, 3) := by decide +kernel
theorem dX7_count_118 : decode cX7_count 118 = .ok (.ireturn, 1) := by decide +kernel
theorem dX7_count_119 : decode cX7_count 119 = .ok (.aload_n 0, 1) := by decide +kernel
theorem dX7_count_120 : decode cX7_count 120 = .ok (.getfield 72, 3) := by decide +kernel
theorem dX7_count_123 : decode cX7_count 123 = .ok (.ireturn, 1) := by decide +kernel
theorem dX7_count_124 : decode cX7_count 124 = .ok (.bipush (-2), 2) := by decide +kernel
theorem dX7_count_126 : decode cX7_count 126 = .ok (.ireturn, 1) := by decide +kernel
theorem dX7_rowsOfTwo_0 : decode cX7_rowsOfTwo 0 = .ok (.aload_n 0, 1) := by decide +kernel
theorem dX7_rowsOfTwo_1 : decode cX7_rowsOfTwo 1 = .ok (.iload_n 1, 1) := by decide +kernel
theorem dX7_rowsOfTwo_2 : decode cX7_rowsOfTwo 2 = .ok (.invokevirtual 117, 3) := by decide +kernel
theorem dX7_rowsOfTwo_5 : decode cX7_rowsOfTwo 5 = .ok (.iconst 0, 1) := by decide +kernel
theorem dX7_rowsOfTwo_6 : decode cX7_rowsOfTwo 6 = .ok (.istore_n 3, 1) := by decide +kernel
theorem dX7_rowsOfTwo_7 : decode cX7_rowsOfTwo 7 = .ok (.iconst 0, 1) := by decide +kernel
theorem dX7_rowsOfTwo_8 : decode cX7_rowsOfTwo 8 = .ok (.istore 4, 2) := by decide +kernel
theorem dX7_rowsOfTwo_10 : decode cX7_rowsOfTwo 10 = .ok (.iload 4, 2) := by decide +kernel
theorem dX7_rowsOfTwo_12 : decode cX7_rowsOfTwo 12 = .ok (.aload_n 0, 1) := by decide +kernel
theorem dX7_rowsOfTwo_13 : decode cX7_rowsOfTwo 13 = .ok (.getfield 36, 3) := by decide +kernel
theorem dX7_rowsOfTwo_16 : decode cX7_rowsOfTwo 16 = .ok (.iload_n 1, 1) := by decide +kernel
theorem dX7_rowsOfTwo_17 : decode cX7_rowsOfTwo 17 = .ok (.iaload, 1) := by decide +kernel
theorem dX7_rowsOfTwo_18 : decode cX7_rowsOfTwo 18 = .ok (.if_icmp .ge 39, 3) := by decide +kernel
theorem dX7_rowsOfTwo_21 : decode cX7_rowsOfTwo 21 = .ok (.iload_n 3, 1) := by decide +kernel
theorem dX7_rowsOfTwo_22 : decode cX7_rowsOfTwo 22 = .ok (.iload_n 2, 1) := by decide +kernel
theorem dX7_rowsOfTwo_23 : decode cX7_rowsOfTwo 23 = .ok (.if_icmp .ge 34, 3) := by decide +kernel
theorem dX7_rowsOfTwo_26 : decode cX7_rowsOfTwo 26 = .ok (.aload_n 0, 1) := by decide +kernel
theorem dX7_rowsOfTwo_27 : decode cX7_rowsOfTwo 27 = .ok (.iload_n 1, 1) := by decide +kernel
theorem dX7_rowsOfTwo_28 : decode cX7_rowsOfTwo 28 = .ok (.iload 4, 2) := by decide +kernel
theorem dX7_rowsOfTwo_30 : decode cX7_rowsOfTwo 30 = .ok (.invokevirtual 152, 3) := by decide +kernel
theorem dX7_rowsOfTwo_33 : decode cX7_rowsOfTwo 33 = .ok (.aload_n 0, 1) := by decide +kernel
theorem dX7_rowsOfTwo_34 : decode cX7_rowsOfTwo 34 = .ok (.iload_n 1, 1) := by decide +kernel
theorem dX7_rowsOfTwo_35 : decode cX7_rowsOfTwo 35 = .ok (.iconst 1, 1) := by decide +kernel
theorem dX7_rowsOfTwo_36 : decode cX7_rowsOfTwo 36 = .ok (.iadd, 1) := by decide +kernel
theorem dX7_rowsOfTwo_37 : decode cX7_rowsOfTwo 37 = .ok (.invokevirtual 117, 3) := by decide +kernel
theorem dX7_rowsOfTwo_40 : decode cX7_rowsOfTwo 40 = .ok (.iload_n 3, 1) := by decide +kernel
theorem dX7_rowsOfTwo_41 : decode cX7_rowsOfTwo 41 = .ok (.aload_n 0, 1) := by decide +kernel
theorem dX7_rowsOfTwo_42 : decode cX7_rowsOfTwo 42 = .ok (.getfield 36, 3) := by decide +kernel
theorem dX7_rowsOfTwo_45 : decode cX7_rowsOfTwo 45 = .ok (.iload_n 1, 1) := by decide +kernel
theorem dX7_rowsOfTwo_46 : decode cX7_rowsOfTwo 46 = .ok (.iconst 1, 1) := by decide +kernel
theorem dX7_rowsOfTwo_47 : decode cX7_rowsOfTwo 47 = .ok (.iadd, 1) := by decide +kernel
theorem dX7_rowsOfTwo_48 : decode cX7_rowsOfTwo 48 = .ok (.iaload, 1) := by decide +kernel
theorem dX7_rowsOfTwo_49 : decode cX7_rowsOfTwo 49 = .ok (.iadd, 1) := by decide +kernel
theorem dX7_rowsOfTwo_50 : decode cX7_rowsOfTwo 50 = .ok (.istore_n 3, 1) := by decide +kernel
theorem dX7_rowsOfTwo_51 : decode cX7_rowsOfTwo 51 = .ok (.iinc 4 1, 3) := by decide +kernel
theorem dX7_rowsOfTwo_54 : decode cX7_rowsOfTwo 54 = .ok (.goto (-44), 3) := by decide +kernel
theorem dX7_rowsOfTwo_57 : decode cX7_rowsOfTwo 57 = .ok (.iload_n 3, 1) := by decide +kernel
theorem dX7_rowsOfTwo_58 : decode cX7_rowsOfTwo 58 = .ok (.ireturn, 1) := by decide +kernel
theorem dX7_rowsOfThree_0 : decode cX7_rowsOfThree 0 = .ok (.aload_n 0, 1) := by decide +kernel
theorem dX7_rowsOfThree_1 : decode cX7_rowsOfThree 1 = .ok (.invokevirtual 124, 3) := by decide +kernel
theorem dX7_rowsOfThree_4 : decode cX7_rowsOfThree 4 = .ok (.iconst 0, 1) := by decide +kernel
theorem dX7_rowsOfThree_5 : decode cX7_rowsOfThree 5 = .ok (.istore_n 1, 1) := by decide +kernel
theorem dX7_rowsOfThree_6 : decode cX7_rowsOfThree 6 = .ok (.iconst 0, 1) := by decide +kernel
theorem dX7_rowsOfThree_7 : decode cX7_rowsOfThree 7 = .ok (.istore_n 2, 1) := by decide +kernel
theorem dX7_rowsOfThree_8 : decode cX7_rowsOfThree 8 = .ok (.iload_n 2, 1) := by decide +kernel
theorem dX7_rowsOfThree_9 : decode cX7_rowsOfThree 9 = .ok (.aload_n 0, 1) := by decide +kernel
theorem dX7_rowsOfThree_10 : decode cX7_rowsOfThree 10 = .ok (.getfield 36, 3) := by decide +kernel
theorem dX7_rowsOfThree_13 : decode cX7_rowsOfThree 13 = .ok (.iconst 0, 1) := by decide +kernel
theorem dX7_rowsOfThree_14 : decode cX7_rowsOfThree 14 = .ok (.iaload, 1) := by decide +kernel
theorem dX7_rowsOfThree_15 : decode cX7_rowsOfThree 15 = .ok (.if_icmp .ge 35, 3) := by decide +kernel
theorem dX7_rowsOfThree_18 : decode cX7_rowsOfThree 18 = .ok (.iload_n 1, 1) := by decide +kernel
theorem dX7_rowsOfThree_19 : decode cX7_rowsOfThree 19 = .ok (.sipush 20000, 3) := by decide +kernel
theorem dX7_rowsOfThree_22 : decode cX7_rowsOfThree 22 = .ok (.if_icmp .ge 28, 3) := by decide +kernel
theorem dX7_rowsOfThree_25 : decode cX7_rowsOfThree 25 = .ok (.aload_n 0, 1) := by decide +kernel
theorem dX7_rowsOfThree_26 : decode cX7_rowsOfThree 26 = .ok (.iconst 0, 1) := by decide +kernel
theorem dX7_rowsOfThree_27 : decode cX7_rowsOfThree 27 = .ok (.iload_n 2, 1) := by decide +kernel
theorem dX7_rowsOfThree_28 : decode cX7_rowsOfThree 28 = .ok (.invokevirtual 152, 3) := by decide +kernel
theorem dX7_rowsOfThree_31 : decode cX7_rowsOfThree 31 = .ok (.iload_n 1, 1) := by decide +kernel
theorem dX7_rowsOfThree_32 : decode cX7_rowsOfThree 32 = .ok (.aload_n 0, 1) := by decide +kernel
theorem dX7_rowsOfThree_33 : decode cX7_rowsOfThree 33 = .ok (.iconst 1, 1) := by decide +kernel
theorem dX7_rowsOfThree_34 : decode cX7_rowsOfThree 34 = .ok (.sipush 20000, 3) := by decide +kernel
theorem dX7_rowsOfThree_37 : decode cX7_rowsOfThree 37 = .ok (.iload_n 1, 1) := by decide +kernel
theorem dX7_rowsOfThree_38 : decode cX7_rowsOfThree 38 = .ok (.isub, 1) := by decide +kernel
theorem dX7_rowsOfThree_39 : decode cX7_rowsOfThree 39 = .ok (.invokevirtual 177, 3) := by decide +kernel
theorem dX7_rowsOfThree_42 : decode cX7_rowsOfThree 42 = .ok (.iadd, 1) := by decide +kernel
theorem dX7_rowsOfThree_43 : decode cX7_rowsOfThree 43 = .ok (.istore_n 1, 1) := by decide +kernel
theorem dX7_rowsOfThree_44 : decode cX7_rowsOfThree 44 = .ok (.iinc 2 1, 3) := by decide +kernel
theorem dX7_rowsOfThree_47 : decode cX7_rowsOfThree 47 = .ok (.goto (-39), 3) := by decide +kernel
theorem dX7_rowsOfThree_50 : decode cX7_rowsOfThree 50 = .ok (.iload_n 1, 1) := by decide +kernel
theorem dX7_rowsOfThree_51 : decode cX7_rowsOfThree 51 = .ok (.ireturn, 1) := by decide +kernel
theorem dX7_rows_0 : decode cX7_rows 0 = .ok (.iload_n 1, 1) := by decide +kernel
theorem dX7_rows_1 : decode cX7_rows 1 = .ok (.iconst 1, 1) := by decide +kernel
theorem dX7_rows_2 : decode cX7_rows 2 = .ok (.iconst 3, 1) := by decide +kernel
theorem dX7_rows_3 : decode cX7_rows 3 = .ok (.invokestatic 61, 3) := by decide +kernel
theorem dX7_rows_6 : decode cX7_rows 6 = .ok (.ifCond .ne 6, 3) := by decide +kernel
theorem dX7_rows_9 : decode cX7_rows 9 = .ok (.bipush (-2), 2) := by decide +kernel
theorem dX7_rows_11 : decode cX7_rows 11 = .ok (.ireturn, 1) := by decide +kernel
theorem dX7_rows_12 : decode cX7_rows 12 = .ok (.aload_n 0, 1) := by decide +kernel
theorem dX7_rows_13 : decode cX7_rows 13 = .ok (.invokevirtual 124, 3) := by decide +kernel
theorem dX7_rows_16 : decode cX7_rows 16 = .ok (.aload_n 0, 1) := by decide +kernel
theorem dX7_rows_17 : decode cX7_rows 17 = .ok (.getfield 7, 3) := by decide +kernel
theorem dX7_rows_20 : decode cX7_rows 20 = .ok (.bipush 49, 2) := by decide +kernel
theorem dX7_rows_22 : decode cX7_rows 22 = .ok (.iaload, 1) := by decide +kernel
theorem dX7_rows_23 : decode cX7_rows 23 = .ok (.ifCond .eq 5, 3) := by decide +kernel
theorem dX7_rows_26 : decode cX7_rows 26 = .ok (.iconst 0, 1) := by decide +kernel
theorem dX7_rows_27 : decode cX7_rows 27 = .ok (.ireturn, 1) := by decide +kernel
theorem dX7_rows_28 : decode cX7_rows 28 = .ok (.iload_n 1, 1) := by decide +kernel
theorem dX7_rows_29 : decode cX7_rows 29 = .ok (.iconst 1, 1) := by decide +kernel
theorem dX7_rows_30 : decode cX7_rows 30 = .ok (.if_icmp .ne 12, 3) := by decide +kernel
theorem dX7_rows_33 : decode cX7_rows 33 = .ok (.aload_n 0, 1) := by decide +kernel
theorem dX7_rows_34 : decode cX7_rows 34 = .ok (.getfield 36, 3) := by decide +kernel
theorem dX7_rows_37 : decode cX7_rows 37 = .ok (.iconst 0, 1) := by decide +kernel
theorem dX7_rows_38 : decode cX7_rows 38 = .ok (.iaload, 1) := by decide +kernel
theorem dX7_rows_39 : decode cX7_rows 39 = .ok (.goto 23, 3) := by decide +kernel
theorem dX7_rows_42 : decode cX7_rows 42 = .ok (.iload_n 1, 1) := by decide +kernel
theorem dX7_rows_43 : decode cX7_rows 43 = .ok (.iconst 2, 1) := by decide +kernel
theorem dX7_rows_44 : decode cX7_rows 44 = .ok (.if_icmp .ne 14, 3) := by decide +kernel
theorem dX7_rows_47 : decode cX7_rows 47 = .ok (.aload_n 0, 1) := by decide +kernel
theorem dX7_rows_48 : decode cX7_rows 48 = .ok (.iconst 0, 1) := by decide +kernel
theorem dX7_rows_49 : decode cX7_rows 49 = .ok (.sipush 20000, 3) := by decide +kernel
theorem dX7_rows_52 : decode cX7_rows 52 = .ok (.invokevirtual 177, 3) := by decide +kernel
theorem dX7_rows_55 : decode cX7_rows 55 = .ok (.goto 7, 3) := by decide +kernel
theorem dX7_rows_58 : decode cX7_rows 58 = .ok (.aload_n 0, 1) := by decide +kernel
theorem dX7_rows_59 : decode cX7_rows 59 = .ok (.invokevirtual 180, 3) := by decide +kernel
theorem dX7_rows_62 : decode cX7_rows 62 = .ok (.istore_n 2, 1) := by decide +kernel
theorem dX7_rows_63 : decode cX7_rows 63 = .ok (.iload_n 2, 1) := by decide +kernel
theorem dX7_rows_64 : decode cX7_rows 64 = .ok (.sipush 20000, 3) := by decide +kernel
theorem dX7_rows_67 : decode cX7_rows 67 = .ok (.if_icmp .ge 7, 3) := by decide +kernel
theorem dX7_rows_70 : decode cX7_rows 70 = .ok (.iload_n 2, 1) := by decide +kernel
theorem dX7_rows_71 : decode cX7_rows 71 = .ok (.goto 6, 3) := by decide +kernel
theorem dX7_rows_74 : decode cX7_rows 74 = .ok (.sipush 20000, 3) := by decide +kernel
theorem dX7_rows_77 : decode cX7_rows 77 = .ok (.ireturn, 1) := by decide +kernel
theorem dX7_worthNow_0 : decode cX7_worthNow 0 = .ok (.iconst 0, 1) := by decide +kernel
theorem dX7_worthNow_1 : decode cX7_worthNow 1 = .ok (.istore_n 2, 1) := by decide +kernel
theorem dX7_worthNow_2 : decode cX7_worthNow 2 = .ok (.iconst 0, 1) := by decide +kernel
theorem dX7_worthNow_3 : decode cX7_worthNow 3 = .ok (.istore_n 3, 1) := by decide +kernel
theorem dX7_worthNow_4 : decode cX7_worthNow 4 = .ok (.iload_n 3, 1) := by decide +kernel
theorem dX7_worthNow_5 : decode cX7_worthNow 5 = .ok (.bipush 48, 2) := by decide +kernel
theorem dX7_worthNow_7 : decode cX7_worthNow 7 = .ok (.if_icmp .ge 69, 3) := by decide +kernel
theorem dX7_worthNow_10 : decode cX7_worthNow 10 = .ok (.aload_n 0, 1) := by decide +kernel
theorem dX7_worthNow_11 : decode cX7_worthNow 11 = .ok (.iload_n 1, 1) := by decide +kernel
theorem dX7_worthNow_12 : decode cX7_worthNow 12 = .ok (.iload_n 3, 1) := by decide +kernel
theorem dX7_worthNow_13 : decode cX7_worthNow 13 = .ok (.invokevirtual 79, 3) := by decide +kernel
theorem dX7_worthNow_16 : decode cX7_worthNow 16 = .ok (.istore 4, 2) := by decide +kernel
theorem dX7_worthNow_18 : decode cX7_worthNow 18 = .ok (.iload 4, 2) := by decide +kernel
theorem dX7_worthNow_20 : decode cX7_worthNow 20 = .ok (.bipush (-6), 2) := by decide +kernel
theorem dX7_worthNow_22 : decode cX7_worthNow 22 = .ok (.if_icmp .ne 7, 3) := by decide +kernel
theorem dX7_worthNow_25 : decode cX7_worthNow 25 = .ok (.iconst 0, 1) := by decide +kernel
theorem dX7_worthNow_26 : decode cX7_worthNow 26 = .ok (.goto 16, 3) := by decide +kernel
theorem dX7_worthNow_29 : decode cX7_worthNow 29 = .ok (.iload 4, 2) := by decide +kernel
theorem dX7_worthNow_31 : decode cX7_worthNow 31 = .ok (.invokestatic 83, 3) := by decide +kernel
theorem dX7_worthNow_34 : decode cX7_worthNow 34 = .ok (.ifCond .eq 7, 3) := by decide +kernel
theorem dX7_worthNow_37 : decode cX7_worthNow 37 = .ok (.iconst 3, 1) := by decide +kernel
theorem dX7_worthNow_38 : decode cX7_worthNow 38 = .ok (.goto 4, 3) := by decide +kernel
theorem dX7_worthNow_41 : decode cX7_worthNow 41 = .ok (.iconst 1, 1) := by decide +kernel
theorem dX7_worthNow_42 : decode cX7_worthNow 42 = .ok (.istore 5, 2) := by decide +kernel
theorem dX7_worthNow_44 : decode cX7_worthNow 44 = .ok (.iload_n 2, 1) := by decide +kernel
theorem dX7_worthNow_45 : decode cX7_worthNow 45 = .ok (.iload 4, 2) := by decide +kernel
theorem dX7_worthNow_47 : decode cX7_worthNow 47 = .ok (.invokestatic 87, 3) := by decide +kernel
theorem dX7_worthNow_50 : decode cX7_worthNow 50 = .ok (.aload_n 0, 1) := by decide +kernel
theorem dX7_worthNow_51 : decode cX7_worthNow 51 = .ok (.getfield 7, 3) := by decide +kernel
theorem dX7_worthNow_54 : decode cX7_worthNow 54 = .ok (.bipush 48, 2) := by decide +kernel
theorem dX7_worthNow_56 : decode cX7_worthNow 56 = .ok (.iaload, 1) := by decide +kernel
theorem dX7_worthNow_57 : decode cX7_worthNow 57 = .ok (.if_icmp .ne 8, 3) := by decide +kernel
theorem dX7_worthNow_60 : decode cX7_worthNow 60 = .ok (.iload 5, 2) := by decide +kernel
theorem dX7_worthNow_62 : decode cX7_worthNow 62 = .ok (.goto 6, 3) := by decide +kernel
theorem dX7_worthNow_65 : decode cX7_worthNow 65 = .ok (.iload 5, 2) := by decide +kernel
theorem dX7_worthNow_67 : decode cX7_worthNow 67 = .ok (.ineg, 1) := by decide +kernel
theorem dX7_worthNow_68 : decode cX7_worthNow 68 = .ok (.iadd, 1) := by decide +kernel
theorem dX7_worthNow_69 : decode cX7_worthNow 69 = .ok (.istore_n 2, 1) := by decide +kernel
theorem dX7_worthNow_70 : decode cX7_worthNow 70 = .ok (.iinc 3 1, 3) := by decide +kernel
theorem dX7_worthNow_73 : decode cX7_worthNow 73 = .ok (.goto (-69), 3) := by decide +kernel
theorem dX7_worthNow_76 : decode cX7_worthNow 76 = .ok (.iload_n 2, 1) := by decide +kernel
theorem dX7_worthNow_77 : decode cX7_worthNow 77 = .ok (.ireturn, 1) := by decide +kernel
theorem dX7_worthLost_0 : decode cX7_worthLost 0 = .ok (.aload_n 0, 1) := by decide +kernel
theorem dX7_worthLost_1 : decode cX7_worthLost 1 = .ok (.iload_n 1, 1) := by decide +kernel
theorem dX7_worthLost_2 : decode cX7_worthLost 2 = .ok (.invokevirtual 183, 3) := by decide +kernel
theorem dX7_worthLost_5 : decode cX7_worthLost 5 = .ok (.aload_n 0, 1) := by decide +kernel
theorem dX7_worthLost_6 : decode cX7_worthLost 6 = .ok (.getfield 30, 3) := by decide +kernel
theorem dX7_worthLost_9 : decode cX7_worthLost 9 = .ok (.iload_n 1, 1) := by decide +kernel
theorem dX7_worthLost_10 : decode cX7_worthLost 10 = .ok (.iaload, 1) := by decide +kernel
theorem dX7_worthLost_11 : decode cX7_worthLost 11 = .ok (.aload_n 0, 1) := by decide +kernel
theorem dX7_worthLost_12 : decode cX7_worthLost 12 = .ok (.getfield 7, 3) := by decide +kernel
theorem dX7_worthLost_15 : decode cX7_worthLost 15 = .ok (.bipush 48, 2) := by decide +kernel
theorem dX7_worthLost_17 : decode cX7_worthLost 17 = .ok (.iaload, 1) := by decide +kernel
theorem dX7_worthLost_18 : decode cX7_worthLost 18 = .ok (.if_icmp .ne 8, 3) := by decide +kernel
theorem dX7_worthLost_21 : decode cX7_worthLost 21 = .ok (.bipush (-100), 2) := by decide +kernel
theorem dX7_worthLost_23 : decode cX7_worthLost 23 = .ok (.goto 5, 3) := by decide +kernel
theorem dX7_worthLost_26 : decode cX7_worthLost 26 = .ok (.bipush 100, 2) := by decide +kernel
theorem dX7_worthLost_28 : decode cX7_worthLost 28 = .ok (.iadd, 1) := by decide +kernel
theorem dX7_worthLost_29 : decode cX7_worthLost 29 = .ok (.ireturn, 1) := by decide +kernel
theorem dX7_isBetter_0 : decode cX7_isBetter 0 = .ok (.aload_n 0, 1) := by decide +kernel
theorem dX7_isBetter_1 : decode cX7_isBetter 1 = .ok (.getfield 30, 3) := by decide +kernel
theorem dX7_isBetter_4 : decode cX7_isBetter 4 = .ok (.iload_n 1, 1) := by decide +kernel
theorem dX7_isBetter_5 : decode cX7_isBetter 5 = .ok (.iaload, 1) := by decide +kernel
theorem dX7_isBetter_6 : decode cX7_isBetter 6 = .ok (.aload_n 0, 1) := by decide +kernel
theorem dX7_isBetter_7 : decode cX7_isBetter 7 = .ok (.getfield 7, 3) := by decide +kernel
theorem dX7_isBetter_10 : decode cX7_isBetter 10 = .ok (.bipush 48, 2) := by decide +kernel
theorem dX7_isBetter_12 : decode cX7_isBetter 12 = .ok (.iaload, 1) := by decide +kernel
theorem dX7_isBetter_13 : decode cX7_isBetter 13 = .ok (.if_icmp .ne 16, 3) := by decide +kernel
theorem dX7_isBetter_16 : decode cX7_isBetter 16 = .ok (.iload_n 2, 1) := by decide +kernel
theorem dX7_isBetter_17 : decode cX7_isBetter 17 = .ok (.iload_n 3, 1) := by decide +kernel
theorem dX7_isBetter_18 : decode cX7_isBetter 18 = .ok (.if_icmp .le 7, 3) := by decide +kernel
theorem dX7_isBetter_21 : decode cX7_isBetter 21 = .ok (.iconst 1, 1) := by decide +kernel
theorem dX7_isBetter_22 : decode cX7_isBetter 22 = .ok (.goto 17, 3) := by decide +kernel
theorem dX7_isBetter_25 : decode cX7_isBetter 25 = .ok (.iconst 0, 1) := by decide +kernel
theorem dX7_isBetter_26 : decode cX7_isBetter 26 = .ok (.goto 13, 3) := by decide +kernel
theorem dX7_isBetter_29 : decode cX7_isBetter 29 = .ok (.iload_n 2, 1) := by decide +kernel
theorem dX7_isBetter_30 : decode cX7_isBetter 30 = .ok (.iload_n 3, 1) := by decide +kernel
theorem dX7_isBetter_31 : decode cX7_isBetter 31 = .ok (.if_icmp .ge 7, 3) := by decide +kernel
theorem dX7_isBetter_34 : decode cX7_isBetter 34 = .ok (.iconst 1, 1) := by decide +kernel
theorem dX7_isBetter_35 : decode cX7_isBetter 35 = .ok (.goto 4, 3) := by decide +kernel
theorem dX7_isBetter_38 : decode cX7_isBetter 38 = .ok (.iconst 0, 1) := by decide +kernel
theorem dX7_isBetter_39 : decode cX7_isBetter 39 = .ok (.ireturn, 1) := by decide +kernel
theorem dX7_worthOfOne_0 : decode cX7_worthOfOne 0 = .ok (.aload_n 0, 1) := by decide +kernel
theorem dX7_worthOfOne_1 : decode cX7_worthOfOne 1 = .ok (.iload_n 1, 1) := by decide +kernel
theorem dX7_worthOfOne_2 : decode cX7_worthOfOne 2 = .ok (.invokevirtual 117, 3) := by decide +kernel
theorem dX7_worthOfOne_5 : decode cX7_worthOfOne 5 = .ok (.aload_n 0, 1) := by decide +kernel
theorem dX7_worthOfOne_6 : decode cX7_worthOfOne 6 = .ok (.getfield 36, 3) := by decide +kernel
theorem dX7_worthOfOne_9 : decode cX7_worthOfOne 9 = .ok (.iload_n 1, 1) := by decide +kernel
theorem dX7_worthOfOne_10 : decode cX7_worthOfOne 10 = .ok (.iaload, 1) := by decide +kernel
theorem dX7_worthOfOne_11 : decode cX7_worthOfOne 11 = .ok (.ifCond .ne 9, 3) := by decide +kernel
theorem dX7_worthOfOne_14 : decode cX7_worthOfOne 14 = .ok (.aload_n 0, 1) := by decide +kernel
theorem dX7_worthOfOne_15 : decode cX7_worthOfOne 15 = .ok (.iload_n 1, 1) := by decide +kernel
theorem dX7_worthOfOne_16 : decode cX7_worthOfOne 16 = .ok (.invokevirtual 186, 3) := by decide +kernel
theorem dX7_worthOfOne_19 : decode cX7_worthOfOne 19 = .ok (.ireturn, 1) := by decide +kernel
theorem dX7_worthOfOne_20 : decode cX7_worthOfOne 20 = .ok (.iconst 0, 1) := by decide +kernel
theorem dX7_worthOfOne_21 : decode cX7_worthOfOne 21 = .ok (.istore_n 2, 1) := by decide +kernel
theorem dX7_worthOfOne_22 : decode cX7_worthOfOne 22 = .ok (.iconst 0, 1) := by decide +kernel
theorem dX7_worthOfOne_23 : decode cX7_worthOfOne 23 = .ok (.istore_n 3, 1) := by decide +kernel
theorem dX7_worthOfOne_24 : decode cX7_worthOfOne 24 = .ok (.iload_n 3, 1) := by decide +kernel
theorem dX7_worthOfOne_25 : decode cX7_worthOfOne 25 = .ok (.aload_n 0, 1) := by decide +kernel
theorem dX7_worthOfOne_26 : decode cX7_worthOfOne 26 = .ok (.getfield 36, 3) := by decide +kernel
theorem dX7_worthOfOne_29 : decode cX7_worthOfOne 29 = .ok (.iload_n 1, 1) := by decide +kernel
theorem dX7_worthOfOne_30 : decode cX7_worthOfOne 30 = .ok (.iaload, 1) := by decide +kernel
theorem dX7_worthOfOne_31 : decode cX7_worthOfOne 31 = .ok (.if_icmp .ge 46, 3) := by decide +kernel
theorem dX7_worthOfOne_34 : decode cX7_worthOfOne 34 = .ok (.aload_n 0, 1) := by decide +kernel
theorem dX7_worthOfOne_35 : decode cX7_worthOfOne 35 = .ok (.iload_n 1, 1) := by decide +kernel
theorem dX7_worthOfOne_36 : decode cX7_worthOfOne 36 = .ok (.iload_n 3, 1) := by decide +kernel
theorem dX7_worthOfOne_37 : decode cX7_worthOfOne 37 = .ok (.invokevirtual 152, 3) := by decide +kernel
theorem dX7_worthOfOne_40 : decode cX7_worthOfOne 40 = .ok (.aload_n 0, 1) := by decide +kernel
theorem dX7_worthOfOne_41 : decode cX7_worthOfOne 41 = .ok (.iload_n 1, 1) := by decide +kernel
theorem dX7_worthOfOne_42 : decode cX7_worthOfOne 42 = .ok (.iconst 1, 1) := by decide +kernel
theorem dX7_worthOfOne_43 : decode cX7_worthOfOne 43 = .ok (.iadd, 1) := by decide +kernel
theorem dX7_worthOfOne_44 : decode cX7_worthOfOne 44 = .ok (.invokevirtual 183, 3) := by decide +kernel
theorem dX7_worthOfOne_47 : decode cX7_worthOfOne 47 = .ok (.istore 4, 2) := by decide +kernel
theorem dX7_worthOfOne_49 : decode cX7_worthOfOne 49 = .ok (.iload_n 3, 1) := by decide +kernel
theorem dX7_worthOfOne_50 : decode cX7_worthOfOne 50 = .ok (.ifCond .eq 14, 3) := by decide +kernel
theorem dX7_worthOfOne_53 : decode cX7_worthOfOne 53 = .ok (.aload_n 0, 1) := by decide +kernel
theorem dX7_worthOfOne_54 : decode cX7_worthOfOne 54 = .ok (.iload_n 1, 1) := by decide +kernel
theorem dX7_worthOfOne_55 : decode cX7_worthOfOne 55 = .ok (.iload 4, 2) := by decide +kernel
theorem dX7_worthOfOne_57 : decode cX7_worthOfOne 57 = .ok (.iload_n 2, 1) := by decide +kernel
theorem dX7_worthOfOne_58 : decode cX7_worthOfOne 58 = .ok (.invokevirtual 189, 3) := by decide +kernel
theorem dX7_worthOfOne_61 : decode cX7_worthOfOne 61 = .ok (.ifCond .eq 8, 3) := by decide +kernel
theorem dX7_worthOfOne_64 : decode cX7_worthOfOne 64 = .ok (.iload 4, 2) := by decide +kernel
theorem dX7_worthOfOne_66 : decode cX7_worthOfOne 66 = .ok (.goto 4, 3) := by decide +kernel
theorem dX7_worthOfOne_69 : decode cX7_worthOfOne 69 = .ok (.iload_n 2, 1) := by decide +kernel
theorem dX7_worthOfOne_70 : decode cX7_worthOfOne 70 = .ok (.istore_n 2, 1) := by decide +kernel
theorem dX7_worthOfOne_71 : decode cX7_worthOfOne 71 = .ok (.iinc 3 1, 3) := by decide +kernel
theorem dX7_worthOfOne_74 : decode cX7_worthOfOne 74 = .ok (.goto (-50), 3) := by decide +kernel
theorem dX7_worthOfOne_77 : decode cX7_worthOfOne 77 = .ok (.iload_n 2, 1) := by decide +kernel
theorem dX7_worthOfOne_78 : decode cX7_worthOfOne 78 = .ok (.ireturn, 1) := by decide +kernel
theorem dX7_worthOfTwo_0 : decode cX7_worthOfTwo 0 = .ok (.aload_n 0, 1) := by decide +kernel
theorem dX7_worthOfTwo_1 : decode cX7_worthOfTwo 1 = .ok (.invokevirtual 124, 3) := by decide +kernel
theorem dX7_worthOfTwo_4 : decode cX7_worthOfTwo 4 = .ok (.iconst 0, 1) := by decide +kernel
theorem dX7_worthOfTwo_5 : decode cX7_worthOfTwo 5 = .ok (.istore_n 1, 1) := by decide +kernel
theorem dX7_worthOfTwo_6 : decode cX7_worthOfTwo 6 = .ok (.iconst 0, 1) := by decide +kernel
theorem dX7_worthOfTwo_7 : decode cX7_worthOfTwo 7 = .ok (.istore_n 2, 1) := by decide +kernel
theorem dX7_worthOfTwo_8 : decode cX7_worthOfTwo 8 = .ok (.iload_n 2, 1) := by decide +kernel
theorem dX7_worthOfTwo_9 : decode cX7_worthOfTwo 9 = .ok (.aload_n 0, 1) := by decide +kernel
theorem dX7_worthOfTwo_10 : decode cX7_worthOfTwo 10 = .ok (.getfield 36, 3) := by decide +kernel
theorem dX7_worthOfTwo_13 : decode cX7_worthOfTwo 13 = .ok (.iconst 0, 1) := by decide +kernel
theorem dX7_worthOfTwo_14 : decode cX7_worthOfTwo 14 = .ok (.iaload, 1) := by decide +kernel
theorem dX7_worthOfTwo_15 : decode cX7_worthOfTwo 15 = .ok (.if_icmp .ge 41, 3) := by decide +kernel
theorem dX7_worthOfTwo_18 : decode cX7_worthOfTwo 18 = .ok (.aload_n 0, 1) := by decide +kernel
theorem dX7_worthOfTwo_19 : decode cX7_worthOfTwo 19 = .ok (.iconst 0, 1) := by decide +kernel
theorem dX7_worthOfTwo_20 : decode cX7_worthOfTwo 20 = .ok (.iload_n 2, 1) := by decide +kernel
theorem dX7_worthOfTwo_21 : decode cX7_worthOfTwo 21 = .ok (.invokevirtual 152, 3) := by decide +kernel
theorem dX7_worthOfTwo_24 : decode cX7_worthOfTwo 24 = .ok (.aload_n 0, 1) := by decide +kernel
theorem dX7_worthOfTwo_25 : decode cX7_worthOfTwo 25 = .ok (.iconst 1, 1) := by decide +kernel
theorem dX7_worthOfTwo_26 : decode cX7_worthOfTwo 26 = .ok (.invokevirtual 192, 3) := by decide +kernel
theorem dX7_worthOfTwo_29 : decode cX7_worthOfTwo 29 = .ok (.istore_n 3, 1) := by decide +kernel
theorem dX7_worthOfTwo_30 : decode cX7_worthOfTwo 30 = .ok (.iload_n 2, 1) := by decide +kernel
theorem dX7_worthOfTwo_31 : decode cX7_worthOfTwo 31 = .ok (.ifCond .eq 13, 3) := by decide +kernel
theorem dX7_worthOfTwo_34 : decode cX7_worthOfTwo 34 = .ok (.aload_n 0, 1) := by decide +kernel
theorem dX7_worthOfTwo_35 : decode cX7_worthOfTwo 35 = .ok (.iconst 0, 1) := by decide +kernel
theorem dX7_worthOfTwo_36 : decode cX7_worthOfTwo 36 = .ok (.iload_n 3, 1) := by decide +kernel
theorem dX7_worthOfTwo_37 : decode cX7_worthOfTwo 37 = .ok (.iload_n 1, 1) := by decide +kernel
theorem dX7_worthOfTwo_38 : decode cX7_worthOfTwo 38 = .ok (.invokevirtual 189, 3) := by decide +kernel
theorem dX7_worthOfTwo_41 : decode cX7_worthOfTwo 41 = .ok (.ifCond .eq 7, 3) := by decide +kernel
theorem dX7_worthOfTwo_44 : decode cX7_worthOfTwo 44 = .ok (.iload_n 3, 1) := by decide +kernel
theorem dX7_worthOfTwo_45 : decode cX7_worthOfTwo 45 = .ok (.goto 4, 3) := by decide +kernel
theorem dX7_worthOfTwo_48 : decode cX7_worthOfTwo 48 = .ok (.iload_n 1, 1) := by decide +kernel
theorem dX7_worthOfTwo_49 : decode cX7_worthOfTwo 49 = .ok (.istore_n 1, 1) := by decide +kernel
theorem dX7_worthOfTwo_50 : decode cX7_worthOfTwo 50 = .ok (.iinc 2 1, 3) := by decide +kernel
theorem dX7_worthOfTwo_53 : decode cX7_worthOfTwo 53 = .ok (.goto (-45), 3) := by decide +kernel
theorem dX7_worthOfTwo_56 : decode cX7_worthOfTwo 56 = .ok (.iload_n 1, 1) := by decide +kernel
theorem dX7_worthOfTwo_57 : decode cX7_worthOfTwo 57 = .ok (.ireturn, 1) := by decide +kernel
theorem dX7_worth_0 : decode cX7_worth 0 = .ok (.iload_n 1, 1) := by decide +kernel
theorem dX7_worth_1 : decode cX7_worth 1 = .ok (.iconst 0, 1) := by decide +kernel
theorem dX7_worth_2 : decode cX7_worth 2 = .ok (.iconst 2, 1) := by decide +kernel
theorem dX7_worth_3 : decode cX7_worth 3 = .ok (.invokestatic 61, 3) := by decide +kernel
theorem dX7_worth_6 : decode cX7_worth 6 = .ok (.ifCond .ne 6, 3) := by decide +kernel
theorem dX7_worth_9 : decode cX7_worth 9 = .ok (.bipush (-2), 2) := by decide +kernel
theorem dX7_worth_11 : decode cX7_worth 11 = .ok (.ireturn, 1) := by decide +kernel
theorem dX7_worth_12 : decode cX7_worth 12 = .ok (.aload_n 0, 1) := by decide +kernel
theorem dX7_worth_13 : decode cX7_worth 13 = .ok (.getfield 7, 3) := by decide +kernel
theorem dX7_worth_16 : decode cX7_worth 16 = .ok (.bipush 49, 2) := by decide +kernel
theorem dX7_worth_18 : decode cX7_worth 18 = .ok (.iaload, 1) := by decide +kernel
theorem dX7_worth_19 : decode cX7_worth 19 = .ok (.ifCond .eq 6, 3) := by decide +kernel
theorem dX7_worth_22 : decode cX7_worth 22 = .ok (.bipush (-5), 2) := by decide +kernel
theorem dX7_worth_24 : decode cX7_worth 24 = .ok (.ireturn, 1) := by decide +kernel
theorem dX7_worth_25 : decode cX7_worth 25 = .ok (.aload_n 0, 1) := by decide +kernel
theorem dX7_worth_26 : decode cX7_worth 26 = .ok (.invokevirtual 124, 3) := by decide +kernel
theorem dX7_worth_29 : decode cX7_worth 29 = .ok (.sipush 1000, 3) := by decide +kernel
theorem dX7_worth_32 : decode cX7_worth 32 = .ok (.iload_n 1, 1) := by decide +kernel
theorem dX7_worth_33 : decode cX7_worth 33 = .ok (.ifCond .ne 11, 3) := by decide +kernel
theorem dX7_worth_36 : decode cX7_worth 36 = .ok (.aload_n 0, 1) := by decide +kernel
theorem dX7_worth_37 : decode cX7_worth 37 = .ok (.iconst 0, 1) := by decide +kernel
theorem dX7_worth_38 : decode cX7_worth 38 = .ok (.invokevirtual 183, 3) := by decide +kernel
theorem dX7_worth_41 : decode cX7_worth 41 = .ok (.goto 20, 3) := by decide +kernel
theorem dX7_worth_44 : decode cX7_worth 44 = .ok (.iload_n 1, 1) := by decide +kernel
theorem dX7_worth_45 : decode cX7_worth 45 = .ok (.iconst 1, 1) := by decide +kernel
theorem dX7_worth_46 : decode cX7_worth 46 = .ok (.if_icmp .ne 11, 3) := by decide +kernel
theorem dX7_worth_49 : decode cX7_worth 49 = .ok (.aload_n 0, 1) := by decide +kernel
theorem dX7_worth_50 : decode cX7_worth 50 = .ok (.iconst 0, 1) := by decide +kernel
theorem dX7_worth_51 : decode cX7_worth 51 = .ok (.invokevirtual 192, 3) := by decide +kernel
theorem dX7_worth_54 : decode cX7_worth 54 = .ok (.goto 7, 3) := by decide +kernel
theorem dX7_worth_57 : decode cX7_worth 57 = .ok (.aload_n 0, 1) := by decide +kernel
theorem dX7_worth_58 : decode cX7_worth 58 = .ok (.invokevirtual 195, 3) := by decide +kernel
theorem dX7_worth_61 : decode cX7_worth 61 = .ok (.iadd, 1) := by decide +kernel
theorem dX7_worth_62 : decode cX7_worth 62 = .ok (.ireturn, 1) := by decide +kernel
theorem dX7_best_0 : decode cX7_best 0 = .ok (.iload_n 1, 1) := by decide +kernel
theorem dX7_best_1 : decode cX7_best 1 = .ok (.iconst 1, 1) := by decide +kernel
theorem dX7_best_2 : decode cX7_best 2 = .ok (.iconst 2, 1) := by decide +kernel
theorem dX7_best_3 : decode cX7_best 3 = .ok (.invokestatic 61, 3) := by decide +kernel
theorem dX7_best_6 : decode cX7_best 6 = .ok (.ifCond .ne 6, 3) := by decide +kernel
theorem dX7_best_9 : decode cX7_best 9 = .ok (.bipush (-2), 2) := by decide +kernel
theorem dX7_best_11 : decode cX7_best 11 = .ok (.ireturn, 1) := by decide +kernel
theorem dX7_best_12 : decode cX7_best 12 = .ok (.aload_n 0, 1) := by decide +kernel
theorem dX7_best_13 : decode cX7_best 13 = .ok (.getfield 7, 3) := by decide +kernel
theorem dX7_best_16 : decode cX7_best 16 = .ok (.bipush 49, 2) := by decide +kernel
theorem dX7_best_18 : decode cX7_best 18 = .ok (.iaload, 1) := by decide +kernel
theorem dX7_best_19 : decode cX7_best 19 = .ok (.ifCond .eq 6, 3) := by decide +kernel
theorem dX7_best_22 : decode cX7_best 22 = .ok (.bipush (-5), 2) := by decide +kernel
theorem dX7_best_24 : decode cX7_best 24 = .ok (.ireturn, 1) := by decide +kernel
theorem dX7_best_25 : decode cX7_best 25 = .ok (.aload_n 0, 1) := by decide +kernel
theorem dX7_best_26 : decode cX7_best 26 = .ok (.invokevirtual 124, 3) := by decide +kernel
theorem dX7_best_29 : decode cX7_best 29 = .ok (.bipush (-6), 2) := by decide +kernel
theorem dX7_best_31 : decode cX7_best 31 = .ok (.istore_n 2, 1) := by decide +kernel
theorem dX7_best_32 : decode cX7_best 32 = .ok (.iconst 0, 1) := by decide +kernel
theorem dX7_best_33 : decode cX7_best 33 = .ok (.istore_n 3, 1) := by decide +kernel
theorem dX7_best_34 : decode cX7_best 34 = .ok (.iconst 0, 1) := by decide +kernel
theorem dX7_best_35 : decode cX7_best 35 = .ok (.istore 4, 2) := by decide +kernel
theorem dX7_best_37 : decode cX7_best 37 = .ok (.iload 4, 2) := by decide +kernel
theorem dX7_best_39 : decode cX7_best 39 = .ok (.aload_n 0, 1) := by decide +kernel
theorem dX7_best_40 : decode cX7_best 40 = .ok (.getfield 36, 3) := by decide +kernel
theorem dX7_best_43 : decode cX7_best 43 = .ok (.iconst 0, 1) := by decide +kernel
theorem dX7_best_44 : decode cX7_best 44 = .ok (.iaload, 1) := by decide +kernel
theorem dX7_best_45 : decode cX7_best 45 = .ok (.if_icmp .ge 79, 3) := by decide +kernel
theorem dX7_best_48 : decode cX7_best 48 = .ok (.aload_n 0, 1) := by decide +kernel
theorem dX7_best_49 : decode cX7_best 49 = .ok (.iconst 0, 1) := by decide +kernel
theorem dX7_best_50 : decode cX7_best 50 = .ok (.iload 4, 2) := by decide +kernel
theorem dX7_best_52 : decode cX7_best 52 = .ok (.invokevirtual 152, 3) := by decide +kernel
theorem dX7_best_55 : decode cX7_best 55 = .ok (.iload_n 1, 1) := by decide +kernel
theorem dX7_best_56 : decode cX7_best 56 = .ok (.iconst 1, 1) := by decide +kernel
theorem dX7_best_57 : decode cX7_best 57 = .ok (.if_icmp .ne 11, 3) := by decide +kernel
theorem dX7_best_60 : decode cX7_best 60 = .ok (.aload_n 0, 1) := by decide +kernel
theorem dX7_best_61 : decode cX7_best 61 = .ok (.iconst 1, 1) := by decide +kernel
theorem dX7_best_62 : decode cX7_best 62 = .ok (.invokevirtual 183, 3) := by decide +kernel
theorem dX7_best_65 : decode cX7_best 65 = .ok (.goto 8, 3) := by decide +kernel
theorem dX7_best_68 : decode cX7_best 68 = .ok (.aload_n 0, 1) := by decide +kernel
theorem dX7_best_69 : decode cX7_best 69 = .ok (.iconst 1, 1) := by decide +kernel
theorem dX7_best_70 : decode cX7_best 70 = .ok (.invokevirtual 192, 3) := by decide +kernel
theorem dX7_best_73 : decode cX7_best 73 = .ok (.istore 5, 2) := by decide +kernel
theorem dX7_best_75 : decode cX7_best 75 = .ok (.iload_n 2, 1) := by decide +kernel
theorem dX7_best_76 : decode cX7_best 76 = .ok (.bipush (-6), 2) := by decide +kernel
theorem dX7_best_78 : decode cX7_best 78 = .ok (.if_icmp .eq 9, 3) := by decide +kernel
theorem dX7_best_81 : decode cX7_best 81 = .ok (.iload 5, 2) := by decide +kernel
theorem dX7_best_83 : decode cX7_best 83 = .ok (.iload_n 3, 1) := by decide +kernel
theorem dX7_best_84 : decode cX7_best 84 = .ok (.if_icmp .le 7, 3) := by decide +kernel
theorem dX7_best_87 : decode cX7_best 87 = .ok (.iconst 1, 1) := by decide +kernel
theorem dX7_best_88 : decode cX7_best 88 = .ok (.goto 4, 3) := by decide +kernel
theorem dX7_best_91 : decode cX7_best 91 = .ok (.iconst 0, 1) := by decide +kernel
theorem dX7_best_92 : decode cX7_best 92 = .ok (.istore 6, 2) := by decide +kernel
theorem dX7_best_94 : decode cX7_best 94 = .ok (.iload 6, 2) := by decide +kernel
theorem dX7_best_96 : decode cX7_best 96 = .ok (.ifCond .eq 8, 3) := by decide +kernel
theorem dX7_best_99 : decode cX7_best 99 = .ok (.iload 4, 2) := by decide +kernel
theorem dX7_best_101 : decode cX7_best 101 = .ok (.goto 4, 3) := by decide +kernel
theorem dX7_best_104 : decode cX7_best 104 = .ok (.iload_n 2, 1) := by decide +kernel
theorem dX7_best_105 : decode cX7_best 105 = .ok (.istore_n 2, 1) := by decide +kernel
theorem dX7_best_106 : decode cX7_best 106 = .ok (.iload 6, 2) := by decide +kernel
theorem dX7_best_108 : decode cX7_best 108 = .ok (.ifCond .eq 8, 3) := by decide +kernel
theorem dX7_best_111 : decode cX7_best 111 = .ok (.iload 5, 2) := by decide +kernel
theorem dX7_best_113 : decode cX7_best 113 = .ok (.goto 4, 3) := by decide +kernel
theorem dX7_best_116 : decode cX7_best 116 = .ok (.iload_n 3, 1) := by decide +kernel
theorem dX7_best_117 : decode cX7_best 117 = .ok (.istore_n 3, 1) := by decide +kernel
theorem dX7_best_118 : decode cX7_best 118 = .ok (.iinc 4 1, 3) := by decide +kernel
theorem dX7_best_121 : decode cX7_best 121 = .ok (.goto (-84), 3) := by decide +kernel
theorem dX7_best_124 : decode cX7_best 124 = .ok (.iload_n 2, 1) := by decide +kernel
theorem dX7_best_125 : decode cX7_best 125 = .ok (.ireturn, 1) := by decide +kernel
theorem dX7_put_0 : decode cX7_put 0 = .ok (.iconst 0, 1) := by decide +kernel
theorem dX7_put_1 : decode cX7_put 1 = .ok (.istore_n 3, 1) := by decide +kernel
theorem dX7_put_2 : decode cX7_put 2 = .ok (.lload_n 1, 1) := by decide +kernel
theorem dX7_put_3 : decode cX7_put 3 = .ok (.lstore 4, 2) := by decide +kernel
theorem dX7_put_5 : decode cX7_put 5 = .ok (.iconst 1, 1) := by decide +kernel
theorem dX7_put_6 : decode cX7_put 6 = .ok (.istore 6, 2) := by decide +kernel
theorem dX7_put_8 : decode cX7_put 8 = .ok (.lload 4, 2) := by decide +kernel
theorem dX7_put_10 : decode cX7_put 10 = .ok (.lconst 0, 1) := by decide +kernel
theorem dX7_put_11 : decode cX7_put 11 = .ok (.lcmp, 1) := by decide +kernel
theorem dX7_put_12 : decode cX7_put 12 = .ok (.ifCond .eq 37, 3) := by decide +kernel
theorem dX7_put_15 : decode cX7_put 15 = .ok (.iload 6, 2) := by decide +kernel
theorem dX7_put_17 : decode cX7_put 17 = .ok (.ifCond .eq 32, 3) := by decide +kernel
theorem dX7_put_20 : decode cX7_put 20 = .ok (.lload 4, 2) := by decide +kernel
theorem dX7_put_22 : decode cX7_put 22 = .ok (.ldc2_w 198, 3) := by decide +kernel
theorem dX7_put_25 : decode cX7_put 25 = .ok (.land, 1) := by decide +kernel
theorem dX7_put_26 : decode cX7_put 26 = .ok (.l2i, 1) := by decide +kernel
theorem dX7_put_27 : decode cX7_put 27 = .ok (.bipush 33, 2) := by decide +kernel
theorem dX7_put_29 : decode cX7_put 29 = .ok (.bipush 126, 2) := by decide +kernel
theorem dX7_put_31 : decode cX7_put 31 = .ok (.invokestatic 61, 3) := by decide +kernel
theorem dX7_put_34 : decode cX7_put 34 = .ok (.istore 6, 2) := by decide +kernel
theorem dX7_put_36 : decode cX7_put 36 = .ok (.lload 4, 2) := by decide +kernel
theorem dX7_put_38 : decode cX7_put 38 = .ok (.bipush 8, 2) := by decide +kernel
theorem dX7_put_40 : decode cX7_put 40 = .ok (.lushr, 1) := by decide +kernel
theorem dX7_put_41 : decode cX7_put 41 = .ok (.lstore 4, 2) := by decide +kernel
theorem dX7_put_43 : decode cX7_put 43 = .ok (.iinc 3 1, 3) := by decide +kernel
theorem dX7_put_46 : decode cX7_put 46 = .ok (.goto (-38), 3) := by decide +kernel
theorem dX7_put_49 : decode cX7_put 49 = .ok (.iload_n 3, 1) := by decide +kernel
theorem dX7_put_50 : decode cX7_put 50 = .ok (.ifCond .eq 8, 3) := by decide +kernel
theorem dX7_put_53 : decode cX7_put 53 = .ok (.iload 6, 2) := by decide +kernel
theorem dX7_put_55 : decode cX7_put 55 = .ok (.ifCond .ne 6, 3) := by decide +kernel
theorem dX7_put_58 : decode cX7_put 58 = .ok (.bipush (-2), 2) := by decide +kernel
theorem dX7_put_60 : decode cX7_put 60 = .ok (.ireturn, 1) := by decide +kernel
theorem dX7_put_61 : decode cX7_put 61 = .ok (.aload_n 0, 1) := by decide +kernel
theorem dX7_put_62 : decode cX7_put 62 = .ok (.getfield 174, 3) := by decide +kernel
theorem dX7_put_65 : decode cX7_put 65 = .ok (.iload_n 3, 1) := by decide +kernel
theorem dX7_put_66 : decode cX7_put 66 = .ok (.iadd, 1) := by decide +kernel
theorem dX7_put_67 : decode cX7_put 67 = .ok (.bipush 60, 2) := by decide +kernel
theorem dX7_put_69 : decode cX7_put 69 = .ok (.if_icmp .le 6, 3) := by decide +kernel
theorem dX7_put_72 : decode cX7_put 72 = .ok (.bipush (-4), 2) := by decide +kernel
theorem dX7_put_74 : decode cX7_put 74 = .ok (.ireturn, 1) := by decide +kernel
theorem dX7_put_75 : decode cX7_put 75 = .ok (.iload_n 3, 1) := by decide +kernel
theorem dX7_put_76 : decode cX7_put 76 = .ok (.iconst 1, 1) := by decide +kernel
theorem dX7_put_77 : decode cX7_put 77 = .ok (.isub, 1) := by decide +kernel
theorem dX7_put_78 : decode cX7_put 78 = .ok (.istore 7, 2) := by decide +kernel
theorem dX7_put_80 : decode cX7_put 80 = .ok (.iload 7, 2) := by decide +kernel
theorem dX7_put_82 : decode cX7_put 82 = .ok (.ifCond .lt 41, 3) := by decide +kernel
theorem dX7_put_85 : decode cX7_put 85 = .ok (.aload_n 0, 1) := by decide +kernel
theorem dX7_put_86 : decode cX7_put 86 = .ok (.getfield 23, 3) := by decide +kernel
theorem dX7_put_89 : decode cX7_put 89 = .ok (.aload_n 0, 1) := by decide +kernel
theorem dX7_put_90 : decode cX7_put 90 = .ok (.getfield 174, 3) := by decide +kernel
theorem dX7_put_93 : decode cX7_put 93 = .ok (.lload_n 1, 1) := by decide +kernel
theorem dX7_put_94 : decode cX7_put 94 = .ok (.bipush 8, 2) := by decide +kernel
theorem dX7_put_96 : decode cX7_put 96 = .ok (.iload 7, 2) := by decide +kernel
theorem dX7_put_98 : decode cX7_put 98 = .ok (.imul, 1) := by decide +kernel
theorem dX7_put_99 : decode cX7_put 99 = .ok (.lushr, 1) := by decide +kernel
theorem dX7_put_100 : decode cX7_put 100 = .ok (.ldc2_w 198, 3) := by decide +kernel
theorem dX7_put_103 : decode cX7_put 103 = .ok (.land, 1) := by decide +kernel
theorem dX7_put_104 : decode cX7_put 104 = .ok (.l2i, 1) := by decide +kernel
theorem dX7_put_105 : decode cX7_put 105 = .ok (.i2c, 1) := by decide +kernel
theorem dX7_put_106 : decode cX7_put 106 = .ok (.castore, 1) := by decide +kernel
theorem dX7_put_107 : decode cX7_put 107 = .ok (.aload_n 0, 1) := by decide +kernel
theorem dX7_put_108 : decode cX7_put 108 = .ok (.dup, 1) := by decide +kernel
theorem dX7_put_109 : decode cX7_put 109 = .ok (.getfield 174, 3) := by decide +kernel
theorem dX7_put_112 : decode cX7_put 112 = .ok (.iconst 1, 1) := by decide +kernel
theorem dX7_put_113 : decode cX7_put 113 = .ok (.iadd, 1) := by decide +kernel
theorem dX7_put_114 : decode cX7_put 114 = .ok (.putfield 174, 3) := by decide +kernel
theorem dX7_put_117 : decode cX7_put 117 = .ok (.iinc 7 (-1), 3) := by decide +kernel
theorem dX7_put_120 : decode cX7_put 120 = .ok (.goto (-40), 3) := by decide +kernel
theorem dX7_put_123 : decode cX7_put 123 = .ok (.aload_n 0, 1) := by decide +kernel
theorem dX7_put_124 : decode cX7_put 124 = .ok (.getfield 174, 3) := by decide +kernel
theorem dX7_put_127 : decode cX7_put 127 = .ok (.ireturn, 1) := by decide +kernel
theorem dX7_wipe_0 : decode cX7_wipe 0 = .ok (.aload_n 0, 1) := by decide +kernel
theorem dX7_wipe_1 : decode cX7_wipe 1 = .ok (.getfield 174, 3) := by decide +kernel
theorem dX7_wipe_4 : decode cX7_wipe 4 = .ok (.istore_n 1, 1) := by decide +kernel
theorem dX7_wipe_5 : decode cX7_wipe 5 = .ok (.aload_n 0, 1) := by decide +kernel
theorem dX7_wipe_6 : decode cX7_wipe 6 = .ok (.iconst 0, 1) := by decide +kernel
theorem dX7_wipe_7 : decode cX7_wipe 7 = .ok (.putfield 174, 3) := by decide +kernel
theorem dX7_wipe_10 : decode cX7_wipe 10 = .ok (.iload_n 1, 1) := by decide +kernel
theorem dX7_wipe_11 : decode cX7_wipe 11 = .ok (.ireturn, 1) := by decide +kernel
theorem dX7_letter_0 : decode cX7_letter 0 = .ok (.aload_n 0, 1) := by decide +kernel
theorem dX7_letter_1 : decode cX7_letter 1 = .ok (.getfield 200, 3) := by decide +kernel
theorem dX7_letter_4 : decode cX7_letter 4 = .ok (.aload_n 0, 1) := by decide +kernel
theorem dX7_letter_5 : decode cX7_letter 5 = .ok (.getfield 174, 3) := by decide +kernel
theorem dX7_letter_8 : decode cX7_letter 8 = .ok (.if_icmp .ge 15, 3) := by decide +kernel
theorem dX7_letter_11 : decode cX7_letter 11 = .ok (.aload_n 0, 1) := by decide +kernel
theorem dX7_letter_12 : decode cX7_letter 12 = .ok (.getfield 23, 3) := by decide +kernel
theorem dX7_letter_15 : decode cX7_letter 15 = .ok (.aload_n 0, 1) := by decide +kernel
theorem dX7_letter_16 : decode cX7_letter 16 = .ok (.getfield 200, 3) := by decide +kernel
theorem dX7_letter_19 : decode cX7_letter 19 = .ok (.caload, 1) := by decide +kernel
theorem dX7_letter_20 : decode cX7_letter 20 = .ok (.goto 5, 3) := by decide +kernel
theorem dX7_letter_23 : decode cX7_letter 23 = .ok (.bipush (-6), 2) := by decide +kernel
theorem dX7_letter_25 : decode cX7_letter 25 = .ok (.ireturn, 1) := by decide +kernel
theorem dX7_wants_0 : decode cX7_wants 0 = .ok (.aload_n 0, 1) := by decide +kernel
theorem dX7_wants_1 : decode cX7_wants 1 = .ok (.getfield 203, 3) := by decide +kernel
theorem dX7_wants_4 : decode cX7_wants 4 = .ok (.bipush (-6), 2) := by decide +kernel
theorem dX7_wants_6 : decode cX7_wants 6 = .ok (.if_icmp .ne 30, 3) := by decide +kernel
theorem dX7_wants_9 : decode cX7_wants 9 = .ok (.aload_n 0, 1) := by decide +kernel
theorem dX7_wants_10 : decode cX7_wants 10 = .ok (.iload_n 1, 1) := by decide +kernel
theorem dX7_wants_11 : decode cX7_wants 11 = .ok (.ifCond .eq 8, 3) := by decide +kernel
theorem dX7_wants_14 : decode cX7_wants 14 = .ok (.bipush (-6), 2) := by decide +kernel
theorem dX7_wants_16 : decode cX7_wants 16 = .ok (.goto 7, 3) := by decide +kernel
theorem dX7_wants_19 : decode cX7_wants 19 = .ok (.aload_n 0, 1) := by decide +kernel
theorem dX7_wants_20 : decode cX7_wants 20 = .ok (.getfield 200, 3) := by decide +kernel
theorem dX7_wants_23 : decode cX7_wants 23 = .ok (.putfield 203, 3) := by decide +kernel
theorem dX7_wants_26 : decode cX7_wants 26 = .ok (.aload_n 0, 1) := by decide +kernel
theorem dX7_wants_27 : decode cX7_wants 27 = .ok (.dup, 1) := by decide +kernel
theorem dX7_wants_28 : decode cX7_wants 28 = .ok (.getfield 200, 3) := by decide +kernel
theorem dX7_wants_31 : decode cX7_wants 31 = .ok (.iconst 1, 1) := by decide +kernel
theorem dX7_wants_32 : decode cX7_wants 32 = .ok (.iadd, 1) := by decide +kernel
theorem dX7_wants_33 : decode cX7_wants 33 = .ok (.putfield 200, 3) := by decide +kernel
theorem dX7_wants_36 : decode cX7_wants 36 = .ok (.return_, 1) := by decide +kernel
theorem dX7_number_0 : decode cX7_number 0 = .ok (.aload_n 0, 1) := by decide +kernel
theorem dX7_number_1 : decode cX7_number 1 = .ok (.invokevirtual 206, 3) := by decide +kernel
theorem dX7_number_4 : decode cX7_number 4 = .ok (.bipush 48, 2) := by decide +kernel
theorem dX7_number_6 : decode cX7_number 6 = .ok (.isub, 1) := by decide +kernel
theorem dX7_number_7 : decode cX7_number 7 = .ok (.istore_n 1, 1) := by decide +kernel
theorem dX7_number_8 : decode cX7_number 8 = .ok (.aload_n 0, 1) := by decide +kernel
theorem dX7_number_9 : decode cX7_number 9 = .ok (.iload_n 1, 1) := by decide +kernel
theorem dX7_number_10 : decode cX7_number 10 = .ok (.iconst 0, 1) := by decide +kernel
theorem dX7_number_11 : decode cX7_number 11 = .ok (.bipush 9, 2) := by decide +kernel
theorem dX7_number_13 : decode cX7_number 13 = .ok (.invokestatic 61, 3) := by decide +kernel
theorem dX7_number_16 : decode cX7_number 16 = .ok (.invokevirtual 209, 3) := by decide +kernel
theorem dX7_number_19 : decode cX7_number 19 = .ok (.aload_n 0, 1) := by decide +kernel
theorem dX7_number_20 : decode cX7_number 20 = .ok (.invokevirtual 206, 3) := by decide +kernel
theorem dX7_number_23 : decode cX7_number 23 = .ok (.bipush 48, 2) := by decide +kernel
theorem dX7_number_25 : decode cX7_number 25 = .ok (.isub, 1) := by decide +kernel
theorem dX7_number_26 : decode cX7_number 26 = .ok (.istore_n 2, 1) := by decide +kernel
theorem dX7_number_27 : decode cX7_number 27 = .ok (.aload_n 0, 1) := by decide +kernel
theorem dX7_number_28 : decode cX7_number 28 = .ok (.getfield 203, 3) := by decide +kernel
theorem dX7_number_31 : decode cX7_number 31 = .ok (.bipush (-6), 2) := by decide +kernel
theorem dX7_number_33 : decode cX7_number 33 = .ok (.if_icmp .ne 45, 3) := by decide +kernel
theorem dX7_number_36 : decode cX7_number 36 = .ok (.iload_n 1, 1) := by decide +kernel
theorem dX7_number_37 : decode cX7_number 37 = .ok (.ifCond .le 41, 3) := by decide +kernel
theorem dX7_number_40 : decode cX7_number 40 = .ok (.iload_n 2, 1) := by decide +kernel
theorem dX7_number_41 : decode cX7_number 41 = .ok (.iconst 0, 1) := by decide +kernel
theorem dX7_number_42 : decode cX7_number 42 = .ok (.bipush 9, 2) := by decide +kernel
theorem dX7_number_44 : decode cX7_number 44 = .ok (.invokestatic 61, 3) := by decide +kernel
theorem dX7_number_47 : decode cX7_number 47 = .ok (.ifCond .eq 31, 3) := by decide +kernel
theorem dX7_number_50 : decode cX7_number 50 = .ok (.bipush 10, 2) := by decide +kernel
theorem dX7_number_52 : decode cX7_number 52 = .ok (.iload_n 1, 1) := by decide +kernel
theorem dX7_number_53 : decode cX7_number 53 = .ok (.imul, 1) := by decide +kernel
theorem dX7_number_54 : decode cX7_number 54 = .ok (.iload_n 2, 1) := by decide +kernel
theorem dX7_number_55 : decode cX7_number 55 = .ok (.iadd, 1) := by decide +kernel
theorem dX7_number_56 : decode cX7_number 56 = .ok (.bipush 48, 2) := by decide +kernel
theorem dX7_number_58 : decode cX7_number 58 = .ok (.if_icmp .ge 20, 3) := by decide +kernel
theorem dX7_number_61 : decode cX7_number 61 = .ok (.bipush 10, 2) := by decide +kernel
theorem dX7_number_63 : decode cX7_number 63 = .ok (.iload_n 1, 1) := by decide +kernel
theorem dX7_number_64 : decode cX7_number 64 = .ok (.imul, 1) := by decide +kernel
theorem dX7_number_65 : decode cX7_number 65 = .ok (.iload_n 2, 1) := by decide +kernel
theorem dX7_number_66 : decode cX7_number 66 = .ok (.iadd, 1) := by decide +kernel
theorem dX7_number_67 : decode cX7_number 67 = .ok (.istore_n 1, 1) := by decide +kernel
theorem dX7_number_68 : decode cX7_number 68 = .ok (.aload_n 0, 1) := by decide +kernel
theorem dX7_number_69 : decode cX7_number 69 = .ok (.dup, 1) := by decide +kernel
theorem dX7_number_70 : decode cX7_number 70 = .ok (.getfield 200, 3) := by decide +kernel
theorem dX7_number_73 : decode cX7_number 73 = .ok (.iconst 1, 1) := by decide +kernel
theorem dX7_number_74 : decode cX7_number 74 = .ok (.iadd, 1) := by decide +kernel
theorem dX7_number_75 : decode cX7_number 75 = .ok (.putfield 200, 3) := by decide +kernel
theorem dX7_number_78 : decode cX7_number 78 = .ok (.iload_n 1, 1) := by decide +kernel
theorem dX7_number_79 : decode cX7_number 79 = .ok (.ireturn, 1) := by decide +kernel
theorem dX7_readHop_0 : decode cX7_readHop 0 = .ok (.iconst 3, 1) := by decide +kernel
theorem dX7_readHop_1 : decode cX7_readHop 1 = .ok (.aload_n 0, 1) := by decide +kernel
theorem dX7_readHop_2 : decode cX7_readHop 2 = .ok (.getfield 212, 3) := by decide +kernel
theorem dX7_readHop_5 : decode cX7_readHop 5 = .ok (.imul, 1) := by decide +kernel
theorem dX7_readHop_6 : decode cX7_readHop 6 = .ok (.istore_n 1, 1) := by decide +kernel
theorem dX7_readHop_7 : decode cX7_readHop 7 = .ok (.aload_n 0, 1) := by decide +kernel
theorem dX7_readHop_8 : decode cX7_readHop 8 = .ok (.getfield 54, 3) := by decide +kernel
theorem dX7_readHop_11 : decode cX7_readHop 11 = .ok (.iload_n 1, 1) := by decide +kernel
theorem dX7_readHop_12 : decode cX7_readHop 12 = .ok (.aload_n 0, 1) := by decide +kernel
theorem dX7_readHop_13 : decode cX7_readHop 13 = .ok (.invokevirtual 215, 3) := by decide +kernel
theorem dX7_readHop_16 : decode cX7_readHop 16 = .ok (.iastore, 1) := by decide +kernel
theorem dX7_readHop_17 : decode cX7_readHop 17 = .ok (.aload_n 0, 1) := by decide +kernel
theorem dX7_readHop_18 : decode cX7_readHop 18 = .ok (.getfield 54, 3) := by decide +kernel
theorem dX7_readHop_21 : decode cX7_readHop 21 = .ok (.iload_n 1, 1) := by decide +kernel
theorem dX7_readHop_22 : decode cX7_readHop 22 = .ok (.iconst 1, 1) := by decide +kernel
theorem dX7_readHop_23 : decode cX7_readHop 23 = .ok (.iadd, 1) := by decide +kernel
theorem dX7_readHop_24 : decode cX7_readHop 24 = .ok (.aload_n 0, 1) := by decide +kernel
theorem dX7_readHop_25 : decode cX7_readHop 25 = .ok (.invokevirtual 206, 3) := by decide +kernel
theorem dX7_readHop_28 : decode cX7_readHop 28 = .ok (.bipush 120, 2) := by decide +kernel
theorem dX7_readHop_30 : decode cX7_readHop 30 = .ok (.if_icmp .ne 7, 3) := by decide +kernel
theorem dX7_readHop_33 : decode cX7_readHop 33 = .ok (.iconst 1, 1) := by decide +kernel
theorem dX7_readHop_34 : decode cX7_readHop 34 = .ok (.goto 4, 3) := by decide +kernel
theorem dX7_readHop_37 : decode cX7_readHop 37 = .ok (.iconst 0, 1) := by decide +kernel
theorem dX7_readHop_38 : decode cX7_readHop 38 = .ok (.iastore, 1) := by decide +kernel
theorem dX7_readHop_39 : decode cX7_readHop 39 = .ok (.aload_n 0, 1) := by decide +kernel
theorem dX7_readHop_40 : decode cX7_readHop 40 = .ok (.aload_n 0, 1) := by decide +kernel
theorem dX7_readHop_41 : decode cX7_readHop 41 = .ok (.invokevirtual 206, 3) := by decide +kernel
theorem dX7_readHop_44 : decode cX7_readHop 44 = .ok (.bipush 120, 2) := by decide +kernel
theorem dX7_readHop_46 : decode cX7_readHop 46 = .ok (.if_icmp .eq 12, 3) := by decide +kernel
theorem dX7_readHop_49 : decode cX7_readHop 49 = .ok (.aload_n 0, 1) := by decide +kernel
theorem dX7_readHop_50 : decode cX7_readHop 50 = .ok (.invokevirtual 206, 3) := by decide +kernel
theorem dX7_readHop_53 : decode cX7_readHop 53 = .ok (.bipush 45, 2) := by decide +kernel
theorem dX7_readHop_55 : decode cX7_readHop 55 = .ok (.if_icmp .ne 7, 3) := by decide +kernel
theorem dX7_readHop_58 : decode cX7_readHop 58 = .ok (.iconst 1, 1) := by decide +kernel
theorem dX7_readHop_59 : decode cX7_readHop 59 = .ok (.goto 4, 3) := by decide +kernel
theorem dX7_readHop_62 : decode cX7_readHop 62 = .ok (.iconst 0, 1) := by decide +kernel
theorem dX7_readHop_63 : decode cX7_readHop 63 = .ok (.invokevirtual 209, 3) := by decide +kernel
theorem dX7_readHop_66 : decode cX7_readHop 66 = .ok (.aload_n 0, 1) := by decide +kernel
theorem dX7_readHop_67 : decode cX7_readHop 67 = .ok (.getfield 54, 3) := by decide +kernel
theorem dX7_readHop_70 : decode cX7_readHop 70 = .ok (.iload_n 1, 1) := by decide +kernel
theorem dX7_readHop_71 : decode cX7_readHop 71 = .ok (.iconst 2, 1) := by decide +kernel
theorem dX7_readHop_72 : decode cX7_readHop 72 = .ok (.iadd, 1) := by decide +kernel
theorem dX7_readHop_73 : decode cX7_readHop 73 = .ok (.aload_n 0, 1) := by decide +kernel
theorem dX7_readHop_74 : decode cX7_readHop 74 = .ok (.invokevirtual 215, 3) := by decide +kernel
theorem dX7_readHop_77 : decode cX7_readHop 77 = .ok (.iastore, 1) := by decide +kernel
theorem dX7_readHop_78 : decode cX7_readHop 78 = .ok (.aload_n 0, 1) := by decide +kernel
theorem dX7_readHop_79 : decode cX7_readHop 79 = .ok (.dup, 1) := by decide +kernel
theorem dX7_readHop_80 : decode cX7_readHop 80 = .ok (.getfield 212, 3) := by decide +kernel
theorem dX7_readHop_83 : decode cX7_readHop 83 = .ok (.iconst 1, 1) := by decide +kernel
theorem dX7_readHop_84 : decode cX7_readHop 84 = .ok (.iadd, 1) := by decide +kernel
theorem dX7_readHop_85 : decode cX7_readHop 85 = .ok (.putfield 212, 3) := by decide +kernel
theorem dX7_readHop_88 : decode cX7_readHop 88 = .ok (.return_, 1) := by decide +kernel
theorem dX7_readPad_0 : decode cX7_readPad 0 = .ok (.aload_n 0, 1) := by decide +kernel
theorem dX7_readPad_1 : decode cX7_readPad 1 = .ok (.iconst 0, 1) := by decide +kernel
theorem dX7_readPad_2 : decode cX7_readPad 2 = .ok (.putfield 212, 3) := by decide +kernel
theorem dX7_readPad_5 : decode cX7_readPad 5 = .ok (.aload_n 0, 1) := by decide +kernel
theorem dX7_readPad_6 : decode cX7_readPad 6 = .ok (.iconst 0, 1) := by decide +kernel
theorem dX7_readPad_7 : decode cX7_readPad 7 = .ok (.putfield 200, 3) := by decide +kernel
theorem dX7_readPad_10 : decode cX7_readPad 10 = .ok (.aload_n 0, 1) := by decide +kernel
theorem dX7_readPad_11 : decode cX7_readPad 11 = .ok (.bipush (-6), 2) := by decide +kernel
theorem dX7_readPad_13 : decode cX7_readPad 13 = .ok (.putfield 203, 3) := by decide +kernel
theorem dX7_readPad_16 : decode cX7_readPad 16 = .ok (.iconst 1, 1) := by decide +kernel
theorem dX7_readPad_17 : decode cX7_readPad 17 = .ok (.istore_n 1, 1) := by decide +kernel
theorem dX7_readPad_18 : decode cX7_readPad 18 = .ok (.iload_n 1, 1) := by decide +kernel
theorem dX7_readPad_19 : decode cX7_readPad 19 = .ok (.ifCond .eq 73, 3) := by decide +kernel
theorem dX7_readPad_22 : decode cX7_readPad 22 = .ok (.aload_n 0, 1) := by decide +kernel
theorem dX7_readPad_23 : decode cX7_readPad 23 = .ok (.invokevirtual 218, 3) := by decide +kernel
theorem dX7_readPad_26 : decode cX7_readPad 26 = .ok (.aload_n 0, 1) := by decide +kernel
theorem dX7_readPad_27 : decode cX7_readPad 27 = .ok (.getfield 203, 3) := by decide +kernel
theorem dX7_readPad_30 : decode cX7_readPad 30 = .ok (.bipush (-6), 2) := by decide +kernel
theorem dX7_readPad_32 : decode cX7_readPad 32 = .ok (.if_icmp .ne 18, 3) := by decide +kernel
theorem dX7_readPad_35 : decode cX7_readPad 35 = .ok (.aload_n 0, 1) := by decide +kernel
theorem dX7_readPad_36 : decode cX7_readPad 36 = .ok (.getfield 200, 3) := by decide +kernel
theorem dX7_readPad_39 : decode cX7_readPad 39 = .ok (.aload_n 0, 1) := by decide +kernel
theorem dX7_readPad_40 : decode cX7_readPad 40 = .ok (.getfield 174, 3) := by decide +kernel
theorem dX7_readPad_43 : decode cX7_readPad 43 = .ok (.if_icmp .ge 7, 3) := by decide +kernel
theorem dX7_readPad_46 : decode cX7_readPad 46 = .ok (.iconst 1, 1) := by decide +kernel
theorem dX7_readPad_47 : decode cX7_readPad 47 = .ok (.goto 4, 3) := by decide +kernel
theorem dX7_readPad_50 : decode cX7_readPad 50 = .ok (.iconst 0, 1) := by decide +kernel
theorem dX7_readPad_51 : decode cX7_readPad 51 = .ok (.istore_n 1, 1) := by decide +kernel
theorem dX7_readPad_52 : decode cX7_readPad 52 = .ok (.iload_n 1, 1) := by decide +kernel
theorem dX7_readPad_53 : decode cX7_readPad 53 = .ok (.ifCond .eq (-35), 3) := by decide +kernel
theorem dX7_readPad_56 : decode cX7_readPad 56 = .ok (.aload_n 0, 1) := by decide +kernel
theorem dX7_readPad_57 : decode cX7_readPad 57 = .ok (.aload_n 0, 1) := by decide +kernel
theorem dX7_readPad_58 : decode cX7_readPad 58 = .ok (.invokevirtual 206, 3) := by decide +kernel
theorem dX7_readPad_61 : decode cX7_readPad 61 = .ok (.bipush 44, 2) := by decide +kernel
theorem dX7_readPad_63 : decode cX7_readPad 63 = .ok (.if_icmp .ne 7, 3) := by decide +kernel
theorem dX7_readPad_66 : decode cX7_readPad 66 = .ok (.iconst 1, 1) := by decide +kernel
theorem dX7_readPad_67 : decode cX7_readPad 67 = .ok (.goto 4, 3) := by decide +kernel
theorem dX7_readPad_70 : decode cX7_readPad 70 = .ok (.iconst 0, 1) := by decide +kernel
theorem dX7_readPad_71 : decode cX7_readPad 71 = .ok (.invokevirtual 209, 3) := by decide +kernel
theorem dX7_readPad_74 : decode cX7_readPad 74 = .ok (.aload_n 0, 1) := by decide +kernel
theorem dX7_readPad_75 : decode cX7_readPad 75 = .ok (.getfield 203, 3) := by decide +kernel
theorem dX7_readPad_78 : decode cX7_readPad 78 = .ok (.bipush (-6), 2) := by decide +kernel
theorem dX7_readPad_80 : decode cX7_readPad 80 = .ok (.if_icmp .ne 7, 3) := by decide +kernel
theorem dX7_readPad_83 : decode cX7_readPad 83 = .ok (.iconst 1, 1) := by decide +kernel
theorem dX7_readPad_84 : decode cX7_readPad 84 = .ok (.goto 4, 3) := by decide +kernel
theorem dX7_readPad_87 : decode cX7_readPad 87 = .ok (.iconst 0, 1) := by decide +kernel
theorem dX7_readPad_88 : decode cX7_readPad 88 = .ok (.istore_n 1, 1) := by decide +kernel
theorem dX7_readPad_89 : decode cX7_readPad 89 = .ok (.goto (-71), 3) := by decide +kernel
theorem dX7_readPad_92 : decode cX7_readPad 92 = .ok (.aload_n 0, 1) := by decide +kernel
theorem dX7_readPad_93 : decode cX7_readPad 93 = .ok (.getfield 203, 3) := by decide +kernel
theorem dX7_readPad_96 : decode cX7_readPad 96 = .ok (.ireturn, 1) := by decide +kernel
theorem dX7_fault_0 : decode cX7_fault 0 = .ok (.aload_n 0, 1) := by decide +kernel
theorem dX7_fault_1 : decode cX7_fault 1 = .ok (.invokevirtual 221, 3) := by decide +kernel
theorem dX7_fault_4 : decode cX7_fault 4 = .ok (.ireturn, 1) := by decide +kernel
theorem dX7_plays_0 : decode cX7_plays 0 = .ok (.aload_n 0, 1) := by decide +kernel
theorem dX7_plays_1 : decode cX7_plays 1 = .ok (.aload_n 0, 1) := by decide +kernel
theorem dX7_plays_2 : decode cX7_plays 2 = .ok (.getfield 54, 3) := by decide +kernel
theorem dX7_plays_5 : decode cX7_plays 5 = .ok (.iconst 3, 1) := by decide +kernel
theorem dX7_plays_6 : decode cX7_plays 6 = .ok (.iload_n 1, 1) := by decide +kernel
theorem dX7_plays_7 : decode cX7_plays 7 = .ok (.imul, 1) := by decide +kernel
theorem dX7_plays_8 : decode cX7_plays 8 = .ok (.iaload, 1) := by decide +kernel
theorem dX7_plays_9 : decode cX7_plays 9 = .ok (.aload_n 0, 1) := by decide +kernel
theorem dX7_plays_10 : decode cX7_plays 10 = .ok (.getfield 54, 3) := by decide +kernel
theorem dX7_plays_13 : decode cX7_plays 13 = .ok (.iconst 3, 1) := by decide +kernel
theorem dX7_plays_14 : decode cX7_plays 14 = .ok (.iload_n 1, 1) := by decide +kernel
theorem dX7_plays_15 : decode cX7_plays 15 = .ok (.imul, 1) := by decide +kernel
theorem dX7_plays_16 : decode cX7_plays 16 = .ok (.iconst 2, 1) := by decide +kernel
theorem dX7_plays_17 : decode cX7_plays 17 = .ok (.iadd, 1) := by decide +kernel
theorem dX7_plays_18 : decode cX7_plays 18 = .ok (.iaload, 1) := by decide +kernel
theorem dX7_plays_19 : decode cX7_plays 19 = .ok (.invokevirtual 159, 3) := by decide +kernel
theorem dX7_plays_22 : decode cX7_plays 22 = .ok (.istore_n 2, 1) := by decide +kernel
theorem dX7_plays_23 : decode cX7_plays 23 = .ok (.iload_n 2, 1) := by decide +kernel
theorem dX7_plays_24 : decode cX7_plays 24 = .ok (.bipush (-6), 2) := by decide +kernel
theorem dX7_plays_26 : decode cX7_plays 26 = .ok (.if_icmp .eq 45, 3) := by decide +kernel
theorem dX7_plays_29 : decode cX7_plays 29 = .ok (.aload_n 0, 1) := by decide +kernel
theorem dX7_plays_30 : decode cX7_plays 30 = .ok (.getfield 51, 3) := by decide +kernel
theorem dX7_plays_33 : decode cX7_plays 33 = .ok (.iload_n 2, 1) := by decide +kernel
theorem dX7_plays_34 : decode cX7_plays 34 = .ok (.iaload, 1) := by decide +kernel
theorem dX7_plays_35 : decode cX7_plays 35 = .ok (.bipush (-6), 2) := by decide +kernel
theorem dX7_plays_37 : decode cX7_plays 37 = .ok (.if_icmp .eq 7, 3) := by decide +kernel
theorem dX7_plays_40 : decode cX7_plays 40 = .ok (.iconst 1, 1) := by decide +kernel
theorem dX7_plays_41 : decode cX7_plays 41 = .ok (.goto 4, 3) := by decide +kernel
theorem dX7_plays_44 : decode cX7_plays 44 = .ok (.iconst 0, 1) := by decide +kernel
theorem dX7_plays_45 : decode cX7_plays 45 = .ok (.aload_n 0, 1) := by decide +kernel
theorem dX7_plays_46 : decode cX7_plays 46 = .ok (.getfield 54, 3) := by decide +kernel
theorem dX7_plays_49 : decode cX7_plays 49 = .ok (.iconst 3, 1) := by decide +kernel
theorem dX7_plays_50 : decode cX7_plays 50 = .ok (.iload_n 1, 1) := by decide +kernel
theorem dX7_plays_51 : decode cX7_plays 51 = .ok (.imul, 1) := by decide +kernel
theorem dX7_plays_52 : decode cX7_plays 52 = .ok (.iconst 1, 1) := by decide +kernel
theorem dX7_plays_53 : decode cX7_plays 53 = .ok (.iadd, 1) := by decide +kernel
theorem dX7_plays_54 : decode cX7_plays 54 = .ok (.iaload, 1) := by decide +kernel
theorem dX7_plays_55 : decode cX7_plays 55 = .ok (.iconst 1, 1) := by decide +kernel
theorem dX7_plays_56 : decode cX7_plays 56 = .ok (.if_icmp .ne 7, 3) := by decide +kernel
theorem dX7_plays_59 : decode cX7_plays 59 = .ok (.iconst 1, 1) := by decide +kernel
theorem dX7_plays_60 : decode cX7_plays 60 = .ok (.goto 4, 3) := by decide +kernel
theorem dX7_plays_63 : decode cX7_plays 63 = .ok (.iconst 0, 1) := by decide +kernel
theorem dX7_plays_64 : decode cX7_plays 64 = .ok (.if_icmp .ne 7, 3) := by decide +kernel
theorem dX7_plays_67 : decode cX7_plays 67 = .ok (.iconst 1, 1) := by decide +kernel
theorem dX7_plays_68 : decode cX7_plays 68 = .ok (.goto 4, 3) := by decide +kernel
theorem dX7_plays_71 : decode cX7_plays 71 = .ok (.iconst 0, 1) := by decide +kernel
theorem dX7_plays_72 : decode cX7_plays 72 = .ok (.istore_n 3, 1) := by decide +kernel
theorem dX7_plays_73 : decode cX7_plays 73 = .ok (.iload_n 3, 1) := by decide +kernel
theorem dX7_plays_74 : decode cX7_plays 74 = .ok (.ifCond .eq 8, 3) := by decide +kernel
theorem dX7_plays_77 : decode cX7_plays 77 = .ok (.aload_n 0, 1) := by decide +kernel
theorem dX7_plays_78 : decode cX7_plays 78 = .ok (.iload_n 2, 1) := by decide +kernel
theorem dX7_plays_79 : decode cX7_plays 79 = .ok (.invokevirtual 156, 3) := by decide +kernel
theorem dX7_plays_82 : decode cX7_plays 82 = .ok (.iload_n 3, 1) := by decide +kernel
theorem dX7_plays_83 : decode cX7_plays 83 = .ok (.ireturn, 1) := by decide +kernel
theorem dX7_playAll_0 : decode cX7_playAll 0 = .ok (.aload_n 0, 1) := by decide +kernel
theorem dX7_playAll_1 : decode cX7_playAll 1 = .ok (.invokevirtual 221, 3) := by decide +kernel
theorem dX7_playAll_4 : decode cX7_playAll 4 = .ok (.bipush (-6), 2) := by decide +kernel
theorem dX7_playAll_6 : decode cX7_playAll 6 = .ok (.if_icmp .eq 6, 3) := by decide +kernel
theorem dX7_playAll_9 : decode cX7_playAll 9 = .ok (.bipush (-3), 2) := by decide +kernel
theorem dX7_playAll_11 : decode cX7_playAll 11 = .ok (.ireturn, 1) := by decide +kernel
theorem dX7_playAll_12 : decode cX7_playAll 12 = .ok (.aload_n 0, 1) := by decide +kernel
theorem dX7_playAll_13 : decode cX7_playAll 13 = .ok (.invokevirtual 76, 3) := by decide +kernel
theorem dX7_playAll_16 : decode cX7_playAll 16 = .ok (.iconst 0, 1) := by decide +kernel
theorem dX7_playAll_17 : decode cX7_playAll 17 = .ok (.istore_n 1, 1) := by decide +kernel
theorem dX7_playAll_18 : decode cX7_playAll 18 = .ok (.iload_n 1, 1) := by decide +kernel
theorem dX7_playAll_19 : decode cX7_playAll 19 = .ok (.aload_n 0, 1) := by decide +kernel
theorem dX7_playAll_20 : decode cX7_playAll 20 = .ok (.getfield 212, 3) := by decide +kernel
theorem dX7_playAll_23 : decode cX7_playAll 23 = .ok (.if_icmp .ge 17, 3) := by decide +kernel
theorem dX7_playAll_26 : decode cX7_playAll 26 = .ok (.aload_n 0, 1) := by decide +kernel
theorem dX7_playAll_27 : decode cX7_playAll 27 = .ok (.iload_n 1, 1) := by decide +kernel
theorem dX7_playAll_28 : decode cX7_playAll 28 = .ok (.invokevirtual 224, 3) := by decide +kernel
theorem dX7_playAll_31 : decode cX7_playAll 31 = .ok (.ifCond .eq 9, 3) := by decide +kernel
theorem dX7_playAll_34 : decode cX7_playAll 34 = .ok (.iinc 1 1, 3) := by decide +kernel
theorem dX7_playAll_37 : decode cX7_playAll 37 = .ok (.goto (-19), 3) := by decide +kernel
theorem dX7_playAll_40 : decode cX7_playAll 40 = .ok (.aload_n 0, 1) := by decide +kernel
theorem dX7_playAll_41 : decode cX7_playAll 41 = .ok (.iconst 0, 1) := by decide +kernel
theorem dX7_playAll_42 : decode cX7_playAll 42 = .ok (.putfield 174, 3) := by decide +kernel
theorem dX7_playAll_45 : decode cX7_playAll 45 = .ok (.iload_n 1, 1) := by decide +kernel
theorem dX7_playAll_46 : decode cX7_playAll 46 = .ok (.ireturn, 1) := by decide +kernel
theorem dJ9_floorMod_7cf53_0 : decode cJ9_floorMod_7cf53 0 = .ok (.iload_n 0, 1) := by decide +kernel
theorem dJ9_floorMod_7cf53_1 : decode cJ9_floorMod_7cf53 1 = .ok (.iload_n 1, 1) := by decide +kernel
theorem dJ9_floorMod_7cf53_2 : decode cJ9_floorMod_7cf53 2 = .ok (.irem, 1) := by decide +kernel
theorem dJ9_floorMod_7cf53_3 : decode cJ9_floorMod_7cf53 3 = .ok (.istore_n 2, 1) := by decide +kernel
theorem dJ9_floorMod_7cf53_4 : decode cJ9_floorMod_7cf53 4 = .ok (.iload_n 0, 1) := by decide +kernel
theorem dJ9_floorMod_7cf53_5 : decode cJ9_floorMod_7cf53 5 = .ok (.iload_n 1, 1) := by decide +kernel
theorem dJ9_floorMod_7cf53_6 : decode cJ9_floorMod_7cf53 6 = .ok (.ixor, 1) := by decide +kernel
theorem dJ9_floorMod_7cf53_7 : decode cJ9_floorMod_7cf53 7 = .ok (.ifCond .ge 11, 3) := by decide +kernel
theorem dJ9_floorMod_7cf53_10 : decode cJ9_floorMod_7cf53 10 = .ok (.iload_n 2, 1) := by decide +kernel
theorem dJ9_floorMod_7cf53_11 : decode cJ9_floorMod_7cf53 11 = .ok (.ifCond .eq 7, 3) := by decide +kernel
theorem dJ9_floorMod_7cf53_14 : decode cJ9_floorMod_7cf53 14 = .ok (.iload_n 2, 1) := by decide +kernel
theorem dJ9_floorMod_7cf53_15 : decode cJ9_floorMod_7cf53 15 = .ok (.iload_n 1, 1) := by decide +kernel
theorem dJ9_floorMod_7cf53_16 : decode cJ9_floorMod_7cf53 16 = .ok (.iadd, 1) := by decide +kernel
theorem dJ9_floorMod_7cf53_17 : decode cJ9_floorMod_7cf53 17 = .ok (.ireturn, 1) := by decide +kernel
theorem dJ9_floorMod_7cf53_18 : decode cJ9_floorMod_7cf53 18 = .ok (.iload_n 2, 1) := by decide +kernel
theorem dJ9_floorMod_7cf53_19 : decode cJ9_floorMod_7cf53 19 = .ok (.ireturn, 1) := by decide +kernel
theorem dJ9_max_7cf53_0 : decode cJ9_max_7cf53 0 = .ok (.iload_n 0, 1) := by decide +kernel
theorem dJ9_max_7cf53_1 : decode cJ9_max_7cf53 1 = .ok (.iload_n 1, 1) := by decide +kernel
theorem dJ9_max_7cf53_2 : decode cJ9_max_7cf53 2 = .ok (.if_icmp .lt 7, 3) := by decide +kernel
theorem dJ9_max_7cf53_5 : decode cJ9_max_7cf53 5 = .ok (.iload_n 0, 1) := by decide +kernel
theorem dJ9_max_7cf53_6 : decode cJ9_max_7cf53 6 = .ok (.goto 4, 3) := by decide +kernel
theorem dJ9_max_7cf53_9 : decode cJ9_max_7cf53 9 = .ok (.iload_n 1, 1) := by decide +kernel
theorem dJ9_max_7cf53_10 : decode cJ9_max_7cf53 10 = .ok (.ireturn, 1) := by decide +kernel
theorem dJ9_min_7cf53_0 : decode cJ9_min_7cf53 0 = .ok (.iload_n 0, 1) := by decide +kernel
theorem dJ9_min_7cf53_1 : decode cJ9_min_7cf53 1 = .ok (.iload_n 1, 1) := by decide +kernel
theorem dJ9_min_7cf53_2 : decode cJ9_min_7cf53 2 = .ok (.if_icmp .gt 7, 3) := by decide +kernel
theorem dJ9_min_7cf53_5 : decode cJ9_min_7cf53 5 = .ok (.iload_n 0, 1) := by decide +kernel
theorem dJ9_min_7cf53_6 : decode cJ9_min_7cf53 6 = .ok (.goto 4, 3) := by decide +kernel
theorem dJ9_min_7cf53_9 : decode cJ9_min_7cf53 9 = .ok (.iload_n 1, 1) := by decide +kernel
theorem dJ9_min_7cf53_10 : decode cJ9_min_7cf53 10 = .ok (.ireturn, 1) := by decide +kernel
theorem dJ7_fill_53178_0 : decode cJ7_fill_53178 0 = .ok (.iconst 0, 1) := by decide +kernel
theorem dJ7_fill_53178_1 : decode cJ7_fill_53178 1 = .ok (.istore_n 2, 1) := by decide +kernel
theorem dJ7_fill_53178_2 : decode cJ7_fill_53178 2 = .ok (.aload_n 0, 1) := by decide +kernel
theorem dJ7_fill_53178_3 : decode cJ7_fill_53178 3 = .ok (.arraylength, 1) := by decide +kernel
theorem dJ7_fill_53178_4 : decode cJ7_fill_53178 4 = .ok (.istore_n 3, 1) := by decide +kernel
theorem dJ7_fill_53178_5 : decode cJ7_fill_53178 5 = .ok (.iload_n 2, 1) := by decide +kernel
theorem dJ7_fill_53178_6 : decode cJ7_fill_53178 6 = .ok (.iload_n 3, 1) := by decide +kernel
theorem dJ7_fill_53178_7 : decode cJ7_fill_53178 7 = .ok (.if_icmp .ge 13, 3) := by decide +kernel
theorem dJ7_fill_53178_10 : decode cJ7_fill_53178 10 = .ok (.aload_n 0, 1) := by decide +kernel
theorem dJ7_fill_53178_11 : decode cJ7_fill_53178 11 = .ok (.iload_n 2, 1) := by decide +kernel
theorem dJ7_fill_53178_12 : decode cJ7_fill_53178 12 = .ok (.iload_n 1, 1) := by decide +kernel
theorem dJ7_fill_53178_13 : decode cJ7_fill_53178 13 = .ok (.iastore, 1) := by decide +kernel
theorem dJ7_fill_53178_14 : decode cJ7_fill_53178 14 = .ok (.iinc 2 1, 3) := by decide +kernel
theorem dJ7_fill_53178_17 : decode cJ7_fill_53178 17 = .ok (.goto (-12), 3) := by decide +kernel
theorem dJ7_fill_53178_20 : decode cJ7_fill_53178 20 = .ok (.return_, 1) := by decide +kernel
theorem dL_law_0 : decode cL_law 0 = .ok (.new 7, 3) := by decide +kernel
theorem dL_law_3 : decode cL_law 3 = .ok (.dup, 1) := by decide +kernel
theorem dL_law_4 : decode cL_law 4 = .ok (.invokespecial 9, 3) := by decide +kernel
theorem dL_law_7 : decode cL_law 7 = .ok (.astore_n 1, 1) := by decide +kernel
theorem dL_law_8 : decode cL_law 8 = .ok (.new 10, 3) := by decide +kernel
theorem dL_law_11 : decode cL_law 11 = .ok (.dup, 1) := by decide +kernel
theorem dL_law_12 : decode cL_law 12 = .ok (.invokespecial 12, 3) := by decide +kernel
theorem dL_law_15 : decode cL_law 15 = .ok (.astore_n 2, 1) := by decide +kernel
theorem dL_law_16 : decode cL_law 16 = .ok (.iconst 0, 1) := by decide +kernel
theorem dL_law_17 : decode cL_law 17 = .ok (.istore_n 3, 1) := by decide +kernel
theorem dL_law_18 : decode cL_law 18 = .ok (.iload_n 3, 1) := by decide +kernel
theorem dL_law_19 : decode cL_law 19 = .ok (.aload_n 0, 1) := by decide +kernel
theorem dL_law_20 : decode cL_law 20 = .ok (.arraylength, 1) := by decide +kernel
theorem dL_law_21 : decode cL_law 21 = .ok (.iconst 3, 1) := by decide +kernel
theorem dL_law_22 : decode cL_law 22 = .ok (.isub, 1) := by decide +kernel
theorem dL_law_23 : decode cL_law 23 = .ok (.if_icmp .gt 691, 3) := by decide +kernel
theorem dL_law_26 : decode cL_law 26 = .ok (.aload_n 0, 1) := by decide +kernel
theorem dL_law_27 : decode cL_law 27 = .ok (.iload_n 3, 1) := by decide +kernel
theorem dL_law_28 : decode cL_law 28 = .ok (.iaload, 1) := by decide +kernel
theorem dL_law_29 : decode cL_law 29 = .ok (.bipush 31, 2) := by decide +kernel
theorem dL_law_31 : decode cL_law 31 = .ok (.iand, 1) := by decide +kernel
theorem dL_law_32 : decode cL_law 32 = .ok (.tableswitch 676 0 21 #[104, 127, 166, 199, 222, 255, 288, 301, 314, 347, 380, 413, 446, 469, 492, 515, 538, 591, 604, 617, 630, 653], 104) := by decide +kernel
theorem dL_law_136 : decode cL_law 136 = .ok (.aload_n 1, 1) := by decide +kernel
theorem dL_law_137 : decode cL_law 137 = .ok (.aload_n 0, 1) := by decide +kernel
theorem dL_law_138 : decode cL_law 138 = .ok (.iload_n 3, 1) := by decide +kernel
theorem dL_law_139 : decode cL_law 139 = .ok (.iconst 1, 1) := by decide +kernel
theorem dL_law_140 : decode cL_law 140 = .ok (.iadd, 1) := by decide +kernel
theorem dL_law_141 : decode cL_law 141 = .ok (.iaload, 1) := by decide +kernel
theorem dL_law_142 : decode cL_law 142 = .ok (.invokevirtual 13, 3) := by decide +kernel
theorem dL_law_145 : decode cL_law 145 = .ok (.aload_n 2, 1) := by decide +kernel
theorem dL_law_146 : decode cL_law 146 = .ok (.aload_n 0, 1) := by decide +kernel
theorem dL_law_147 : decode cL_law 147 = .ok (.iload_n 3, 1) := by decide +kernel
theorem dL_law_148 : decode cL_law 148 = .ok (.iconst 1, 1) := by decide +kernel
theorem dL_law_149 : decode cL_law 149 = .ok (.iadd, 1) := by decide +kernel
theorem dL_law_150 : decode cL_law 150 = .ok (.iaload, 1) := by decide +kernel
theorem dL_law_151 : decode cL_law 151 = .ok (.invokevirtual 17, 3) := by decide +kernel
theorem dL_law_154 : decode cL_law 154 = .ok (.if_icmp .eq 554, 3) := by decide +kernel
theorem dL_law_157 : decode cL_law 157 = .ok (.iconst 0, 1) := by decide +kernel
theorem dL_law_158 : decode cL_law 158 = .ok (.ireturn, 1) := by decide +kernel
theorem dL_law_159 : decode cL_law 159 = .ok (.aload_n 1, 1) := by decide +kernel
theorem dL_law_160 : decode cL_law 160 = .ok (.aload_n 0, 1) := by decide +kernel
theorem dL_law_161 : decode cL_law 161 = .ok (.iload_n 3, 1) := by decide +kernel
theorem dL_law_162 : decode cL_law 162 = .ok (.iconst 1, 1) := by decide +kernel
theorem dL_law_163 : decode cL_law 163 = .ok (.iadd, 1) := by decide +kernel
theorem dL_law_164 : decode cL_law 164 = .ok (.iaload, 1) := by decide +kernel
theorem dL_law_165 : decode cL_law 165 = .ok (.ifCond .eq 7, 3) := by decide +kernel
theorem dL_law_168 : decode cL_law 168 = .ok (.iconst 1, 1) := by decide +kernel
theorem dL_law_169 : decode cL_law 169 = .ok (.goto 4, 3) := by decide +kernel
theorem dL_law_172 : decode cL_law 172 = .ok (.iconst 0, 1) := by decide +kernel
theorem dL_law_173 : decode cL_law 173 = .ok (.invokevirtual 18, 3) := by decide +kernel
theorem dL_law_176 : decode cL_law 176 = .ok (.aload_n 2, 1) := by decide +kernel
theorem dL_law_177 : decode cL_law 177 = .ok (.aload_n 0, 1) := by decide +kernel
theorem dL_law_178 : decode cL_law 178 = .ok (.iload_n 3, 1) := by decide +kernel
theorem dL_law_179 : decode cL_law 179 = .ok (.iconst 1, 1) := by decide +kernel
theorem dL_law_180 : decode cL_law 180 = .ok (.iadd, 1) := by decide +kernel
theorem dL_law_181 : decode cL_law 181 = .ok (.iaload, 1) := by decide +kernel
theorem dL_law_182 : decode cL_law 182 = .ok (.ifCond .eq 7, 3) := by decide +kernel
theorem dL_law_185 : decode cL_law 185 = .ok (.iconst 1, 1) := by decide +kernel
theorem dL_law_186 : decode cL_law 186 = .ok (.goto 4, 3) := by decide +kernel
theorem dL_law_189 : decode cL_law 189 = .ok (.iconst 0, 1) := by decide +kernel
theorem dL_law_190 : decode cL_law 190 = .ok (.invokevirtual 22, 3) := by decide +kernel
theorem dL_law_193 : decode cL_law 193 = .ok (.if_icmp .eq 515, 3) := by decide +kernel
theorem dL_law_196 : decode cL_law 196 = .ok (.iconst 0, 1) := by decide +kernel
theorem dL_law_197 : decode cL_law 197 = .ok (.ireturn, 1) := by decide +kernel
theorem dL_law_198 : decode cL_law 198 = .ok (.aload_n 1, 1) := by decide +kernel
theorem dL_law_199 : decode cL_law 199 = .ok (.aload_n 0, 1) := by decide +kernel
theorem dL_law_200 : decode cL_law 200 = .ok (.iload_n 3, 1) := by decide +kernel
theorem dL_law_201 : decode cL_law 201 = .ok (.iconst 1, 1) := by decide +kernel
theorem dL_law_202 : decode cL_law 202 = .ok (.iadd, 1) := by decide +kernel
theorem dL_law_203 : decode cL_law 203 = .ok (.iaload, 1) := by decide +kernel
theorem dL_law_204 : decode cL_law 204 = .ok (.aload_n 0, 1) := by decide +kernel
theorem dL_law_205 : decode cL_law 205 = .ok (.iload_n 3, 1) := by decide +kernel
theorem dL_law_206 : decode cL_law 206 = .ok (.iconst 2, 1) := by decide +kernel
theorem dL_law_207 : decode cL_law 207 = .ok (.iadd, 1) := by decide +kernel
theorem dL_law_208 : decode cL_law 208 = .ok (.iaload, 1) := by decide +kernel
theorem dL_law_209 : decode cL_law 209 = .ok (.invokevirtual 23, 3) := by decide +kernel
theorem dL_law_212 : decode cL_law 212 = .ok (.aload_n 2, 1) := by decide +kernel
theorem dL_law_213 : decode cL_law 213 = .ok (.aload_n 0, 1) := by decide +kernel
theorem dL_law_214 : decode cL_law 214 = .ok (.iload_n 3, 1) := by decide +kernel
theorem dL_law_215 : decode cL_law 215 = .ok (.iconst 1, 1) := by decide +kernel
theorem dL_law_216 : decode cL_law 216 = .ok (.iadd, 1) := by decide +kernel
theorem dL_law_217 : decode cL_law 217 = .ok (.iaload, 1) := by decide +kernel
theorem dL_law_218 : decode cL_law 218 = .ok (.aload_n 0, 1) := by decide +kernel
theorem dL_law_219 : decode cL_law 219 = .ok (.iload_n 3, 1) := by decide +kernel
theorem dL_law_220 : decode cL_law 220 = .ok (.iconst 2, 1) := by decide +kernel
theorem dL_law_221 : decode cL_law 221 = .ok (.iadd, 1) := by decide +kernel
theorem dL_law_222 : decode cL_law 222 = .ok (.iaload, 1) := by decide +kernel
theorem dL_law_223 : decode cL_law 223 = .ok (.invokevirtual 27, 3) := by decide +kernel
theorem dL_law_226 : decode cL_law 226 = .ok (.if_icmp .eq 482, 3) := by decide +kernel
theorem dL_law_229 : decode cL_law 229 = .ok (.iconst 0, 1) := by decide +kernel
theorem dL_law_230 : decode cL_law 230 = .ok (.ireturn, 1) := by decide +kernel
theorem dL_law_231 : decode cL_law 231 = .ok (.aload_n 1, 1) := by decide +kernel
theorem dL_law_232 : decode cL_law 232 = .ok (.aload_n 0, 1) := by decide +kernel
theorem dL_law_233 : decode cL_law 233 = .ok (.iload_n 3, 1) := by decide +kernel
theorem dL_law_234 : decode cL_law 234 = .ok (.iconst 1, 1) := by decide +kernel
theorem dL_law_235 : decode cL_law 235 = .ok (.iadd, 1) := by decide +kernel
theorem dL_law_236 : decode cL_law 236 = .ok (.iaload, 1) := by decide +kernel
theorem dL_law_237 : decode cL_law 237 = .ok (.invokevirtual 28, 3) := by decide +kernel
theorem dL_law_240 : decode cL_law 240 = .ok (.aload_n 2, 1) := by decide +kernel
theorem dL_law_241 : decode cL_law 241 = .ok (.aload_n 0, 1) := by decide +kernel
theorem dL_law_242 : decode cL_law 242 = .ok (.iload_n 3, 1) := by decide +kernel
theorem dL_law_243 : decode cL_law 243 = .ok (.iconst 1, 1) := by decide +kernel
theorem dL_law_244 : decode cL_law 244 = .ok (.iadd, 1) := by decide +kernel
theorem dL_law_245 : decode cL_law 245 = .ok (.iaload, 1) := by decide +kernel
theorem dL_law_246 : decode cL_law 246 = .ok (.invokevirtual 31, 3) := by decide +kernel
theorem dL_law_249 : decode cL_law 249 = .ok (.if_icmp .eq 459, 3) := by decide +kernel
theorem dL_law_252 : decode cL_law 252 = .ok (.iconst 0, 1) := by decide +kernel
theorem dL_law_253 : decode cL_law 253 = .ok (.ireturn, 1) := by decide +kernel
theorem dL_law_254 : decode cL_law 254 = .ok (.aload_n 1, 1) := by decide +kernel
theorem dL_law_255 : decode cL_law 255 = .ok (.aload_n 0, 1) := by decide +kernel
theorem dL_law_256 : decode cL_law 256 = .ok (.iload_n 3, 1) := by decide +kernel
theorem dL_law_257 : decode cL_law 257 = .ok (.iconst 1, 1) := by decide +kernel
theorem dL_law_258 : decode cL_law 258 = .ok (.iadd, 1) := by decide +kernel
theorem dL_law_259 : decode cL_law 259 = .ok (.iaload, 1) := by decide +kernel
theorem dL_law_260 : decode cL_law 260 = .ok (.aload_n 0, 1) := by decide +kernel
theorem dL_law_261 : decode cL_law 261 = .ok (.iload_n 3, 1) := by decide +kernel
theorem dL_law_262 : decode cL_law 262 = .ok (.iconst 2, 1) := by decide +kernel
theorem dL_law_263 : decode cL_law 263 = .ok (.iadd, 1) := by decide +kernel
theorem dL_law_264 : decode cL_law 264 = .ok (.iaload, 1) := by decide +kernel
theorem dL_law_265 : decode cL_law 265 = .ok (.invokevirtual 32, 3) := by decide +kernel
theorem dL_law_268 : decode cL_law 268 = .ok (.aload_n 2, 1) := by decide +kernel
theorem dL_law_269 : decode cL_law 269 = .ok (.aload_n 0, 1) := by decide +kernel
theorem dL_law_270 : decode cL_law 270 = .ok (.iload_n 3, 1) := by decide +kernel
theorem dL_law_271 : decode cL_law 271 = .ok (.iconst 1, 1) := by decide +kernel
theorem dL_law_272 : decode cL_law 272 = .ok (.iadd, 1) := by decide +kernel
theorem dL_law_273 : decode cL_law 273 = .ok (.iaload, 1) := by decide +kernel
theorem dL_law_274 : decode cL_law 274 = .ok (.aload_n 0, 1) := by decide +kernel
theorem dL_law_275 : decode cL_law 275 = .ok (.iload_n 3, 1) := by decide +kernel
theorem dL_law_276 : decode cL_law 276 = .ok (.iconst 2, 1) := by decide +kernel
theorem dL_law_277 : decode cL_law 277 = .ok (.iadd, 1) := by decide +kernel
theorem dL_law_278 : decode cL_law 278 = .ok (.iaload, 1) := by decide +kernel
theorem dL_law_279 : decode cL_law 279 = .ok (.invokevirtual 35, 3) := by decide +kernel
theorem dL_law_282 : decode cL_law 282 = .ok (.if_icmp .eq 426, 3) := by decide +kernel
theorem dL_law_285 : decode cL_law 285 = .ok (.iconst 0, 1) := by decide +kernel
theorem dL_law_286 : decode cL_law 286 = .ok (.ireturn, 1) := by decide +kernel
theorem dL_law_287 : decode cL_law 287 = .ok (.aload_n 1, 1) := by decide +kernel
theorem dL_law_288 : decode cL_law 288 = .ok (.aload_n 0, 1) := by decide +kernel
theorem dL_law_289 : decode cL_law 289 = .ok (.iload_n 3, 1) := by decide +kernel
theorem dL_law_290 : decode cL_law 290 = .ok (.iconst 1, 1) := by decide +kernel
theorem dL_law_291 : decode cL_law 291 = .ok (.iadd, 1) := by decide +kernel
theorem dL_law_292 : decode cL_law 292 = .ok (.iaload, 1) := by decide +kernel
theorem dL_law_293 : decode cL_law 293 = .ok (.aload_n 0, 1) := by decide +kernel
theorem dL_law_294 : decode cL_law 294 = .ok (.iload_n 3, 1) := by decide +kernel
theorem dL_law_295 : decode cL_law 295 = .ok (.iconst 2, 1) := by decide +kernel
theorem dL_law_296 : decode cL_law 296 = .ok (.iadd, 1) := by decide +kernel
theorem dL_law_297 : decode cL_law 297 = .ok (.iaload, 1) := by decide +kernel
theorem dL_law_298 : decode cL_law 298 = .ok (.invokevirtual 36, 3) := by decide +kernel
theorem dL_law_301 : decode cL_law 301 = .ok (.aload_n 2, 1) := by decide +kernel
theorem dL_law_302 : decode cL_law 302 = .ok (.aload_n 0, 1) := by decide +kernel
theorem dL_law_303 : decode cL_law 303 = .ok (.iload_n 3, 1) := by decide +kernel
theorem dL_law_304 : decode cL_law 304 = .ok (.iconst 1, 1) := by decide +kernel
theorem dL_law_305 : decode cL_law 305 = .ok (.iadd, 1) := by decide +kernel
theorem dL_law_306 : decode cL_law 306 = .ok (.iaload, 1) := by decide +kernel
theorem dL_law_307 : decode cL_law 307 = .ok (.aload_n 0, 1) := by decide +kernel
theorem dL_law_308 : decode cL_law 308 = .ok (.iload_n 3, 1) := by decide +kernel
theorem dL_law_309 : decode cL_law 309 = .ok (.iconst 2, 1) := by decide +kernel
theorem dL_law_310 : decode cL_law 310 = .ok (.iadd, 1) := by decide +kernel
theorem dL_law_311 : decode cL_law 311 = .ok (.iaload, 1) := by decide +kernel
theorem dL_law_312 : decode cL_law 312 = .ok (.invokevirtual 39, 3) := by decide +kernel
theorem dL_law_315 : decode cL_law 315 = .ok (.if_icmp .eq 393, 3) := by decide +kernel
theorem dL_law_318 : decode cL_law 318 = .ok (.iconst 0, 1) := by decide +kernel
theorem dL_law_319 : decode cL_law 319 = .ok (.ireturn, 1) := by decide +kernel
theorem dL_law_320 : decode cL_law 320 = .ok (.aload_n 1, 1) := by decide +kernel
theorem dL_law_321 : decode cL_law 321 = .ok (.invokevirtual 40, 3) := by decide +kernel
theorem dL_law_324 : decode cL_law 324 = .ok (.aload_n 2, 1) := by decide +kernel
theorem dL_law_325 : decode cL_law 325 = .ok (.invokevirtual 44, 3) := by decide +kernel
theorem dL_law_328 : decode cL_law 328 = .ok (.if_icmp .eq 380, 3) := by decide +kernel
theorem dL_law_331 : decode cL_law 331 = .ok (.iconst 0, 1) := by decide +kernel
theorem dL_law_332 : decode cL_law 332 = .ok (.ireturn, 1) := by decide +kernel
theorem dL_law_333 : decode cL_law 333 = .ok (.aload_n 1, 1) := by decide +kernel
theorem dL_law_334 : decode cL_law 334 = .ok (.invokevirtual 45, 3) := by decide +kernel
theorem dL_law_337 : decode cL_law 337 = .ok (.aload_n 2, 1) := by decide +kernel
theorem dL_law_338 : decode cL_law 338 = .ok (.invokevirtual 48, 3) := by decide +kernel
theorem dL_law_341 : decode cL_law 341 = .ok (.if_icmp .eq 367, 3) := by decide +kernel
theorem dL_law_344 : decode cL_law 344 = .ok (.iconst 0, 1) := by decide +kernel
theorem dL_law_345 : decode cL_law 345 = .ok (.ireturn, 1) := by decide +kernel
theorem dL_law_346 : decode cL_law 346 = .ok (.aload_n 1, 1) := by decide +kernel
theorem dL_law_347 : decode cL_law 347 = .ok (.aload_n 0, 1) := by decide +kernel
theorem dL_law_348 : decode cL_law 348 = .ok (.iload_n 3, 1) := by decide +kernel
theorem dL_law_349 : decode cL_law 349 = .ok (.iconst 1, 1) := by decide +kernel
theorem dL_law_350 : decode cL_law 350 = .ok (.iadd, 1) := by decide +kernel
theorem dL_law_351 : decode cL_law 351 = .ok (.iaload, 1) := by decide +kernel
theorem dL_law_352 : decode cL_law 352 = .ok (.aload_n 0, 1) := by decide +kernel
theorem dL_law_353 : decode cL_law 353 = .ok (.iload_n 3, 1) := by decide +kernel
theorem dL_law_354 : decode cL_law 354 = .ok (.iconst 2, 1) := by decide +kernel
theorem dL_law_355 : decode cL_law 355 = .ok (.iadd, 1) := by decide +kernel
theorem dL_law_356 : decode cL_law 356 = .ok (.iaload, 1) := by decide +kernel
theorem dL_law_357 : decode cL_law 357 = .ok (.invokevirtual 49, 3) := by decide +kernel
theorem dL_law_360 : decode cL_law 360 = .ok (.aload_n 2, 1) := by decide +kernel
theorem dL_law_361 : decode cL_law 361 = .ok (.aload_n 0, 1) := by decide +kernel
theorem dL_law_362 : decode cL_law 362 = .ok (.iload_n 3, 1) := by decide +kernel
theorem dL_law_363 : decode cL_law 363 = .ok (.iconst 1, 1) := by decide +kernel
theorem dL_law_364 : decode cL_law 364 = .ok (.iadd, 1) := by decide +kernel
theorem dL_law_365 : decode cL_law 365 = .ok (.iaload, 1) := by decide +kernel
theorem dL_law_366 : decode cL_law 366 = .ok (.aload_n 0, 1) := by decide +kernel
theorem dL_law_367 : decode cL_law 367 = .ok (.iload_n 3, 1) := by decide +kernel
theorem dL_law_368 : decode cL_law 368 = .ok (.iconst 2, 1) := by decide +kernel
theorem dL_law_369 : decode cL_law 369 = .ok (.iadd, 1) := by decide +kernel
theorem dL_law_370 : decode cL_law 370 = .ok (.iaload, 1) := by decide +kernel
theorem dL_law_371 : decode cL_law 371 = .ok (.invokevirtual 52, 3) := by decide +kernel
theorem dL_law_374 : decode cL_law 374 = .ok (.if_icmp .eq 334, 3) := by decide +kernel
theorem dL_law_377 : decode cL_law 377 = .ok (.iconst 0, 1) := by decide +kernel
theorem dL_law_378 : decode cL_law 378 = .ok (.ireturn, 1) := by decide +kernel
theorem dL_law_379 : decode cL_law 379 = .ok (.aload_n 1, 1) := by decide +kernel
theorem dL_law_380 : decode cL_law 380 = .ok (.aload_n 0, 1) := by decide +kernel
theorem dL_law_381 : decode cL_law 381 = .ok (.iload_n 3, 1) := by decide +kernel
theorem dL_law_382 : decode cL_law 382 = .ok (.iconst 1, 1) := by decide +kernel
theorem dL_law_383 : decode cL_law 383 = .ok (.iadd, 1) := by decide +kernel
theorem dL_law_384 : decode cL_law 384 = .ok (.iaload, 1) := by decide +kernel
theorem dL_law_385 : decode cL_law 385 = .ok (.aload_n 0, 1) := by decide +kernel
theorem dL_law_386 : decode cL_law 386 = .ok (.iload_n 3, 1) := by decide +kernel
theorem dL_law_387 : decode cL_law 387 = .ok (.iconst 2, 1) := by decide +kernel
theorem dL_law_388 : decode cL_law 388 = .ok (.iadd, 1) := by decide +kernel
theorem dL_law_389 : decode cL_law 389 = .ok (.iaload, 1) := by decide +kernel
theorem dL_law_390 : decode cL_law 390 = .ok (.invokevirtual 53, 3) := by decide +kernel
theorem dL_law_393 : decode cL_law 393 = .ok (.aload_n 2, 1) := by decide +kernel
theorem dL_law_394 : decode cL_law 394 = .ok (.aload_n 0, 1) := by decide +kernel
theorem dL_law_395 : decode cL_law 395 = .ok (.iload_n 3, 1) := by decide +kernel
theorem dL_law_396 : decode cL_law 396 = .ok (.iconst 1, 1) := by decide +kernel
theorem dL_law_397 : decode cL_law 397 = .ok (.iadd, 1) := by decide +kernel
theorem dL_law_398 : decode cL_law 398 = .ok (.iaload, 1) := by decide +kernel
theorem dL_law_399 : decode cL_law 399 = .ok (.aload_n 0, 1) := by decide +kernel
theorem dL_law_400 : decode cL_law 400 = .ok (.iload_n 3, 1) := by decide +kernel
theorem dL_law_401 : decode cL_law 401 = .ok (.iconst 2, 1) := by decide +kernel
theorem dL_law_402 : decode cL_law 402 = .ok (.iadd, 1) := by decide +kernel
theorem dL_law_403 : decode cL_law 403 = .ok (.iaload, 1) := by decide +kernel
theorem dL_law_404 : decode cL_law 404 = .ok (.invokevirtual 56, 3) := by decide +kernel
theorem dL_law_407 : decode cL_law 407 = .ok (.if_icmp .eq 301, 3) := by decide +kernel
theorem dL_law_410 : decode cL_law 410 = .ok (.iconst 0, 1) := by decide +kernel
theorem dL_law_411 : decode cL_law 411 = .ok (.ireturn, 1) := by decide +kernel
theorem dL_law_412 : decode cL_law 412 = .ok (.aload_n 1, 1) := by decide +kernel
theorem dL_law_413 : decode cL_law 413 = .ok (.aload_n 0, 1) := by decide +kernel
theorem dL_law_414 : decode cL_law 414 = .ok (.iload_n 3, 1) := by decide +kernel
theorem dL_law_415 : decode cL_law 415 = .ok (.iconst 1, 1) := by decide +kernel
theorem dL_law_416 : decode cL_law 416 = .ok (.iadd, 1) := by decide +kernel
theorem dL_law_417 : decode cL_law 417 = .ok (.iaload, 1) := by decide +kernel
theorem dL_law_418 : decode cL_law 418 = .ok (.aload_n 0, 1) := by decide +kernel
theorem dL_law_419 : decode cL_law 419 = .ok (.iload_n 3, 1) := by decide +kernel
theorem dL_law_420 : decode cL_law 420 = .ok (.iconst 2, 1) := by decide +kernel
theorem dL_law_421 : decode cL_law 421 = .ok (.iadd, 1) := by decide +kernel
theorem dL_law_422 : decode cL_law 422 = .ok (.iaload, 1) := by decide +kernel
theorem dL_law_423 : decode cL_law 423 = .ok (.invokevirtual 57, 3) := by decide +kernel
theorem dL_law_426 : decode cL_law 426 = .ok (.aload_n 2, 1) := by decide +kernel
theorem dL_law_427 : decode cL_law 427 = .ok (.aload_n 0, 1) := by decide +kernel
theorem dL_law_428 : decode cL_law 428 = .ok (.iload_n 3, 1) := by decide +kernel
theorem dL_law_429 : decode cL_law 429 = .ok (.iconst 1, 1) := by decide +kernel
theorem dL_law_430 : decode cL_law 430 = .ok (.iadd, 1) := by decide +kernel
theorem dL_law_431 : decode cL_law 431 = .ok (.iaload, 1) := by decide +kernel
theorem dL_law_432 : decode cL_law 432 = .ok (.aload_n 0, 1) := by decide +kernel
theorem dL_law_433 : decode cL_law 433 = .ok (.iload_n 3, 1) := by decide +kernel
theorem dL_law_434 : decode cL_law 434 = .ok (.iconst 2, 1) := by decide +kernel
theorem dL_law_435 : decode cL_law 435 = .ok (.iadd, 1) := by decide +kernel
theorem dL_law_436 : decode cL_law 436 = .ok (.iaload, 1) := by decide +kernel
theorem dL_law_437 : decode cL_law 437 = .ok (.invokevirtual 60, 3) := by decide +kernel
theorem dL_law_440 : decode cL_law 440 = .ok (.if_icmp .eq 268, 3) := by decide +kernel
theorem dL_law_443 : decode cL_law 443 = .ok (.iconst 0, 1) := by decide +kernel
theorem dL_law_444 : decode cL_law 444 = .ok (.ireturn, 1) := by decide +kernel
theorem dL_law_445 : decode cL_law 445 = .ok (.aload_n 1, 1) := by decide +kernel
theorem dL_law_446 : decode cL_law 446 = .ok (.aload_n 0, 1) := by decide +kernel
theorem dL_law_447 : decode cL_law 447 = .ok (.iload_n 3, 1) := by decide +kernel
theorem dL_law_448 : decode cL_law 448 = .ok (.iconst 1, 1) := by decide +kernel
theorem dL_law_449 : decode cL_law 449 = .ok (.iadd, 1) := by decide +kernel
theorem dL_law_450 : decode cL_law 450 = .ok (.iaload, 1) := by decide +kernel
theorem dL_law_451 : decode cL_law 451 = .ok (.aload_n 0, 1) := by decide +kernel
theorem dL_law_452 : decode cL_law 452 = .ok (.iload_n 3, 1) := by decide +kernel
theorem dL_law_453 : decode cL_law 453 = .ok (.iconst 2, 1) := by decide +kernel
theorem dL_law_454 : decode cL_law 454 = .ok (.iadd, 1) := by decide +kernel
theorem dL_law_455 : decode cL_law 455 = .ok (.iaload, 1) := by decide +kernel
theorem dL_law_456 : decode cL_law 456 = .ok (.invokevirtual 61, 3) := by decide +kernel
theorem dL_law_459 : decode cL_law 459 = .ok (.aload_n 2, 1) := by decide +kernel
theorem dL_law_460 : decode cL_law 460 = .ok (.aload_n 0, 1) := by decide +kernel
theorem dL_law_461 : decode cL_law 461 = .ok (.iload_n 3, 1) := by decide +kernel
theorem dL_law_462 : decode cL_law 462 = .ok (.iconst 1, 1) := by decide +kernel
theorem dL_law_463 : decode cL_law 463 = .ok (.iadd, 1) := by decide +kernel
theorem dL_law_464 : decode cL_law 464 = .ok (.iaload, 1) := by decide +kernel
theorem dL_law_465 : decode cL_law 465 = .ok (.aload_n 0, 1) := by decide +kernel
theorem dL_law_466 : decode cL_law 466 = .ok (.iload_n 3, 1) := by decide +kernel
theorem dL_law_467 : decode cL_law 467 = .ok (.iconst 2, 1) := by decide +kernel
theorem dL_law_468 : decode cL_law 468 = .ok (.iadd, 1) := by decide +kernel
theorem dL_law_469 : decode cL_law 469 = .ok (.iaload, 1) := by decide +kernel
theorem dL_law_470 : decode cL_law 470 = .ok (.invokevirtual 64, 3) := by decide +kernel
theorem dL_law_473 : decode cL_law 473 = .ok (.if_icmp .eq 235, 3) := by decide +kernel
theorem dL_law_476 : decode cL_law 476 = .ok (.iconst 0, 1) := by decide +kernel
theorem dL_law_477 : decode cL_law 477 = .ok (.ireturn, 1) := by decide +kernel
theorem dL_law_478 : decode cL_law 478 = .ok (.aload_n 1, 1) := by decide +kernel
theorem dL_law_479 : decode cL_law 479 = .ok (.aload_n 0, 1) := by decide +kernel
theorem dL_law_480 : decode cL_law 480 = .ok (.iload_n 3, 1) := by decide +kernel
theorem dL_law_481 : decode cL_law 481 = .ok (.iconst 1, 1) := by decide +kernel
theorem dL_law_482 : decode cL_law 482 = .ok (.iadd, 1) := by decide +kernel
theorem dL_law_483 : decode cL_law 483 = .ok (.iaload, 1) := by decide +kernel
theorem dL_law_484 : decode cL_law 484 = .ok (.invokevirtual 65, 3) := by decide +kernel
theorem dL_law_487 : decode cL_law 487 = .ok (.aload_n 2, 1) := by decide +kernel
theorem dL_law_488 : decode cL_law 488 = .ok (.aload_n 0, 1) := by decide +kernel
theorem dL_law_489 : decode cL_law 489 = .ok (.iload_n 3, 1) := by decide +kernel
theorem dL_law_490 : decode cL_law 490 = .ok (.iconst 1, 1) := by decide +kernel
theorem dL_law_491 : decode cL_law 491 = .ok (.iadd, 1) := by decide +kernel
theorem dL_law_492 : decode cL_law 492 = .ok (.iaload, 1) := by decide +kernel
theorem dL_law_493 : decode cL_law 493 = .ok (.invokevirtual 68, 3) := by decide +kernel
theorem dL_law_496 : decode cL_law 496 = .ok (.if_icmp .eq 212, 3) := by decide +kernel
theorem dL_law_499 : decode cL_law 499 = .ok (.iconst 0, 1) := by decide +kernel
theorem dL_law_500 : decode cL_law 500 = .ok (.ireturn, 1) := by decide +kernel
theorem dL_law_501 : decode cL_law 501 = .ok (.aload_n 1, 1) := by decide +kernel
theorem dL_law_502 : decode cL_law 502 = .ok (.aload_n 0, 1) := by decide +kernel
theorem dL_law_503 : decode cL_law 503 = .ok (.iload_n 3, 1) := by decide +kernel
theorem dL_law_504 : decode cL_law 504 = .ok (.iconst 1, 1) := by decide +kernel
theorem dL_law_505 : decode cL_law 505 = .ok (.iadd, 1) := by decide +kernel
theorem dL_law_506 : decode cL_law 506 = .ok (.iaload, 1) := by decide +kernel
theorem dL_law_507 : decode cL_law 507 = .ok (.invokevirtual 69, 3) := by decide +kernel
theorem dL_law_510 : decode cL_law 510 = .ok (.aload_n 2, 1) := by decide +kernel
theorem dL_law_511 : decode cL_law 511 = .ok (.aload_n 0, 1) := by decide +kernel
theorem dL_law_512 : decode cL_law 512 = .ok (.iload_n 3, 1) := by decide +kernel
theorem dL_law_513 : decode cL_law 513 = .ok (.iconst 1, 1) := by decide +kernel
theorem dL_law_514 : decode cL_law 514 = .ok (.iadd, 1) := by decide +kernel
theorem dL_law_515 : decode cL_law 515 = .ok (.iaload, 1) := by decide +kernel
theorem dL_law_516 : decode cL_law 516 = .ok (.invokevirtual 72, 3) := by decide +kernel
theorem dL_law_519 : decode cL_law 519 = .ok (.if_icmp .eq 189, 3) := by decide +kernel
theorem dL_law_522 : decode cL_law 522 = .ok (.iconst 0, 1) := by decide +kernel
theorem dL_law_523 : decode cL_law 523 = .ok (.ireturn, 1) := by decide +kernel
theorem dL_law_524 : decode cL_law 524 = .ok (.aload_n 1, 1) := by decide +kernel
theorem dL_law_525 : decode cL_law 525 = .ok (.aload_n 0, 1) := by decide +kernel
theorem dL_law_526 : decode cL_law 526 = .ok (.iload_n 3, 1) := by decide +kernel
theorem dL_law_527 : decode cL_law 527 = .ok (.iconst 1, 1) := by decide +kernel
theorem dL_law_528 : decode cL_law 528 = .ok (.iadd, 1) := by decide +kernel
theorem dL_law_529 : decode cL_law 529 = .ok (.iaload, 1) := by decide +kernel
theorem dL_law_530 : decode cL_law 530 = .ok (.invokevirtual 73, 3) := by decide +kernel
theorem dL_law_533 : decode cL_law 533 = .ok (.aload_n 2, 1) := by decide +kernel
theorem dL_law_534 : decode cL_law 534 = .ok (.aload_n 0, 1) := by decide +kernel
theorem dL_law_535 : decode cL_law 535 = .ok (.iload_n 3, 1) := by decide +kernel
theorem dL_law_536 : decode cL_law 536 = .ok (.iconst 1, 1) := by decide +kernel
theorem dL_law_537 : decode cL_law 537 = .ok (.iadd, 1) := by decide +kernel
theorem dL_law_538 : decode cL_law 538 = .ok (.iaload, 1) := by decide +kernel
theorem dL_law_539 : decode cL_law 539 = .ok (.invokevirtual 76, 3) := by decide +kernel
theorem dL_law_542 : decode cL_law 542 = .ok (.if_icmp .eq 166, 3) := by decide +kernel
theorem dL_law_545 : decode cL_law 545 = .ok (.iconst 0, 1) := by decide +kernel
theorem dL_law_546 : decode cL_law 546 = .ok (.ireturn, 1) := by decide +kernel
theorem dL_law_547 : decode cL_law 547 = .ok (.aload_n 1, 1) := by decide +kernel
theorem dL_law_548 : decode cL_law 548 = .ok (.aload_n 0, 1) := by decide +kernel
theorem dL_law_549 : decode cL_law 549 = .ok (.iload_n 3, 1) := by decide +kernel
theorem dL_law_550 : decode cL_law 550 = .ok (.iconst 1, 1) := by decide +kernel
theorem dL_law_551 : decode cL_law 551 = .ok (.iadd, 1) := by decide +kernel
theorem dL_law_552 : decode cL_law 552 = .ok (.iaload, 1) := by decide +kernel
theorem dL_law_553 : decode cL_law 553 = .ok (.invokevirtual 77, 3) := by decide +kernel
theorem dL_law_556 : decode cL_law 556 = .ok (.aload_n 2, 1) := by decide +kernel
theorem dL_law_557 : decode cL_law 557 = .ok (.aload_n 0, 1) := by decide +kernel
theorem dL_law_558 : decode cL_law 558 = .ok (.iload_n 3, 1) := by decide +kernel
theorem dL_law_559 : decode cL_law 559 = .ok (.iconst 1, 1) := by decide +kernel
theorem dL_law_560 : decode cL_law 560 = .ok (.iadd, 1) := by decide +kernel
theorem dL_law_561 : decode cL_law 561 = .ok (.iaload, 1) := by decide +kernel
theorem dL_law_562 : decode cL_law 562 = .ok (.invokevirtual 80, 3) := by decide +kernel
theorem dL_law_565 : decode cL_law 565 = .ok (.if_icmp .eq 143, 3) := by decide +kernel
theorem dL_law_568 : decode cL_law 568 = .ok (.iconst 0, 1) := by decide +kernel
theorem dL_law_569 : decode cL_law 569 = .ok (.ireturn, 1) := by decide +kernel
theorem dL_law_570 : decode cL_law 570 = .ok (.aload_n 1, 1) := by decide +kernel
theorem dL_law_571 : decode cL_law 571 = .ok (.aload_n 0, 1) := by decide +kernel
theorem dL_law_572 : decode cL_law 572 = .ok (.iload_n 3, 1) := by decide +kernel
theorem dL_law_573 : decode cL_law 573 = .ok (.iconst 1, 1) := by decide +kernel
theorem dL_law_574 : decode cL_law 574 = .ok (.iadd, 1) := by decide +kernel
theorem dL_law_575 : decode cL_law 575 = .ok (.iaload, 1) := by decide +kernel
theorem dL_law_576 : decode cL_law 576 = .ok (.i2l, 1) := by decide +kernel
theorem dL_law_577 : decode cL_law 577 = .ok (.bipush 32, 2) := by decide +kernel
theorem dL_law_579 : decode cL_law 579 = .ok (.lshl, 1) := by decide +kernel
theorem dL_law_580 : decode cL_law 580 = .ok (.aload_n 0, 1) := by decide +kernel
theorem dL_law_581 : decode cL_law 581 = .ok (.iload_n 3, 1) := by decide +kernel
theorem dL_law_582 : decode cL_law 582 = .ok (.iconst 2, 1) := by decide +kernel
theorem dL_law_583 : decode cL_law 583 = .ok (.iadd, 1) := by decide +kernel
theorem dL_law_584 : decode cL_law 584 = .ok (.iaload, 1) := by decide +kernel
theorem dL_law_585 : decode cL_law 585 = .ok (.i2l, 1) := by decide +kernel
theorem dL_law_586 : decode cL_law 586 = .ok (.ldc2_w 81, 3) := by decide +kernel
theorem dL_law_589 : decode cL_law 589 = .ok (.land, 1) := by decide +kernel
theorem dL_law_590 : decode cL_law 590 = .ok (.lor, 1) := by decide +kernel
theorem dL_law_591 : decode cL_law 591 = .ok (.invokevirtual 83, 3) := by decide +kernel
theorem dL_law_594 : decode cL_law 594 = .ok (.aload_n 2, 1) := by decide +kernel
theorem dL_law_595 : decode cL_law 595 = .ok (.aload_n 0, 1) := by decide +kernel
theorem dL_law_596 : decode cL_law 596 = .ok (.iload_n 3, 1) := by decide +kernel
theorem dL_law_597 : decode cL_law 597 = .ok (.iconst 1, 1) := by decide +kernel
theorem dL_law_598 : decode cL_law 598 = .ok (.iadd, 1) := by decide +kernel
theorem dL_law_599 : decode cL_law 599 = .ok (.iaload, 1) := by decide +kernel
theorem dL_law_600 : decode cL_law 600 = .ok (.i2l, 1) := by decide +kernel
theorem dL_law_601 : decode cL_law 601 = .ok (.bipush 32, 2) := by decide +kernel
theorem dL_law_603 : decode cL_law 603 = .ok (.lshl, 1) := by decide +kernel
theorem dL_law_604 : decode cL_law 604 = .ok (.aload_n 0, 1) := by decide +kernel
theorem dL_law_605 : decode cL_law 605 = .ok (.iload_n 3, 1) := by decide +kernel
theorem dL_law_606 : decode cL_law 606 = .ok (.iconst 2, 1) := by decide +kernel
theorem dL_law_607 : decode cL_law 607 = .ok (.iadd, 1) := by decide +kernel
theorem dL_law_608 : decode cL_law 608 = .ok (.iaload, 1) := by decide +kernel
theorem dL_law_609 : decode cL_law 609 = .ok (.i2l, 1) := by decide +kernel
theorem dL_law_610 : decode cL_law 610 = .ok (.ldc2_w 81, 3) := by decide +kernel
theorem dL_law_613 : decode cL_law 613 = .ok (.land, 1) := by decide +kernel
theorem dL_law_614 : decode cL_law 614 = .ok (.lor, 1) := by decide +kernel
theorem dL_law_615 : decode cL_law 615 = .ok (.invokevirtual 87, 3) := by decide +kernel
theorem dL_law_618 : decode cL_law 618 = .ok (.if_icmp .eq 90, 3) := by decide +kernel
theorem dL_law_621 : decode cL_law 621 = .ok (.iconst 0, 1) := by decide +kernel
theorem dL_law_622 : decode cL_law 622 = .ok (.ireturn, 1) := by decide +kernel
theorem dL_law_623 : decode cL_law 623 = .ok (.aload_n 1, 1) := by decide +kernel
theorem dL_law_624 : decode cL_law 624 = .ok (.invokevirtual 88, 3) := by decide +kernel
theorem dL_law_627 : decode cL_law 627 = .ok (.aload_n 2, 1) := by decide +kernel
theorem dL_law_628 : decode cL_law 628 = .ok (.invokevirtual 91, 3) := by decide +kernel
theorem dL_law_631 : decode cL_law 631 = .ok (.if_icmp .eq 77, 3) := by decide +kernel
theorem dL_law_634 : decode cL_law 634 = .ok (.iconst 0, 1) := by decide +kernel
theorem dL_law_635 : decode cL_law 635 = .ok (.ireturn, 1) := by decide +kernel
theorem dL_law_636 : decode cL_law 636 = .ok (.aload_n 1, 1) := by decide +kernel
theorem dL_law_637 : decode cL_law 637 = .ok (.invokevirtual 92, 3) := by decide +kernel
theorem dL_law_640 : decode cL_law 640 = .ok (.aload_n 2, 1) := by decide +kernel
theorem dL_law_641 : decode cL_law 641 = .ok (.invokevirtual 95, 3) := by decide +kernel
theorem dL_law_644 : decode cL_law 644 = .ok (.if_icmp .eq 64, 3) := by decide +kernel
theorem dL_law_647 : decode cL_law 647 = .ok (.iconst 0, 1) := by decide +kernel
theorem dL_law_648 : decode cL_law 648 = .ok (.ireturn, 1) := by decide +kernel
theorem dL_law_649 : decode cL_law 649 = .ok (.aload_n 1, 1) := by decide +kernel
theorem dL_law_650 : decode cL_law 650 = .ok (.invokevirtual 96, 3) := by decide +kernel
theorem dL_law_653 : decode cL_law 653 = .ok (.aload_n 2, 1) := by decide +kernel
theorem dL_law_654 : decode cL_law 654 = .ok (.invokevirtual 99, 3) := by decide +kernel
theorem dL_law_657 : decode cL_law 657 = .ok (.if_icmp .eq 51, 3) := by decide +kernel
theorem dL_law_660 : decode cL_law 660 = .ok (.iconst 0, 1) := by decide +kernel
theorem dL_law_661 : decode cL_law 661 = .ok (.ireturn, 1) := by decide +kernel
theorem dL_law_662 : decode cL_law 662 = .ok (.aload_n 1, 1) := by decide +kernel
theorem dL_law_663 : decode cL_law 663 = .ok (.aload_n 0, 1) := by decide +kernel
theorem dL_law_664 : decode cL_law 664 = .ok (.iload_n 3, 1) := by decide +kernel
theorem dL_law_665 : decode cL_law 665 = .ok (.iconst 1, 1) := by decide +kernel
theorem dL_law_666 : decode cL_law 666 = .ok (.iadd, 1) := by decide +kernel
theorem dL_law_667 : decode cL_law 667 = .ok (.iaload, 1) := by decide +kernel
theorem dL_law_668 : decode cL_law 668 = .ok (.invokevirtual 100, 3) := by decide +kernel
theorem dL_law_671 : decode cL_law 671 = .ok (.aload_n 2, 1) := by decide +kernel
theorem dL_law_672 : decode cL_law 672 = .ok (.aload_n 0, 1) := by decide +kernel
theorem dL_law_673 : decode cL_law 673 = .ok (.iload_n 3, 1) := by decide +kernel
theorem dL_law_674 : decode cL_law 674 = .ok (.iconst 1, 1) := by decide +kernel
theorem dL_law_675 : decode cL_law 675 = .ok (.iadd, 1) := by decide +kernel
theorem dL_law_676 : decode cL_law 676 = .ok (.iaload, 1) := by decide +kernel
theorem dL_law_677 : decode cL_law 677 = .ok (.invokevirtual 103, 3) := by decide +kernel
theorem dL_law_680 : decode cL_law 680 = .ok (.if_icmp .eq 28, 3) := by decide +kernel
theorem dL_law_683 : decode cL_law 683 = .ok (.iconst 0, 1) := by decide +kernel
theorem dL_law_684 : decode cL_law 684 = .ok (.ireturn, 1) := by decide +kernel
theorem dL_law_685 : decode cL_law 685 = .ok (.aload_n 1, 1) := by decide +kernel
theorem dL_law_686 : decode cL_law 686 = .ok (.aload_n 0, 1) := by decide +kernel
theorem dL_law_687 : decode cL_law 687 = .ok (.iload_n 3, 1) := by decide +kernel
theorem dL_law_688 : decode cL_law 688 = .ok (.iconst 1, 1) := by decide +kernel
theorem dL_law_689 : decode cL_law 689 = .ok (.iadd, 1) := by decide +kernel
theorem dL_law_690 : decode cL_law 690 = .ok (.iaload, 1) := by decide +kernel
theorem dL_law_691 : decode cL_law 691 = .ok (.invokevirtual 104, 3) := by decide +kernel
theorem dL_law_694 : decode cL_law 694 = .ok (.aload_n 2, 1) := by decide +kernel
theorem dL_law_695 : decode cL_law 695 = .ok (.aload_n 0, 1) := by decide +kernel
theorem dL_law_696 : decode cL_law 696 = .ok (.iload_n 3, 1) := by decide +kernel
theorem dL_law_697 : decode cL_law 697 = .ok (.iconst 1, 1) := by decide +kernel
theorem dL_law_698 : decode cL_law 698 = .ok (.iadd, 1) := by decide +kernel
theorem dL_law_699 : decode cL_law 699 = .ok (.iaload, 1) := by decide +kernel
theorem dL_law_700 : decode cL_law 700 = .ok (.invokevirtual 107, 3) := by decide +kernel
theorem dL_law_703 : decode cL_law 703 = .ok (.if_icmp .eq 5, 3) := by decide +kernel
theorem dL_law_706 : decode cL_law 706 = .ok (.iconst 0, 1) := by decide +kernel
theorem dL_law_707 : decode cL_law 707 = .ok (.ireturn, 1) := by decide +kernel
theorem dL_law_708 : decode cL_law 708 = .ok (.iinc 3 3, 3) := by decide +kernel
theorem dL_law_711 : decode cL_law 711 = .ok (.goto (-693), 3) := by decide +kernel
theorem dL_law_714 : decode cL_law 714 = .ok (.iconst 1, 1) := by decide +kernel
theorem dL_law_715 : decode cL_law 715 = .ok (.ireturn, 1) := by decide +kernel
