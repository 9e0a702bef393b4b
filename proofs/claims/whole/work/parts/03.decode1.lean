theorem dX6_side_60 : decode cX6_side 60 = .ok (.getfield 55, 3) := by decide +kernel
theorem dX6_side_63 : decode cX6_side 63 = .ok (.iload_n 1, 1) := by decide +kernel
theorem dX6_side_64 : decode cX6_side 64 = .ok (.invokevirtual 175, 3) := by decide +kernel
theorem dX6_side_67 : decode cX6_side 67 = .ok (.ireturn, 1) := by decide +kernel
theorem dX6_side_68 : decode cX6_side 68 = .ok (.aload_n 0, 1) := by decide +kernel
theorem dX6_side_69 : decode cX6_side 69 = .ok (.getfield 10, 3) := by decide +kernel
theorem dX6_side_72 : decode cX6_side 72 = .ok (.getfield 178, 3) := by decide +kernel
theorem dX6_side_75 : decode cX6_side 75 = .ok (.iload_n 1, 1) := by decide +kernel
theorem dX6_side_76 : decode cX6_side 76 = .ok (.iaload, 1) := by decide +kernel
theorem dX6_side_77 : decode cX6_side 77 = .ok (.ireturn, 1) := by decide +kernel
theorem dX6_side_78 : decode cX6_side 78 = .ok (.aload_n 0, 1) := by decide +kernel
theorem dX6_side_79 : decode cX6_side 79 = .ok (.getfield 10, 3) := by decide +kernel
theorem dX6_side_82 : decode cX6_side 82 = .ok (.getfield 182, 3) := by decide +kernel
theorem dX6_side_85 : decode cX6_side 85 = .ok (.iload_n 1, 1) := by decide +kernel
theorem dX6_side_86 : decode cX6_side 86 = .ok (.iaload, 1) := by decide +kernel
theorem dX6_side_87 : decode cX6_side 87 = .ok (.ireturn, 1) := by decide +kernel
theorem dX6_side_88 : decode cX6_side 88 = .ok (.aload_n 0, 1) := by decide +kernel
theorem dX6_side_89 : decode cX6_side 89 = .ok (.getfield 10, 3) := by decide +kernel
theorem dX6_side_92 : decode cX6_side 92 = .ok (.getfield 55, 3) := by decide +kernel
theorem dX6_side_95 : decode cX6_side 95 = .ok (.iload_n 1, 1) := by decide +kernel
theorem dX6_side_96 : decode cX6_side 96 = .ok (.invokevirtual 185, 3) := by decide +kernel
theorem dX6_side_99 : decode cX6_side 99 = .ok (.ireturn, 1) := by decide +kernel
theorem dX6_side_100 : decode cX6_side 100 = .ok (.bipush (-2), 2) := by decide +kernel
theorem dX6_side_102 : decode cX6_side 102 = .ok (.ireturn, 1) := by decide +kernel
theorem dX6_count_0 : decode cX6_count 0 = .ok (.iload_n 1, 1) := by decide +kernel
theorem dX6_count_1 : decode cX6_count 1 = .ok (.tableswitch 141 0 9 #[55, 63, 74, 82, 90, 101, 109, 117, 125, 133], 55) := by decide +kernel
theorem dX6_count_56 : decode cX6_count 56 = .ok (.aload_n 0, 1) := by decide +kernel
theorem dX6_count_57 : decode cX6_count 57 = .ok (.getfield 10, 3) := by decide +kernel
theorem dX6_count_60 : decode cX6_count 60 = .ok (.getfield 105, 3) := by decide +kernel
theorem dX6_count_63 : decode cX6_count 63 = .ok (.ireturn, 1) := by decide +kernel
theorem dX6_count_64 : decode cX6_count 64 = .ok (.aload_n 0, 1) := by decide +kernel
theorem dX6_count_65 : decode cX6_count 65 = .ok (.getfield 10, 3) := by decide +kernel
theorem dX6_count_68 : decode cX6_count 68 = .ok (.getfield 55, 3) := by decide +kernel
theorem dX6_count_71 : decode cX6_count 71 = .ok (.getfield 89, 3) := by decide +kernel
theorem dX6_count_74 : decode cX6_count 74 = .ok (.ireturn, 1) := by decide +kernel
theorem dX6_count_75 : decode cX6_count 75 = .ok (.aload_n 0, 1) := by decide +kernel
theorem dX6_count_76 : decode cX6_count 76 = .ok (.invokevirtual 92, 3) := by decide +kernel
theorem dX6_count_79 : decode cX6_count 79 = .ok (.getfield 188, 3) := by decide +kernel
theorem dX6_count_82 : decode cX6_count 82 = .ok (.ireturn, 1) := by decide +kernel
theorem dX6_count_83 : decode cX6_count 83 = .ok (.aload_n 0, 1) := by decide +kernel
theorem dX6_count_84 : decode cX6_count 84 = .ok (.getfield 10, 3) := by decide +kernel
theorem dX6_count_87 : decode cX6_count 87 = .ok (.getfield 191, 3) := by decide +kernel
theorem dX6_count_90 : decode cX6_count 90 = .ok (.ireturn, 1) := by decide +kernel
theorem dX6_count_91 : decode cX6_count 91 = .ok (.aload_n 0, 1) := by decide +kernel
theorem dX6_count_92 : decode cX6_count 92 = .ok (.getfield 10, 3) := by decide +kernel
theorem dX6_count_95 : decode cX6_count 95 = .ok (.getfield 55, 3) := by decide +kernel
theorem dX6_count_98 : decode cX6_count 98 = .ok (.getfield 194, 3) := by decide +kernel
theorem dX6_count_101 : decode cX6_count 101 = .ok (.ireturn, 1) := by decide +kernel
theorem dX6_count_102 : decode cX6_count 102 = .ok (.aload_n 0, 1) := by decide +kernel
theorem dX6_count_103 : decode cX6_count 103 = .ok (.getfield 10, 3) := by decide +kernel
theorem dX6_count_106 : decode cX6_count 106 = .ok (.invokevirtual 197, 3) := by decide +kernel
theorem dX6_count_109 : decode cX6_count 109 = .ok (.ireturn, 1) := by decide +kernel
theorem dX6_count_110 : decode cX6_count 110 = .ok (.aload_n 0, 1) := by decide +kernel
theorem dX6_count_111 : decode cX6_count 111 = .ok (.getfield 10, 3) := by decide +kernel
theorem dX6_count_114 : decode cX6_count 114 = .ok (.getfield 200, 3) := by decide +kernel
theorem dX6_count_117 : decode cX6_count 117 = .ok (.ireturn, 1) := by decide +kernel
theorem dX6_count_118 : decode cX6_count 118 = .ok (.aload_n 0, 1) := by decide +kernel
theorem dX6_count_119 : decode cX6_count 119 = .ok (.getfield 10, 3) := by decide +kernel
theorem dX6_count_122 : decode cX6_count 122 = .ok (.getfield 51, 3) := by decide +kernel
theorem dX6_count_125 : decode cX6_count 125 = .ok (.ireturn, 1) := by decide +kernel
theorem dX6_count_126 : decode cX6_count 126 = .ok (.aload_n 0, 1) := by decide +kernel
theorem dX6_count_127 : decode cX6_count 127 = .ok (.getfield 30, 3) := by decide +kernel
theorem dX6_count_130 : decode cX6_count 130 = .ok (.getfield 116, 3) := by decide +kernel
theorem dX6_count_133 : decode cX6_count 133 = .ok (.ireturn, 1) := by decide +kernel
theorem dX6_count_134 : decode cX6_count 134 = .ok (.aload_n 0, 1) := by decide +kernel
theorem dX6_count_135 : decode cX6_count 135 = .ok (.getfield 19, 3) := by decide +kernel
theorem dX6_count_138 : decode cX6_count 138 = .ok (.getfield 203, 3) := by decide +kernel
theorem dX6_count_141 : decode cX6_count 141 = .ok (.ireturn, 1) := by decide +kernel
theorem dX6_count_142 : decode cX6_count 142 = .ok (.bipush (-2), 2) := by decide +kernel
theorem dX6_count_144 : decode cX6_count 144 = .ok (.ireturn, 1) := by decide +kernel
theorem dX6_rows_0 : decode cX6_rows 0 = .ok (.iload_n 1, 1) := by decide +kernel
theorem dX6_rows_1 : decode cX6_rows 1 = .ok (.iconst 1, 1) := by decide +kernel
theorem dX6_rows_2 : decode cX6_rows 2 = .ok (.if_icmp .lt 8, 3) := by decide +kernel
theorem dX6_rows_5 : decode cX6_rows 5 = .ok (.iload_n 1, 1) := by decide +kernel
theorem dX6_rows_6 : decode cX6_rows 6 = .ok (.iconst 3, 1) := by decide +kernel
theorem dX6_rows_7 : decode cX6_rows 7 = .ok (.if_icmp .le 6, 3) := by decide +kernel
theorem dX6_rows_10 : decode cX6_rows 10 = .ok (.bipush (-2), 2) := by decide +kernel
theorem dX6_rows_12 : decode cX6_rows 12 = .ok (.ireturn, 1) := by decide +kernel
theorem dX6_rows_13 : decode cX6_rows 13 = .ok (.aload_n 0, 1) := by decide +kernel
theorem dX6_rows_14 : decode cX6_rows 14 = .ok (.getfield 10, 3) := by decide +kernel
theorem dX6_rows_17 : decode cX6_rows 17 = .ok (.getfield 105, 3) := by decide +kernel
theorem dX6_rows_20 : decode cX6_rows 20 = .ok (.ifCond .eq 5, 3) := by decide +kernel
theorem dX6_rows_23 : decode cX6_rows 23 = .ok (.iconst 0, 1) := by decide +kernel
theorem dX6_rows_24 : decode cX6_rows 24 = .ok (.ireturn, 1) := by decide +kernel
theorem dX6_rows_25 : decode cX6_rows 25 = .ok (.aload_n 0, 1) := by decide +kernel
theorem dX6_rows_26 : decode cX6_rows 26 = .ok (.getfield 39, 3) := by decide +kernel
theorem dX6_rows_29 : decode cX6_rows 29 = .ok (.getfield 204, 3) := by decide +kernel
theorem dX6_rows_32 : decode cX6_rows 32 = .ok (.aload_n 0, 1) := by decide +kernel
theorem dX6_rows_33 : decode cX6_rows 33 = .ok (.getfield 10, 3) := by decide +kernel
theorem dX6_rows_36 : decode cX6_rows 36 = .ok (.getfield 55, 3) := by decide +kernel
theorem dX6_rows_39 : decode cX6_rows 39 = .ok (.invokevirtual 205, 3) := by decide +kernel
theorem dX6_rows_42 : decode cX6_rows 42 = .ok (.aload_n 0, 1) := by decide +kernel
theorem dX6_rows_43 : decode cX6_rows 43 = .ok (.getfield 39, 3) := by decide +kernel
theorem dX6_rows_46 : decode cX6_rows 46 = .ok (.iload_n 1, 1) := by decide +kernel
theorem dX6_rows_47 : decode cX6_rows 47 = .ok (.sipush 20000, 3) := by decide +kernel
theorem dX6_rows_50 : decode cX6_rows 50 = .ok (.invokestatic 209, 3) := by decide +kernel
theorem dX6_rows_53 : decode cX6_rows 53 = .ok (.ireturn, 1) := by decide +kernel
theorem dX6_worth_0 : decode cX6_worth 0 = .ok (.iload_n 1, 1) := by decide +kernel
theorem dX6_worth_1 : decode cX6_worth 1 = .ok (.ifCond .lt 8, 3) := by decide +kernel
theorem dX6_worth_4 : decode cX6_worth 4 = .ok (.iload_n 1, 1) := by decide +kernel
theorem dX6_worth_5 : decode cX6_worth 5 = .ok (.iconst 2, 1) := by decide +kernel
theorem dX6_worth_6 : decode cX6_worth 6 = .ok (.if_icmp .le 6, 3) := by decide +kernel
theorem dX6_worth_9 : decode cX6_worth 9 = .ok (.bipush (-2), 2) := by decide +kernel
theorem dX6_worth_11 : decode cX6_worth 11 = .ok (.ireturn, 1) := by decide +kernel
theorem dX6_worth_12 : decode cX6_worth 12 = .ok (.aload_n 0, 1) := by decide +kernel
theorem dX6_worth_13 : decode cX6_worth 13 = .ok (.getfield 10, 3) := by decide +kernel
theorem dX6_worth_16 : decode cX6_worth 16 = .ok (.getfield 105, 3) := by decide +kernel
theorem dX6_worth_19 : decode cX6_worth 19 = .ok (.ifCond .eq 6, 3) := by decide +kernel
theorem dX6_worth_22 : decode cX6_worth 22 = .ok (.bipush (-5), 2) := by decide +kernel
theorem dX6_worth_24 : decode cX6_worth 24 = .ok (.ireturn, 1) := by decide +kernel
theorem dX6_worth_25 : decode cX6_worth 25 = .ok (.aload_n 0, 1) := by decide +kernel
theorem dX6_worth_26 : decode cX6_worth 26 = .ok (.getfield 39, 3) := by decide +kernel
theorem dX6_worth_29 : decode cX6_worth 29 = .ok (.getfield 204, 3) := by decide +kernel
theorem dX6_worth_32 : decode cX6_worth 32 = .ok (.aload_n 0, 1) := by decide +kernel
theorem dX6_worth_33 : decode cX6_worth 33 = .ok (.getfield 10, 3) := by decide +kernel
theorem dX6_worth_36 : decode cX6_worth 36 = .ok (.getfield 55, 3) := by decide +kernel
theorem dX6_worth_39 : decode cX6_worth 39 = .ok (.invokevirtual 205, 3) := by decide +kernel
theorem dX6_worth_42 : decode cX6_worth 42 = .ok (.sipush 1000, 3) := by decide +kernel
theorem dX6_worth_45 : decode cX6_worth 45 = .ok (.aload_n 0, 1) := by decide +kernel
theorem dX6_worth_46 : decode cX6_worth 46 = .ok (.getfield 39, 3) := by decide +kernel
theorem dX6_worth_49 : decode cX6_worth 49 = .ok (.iload_n 1, 1) := by decide +kernel
theorem dX6_worth_50 : decode cX6_worth 50 = .ok (.aload_n 0, 1) := by decide +kernel
theorem dX6_worth_51 : decode cX6_worth 51 = .ok (.getfield 39, 3) := by decide +kernel
theorem dX6_worth_54 : decode cX6_worth 54 = .ok (.getfield 204, 3) := by decide +kernel
theorem dX6_worth_57 : decode cX6_worth 57 = .ok (.getfield 89, 3) := by decide +kernel
theorem dX6_worth_60 : decode cX6_worth 60 = .ok (.invokestatic 213, 3) := by decide +kernel
theorem dX6_worth_63 : decode cX6_worth 63 = .ok (.iadd, 1) := by decide +kernel
theorem dX6_worth_64 : decode cX6_worth 64 = .ok (.ireturn, 1) := by decide +kernel
theorem dX6_best_0 : decode cX6_best 0 = .ok (.iload_n 1, 1) := by decide +kernel
theorem dX6_best_1 : decode cX6_best 1 = .ok (.iconst 1, 1) := by decide +kernel
theorem dX6_best_2 : decode cX6_best 2 = .ok (.if_icmp .lt 8, 3) := by decide +kernel
theorem dX6_best_5 : decode cX6_best 5 = .ok (.iload_n 1, 1) := by decide +kernel
theorem dX6_best_6 : decode cX6_best 6 = .ok (.iconst 2, 1) := by decide +kernel
theorem dX6_best_7 : decode cX6_best 7 = .ok (.if_icmp .le 6, 3) := by decide +kernel
theorem dX6_best_10 : decode cX6_best 10 = .ok (.bipush (-2), 2) := by decide +kernel
theorem dX6_best_12 : decode cX6_best 12 = .ok (.ireturn, 1) := by decide +kernel
theorem dX6_best_13 : decode cX6_best 13 = .ok (.aload_n 0, 1) := by decide +kernel
theorem dX6_best_14 : decode cX6_best 14 = .ok (.getfield 10, 3) := by decide +kernel
theorem dX6_best_17 : decode cX6_best 17 = .ok (.getfield 105, 3) := by decide +kernel
theorem dX6_best_20 : decode cX6_best 20 = .ok (.ifCond .eq 6, 3) := by decide +kernel
theorem dX6_best_23 : decode cX6_best 23 = .ok (.bipush (-5), 2) := by decide +kernel
theorem dX6_best_25 : decode cX6_best 25 = .ok (.ireturn, 1) := by decide +kernel
theorem dX6_best_26 : decode cX6_best 26 = .ok (.iconst 0, 1) := by decide +kernel
theorem dX6_best_27 : decode cX6_best 27 = .ok (.istore_n 2, 1) := by decide +kernel
theorem dX6_best_28 : decode cX6_best 28 = .ok (.iconst 0, 1) := by decide +kernel
theorem dX6_best_29 : decode cX6_best 29 = .ok (.istore_n 3, 1) := by decide +kernel
theorem dX6_best_30 : decode cX6_best 30 = .ok (.aload_n 0, 1) := by decide +kernel
theorem dX6_best_31 : decode cX6_best 31 = .ok (.invokevirtual 92, 3) := by decide +kernel
theorem dX6_best_34 : decode cX6_best 34 = .ok (.getfield 188, 3) := by decide +kernel
theorem dX6_best_37 : decode cX6_best 37 = .ok (.istore 4, 2) := by decide +kernel
theorem dX6_best_39 : decode cX6_best 39 = .ok (.iconst 0, 1) := by decide +kernel
theorem dX6_best_40 : decode cX6_best 40 = .ok (.istore 5, 2) := by decide +kernel
theorem dX6_best_42 : decode cX6_best 42 = .ok (.iload 5, 2) := by decide +kernel
theorem dX6_best_44 : decode cX6_best 44 = .ok (.iload 4, 2) := by decide +kernel
theorem dX6_best_46 : decode cX6_best 46 = .ok (.if_icmp .ge 60, 3) := by decide +kernel
theorem dX6_best_49 : decode cX6_best 49 = .ok (.aload_n 0, 1) := by decide +kernel
theorem dX6_best_50 : decode cX6_best 50 = .ok (.getfield 39, 3) := by decide +kernel
theorem dX6_best_53 : decode cX6_best 53 = .ok (.iload 5, 2) := by decide +kernel
theorem dX6_best_55 : decode cX6_best 55 = .ok (.invokevirtual 216, 3) := by decide +kernel
theorem dX6_best_58 : decode cX6_best 58 = .ok (.aload_n 0, 1) := by decide +kernel
theorem dX6_best_59 : decode cX6_best 59 = .ok (.getfield 39, 3) := by decide +kernel
theorem dX6_best_62 : decode cX6_best 62 = .ok (.getfield 220, 3) := by decide +kernel
theorem dX6_best_65 : decode cX6_best 65 = .ok (.iload_n 1, 1) := by decide +kernel
theorem dX6_best_66 : decode cX6_best 66 = .ok (.iconst 1, 1) := by decide +kernel
theorem dX6_best_67 : decode cX6_best 67 = .ok (.isub, 1) := by decide +kernel
theorem dX6_best_68 : decode cX6_best 68 = .ok (.aload_n 0, 1) := by decide +kernel
theorem dX6_best_69 : decode cX6_best 69 = .ok (.getfield 39, 3) := by decide +kernel
theorem dX6_best_72 : decode cX6_best 72 = .ok (.getfield 204, 3) := by decide +kernel
theorem dX6_best_75 : decode cX6_best 75 = .ok (.getfield 89, 3) := by decide +kernel
theorem dX6_best_78 : decode cX6_best 78 = .ok (.invokestatic 213, 3) := by decide +kernel
theorem dX6_best_81 : decode cX6_best 81 = .ok (.istore 6, 2) := by decide +kernel
theorem dX6_best_83 : decode cX6_best 83 = .ok (.iload 5, 2) := by decide +kernel
theorem dX6_best_85 : decode cX6_best 85 = .ok (.ifCond .eq 9, 3) := by decide +kernel
theorem dX6_best_88 : decode cX6_best 88 = .ok (.iload 6, 2) := by decide +kernel
theorem dX6_best_90 : decode cX6_best 90 = .ok (.iload_n 3, 1) := by decide +kernel
theorem dX6_best_91 : decode cX6_best 91 = .ok (.if_icmp .le 9, 3) := by decide +kernel
theorem dX6_best_94 : decode cX6_best 94 = .ok (.iload 5, 2) := by decide +kernel
theorem dX6_best_96 : decode cX6_best 96 = .ok (.istore_n 2, 1) := by decide +kernel
theorem dX6_best_97 : decode cX6_best 97 = .ok (.iload 6, 2) := by decide +kernel
theorem dX6_best_99 : decode cX6_best 99 = .ok (.istore_n 3, 1) := by decide +kernel
theorem dX6_best_100 : decode cX6_best 100 = .ok (.iinc 5 1, 3) := by decide +kernel
theorem dX6_best_103 : decode cX6_best 103 = .ok (.goto (-61), 3) := by decide +kernel
theorem dX6_best_106 : decode cX6_best 106 = .ok (.iload_n 2, 1) := by decide +kernel
theorem dX6_best_107 : decode cX6_best 107 = .ok (.ireturn, 1) := by decide +kernel
theorem dX6_put_0 : decode cX6_put 0 = .ok (.lload_n 1, 1) := by decide +kernel
theorem dX6_put_1 : decode cX6_put 1 = .ok (.invokestatic 223, 3) := by decide +kernel
theorem dX6_put_4 : decode cX6_put 4 = .ok (.istore_n 3, 1) := by decide +kernel
theorem dX6_put_5 : decode cX6_put 5 = .ok (.iload_n 3, 1) := by decide +kernel
theorem dX6_put_6 : decode cX6_put 6 = .ok (.ifCond .ne 6, 3) := by decide +kernel
theorem dX6_put_9 : decode cX6_put 9 = .ok (.bipush (-2), 2) := by decide +kernel
theorem dX6_put_11 : decode cX6_put 11 = .ok (.ireturn, 1) := by decide +kernel
theorem dX6_put_12 : decode cX6_put 12 = .ok (.aload_n 0, 1) := by decide +kernel
theorem dX6_put_13 : decode cX6_put 13 = .ok (.getfield 30, 3) := by decide +kernel
theorem dX6_put_16 : decode cX6_put 16 = .ok (.getfield 116, 3) := by decide +kernel
theorem dX6_put_19 : decode cX6_put 19 = .ok (.iload_n 3, 1) := by decide +kernel
theorem dX6_put_20 : decode cX6_put 20 = .ok (.iadd, 1) := by decide +kernel
theorem dX6_put_21 : decode cX6_put 21 = .ok (.bipush 60, 2) := by decide +kernel
theorem dX6_put_23 : decode cX6_put 23 = .ok (.if_icmp .le 6, 3) := by decide +kernel
theorem dX6_put_26 : decode cX6_put 26 = .ok (.bipush (-4), 2) := by decide +kernel
theorem dX6_put_28 : decode cX6_put 28 = .ok (.ireturn, 1) := by decide +kernel
theorem dX6_put_29 : decode cX6_put 29 = .ok (.aload_n 0, 1) := by decide +kernel
theorem dX6_put_30 : decode cX6_put 30 = .ok (.getfield 30, 3) := by decide +kernel
theorem dX6_put_33 : decode cX6_put 33 = .ok (.lload_n 1, 1) := by decide +kernel
theorem dX6_put_34 : decode cX6_put 34 = .ok (.iload_n 3, 1) := by decide +kernel
theorem dX6_put_35 : decode cX6_put 35 = .ok (.invokevirtual 227, 3) := by decide +kernel
theorem dX6_put_38 : decode cX6_put 38 = .ok (.aload_n 0, 1) := by decide +kernel
theorem dX6_put_39 : decode cX6_put 39 = .ok (.getfield 30, 3) := by decide +kernel
theorem dX6_put_42 : decode cX6_put 42 = .ok (.getfield 116, 3) := by decide +kernel
theorem dX6_put_45 : decode cX6_put 45 = .ok (.ireturn, 1) := by decide +kernel
theorem dX6_wipe_0 : decode cX6_wipe 0 = .ok (.aload_n 0, 1) := by decide +kernel
theorem dX6_wipe_1 : decode cX6_wipe 1 = .ok (.getfield 30, 3) := by decide +kernel
theorem dX6_wipe_4 : decode cX6_wipe 4 = .ok (.getfield 116, 3) := by decide +kernel
theorem dX6_wipe_7 : decode cX6_wipe 7 = .ok (.istore_n 1, 1) := by decide +kernel
theorem dX6_wipe_8 : decode cX6_wipe 8 = .ok (.aload_n 0, 1) := by decide +kernel
theorem dX6_wipe_9 : decode cX6_wipe 9 = .ok (.getfield 30, 3) := by decide +kernel
theorem dX6_wipe_12 : decode cX6_wipe 12 = .ok (.iconst 0, 1) := by decide +kernel
theorem dX6_wipe_13 : decode cX6_wipe 13 = .ok (.putfield 116, 3) := by decide +kernel
theorem dX6_wipe_16 : decode cX6_wipe 16 = .ok (.iload_n 1, 1) := by decide +kernel
theorem dX6_wipe_17 : decode cX6_wipe 17 = .ok (.ireturn, 1) := by decide +kernel
theorem dX6_fault_0 : decode cX6_fault 0 = .ok (.aload_n 0, 1) := by decide +kernel
theorem dX6_fault_1 : decode cX6_fault 1 = .ok (.getfield 30, 3) := by decide +kernel
theorem dX6_fault_4 : decode cX6_fault 4 = .ok (.invokevirtual 112, 3) := by decide +kernel
theorem dX6_fault_7 : decode cX6_fault 7 = .ok (.ireturn, 1) := by decide +kernel
theorem dX6_undo_0 : decode cX6_undo 0 = .ok (.aload_n 0, 1) := by decide +kernel
theorem dX6_undo_1 : decode cX6_undo 1 = .ok (.getfield 19, 3) := by decide +kernel
theorem dX6_undo_4 : decode cX6_undo 4 = .ok (.getfield 203, 3) := by decide +kernel
theorem dX6_undo_7 : decode cX6_undo 7 = .ok (.ifCond .ne 6, 3) := by decide +kernel
theorem dX6_undo_10 : decode cX6_undo 10 = .ok (.bipush (-5), 2) := by decide +kernel
theorem dX6_undo_12 : decode cX6_undo 12 = .ok (.ireturn, 1) := by decide +kernel
theorem dX6_undo_13 : decode cX6_undo 13 = .ok (.aload_n 0, 1) := by decide +kernel
theorem dX6_undo_14 : decode cX6_undo 14 = .ok (.getfield 19, 3) := by decide +kernel
theorem dX6_undo_17 : decode cX6_undo 17 = .ok (.aload_n 0, 1) := by decide +kernel
theorem dX6_undo_18 : decode cX6_undo 18 = .ok (.getfield 10, 3) := by decide +kernel
theorem dX6_undo_21 : decode cX6_undo 21 = .ok (.invokevirtual 231, 3) := by decide +kernel
theorem dX6_undo_24 : decode cX6_undo 24 = .ok (.aload_n 0, 1) := by decide +kernel
theorem dX6_undo_25 : decode cX6_undo 25 = .ok (.getfield 19, 3) := by decide +kernel
theorem dX6_undo_28 : decode cX6_undo 28 = .ok (.getfield 203, 3) := by decide +kernel
theorem dX6_undo_31 : decode cX6_undo 31 = .ok (.ireturn, 1) := by decide +kernel
theorem dX6_save_0 : decode cX6_save 0 = .ok (.iload_n 1, 1) := by decide +kernel
theorem dX6_save_1 : decode cX6_save 1 = .ok (.ifCond .lt 12, 3) := by decide +kernel
theorem dX6_save_4 : decode cX6_save 4 = .ok (.iload_n 1, 1) := by decide +kernel
theorem dX6_save_5 : decode cX6_save 5 = .ok (.aload_n 0, 1) := by decide +kernel
theorem dX6_save_6 : decode cX6_save 6 = .ok (.getfield 23, 3) := by decide +kernel
theorem dX6_save_9 : decode cX6_save 9 = .ok (.arraylength, 1) := by decide +kernel
theorem dX6_save_10 : decode cX6_save 10 = .ok (.if_icmp .lt 6, 3) := by decide +kernel
theorem dX6_save_13 : decode cX6_save 13 = .ok (.bipush (-2), 2) := by decide +kernel
theorem dX6_save_15 : decode cX6_save 15 = .ok (.ireturn, 1) := by decide +kernel
theorem dX6_save_16 : decode cX6_save 16 = .ok (.aload_n 0, 1) := by decide +kernel
theorem dX6_save_17 : decode cX6_save 17 = .ok (.getfield 23, 3) := by decide +kernel
theorem dX6_save_20 : decode cX6_save 20 = .ok (.iload_n 1, 1) := by decide +kernel
theorem dX6_save_21 : decode cX6_save 21 = .ok (.aaload, 1) := by decide +kernel
theorem dX6_save_22 : decode cX6_save 22 = .ok (.astore_n 2, 1) := by decide +kernel
theorem dX6_save_23 : decode cX6_save 23 = .ok (.aload_n 2, 1) := by decide +kernel
theorem dX6_save_24 : decode cX6_save 24 = .ok (.ifnonnull 18, 3) := by decide +kernel
theorem dX6_save_27 : decode cX6_save 27 = .ok (.new 7, 3) := by decide +kernel
theorem dX6_save_30 : decode cX6_save 30 = .ok (.dup, 1) := by decide +kernel
theorem dX6_save_31 : decode cX6_save 31 = .ok (.invokespecial 9, 3) := by decide +kernel
theorem dX6_save_34 : decode cX6_save 34 = .ok (.astore_n 2, 1) := by decide +kernel
theorem dX6_save_35 : decode cX6_save 35 = .ok (.aload_n 0, 1) := by decide +kernel
theorem dX6_save_36 : decode cX6_save 36 = .ok (.getfield 23, 3) := by decide +kernel
theorem dX6_save_39 : decode cX6_save 39 = .ok (.iload_n 1, 1) := by decide +kernel
theorem dX6_save_40 : decode cX6_save 40 = .ok (.aload_n 2, 1) := by decide +kernel
theorem dX6_save_41 : decode cX6_save 41 = .ok (.aastore, 1) := by decide +kernel
theorem dX6_save_42 : decode cX6_save 42 = .ok (.aload_n 2, 1) := by decide +kernel
theorem dX6_save_43 : decode cX6_save 43 = .ok (.aload_n 0, 1) := by decide +kernel
theorem dX6_save_44 : decode cX6_save 44 = .ok (.getfield 10, 3) := by decide +kernel
theorem dX6_save_47 : decode cX6_save 47 = .ok (.invokevirtual 234, 3) := by decide +kernel
theorem dX6_save_50 : decode cX6_save 50 = .ok (.aload_n 0, 1) := by decide +kernel
theorem dX6_save_51 : decode cX6_save 51 = .ok (.getfield 10, 3) := by decide +kernel
theorem dX6_save_54 : decode cX6_save 54 = .ok (.getfield 191, 3) := by decide +kernel
theorem dX6_save_57 : decode cX6_save 57 = .ok (.ireturn, 1) := by decide +kernel
theorem dX6_restore_0 : decode cX6_restore 0 = .ok (.iload_n 1, 1) := by decide +kernel
theorem dX6_restore_1 : decode cX6_restore 1 = .ok (.ifCond .lt 12, 3) := by decide +kernel
theorem dX6_restore_4 : decode cX6_restore 4 = .ok (.iload_n 1, 1) := by decide +kernel
theorem dX6_restore_5 : decode cX6_restore 5 = .ok (.aload_n 0, 1) := by decide +kernel
theorem dX6_restore_6 : decode cX6_restore 6 = .ok (.getfield 23, 3) := by decide +kernel
theorem dX6_restore_9 : decode cX6_restore 9 = .ok (.arraylength, 1) := by decide +kernel
theorem dX6_restore_10 : decode cX6_restore 10 = .ok (.if_icmp .lt 6, 3) := by decide +kernel
theorem dX6_restore_13 : decode cX6_restore 13 = .ok (.bipush (-2), 2) := by decide +kernel
theorem dX6_restore_15 : decode cX6_restore 15 = .ok (.ireturn, 1) := by decide +kernel
theorem dX6_restore_16 : decode cX6_restore 16 = .ok (.aload_n 0, 1) := by decide +kernel
theorem dX6_restore_17 : decode cX6_restore 17 = .ok (.getfield 23, 3) := by decide +kernel
theorem dX6_restore_20 : decode cX6_restore 20 = .ok (.iload_n 1, 1) := by decide +kernel
theorem dX6_restore_21 : decode cX6_restore 21 = .ok (.aaload, 1) := by decide +kernel
theorem dX6_restore_22 : decode cX6_restore 22 = .ok (.astore_n 2, 1) := by decide +kernel
theorem dX6_restore_23 : decode cX6_restore 23 = .ok (.aload_n 2, 1) := by decide +kernel
theorem dX6_restore_24 : decode cX6_restore 24 = .ok (.ifnonnull 6, 3) := by decide +kernel
theorem dX6_restore_27 : decode cX6_restore 27 = .ok (.bipush (-5), 2) := by decide +kernel
theorem dX6_restore_29 : decode cX6_restore 29 = .ok (.ireturn, 1) := by decide +kernel
theorem dX6_restore_30 : decode cX6_restore 30 = .ok (.aload_n 0, 1) := by decide +kernel
theorem dX6_restore_31 : decode cX6_restore 31 = .ok (.getfield 19, 3) := by decide +kernel
theorem dX6_restore_34 : decode cX6_restore 34 = .ok (.aload_n 0, 1) := by decide +kernel
theorem dX6_restore_35 : decode cX6_restore 35 = .ok (.getfield 10, 3) := by decide +kernel
theorem dX6_restore_38 : decode cX6_restore 38 = .ok (.invokevirtual 47, 3) := by decide +kernel
theorem dX6_restore_41 : decode cX6_restore 41 = .ok (.aload_n 0, 1) := by decide +kernel
theorem dX6_restore_42 : decode cX6_restore 42 = .ok (.getfield 10, 3) := by decide +kernel
theorem dX6_restore_45 : decode cX6_restore 45 = .ok (.aload_n 2, 1) := by decide +kernel
theorem dX6_restore_46 : decode cX6_restore 46 = .ok (.invokevirtual 234, 3) := by decide +kernel
theorem dX6_restore_49 : decode cX6_restore 49 = .ok (.aload_n 0, 1) := by decide +kernel
theorem dX6_restore_50 : decode cX6_restore 50 = .ok (.getfield 10, 3) := by decide +kernel
theorem dX6_restore_53 : decode cX6_restore 53 = .ok (.getfield 191, 3) := by decide +kernel
theorem dX6_restore_56 : decode cX6_restore 56 = .ok (.ireturn, 1) := by decide +kernel
theorem dX6_hopsOfNow_0 : decode cX6_hopsOfNow 0 = .ok (.aload_n 0, 1) := by decide +kernel
theorem dX6_hopsOfNow_1 : decode cX6_hopsOfNow 1 = .ok (.getfield 39, 3) := by decide +kernel
theorem dX6_hopsOfNow_4 : decode cX6_hopsOfNow 4 = .ok (.getfield 204, 3) := by decide +kernel
theorem dX6_hopsOfNow_7 : decode cX6_hopsOfNow 7 = .ok (.aload_n 0, 1) := by decide +kernel
theorem dX6_hopsOfNow_8 : decode cX6_hopsOfNow 8 = .ok (.getfield 10, 3) := by decide +kernel
theorem dX6_hopsOfNow_11 : decode cX6_hopsOfNow 11 = .ok (.getfield 55, 3) := by decide +kernel
theorem dX6_hopsOfNow_14 : decode cX6_hopsOfNow 14 = .ok (.invokevirtual 205, 3) := by decide +kernel
theorem dX6_hopsOfNow_17 : decode cX6_hopsOfNow 17 = .ok (.aload_n 0, 1) := by decide +kernel
theorem dX6_hopsOfNow_18 : decode cX6_hopsOfNow 18 = .ok (.getfield 39, 3) := by decide +kernel
theorem dX6_hopsOfNow_21 : decode cX6_hopsOfNow 21 = .ok (.getfield 236, 3) := by decide +kernel
theorem dX6_hopsOfNow_24 : decode cX6_hopsOfNow 24 = .ok (.iconst 0, 1) := by decide +kernel
theorem dX6_hopsOfNow_25 : decode cX6_hopsOfNow 25 = .ok (.putfield 188, 3) := by decide +kernel
theorem dX6_hopsOfNow_28 : decode cX6_hopsOfNow 28 = .ok (.aload_n 0, 1) := by decide +kernel
theorem dX6_hopsOfNow_29 : decode cX6_hopsOfNow 29 = .ok (.getfield 10, 3) := by decide +kernel
theorem dX6_hopsOfNow_32 : decode cX6_hopsOfNow 32 = .ok (.getfield 105, 3) := by decide +kernel
theorem dX6_hopsOfNow_35 : decode cX6_hopsOfNow 35 = .ok (.ifCond .ne 20, 3) := by decide +kernel
theorem dX6_hopsOfNow_38 : decode cX6_hopsOfNow 38 = .ok (.aload_n 0, 1) := by decide +kernel
theorem dX6_hopsOfNow_39 : decode cX6_hopsOfNow 39 = .ok (.getfield 39, 3) := by decide +kernel
theorem dX6_hopsOfNow_42 : decode cX6_hopsOfNow 42 = .ok (.getfield 236, 3) := by decide +kernel
theorem dX6_hopsOfNow_45 : decode cX6_hopsOfNow 45 = .ok (.aload_n 0, 1) := by decide +kernel
theorem dX6_hopsOfNow_46 : decode cX6_hopsOfNow 46 = .ok (.getfield 39, 3) := by decide +kernel
theorem dX6_hopsOfNow_49 : decode cX6_hopsOfNow 49 = .ok (.getfield 204, 3) := by decide +kernel
theorem dX6_hopsOfNow_52 : decode cX6_hopsOfNow 52 = .ok (.invokevirtual 240, 3) := by decide +kernel
theorem dX6_hopsOfNow_55 : decode cX6_hopsOfNow 55 = .ok (.aload_n 0, 1) := by decide +kernel
theorem dX6_hopsOfNow_56 : decode cX6_hopsOfNow 56 = .ok (.getfield 39, 3) := by decide +kernel
theorem dX6_hopsOfNow_59 : decode cX6_hopsOfNow 59 = .ok (.getfield 236, 3) := by decide +kernel
theorem dX6_hopsOfNow_62 : decode cX6_hopsOfNow 62 = .ok (.areturn, 1) := by decide +kernel
theorem dX6_isOneTooMany_0 : decode cX6_isOneTooMany 0 = .ok (.iload_n 1, 1) := by decide +kernel
theorem dX6_isOneTooMany_1 : decode cX6_isOneTooMany 1 = .ok (.bipush (-6), 2) := by decide +kernel
theorem dX6_isOneTooMany_3 : decode cX6_isOneTooMany 3 = .ok (.if_icmp .eq 14, 3) := by decide +kernel
theorem dX6_isOneTooMany_6 : decode cX6_isOneTooMany 6 = .ok (.iload_n 1, 1) := by decide +kernel
theorem dX6_isOneTooMany_7 : decode cX6_isOneTooMany 7 = .ok (.invokestatic 243, 3) := by decide +kernel
theorem dX6_isOneTooMany_10 : decode cX6_isOneTooMany 10 = .ok (.iload_n 2, 1) := by decide +kernel
theorem dX6_isOneTooMany_11 : decode cX6_isOneTooMany 11 = .ok (.invokestatic 243, 3) := by decide +kernel
theorem dX6_isOneTooMany_14 : decode cX6_isOneTooMany 14 = .ok (.if_icmp .ne 5, 3) := by decide +kernel
theorem dX6_isOneTooMany_17 : decode cX6_isOneTooMany 17 = .ok (.iconst 0, 1) := by decide +kernel
theorem dX6_isOneTooMany_18 : decode cX6_isOneTooMany 18 = .ok (.ireturn, 1) := by decide +kernel
theorem dX6_isOneTooMany_19 : decode cX6_isOneTooMany 19 = .ok (.aload_n 0, 1) := by decide +kernel
theorem dX6_isOneTooMany_20 : decode cX6_isOneTooMany 20 = .ok (.getfield 10, 3) := by decide +kernel
theorem dX6_isOneTooMany_23 : decode cX6_isOneTooMany 23 = .ok (.getfield 55, 3) := by decide +kernel
theorem dX6_isOneTooMany_26 : decode cX6_isOneTooMany 26 = .ok (.iload_n 1, 1) := by decide +kernel
theorem dX6_isOneTooMany_27 : decode cX6_isOneTooMany 27 = .ok (.invokestatic 243, 3) := by decide +kernel
theorem dX6_isOneTooMany_30 : decode cX6_isOneTooMany 30 = .ok (.invokevirtual 59, 3) := by decide +kernel
theorem dX6_isOneTooMany_33 : decode cX6_isOneTooMany 33 = .ok (.bipush 16, 2) := by decide +kernel
theorem dX6_isOneTooMany_35 : decode cX6_isOneTooMany 35 = .ok (.if_icmp .lt 7, 3) := by decide +kernel
theorem dX6_isOneTooMany_38 : decode cX6_isOneTooMany 38 = .ok (.iconst 1, 1) := by decide +kernel
theorem dX6_isOneTooMany_39 : decode cX6_isOneTooMany 39 = .ok (.goto 4, 3) := by decide +kernel
theorem dX6_isOneTooMany_42 : decode cX6_isOneTooMany 42 = .ok (.iconst 0, 1) := by decide +kernel
theorem dX6_isOneTooMany_43 : decode cX6_isOneTooMany 43 = .ok (.ireturn, 1) := by decide +kernel
theorem dX6_isInDanger_0 : decode cX6_isInDanger 0 = .ok (.aload_n 0, 1) := by decide +kernel
theorem dX6_isInDanger_1 : decode cX6_isInDanger 1 = .ok (.getfield 10, 3) := by decide +kernel
theorem dX6_isInDanger_4 : decode cX6_isInDanger 4 = .ok (.getfield 55, 3) := by decide +kernel
theorem dX6_isInDanger_7 : decode cX6_isInDanger 7 = .ok (.iload_n 1, 1) := by decide +kernel
theorem dX6_isInDanger_8 : decode cX6_isInDanger 8 = .ok (.invokevirtual 72, 3) := by decide +kernel
theorem dX6_isInDanger_11 : decode cX6_isInDanger 11 = .ok (.invokestatic 243, 3) := by decide +kernel
theorem dX6_isInDanger_14 : decode cX6_isInDanger 14 = .ok (.istore_n 2, 1) := by decide +kernel
theorem dX6_isInDanger_15 : decode cX6_isInDanger 15 = .ok (.iload_n 2, 1) := by decide +kernel
theorem dX6_isInDanger_16 : decode cX6_isInDanger 16 = .ok (.bipush (-6), 2) := by decide +kernel
theorem dX6_isInDanger_18 : decode cX6_isInDanger 18 = .ok (.if_icmp .ne 5, 3) := by decide +kernel
theorem dX6_isInDanger_21 : decode cX6_isInDanger 21 = .ok (.iconst 0, 1) := by decide +kernel
theorem dX6_isInDanger_22 : decode cX6_isInDanger 22 = .ok (.ireturn, 1) := by decide +kernel
theorem dX6_isInDanger_23 : decode cX6_isInDanger 23 = .ok (.aload_n 0, 1) := by decide +kernel
theorem dX6_isInDanger_24 : decode cX6_isInDanger 24 = .ok (.getfield 39, 3) := by decide +kernel
theorem dX6_isInDanger_27 : decode cX6_isInDanger 27 = .ok (.getfield 236, 3) := by decide +kernel
theorem dX6_isInDanger_30 : decode cX6_isInDanger 30 = .ok (.aload_n 0, 1) := by decide +kernel
theorem dX6_isInDanger_31 : decode cX6_isInDanger 31 = .ok (.getfield 10, 3) := by decide +kernel
theorem dX6_isInDanger_34 : decode cX6_isInDanger 34 = .ok (.getfield 55, 3) := by decide +kernel
theorem dX6_isInDanger_37 : decode cX6_isInDanger 37 = .ok (.iconst 1, 1) := by decide +kernel
theorem dX6_isInDanger_38 : decode cX6_isInDanger 38 = .ok (.iload_n 2, 1) := by decide +kernel
theorem dX6_isInDanger_39 : decode cX6_isInDanger 39 = .ok (.isub, 1) := by decide +kernel
theorem dX6_isInDanger_40 : decode cX6_isInDanger 40 = .ok (.bipush (-6), 2) := by decide +kernel
theorem dX6_isInDanger_42 : decode cX6_isInDanger 42 = .ok (.invokevirtual 246, 3) := by decide +kernel
theorem dX6_isInDanger_45 : decode cX6_isInDanger 45 = .ok (.aload_n 0, 1) := by decide +kernel
theorem dX6_isInDanger_46 : decode cX6_isInDanger 46 = .ok (.getfield 39, 3) := by decide +kernel
theorem dX6_isInDanger_49 : decode cX6_isInDanger 49 = .ok (.getfield 236, 3) := by decide +kernel
theorem dX6_isInDanger_52 : decode cX6_isInDanger 52 = .ok (.iload_n 1, 1) := by decide +kernel
theorem dX6_isInDanger_53 : decode cX6_isInDanger 53 = .ok (.invokevirtual 250, 3) := by decide +kernel
theorem dX6_isInDanger_56 : decode cX6_isInDanger 56 = .ok (.ireturn, 1) := by decide +kernel
theorem dX6_isJumpedOnBehind_0 : decode cX6_isJumpedOnBehind 0 = .ok (.aload_n 0, 1) := by decide +kernel
theorem dX6_isJumpedOnBehind_1 : decode cX6_isJumpedOnBehind 1 = .ok (.getfield 39, 3) := by decide +kernel
theorem dX6_isJumpedOnBehind_4 : decode cX6_isJumpedOnBehind 4 = .ok (.iload_n 1, 1) := by decide +kernel
theorem dX6_isJumpedOnBehind_5 : decode cX6_isJumpedOnBehind 5 = .ok (.invokevirtual 216, 3) := by decide +kernel
theorem dX6_isJumpedOnBehind_8 : decode cX6_isJumpedOnBehind 8 = .ok (.aload_n 0, 1) := by decide +kernel
theorem dX6_isJumpedOnBehind_9 : decode cX6_isJumpedOnBehind 9 = .ok (.getfield 39, 3) := by decide +kernel
theorem dX6_isJumpedOnBehind_12 : decode cX6_isJumpedOnBehind 12 = .ok (.getfield 220, 3) := by decide +kernel
theorem dX6_isJumpedOnBehind_15 : decode cX6_isJumpedOnBehind 15 = .ok (.ifnull 25, 3) := by decide +kernel
theorem dX6_isJumpedOnBehind_18 : decode cX6_isJumpedOnBehind 18 = .ok (.aload_n 0, 1) := by decide +kernel
theorem dX6_isJumpedOnBehind_19 : decode cX6_isJumpedOnBehind 19 = .ok (.getfield 39, 3) := by decide +kernel
theorem dX6_isJumpedOnBehind_22 : decode cX6_isJumpedOnBehind 22 = .ok (.getfield 220, 3) := by decide +kernel
theorem dX6_isJumpedOnBehind_25 : decode cX6_isJumpedOnBehind 25 = .ok (.getfield 204, 3) := by decide +kernel
theorem dX6_isJumpedOnBehind_28 : decode cX6_isJumpedOnBehind 28 = .ok (.getfield 194, 3) := by decide +kernel
theorem dX6_isJumpedOnBehind_31 : decode cX6_isJumpedOnBehind 31 = .ok (.bipush (-6), 2) := by decide +kernel
theorem dX6_isJumpedOnBehind_33 : decode cX6_isJumpedOnBehind 33 = .ok (.if_icmp .eq 7, 3) := by decide +kernel
theorem dX6_isJumpedOnBehind_36 : decode cX6_isJumpedOnBehind 36 = .ok (.iconst 1, 1) := by decide +kernel
theorem dX6_isJumpedOnBehind_37 : decode cX6_isJumpedOnBehind 37 = .ok (.goto 4, 3) := by decide +kernel
theorem dX6_isJumpedOnBehind_40 : decode cX6_isJumpedOnBehind 40 = .ok (.iconst 0, 1) := by decide +kernel
theorem dX6_isJumpedOnBehind_41 : decode cX6_isJumpedOnBehind 41 = .ok (.ireturn, 1) := by decide +kernel
theorem dX6_makeToldHop_0 : decode cX6_makeToldHop 0 = .ok (.aload_n 0, 1) := by decide +kernel
theorem dX6_makeToldHop_1 : decode cX6_makeToldHop 1 = .ok (.invokevirtual 92, 3) := by decide +kernel
theorem dX6_makeToldHop_4 : decode cX6_makeToldHop 4 = .ok (.astore 4, 2) := by decide +kernel
theorem dX6_makeToldHop_6 : decode cX6_makeToldHop 6 = .ok (.aload 4, 2) := by decide +kernel
theorem dX6_makeToldHop_8 : decode cX6_makeToldHop 8 = .ok (.iload_n 1, 1) := by decide +kernel
theorem dX6_makeToldHop_9 : decode cX6_makeToldHop 9 = .ok (.iload_n 2, 1) := by decide +kernel
theorem dX6_makeToldHop_10 : decode cX6_makeToldHop 10 = .ok (.invokevirtual 108, 3) := by decide +kernel
theorem dX6_makeToldHop_13 : decode cX6_makeToldHop 13 = .ok (.istore 5, 2) := by decide +kernel
theorem dX6_makeToldHop_15 : decode cX6_makeToldHop 15 = .ok (.iload 5, 2) := by decide +kernel
theorem dX6_makeToldHop_17 : decode cX6_makeToldHop 17 = .ok (.bipush (-6), 2) := by decide +kernel
theorem dX6_makeToldHop_19 : decode cX6_makeToldHop 19 = .ok (.if_icmp .eq 24, 3) := by decide +kernel
theorem dX6_makeToldHop_22 : decode cX6_makeToldHop 22 = .ok (.aload 4, 2) := by decide +kernel
theorem dX6_makeToldHop_24 : decode cX6_makeToldHop 24 = .ok (.iload 5, 2) := by decide +kernel
theorem dX6_makeToldHop_26 : decode cX6_makeToldHop 26 = .ok (.invokevirtual 162, 3) := by decide +kernel
theorem dX6_makeToldHop_29 : decode cX6_makeToldHop 29 = .ok (.bipush (-6), 2) := by decide +kernel
theorem dX6_makeToldHop_31 : decode cX6_makeToldHop 31 = .ok (.if_icmp .eq 7, 3) := by decide +kernel
theorem dX6_makeToldHop_34 : decode cX6_makeToldHop 34 = .ok (.iconst 1, 1) := by decide +kernel
theorem dX6_makeToldHop_35 : decode cX6_makeToldHop 35 = .ok (.goto 4, 3) := by decide +kernel
theorem dX6_makeToldHop_38 : decode cX6_makeToldHop 38 = .ok (.iconst 0, 1) := by decide +kernel
theorem dX6_makeToldHop_39 : decode cX6_makeToldHop 39 = .ok (.iload_n 3, 1) := by decide +kernel
theorem dX6_makeToldHop_40 : decode cX6_makeToldHop 40 = .ok (.if_icmp .eq 5, 3) := by decide +kernel
theorem dX6_makeToldHop_43 : decode cX6_makeToldHop 43 = .ok (.iconst 0, 1) := by decide +kernel
theorem dX6_makeToldHop_44 : decode cX6_makeToldHop 44 = .ok (.ireturn, 1) := by decide +kernel
theorem dX6_makeToldHop_45 : decode cX6_makeToldHop 45 = .ok (.aload_n 0, 1) := by decide +kernel
theorem dX6_makeToldHop_46 : decode cX6_makeToldHop 46 = .ok (.getfield 10, 3) := by decide +kernel
theorem dX6_makeToldHop_49 : decode cX6_makeToldHop 49 = .ok (.aload 4, 2) := by decide +kernel
theorem dX6_makeToldHop_51 : decode cX6_makeToldHop 51 = .ok (.iload 5, 2) := by decide +kernel
theorem dX6_makeToldHop_53 : decode cX6_makeToldHop 53 = .ok (.iconst 0, 1) := by decide +kernel
theorem dX6_makeToldHop_54 : decode cX6_makeToldHop 54 = .ok (.invokevirtual 101, 3) := by decide +kernel
theorem dX6_makeToldHop_57 : decode cX6_makeToldHop 57 = .ok (.iconst 1, 1) := by decide +kernel
theorem dX6_makeToldHop_58 : decode cX6_makeToldHop 58 = .ok (.ireturn, 1) := by decide +kernel
theorem dX6_numberOfRows_0 : decode cX6_numberOfRows 0 = .ok (.aload_n 0, 1) := by decide +kernel
theorem dX6_numberOfRows_1 : decode cX6_numberOfRows 1 = .ok (.ifnonnull 5, 3) := by decide +kernel
theorem dX6_numberOfRows_4 : decode cX6_numberOfRows 4 = .ok (.iconst 0, 1) := by decide +kernel
theorem dX6_numberOfRows_5 : decode cX6_numberOfRows 5 = .ok (.ireturn, 1) := by decide +kernel
theorem dX6_numberOfRows_6 : decode cX6_numberOfRows 6 = .ok (.aload_n 0, 1) := by decide +kernel
theorem dX6_numberOfRows_7 : decode cX6_numberOfRows 7 = .ok (.getfield 236, 3) := by decide +kernel
theorem dX6_numberOfRows_10 : decode cX6_numberOfRows 10 = .ok (.aload_n 0, 1) := by decide +kernel
theorem dX6_numberOfRows_11 : decode cX6_numberOfRows 11 = .ok (.getfield 204, 3) := by decide +kernel
theorem dX6_numberOfRows_14 : decode cX6_numberOfRows 14 = .ok (.invokevirtual 240, 3) := by decide +kernel
theorem dX6_numberOfRows_17 : decode cX6_numberOfRows 17 = .ok (.iload_n 1, 1) := by decide +kernel
theorem dX6_numberOfRows_18 : decode cX6_numberOfRows 18 = .ok (.iconst 1, 1) := by decide +kernel
theorem dX6_numberOfRows_19 : decode cX6_numberOfRows 19 = .ok (.if_icmp .gt 15, 3) := by decide +kernel
theorem dX6_numberOfRows_22 : decode cX6_numberOfRows 22 = .ok (.aload_n 0, 1) := by decide +kernel
theorem dX6_numberOfRows_23 : decode cX6_numberOfRows 23 = .ok (.getfield 236, 3) := by decide +kernel
theorem dX6_numberOfRows_26 : decode cX6_numberOfRows 26 = .ok (.getfield 188, 3) := by decide +kernel
theorem dX6_numberOfRows_29 : decode cX6_numberOfRows 29 = .ok (.iload_n 2, 1) := by decide +kernel
theorem dX6_numberOfRows_30 : decode cX6_numberOfRows 30 = .ok (.invokestatic 253, 3) := by decide +kernel
theorem dX6_numberOfRows_33 : decode cX6_numberOfRows 33 = .ok (.ireturn, 1) := by decide +kernel
theorem dX6_numberOfRows_34 : decode cX6_numberOfRows 34 = .ok (.iconst 0, 1) := by decide +kernel
theorem dX6_numberOfRows_35 : decode cX6_numberOfRows 35 = .ok (.istore_n 3, 1) := by decide +kernel
theorem dX6_numberOfRows_36 : decode cX6_numberOfRows 36 = .ok (.iconst 0, 1) := by decide +kernel
theorem dX6_numberOfRows_37 : decode cX6_numberOfRows 37 = .ok (.istore 4, 2) := by decide +kernel
theorem dX6_numberOfRows_39 : decode cX6_numberOfRows 39 = .ok (.iload 4, 2) := by decide +kernel
theorem dX6_numberOfRows_41 : decode cX6_numberOfRows 41 = .ok (.aload_n 0, 1) := by decide +kernel
theorem dX6_numberOfRows_42 : decode cX6_numberOfRows 42 = .ok (.getfield 236, 3) := by decide +kernel
theorem dX6_numberOfRows_45 : decode cX6_numberOfRows 45 = .ok (.getfield 188, 3) := by decide +kernel
theorem dX6_numberOfRows_48 : decode cX6_numberOfRows 48 = .ok (.if_icmp .ge 36, 3) := by decide +kernel
theorem dX6_numberOfRows_51 : decode cX6_numberOfRows 51 = .ok (.iload_n 3, 1) := by decide +kernel
theorem dX6_numberOfRows_52 : decode cX6_numberOfRows 52 = .ok (.iload_n 2, 1) := by decide +kernel
theorem dX6_numberOfRows_53 : decode cX6_numberOfRows 53 = .ok (.if_icmp .ge 31, 3) := by decide +kernel
theorem dX6_numberOfRows_56 : decode cX6_numberOfRows 56 = .ok (.aload_n 0, 1) := by decide +kernel
theorem dX6_numberOfRows_57 : decode cX6_numberOfRows 57 = .ok (.iload 4, 2) := by decide +kernel
theorem dX6_numberOfRows_59 : decode cX6_numberOfRows 59 = .ok (.invokevirtual 216, 3) := by decide +kernel
theorem dX6_numberOfRows_62 : decode cX6_numberOfRows 62 = .ok (.iload_n 3, 1) := by decide +kernel
theorem dX6_numberOfRows_63 : decode cX6_numberOfRows 63 = .ok (.aload_n 0, 1) := by decide +kernel
theorem dX6_numberOfRows_64 : decode cX6_numberOfRows 64 = .ok (.getfield 220, 3) := by decide +kernel
theorem dX6_numberOfRows_67 : decode cX6_numberOfRows 67 = .ok (.iload_n 1, 1) := by decide +kernel
theorem dX6_numberOfRows_68 : decode cX6_numberOfRows 68 = .ok (.iconst 1, 1) := by decide +kernel
theorem dX6_numberOfRows_69 : decode cX6_numberOfRows 69 = .ok (.isub, 1) := by decide +kernel
theorem dX6_numberOfRows_70 : decode cX6_numberOfRows 70 = .ok (.iload_n 2, 1) := by decide +kernel
theorem dX6_numberOfRows_71 : decode cX6_numberOfRows 71 = .ok (.iload_n 3, 1) := by decide +kernel
theorem dX6_numberOfRows_72 : decode cX6_numberOfRows 72 = .ok (.isub, 1) := by decide +kernel
theorem dX6_numberOfRows_73 : decode cX6_numberOfRows 73 = .ok (.invokestatic 209, 3) := by decide +kernel
theorem dX6_numberOfRows_76 : decode cX6_numberOfRows 76 = .ok (.iadd, 1) := by decide +kernel
theorem dX6_numberOfRows_77 : decode cX6_numberOfRows 77 = .ok (.istore_n 3, 1) := by decide +kernel
theorem dX6_numberOfRows_78 : decode cX6_numberOfRows 78 = .ok (.iinc 4 1, 3) := by decide +kernel
theorem dX6_numberOfRows_81 : decode cX6_numberOfRows 81 = .ok (.goto (-42), 3) := by decide +kernel
theorem dX6_numberOfRows_84 : decode cX6_numberOfRows 84 = .ok (.iload_n 3, 1) := by decide +kernel
theorem dX6_numberOfRows_85 : decode cX6_numberOfRows 85 = .ok (.ireturn, 1) := by decide +kernel
theorem dX6_worthBehind_0 : decode cX6_worthBehind 0 = .ok (.aload_n 0, 1) := by decide +kernel
theorem dX6_worthBehind_1 : decode cX6_worthBehind 1 = .ok (.ifnonnull 5, 3) := by decide +kernel
theorem dX6_worthBehind_4 : decode cX6_worthBehind 4 = .ok (.iconst 0, 1) := by decide +kernel
theorem dX6_worthBehind_5 : decode cX6_worthBehind 5 = .ok (.ireturn, 1) := by decide +kernel
theorem dX6_worthBehind_6 : decode cX6_worthBehind 6 = .ok (.aload_n 0, 1) := by decide +kernel
theorem dX6_worthBehind_7 : decode cX6_worthBehind 7 = .ok (.getfield 204, 3) := by decide +kernel
theorem dX6_worthBehind_10 : decode cX6_worthBehind 10 = .ok (.astore_n 3, 1) := by decide +kernel
theorem dX6_worthBehind_11 : decode cX6_worthBehind 11 = .ok (.aload_n 3, 1) := by decide +kernel
theorem dX6_worthBehind_12 : decode cX6_worthBehind 12 = .ok (.iload_n 2, 1) := by decide +kernel
theorem dX6_worthBehind_13 : decode cX6_worthBehind 13 = .ok (.invokevirtual 185, 3) := by decide +kernel
theorem dX6_worthBehind_16 : decode cX6_worthBehind 16 = .ok (.aload_n 3, 1) := by decide +kernel
theorem dX6_worthBehind_17 : decode cX6_worthBehind 17 = .ok (.iconst 1, 1) := by decide +kernel
theorem dX6_worthBehind_18 : decode cX6_worthBehind 18 = .ok (.iload_n 2, 1) := by decide +kernel
theorem dX6_worthBehind_19 : decode cX6_worthBehind 19 = .ok (.isub, 1) := by decide +kernel
theorem dX6_worthBehind_20 : decode cX6_worthBehind 20 = .ok (.invokevirtual 185, 3) := by decide +kernel
theorem dX6_worthBehind_23 : decode cX6_worthBehind 23 = .ok (.isub, 1) := by decide +kernel
theorem dX6_worthBehind_24 : decode cX6_worthBehind 24 = .ok (.istore 4, 2) := by decide +kernel
theorem dX6_worthBehind_26 : decode cX6_worthBehind 26 = .ok (.iload_n 1, 1) := by decide +kernel
theorem dX6_worthBehind_27 : decode cX6_worthBehind 27 = .ok (.ifCond .gt 6, 3) := by decide +kernel
theorem dX6_worthBehind_30 : decode cX6_worthBehind 30 = .ok (.iload 4, 2) := by decide +kernel
theorem dX6_worthBehind_32 : decode cX6_worthBehind 32 = .ok (.ireturn, 1) := by decide +kernel
theorem dX6_worthBehind_33 : decode cX6_worthBehind 33 = .ok (.aload_n 3, 1) := by decide +kernel
theorem dX6_worthBehind_34 : decode cX6_worthBehind 34 = .ok (.getfield 89, 3) := by decide +kernel
theorem dX6_worthBehind_37 : decode cX6_worthBehind 37 = .ok (.iload_n 2, 1) := by decide +kernel
theorem dX6_worthBehind_38 : decode cX6_worthBehind 38 = .ok (.if_icmp .ne 7, 3) := by decide +kernel
theorem dX6_worthBehind_41 : decode cX6_worthBehind 41 = .ok (.iconst 1, 1) := by decide +kernel
theorem dX6_worthBehind_42 : decode cX6_worthBehind 42 = .ok (.goto 4, 3) := by decide +kernel
theorem dX6_worthBehind_45 : decode cX6_worthBehind 45 = .ok (.iconst 0, 1) := by decide +kernel
theorem dX6_worthBehind_46 : decode cX6_worthBehind 46 = .ok (.istore 5, 2) := by decide +kernel
theorem dX6_worthBehind_48 : decode cX6_worthBehind 48 = .ok (.aload_n 0, 1) := by decide +kernel
theorem dX6_worthBehind_49 : decode cX6_worthBehind 49 = .ok (.getfield 236, 3) := by decide +kernel
theorem dX6_worthBehind_52 : decode cX6_worthBehind 52 = .ok (.aload_n 3, 1) := by decide +kernel
theorem dX6_worthBehind_53 : decode cX6_worthBehind 53 = .ok (.invokevirtual 240, 3) := by decide +kernel
theorem dX6_worthBehind_56 : decode cX6_worthBehind 56 = .ok (.aload_n 0, 1) := by decide +kernel
theorem dX6_worthBehind_57 : decode cX6_worthBehind 57 = .ok (.getfield 236, 3) := by decide +kernel
theorem dX6_worthBehind_60 : decode cX6_worthBehind 60 = .ok (.getfield 188, 3) := by decide +kernel
theorem dX6_worthBehind_63 : decode cX6_worthBehind 63 = .ok (.ifCond .ne 22, 3) := by decide +kernel
theorem dX6_worthBehind_66 : decode cX6_worthBehind 66 = .ok (.iload 5, 2) := by decide +kernel
theorem dX6_worthBehind_68 : decode cX6_worthBehind 68 = .ok (.ifCond .eq 11, 3) := by decide +kernel
theorem dX6_worthBehind_71 : decode cX6_worthBehind 71 = .ok (.iload 4, 2) := by decide +kernel
theorem dX6_worthBehind_73 : decode cX6_worthBehind 73 = .ok (.bipush 100, 2) := by decide +kernel
theorem dX6_worthBehind_75 : decode cX6_worthBehind 75 = .ok (.isub, 1) := by decide +kernel
theorem dX6_worthBehind_76 : decode cX6_worthBehind 76 = .ok (.goto 8, 3) := by decide +kernel
theorem dX6_worthBehind_79 : decode cX6_worthBehind 79 = .ok (.iload 4, 2) := by decide +kernel
theorem dX6_worthBehind_81 : decode cX6_worthBehind 81 = .ok (.bipush 100, 2) := by decide +kernel
theorem dX6_worthBehind_83 : decode cX6_worthBehind 83 = .ok (.iadd, 1) := by decide +kernel
theorem dX6_worthBehind_84 : decode cX6_worthBehind 84 = .ok (.ireturn, 1) := by decide +kernel
theorem dX6_worthBehind_85 : decode cX6_worthBehind 85 = .ok (.iconst 0, 1) := by decide +kernel
theorem dX6_worthBehind_86 : decode cX6_worthBehind 86 = .ok (.istore 6, 2) := by decide +kernel
theorem dX6_worthBehind_88 : decode cX6_worthBehind 88 = .ok (.iconst 0, 1) := by decide +kernel
theorem dX6_worthBehind_89 : decode cX6_worthBehind 89 = .ok (.istore 7, 2) := by decide +kernel
theorem dX6_worthBehind_91 : decode cX6_worthBehind 91 = .ok (.iload 7, 2) := by decide +kernel
theorem dX6_worthBehind_93 : decode cX6_worthBehind 93 = .ok (.aload_n 0, 1) := by decide +kernel
theorem dX6_worthBehind_94 : decode cX6_worthBehind 94 = .ok (.getfield 236, 3) := by decide +kernel
theorem dX6_worthBehind_97 : decode cX6_worthBehind 97 = .ok (.getfield 188, 3) := by decide +kernel
theorem dX6_worthBehind_100 : decode cX6_worthBehind 100 = .ok (.if_icmp .ge 59, 3) := by decide +kernel
theorem dX6_worthBehind_103 : decode cX6_worthBehind 103 = .ok (.aload_n 0, 1) := by decide +kernel
theorem dX6_worthBehind_104 : decode cX6_worthBehind 104 = .ok (.iload 7, 2) := by decide +kernel
theorem dX6_worthBehind_106 : decode cX6_worthBehind 106 = .ok (.invokevirtual 216, 3) := by decide +kernel
theorem dX6_worthBehind_109 : decode cX6_worthBehind 109 = .ok (.aload_n 0, 1) := by decide +kernel
theorem dX6_worthBehind_110 : decode cX6_worthBehind 110 = .ok (.getfield 220, 3) := by decide +kernel
theorem dX6_worthBehind_113 : decode cX6_worthBehind 113 = .ok (.iload_n 1, 1) := by decide +kernel
theorem dX6_worthBehind_114 : decode cX6_worthBehind 114 = .ok (.iconst 1, 1) := by decide +kernel
theorem dX6_worthBehind_115 : decode cX6_worthBehind 115 = .ok (.isub, 1) := by decide +kernel
theorem dX6_worthBehind_116 : decode cX6_worthBehind 116 = .ok (.iload_n 2, 1) := by decide +kernel
theorem dX6_worthBehind_117 : decode cX6_worthBehind 117 = .ok (.invokestatic 213, 3) := by decide +kernel
theorem dX6_worthBehind_120 : decode cX6_worthBehind 120 = .ok (.istore 8, 2) := by decide +kernel
theorem dX6_worthBehind_122 : decode cX6_worthBehind 122 = .ok (.iload 7, 2) := by decide +kernel
theorem dX6_worthBehind_124 : decode cX6_worthBehind 124 = .ok (.ifCond .eq 25, 3) := by decide +kernel
theorem dX6_worthBehind_127 : decode cX6_worthBehind 127 = .ok (.iload 5, 2) := by decide +kernel
theorem dX6_worthBehind_129 : decode cX6_worthBehind 129 = .ok (.ifCond .eq 13, 3) := by decide +kernel
theorem dX6_worthBehind_132 : decode cX6_worthBehind 132 = .ok (.iload 8, 2) := by decide +kernel
theorem dX6_worthBehind_134 : decode cX6_worthBehind 134 = .ok (.iload 6, 2) := by decide +kernel
theorem dX6_worthBehind_136 : decode cX6_worthBehind 136 = .ok (.if_icmp .le 17, 3) := by decide +kernel
theorem dX6_worthBehind_139 : decode cX6_worthBehind 139 = .ok (.goto 10, 3) := by decide +kernel
theorem dX6_worthBehind_142 : decode cX6_worthBehind 142 = .ok (.iload 8, 2) := by decide +kernel
theorem dX6_worthBehind_144 : decode cX6_worthBehind 144 = .ok (.iload 6, 2) := by decide +kernel
theorem dX6_worthBehind_146 : decode cX6_worthBehind 146 = .ok (.if_icmp .ge 7, 3) := by decide +kernel
theorem dX6_worthBehind_149 : decode cX6_worthBehind 149 = .ok (.iload 8, 2) := by decide +kernel
theorem dX6_worthBehind_151 : decode cX6_worthBehind 151 = .ok (.istore 6, 2) := by decide +kernel
theorem dX6_worthBehind_153 : decode cX6_worthBehind 153 = .ok (.iinc 7 1, 3) := by decide +kernel
theorem dX6_worthBehind_156 : decode cX6_worthBehind 156 = .ok (.goto (-65), 3) := by decide +kernel
theorem dX6_worthBehind_159 : decode cX6_worthBehind 159 = .ok (.iload 6, 2) := by decide +kernel
theorem dX6_worthBehind_161 : decode cX6_worthBehind 161 = .ok (.ireturn, 1) := by decide +kernel
theorem dX6_isSquare_0 : decode cX6_isSquare 0 = .ok (.iload_n 0, 1) := by decide +kernel
theorem dX6_isSquare_1 : decode cX6_isSquare 1 = .ok (.ifCond .lt 13, 3) := by decide +kernel
theorem dX6_isSquare_4 : decode cX6_isSquare 4 = .ok (.iload_n 0, 1) := by decide +kernel
theorem dX6_isSquare_5 : decode cX6_isSquare 5 = .ok (.bipush 48, 2) := by decide +kernel
theorem dX6_isSquare_7 : decode cX6_isSquare 7 = .ok (.if_icmp .ge 7, 3) := by decide +kernel
theorem dX6_isSquare_10 : decode cX6_isSquare 10 = .ok (.iconst 1, 1) := by decide +kernel
theorem dX6_isSquare_11 : decode cX6_isSquare 11 = .ok (.goto 4, 3) := by decide +kernel
theorem dX6_isSquare_14 : decode cX6_isSquare 14 = .ok (.iconst 0, 1) := by decide +kernel
theorem dX6_isSquare_15 : decode cX6_isSquare 15 = .ok (.ireturn, 1) := by decide +kernel
theorem dX6_isSide_0 : decode cX6_isSide 0 = .ok (.iload_n 0, 1) := by decide +kernel
theorem dX6_isSide_1 : decode cX6_isSide 1 = .ok (.ifCond .eq 8, 3) := by decide +kernel
theorem dX6_isSide_4 : decode cX6_isSide 4 = .ok (.iload_n 0, 1) := by decide +kernel
theorem dX6_isSide_5 : decode cX6_isSide 5 = .ok (.iconst 1, 1) := by decide +kernel
theorem dX6_isSide_6 : decode cX6_isSide 6 = .ok (.if_icmp .ne 7, 3) := by decide +kernel
theorem dX6_isSide_9 : decode cX6_isSide 9 = .ok (.iconst 1, 1) := by decide +kernel
theorem dX6_isSide_10 : decode cX6_isSide 10 = .ok (.goto 4, 3) := by decide +kernel
theorem dX6_isSide_13 : decode cX6_isSide 13 = .ok (.iconst 0, 1) := by decide +kernel
theorem dX6_isSide_14 : decode cX6_isSide 14 = .ok (.ireturn, 1) := by decide +kernel
theorem dX6_isPiece_0 : decode cX6_isPiece 0 = .ok (.iload_n 0, 1) := by decide +kernel
theorem dX6_isPiece_1 : decode cX6_isPiece 1 = .ok (.ifCond .lt 12, 3) := by decide +kernel
theorem dX6_isPiece_4 : decode cX6_isPiece 4 = .ok (.iload_n 0, 1) := by decide +kernel
theorem dX6_isPiece_5 : decode cX6_isPiece 5 = .ok (.iconst 4, 1) := by decide +kernel
theorem dX6_isPiece_6 : decode cX6_isPiece 6 = .ok (.if_icmp .ge 7, 3) := by decide +kernel
theorem dX6_isPiece_9 : decode cX6_isPiece 9 = .ok (.iconst 1, 1) := by decide +kernel
theorem dX6_isPiece_10 : decode cX6_isPiece 10 = .ok (.goto 4, 3) := by decide +kernel
theorem dX6_isPiece_13 : decode cX6_isPiece 13 = .ok (.iconst 0, 1) := by decide +kernel
theorem dX6_isPiece_14 : decode cX6_isPiece 14 = .ok (.ireturn, 1) := by decide +kernel
theorem dX6_isKing_0 : decode cX6_isKing 0 = .ok (.iload_n 0, 1) := by decide +kernel
theorem dX6_isKing_1 : decode cX6_isKing 1 = .ok (.iconst 1, 1) := by decide +kernel
theorem dX6_isKing_2 : decode cX6_isKing 2 = .ok (.if_icmp .eq 8, 3) := by decide +kernel
theorem dX6_isKing_5 : decode cX6_isKing 5 = .ok (.iload_n 0, 1) := by decide +kernel
theorem dX6_isKing_6 : decode cX6_isKing 6 = .ok (.iconst 3, 1) := by decide +kernel
theorem dX6_isKing_7 : decode cX6_isKing 7 = .ok (.if_icmp .ne 7, 3) := by decide +kernel
theorem dX6_isKing_10 : decode cX6_isKing 10 = .ok (.iconst 1, 1) := by decide +kernel
theorem dX6_isKing_11 : decode cX6_isKing 11 = .ok (.goto 4, 3) := by decide +kernel
theorem dX6_isKing_14 : decode cX6_isKing 14 = .ok (.iconst 0, 1) := by decide +kernel
theorem dX6_isKing_15 : decode cX6_isKing 15 = .ok (.ireturn, 1) := by decide +kernel
theorem dX6_sideOf_0 : decode cX6_sideOf 0 = .ok (.iload_n 0, 1) := by decide +kernel
theorem dX6_sideOf_1 : decode cX6_sideOf 1 = .ok (.ifCond .eq 8, 3) := by decide +kernel
theorem dX6_sideOf_4 : decode cX6_sideOf 4 = .ok (.iload_n 0, 1) := by decide +kernel
theorem dX6_sideOf_5 : decode cX6_sideOf 5 = .ok (.iconst 1, 1) := by decide +kernel
theorem dX6_sideOf_6 : decode cX6_sideOf 6 = .ok (.if_icmp .ne 5, 3) := by decide +kernel
theorem dX6_sideOf_9 : decode cX6_sideOf 9 = .ok (.iconst 0, 1) := by decide +kernel
theorem dX6_sideOf_10 : decode cX6_sideOf 10 = .ok (.ireturn, 1) := by decide +kernel
theorem dX6_sideOf_11 : decode cX6_sideOf 11 = .ok (.iload_n 0, 1) := by decide +kernel
theorem dX6_sideOf_12 : decode cX6_sideOf 12 = .ok (.iconst 2, 1) := by decide +kernel
theorem dX6_sideOf_13 : decode cX6_sideOf 13 = .ok (.if_icmp .eq 8, 3) := by decide +kernel
theorem dX6_sideOf_16 : decode cX6_sideOf 16 = .ok (.iload_n 0, 1) := by decide +kernel
theorem dX6_sideOf_17 : decode cX6_sideOf 17 = .ok (.iconst 3, 1) := by decide +kernel
theorem dX6_sideOf_18 : decode cX6_sideOf 18 = .ok (.if_icmp .ne 7, 3) := by decide +kernel
theorem dX6_sideOf_21 : decode cX6_sideOf 21 = .ok (.iconst 1, 1) := by decide +kernel
theorem dX6_sideOf_22 : decode cX6_sideOf 22 = .ok (.goto 5, 3) := by decide +kernel
theorem dX6_sideOf_25 : decode cX6_sideOf 25 = .ok (.bipush (-6), 2) := by decide +kernel
theorem dX6_sideOf_27 : decode cX6_sideOf 27 = .ok (.ireturn, 1) := by decide +kernel
theorem dX6_kingOf_0 : decode cX6_kingOf 0 = .ok (.iload_n 0, 1) := by decide +kernel
theorem dX6_kingOf_1 : decode cX6_kingOf 1 = .ok (.ifCond .ne 7, 3) := by decide +kernel
theorem dX6_kingOf_4 : decode cX6_kingOf 4 = .ok (.iconst 1, 1) := by decide +kernel
theorem dX6_kingOf_5 : decode cX6_kingOf 5 = .ok (.goto 4, 3) := by decide +kernel
theorem dX6_kingOf_8 : decode cX6_kingOf 8 = .ok (.iconst 3, 1) := by decide +kernel
theorem dX6_kingOf_9 : decode cX6_kingOf 9 = .ok (.ireturn, 1) := by decide +kernel
theorem dX6_rowOf_0 : decode cX6_rowOf 0 = .ok (.iload_n 0, 1) := by decide +kernel
theorem dX6_rowOf_1 : decode cX6_rowOf 1 = .ok (.bipush 6, 2) := by decide +kernel
theorem dX6_rowOf_3 : decode cX6_rowOf 3 = .ok (.idiv, 1) := by decide +kernel
theorem dX6_rowOf_4 : decode cX6_rowOf 4 = .ok (.ireturn, 1) := by decide +kernel
theorem dX6_columnOf_0 : decode cX6_columnOf 0 = .ok (.iload_n 0, 1) := by decide +kernel
theorem dX6_columnOf_1 : decode cX6_columnOf 1 = .ok (.bipush 6, 2) := by decide +kernel
theorem dX6_columnOf_3 : decode cX6_columnOf 3 = .ok (.irem, 1) := by decide +kernel
theorem dX6_columnOf_4 : decode cX6_columnOf 4 = .ok (.iconst 2, 1) := by decide +kernel
theorem dX6_columnOf_5 : decode cX6_columnOf 5 = .ok (.imul, 1) := by decide +kernel
theorem dX6_columnOf_6 : decode cX6_columnOf 6 = .ok (.iload_n 0, 1) := by decide +kernel
theorem dX6_columnOf_7 : decode cX6_columnOf 7 = .ok (.bipush 6, 2) := by decide +kernel
theorem dX6_columnOf_9 : decode cX6_columnOf 9 = .ok (.idiv, 1) := by decide +kernel
theorem dX6_columnOf_10 : decode cX6_columnOf 10 = .ok (.iconst 2, 1) := by decide +kernel
theorem dX6_columnOf_11 : decode cX6_columnOf 11 = .ok (.irem, 1) := by decide +kernel
theorem dX6_columnOf_12 : decode cX6_columnOf 12 = .ok (.iadd, 1) := by decide +kernel
theorem dX6_columnOf_13 : decode cX6_columnOf 13 = .ok (.ireturn, 1) := by decide +kernel
theorem dX6_squareAfter_0 : decode cX6_squareAfter 0 = .ok (.iload_n 0, 1) := by decide +kernel
theorem dX6_squareAfter_1 : decode cX6_squareAfter 1 = .ok (.invokestatic 133, 3) := by decide +kernel
theorem dX6_squareAfter_4 : decode cX6_squareAfter 4 = .ok (.iload_n 1, 1) := by decide +kernel
theorem dX6_squareAfter_5 : decode cX6_squareAfter 5 = .ok (.iconst 2, 1) := by decide +kernel
theorem dX6_squareAfter_6 : decode cX6_squareAfter 6 = .ok (.if_icmp .ge 7, 3) := by decide +kernel
theorem dX6_squareAfter_9 : decode cX6_squareAfter 9 = .ok (.iload_n 2, 1) := by decide +kernel
theorem dX6_squareAfter_10 : decode cX6_squareAfter 10 = .ok (.goto 5, 3) := by decide +kernel
theorem dX6_squareAfter_13 : decode cX6_squareAfter 13 = .ok (.iload_n 2, 1) := by decide +kernel
theorem dX6_squareAfter_14 : decode cX6_squareAfter 14 = .ok (.ineg, 1) := by decide +kernel
theorem dX6_squareAfter_15 : decode cX6_squareAfter 15 = .ok (.iadd, 1) := by decide +kernel
theorem dX6_squareAfter_16 : decode cX6_squareAfter 16 = .ok (.istore_n 3, 1) := by decide +kernel
theorem dX6_squareAfter_17 : decode cX6_squareAfter 17 = .ok (.iload_n 0, 1) := by decide +kernel
theorem dX6_squareAfter_18 : decode cX6_squareAfter 18 = .ok (.invokestatic 130, 3) := by decide +kernel
theorem dX6_squareAfter_21 : decode cX6_squareAfter 21 = .ok (.iload_n 1, 1) := by decide +kernel
theorem dX6_squareAfter_22 : decode cX6_squareAfter 22 = .ok (.iconst 2, 1) := by decide +kernel
theorem dX6_squareAfter_23 : decode cX6_squareAfter 23 = .ok (.irem, 1) := by decide +kernel
theorem dX6_squareAfter_24 : decode cX6_squareAfter 24 = .ok (.ifCond .ne 7, 3) := by decide +kernel
theorem dX6_squareAfter_27 : decode cX6_squareAfter 27 = .ok (.iload_n 2, 1) := by decide +kernel
theorem dX6_squareAfter_28 : decode cX6_squareAfter 28 = .ok (.goto 5, 3) := by decide +kernel
theorem dX6_squareAfter_31 : decode cX6_squareAfter 31 = .ok (.iload_n 2, 1) := by decide +kernel
theorem dX6_squareAfter_32 : decode cX6_squareAfter 32 = .ok (.ineg, 1) := by decide +kernel
theorem dX6_squareAfter_33 : decode cX6_squareAfter 33 = .ok (.iadd, 1) := by decide +kernel
theorem dX6_squareAfter_34 : decode cX6_squareAfter 34 = .ok (.istore 4, 2) := by decide +kernel
theorem dX6_squareAfter_36 : decode cX6_squareAfter 36 = .ok (.iload_n 3, 1) := by decide +kernel
theorem dX6_squareAfter_37 : decode cX6_squareAfter 37 = .ok (.bipush 8, 2) := by decide +kernel
theorem dX6_squareAfter_39 : decode cX6_squareAfter 39 = .ok (.invokestatic 258, 3) := by decide +kernel
theorem dX6_squareAfter_42 : decode cX6_squareAfter 42 = .ok (.bipush 6, 2) := by decide +kernel
theorem dX6_squareAfter_44 : decode cX6_squareAfter 44 = .ok (.imul, 1) := by decide +kernel
theorem dX6_squareAfter_45 : decode cX6_squareAfter 45 = .ok (.iload 4, 2) := by decide +kernel
theorem dX6_squareAfter_47 : decode cX6_squareAfter 47 = .ok (.bipush 12, 2) := by decide +kernel
theorem dX6_squareAfter_49 : decode cX6_squareAfter 49 = .ok (.invokestatic 258, 3) := by decide +kernel
theorem dX6_squareAfter_52 : decode cX6_squareAfter 52 = .ok (.iconst 2, 1) := by decide +kernel
theorem dX6_squareAfter_53 : decode cX6_squareAfter 53 = .ok (.idiv, 1) := by decide +kernel
theorem dX6_squareAfter_54 : decode cX6_squareAfter 54 = .ok (.iadd, 1) := by decide +kernel
theorem dX6_squareAfter_55 : decode cX6_squareAfter 55 = .ok (.ireturn, 1) := by decide +kernel
theorem dX6_mayGo_0 : decode cX6_mayGo 0 = .ok (.iload_n 0, 1) := by decide +kernel
theorem dX6_mayGo_1 : decode cX6_mayGo 1 = .ok (.ifCond .ne 14, 3) := by decide +kernel
theorem dX6_mayGo_4 : decode cX6_mayGo 4 = .ok (.iload_n 1, 1) := by decide +kernel
theorem dX6_mayGo_5 : decode cX6_mayGo 5 = .ok (.iconst 2, 1) := by decide +kernel
theorem dX6_mayGo_6 : decode cX6_mayGo 6 = .ok (.if_icmp .ge 7, 3) := by decide +kernel
theorem dX6_mayGo_9 : decode cX6_mayGo 9 = .ok (.iconst 1, 1) := by decide +kernel
theorem dX6_mayGo_10 : decode cX6_mayGo 10 = .ok (.goto 4, 3) := by decide +kernel
theorem dX6_mayGo_13 : decode cX6_mayGo 13 = .ok (.iconst 0, 1) := by decide +kernel
theorem dX6_mayGo_14 : decode cX6_mayGo 14 = .ok (.ireturn, 1) := by decide +kernel
theorem dX6_mayGo_15 : decode cX6_mayGo 15 = .ok (.iload_n 0, 1) := by decide +kernel
theorem dX6_mayGo_16 : decode cX6_mayGo 16 = .ok (.iconst 2, 1) := by decide +kernel
theorem dX6_mayGo_17 : decode cX6_mayGo 17 = .ok (.if_icmp .ne 16, 3) := by decide +kernel
theorem dX6_mayGo_20 : decode cX6_mayGo 20 = .ok (.iload_n 1, 1) := by decide +kernel
theorem dX6_mayGo_21 : decode cX6_mayGo 21 = .ok (.iconst 2, 1) := by decide +kernel
theorem dX6_mayGo_22 : decode cX6_mayGo 22 = .ok (.if_icmp .lt 7, 3) := by decide +kernel
theorem dX6_mayGo_25 : decode cX6_mayGo 25 = .ok (.iconst 1, 1) := by decide +kernel
theorem dX6_mayGo_26 : decode cX6_mayGo 26 = .ok (.goto 18, 3) := by decide +kernel
theorem dX6_mayGo_29 : decode cX6_mayGo 29 = .ok (.iconst 0, 1) := by decide +kernel
theorem dX6_mayGo_30 : decode cX6_mayGo 30 = .ok (.goto 14, 3) := by decide +kernel
theorem dX6_mayGo_33 : decode cX6_mayGo 33 = .ok (.iload_n 0, 1) := by decide +kernel
theorem dX6_mayGo_34 : decode cX6_mayGo 34 = .ok (.bipush (-6), 2) := by decide +kernel
theorem dX6_mayGo_36 : decode cX6_mayGo 36 = .ok (.if_icmp .eq 7, 3) := by decide +kernel
theorem dX6_mayGo_39 : decode cX6_mayGo 39 = .ok (.iconst 1, 1) := by decide +kernel
theorem dX6_mayGo_40 : decode cX6_mayGo 40 = .ok (.goto 4, 3) := by decide +kernel
theorem dX6_mayGo_43 : decode cX6_mayGo 43 = .ok (.iconst 0, 1) := by decide +kernel
theorem dX6_mayGo_44 : decode cX6_mayGo 44 = .ok (.ireturn, 1) := by decide +kernel
theorem dX6_isCrowned_0 : decode cX6_isCrowned 0 = .ok (.iload_n 0, 1) := by decide +kernel
theorem dX6_isCrowned_1 : decode cX6_isCrowned 1 = .ok (.ifCond .ne 20, 3) := by decide +kernel
theorem dX6_isCrowned_4 : decode cX6_isCrowned 4 = .ok (.iload_n 1, 1) := by decide +kernel
theorem dX6_isCrowned_5 : decode cX6_isCrowned 5 = .ok (.invokestatic 133, 3) := by decide +kernel
theorem dX6_isCrowned_8 : decode cX6_isCrowned 8 = .ok (.iload_n 2, 1) := by decide +kernel
theorem dX6_isCrowned_9 : decode cX6_isCrowned 9 = .ok (.iadd, 1) := by decide +kernel
theorem dX6_isCrowned_10 : decode cX6_isCrowned 10 = .ok (.bipush 8, 2) := by decide +kernel
theorem dX6_isCrowned_12 : decode cX6_isCrowned 12 = .ok (.if_icmp .lt 7, 3) := by decide +kernel
theorem dX6_isCrowned_15 : decode cX6_isCrowned 15 = .ok (.iconst 1, 1) := by decide +kernel
theorem dX6_isCrowned_16 : decode cX6_isCrowned 16 = .ok (.goto 4, 3) := by decide +kernel
theorem dX6_isCrowned_19 : decode cX6_isCrowned 19 = .ok (.iconst 0, 1) := by decide +kernel
theorem dX6_isCrowned_20 : decode cX6_isCrowned 20 = .ok (.ireturn, 1) := by decide +kernel
theorem dX6_isCrowned_21 : decode cX6_isCrowned 21 = .ok (.iload_n 0, 1) := by decide +kernel
theorem dX6_isCrowned_22 : decode cX6_isCrowned 22 = .ok (.iconst 2, 1) := by decide +kernel
theorem dX6_isCrowned_23 : decode cX6_isCrowned 23 = .ok (.if_icmp .ne 16, 3) := by decide +kernel
theorem dX6_isCrowned_26 : decode cX6_isCrowned 26 = .ok (.iload_n 1, 1) := by decide +kernel
theorem dX6_isCrowned_27 : decode cX6_isCrowned 27 = .ok (.invokestatic 133, 3) := by decide +kernel
theorem dX6_isCrowned_30 : decode cX6_isCrowned 30 = .ok (.iload_n 2, 1) := by decide +kernel
theorem dX6_isCrowned_31 : decode cX6_isCrowned 31 = .ok (.isub, 1) := by decide +kernel
theorem dX6_isCrowned_32 : decode cX6_isCrowned 32 = .ok (.ifCond .ge 7, 3) := by decide +kernel
theorem dX6_isCrowned_35 : decode cX6_isCrowned 35 = .ok (.iconst 1, 1) := by decide +kernel
theorem dX6_isCrowned_36 : decode cX6_isCrowned 36 = .ok (.goto 4, 3) := by decide +kernel
theorem dX6_isCrowned_39 : decode cX6_isCrowned 39 = .ok (.iconst 0, 1) := by decide +kernel
theorem dX6_isCrowned_40 : decode cX6_isCrowned 40 = .ok (.ireturn, 1) := by decide +kernel
theorem dX6_wonBy_0 : decode cX6_wonBy 0 = .ok (.iload_n 0, 1) := by decide +kernel
theorem dX6_wonBy_1 : decode cX6_wonBy 1 = .ok (.ifCond .ne 7, 3) := by decide +kernel
theorem dX6_wonBy_4 : decode cX6_wonBy 4 = .ok (.iconst 1, 1) := by decide +kernel
theorem dX6_wonBy_5 : decode cX6_wonBy 5 = .ok (.goto 4, 3) := by decide +kernel
theorem dX6_wonBy_8 : decode cX6_wonBy 8 = .ok (.iconst 2, 1) := by decide +kernel
theorem dX6_wonBy_9 : decode cX6_wonBy 9 = .ok (.ireturn, 1) := by decide +kernel
theorem dX6_oneIf_0 : decode cX6_oneIf 0 = .ok (.iload_n 0, 1) := by decide +kernel
theorem dX6_oneIf_1 : decode cX6_oneIf 1 = .ok (.ifCond .eq 7, 3) := by decide +kernel
theorem dX6_oneIf_4 : decode cX6_oneIf 4 = .ok (.iconst 1, 1) := by decide +kernel
theorem dX6_oneIf_5 : decode cX6_oneIf 5 = .ok (.goto 4, 3) := by decide +kernel
theorem dX6_oneIf_8 : decode cX6_oneIf 8 = .ok (.iconst 0, 1) := by decide +kernel
theorem dX6_oneIf_9 : decode cX6_oneIf 9 = .ok (.ireturn, 1) := by decide +kernel
theorem dX7_init_0 : decode cX7_init 0 = .ok (.aload_n 0, 1) := by decide +kernel
theorem dX7_init_1 : decode cX7_init 1 = .ok (.invokespecial 1, 3) := by decide +kernel
theorem dX7_init_4 : decode cX7_init 4 = .ok (.aload_n 0, 1) := by decide +kernel
theorem dX7_init_5 : decode cX7_init 5 = .ok (.sipush 431, 3) := by decide +kernel
theorem dX7_init_8 : decode cX7_init 8 = .ok (.newarray .int, 2) := by decide +kernel
theorem dX7_init_10 : decode cX7_init 10 = .ok (.putfield 7, 3) := by decide +kernel
theorem dX7_init_13 : decode cX7_init 13 = .ok (.aload_n 0, 1) := by decide +kernel
theorem dX7_init_14 : decode cX7_init 14 = .ok (.sipush 2586, 3) := by decide +kernel
theorem dX7_init_17 : decode cX7_init 17 = .ok (.newarray .int, 2) := by decide +kernel
theorem dX7_init_19 : decode cX7_init 19 = .ok (.putfield 13, 3) := by decide +kernel
theorem dX7_init_22 : decode cX7_init 22 = .ok (.aload_n 0, 1) := by decide +kernel
theorem dX7_init_23 : decode cX7_init 23 = .ok (.sipush 862, 3) := by decide +kernel
theorem dX7_init_26 : decode cX7_init 26 = .ok (.newarray .int, 2) := by decide +kernel
theorem dX7_init_28 : decode cX7_init 28 = .ok (.putfield 16, 3) := by decide +kernel
theorem dX7_init_31 : decode cX7_init 31 = .ok (.aload_n 0, 1) := by decide +kernel
theorem dX7_init_32 : decode cX7_init 32 = .ok (.iconst 2, 1) := by decide +kernel
theorem dX7_init_33 : decode cX7_init 33 = .ok (.newarray .boolean, 2) := by decide +kernel
theorem dX7_init_35 : decode cX7_init 35 = .ok (.putfield 19, 3) := by decide +kernel
theorem dX7_init_38 : decode cX7_init 38 = .ok (.aload_n 0, 1) := by decide +kernel
theorem dX7_init_39 : decode cX7_init 39 = .ok (.bipush 60, 2) := by decide +kernel
theorem dX7_init_41 : decode cX7_init 41 = .ok (.newarray .char, 2) := by decide +kernel
theorem dX7_init_43 : decode cX7_init 43 = .ok (.putfield 23, 3) := by decide +kernel
theorem dX7_init_46 : decode cX7_init 46 = .ok (.aload_n 0, 1) := by decide +kernel
theorem dX7_init_47 : decode cX7_init 47 = .ok (.sipush 192, 3) := by decide +kernel
theorem dX7_init_50 : decode cX7_init 50 = .ok (.newarray .int, 2) := by decide +kernel
theorem dX7_init_52 : decode cX7_init 52 = .ok (.putfield 27, 3) := by decide +kernel
theorem dX7_init_55 : decode cX7_init 55 = .ok (.aload_n 0, 1) := by decide +kernel
theorem dX7_init_56 : decode cX7_init 56 = .ok (.iconst 4, 1) := by decide +kernel
theorem dX7_init_57 : decode cX7_init 57 = .ok (.newarray .int, 2) := by decide +kernel
theorem dX7_init_59 : decode cX7_init 59 = .ok (.putfield 30, 3) := by decide +kernel
theorem dX7_init_62 : decode cX7_init 62 = .ok (.aload_n 0, 1) := by decide +kernel
theorem dX7_init_63 : decode cX7_init 63 = .ok (.iconst 4, 1) := by decide +kernel
theorem dX7_init_64 : decode cX7_init 64 = .ok (.newarray .int, 2) := by decide +kernel
theorem dX7_init_66 : decode cX7_init 66 = .ok (.putfield 33, 3) := by decide +kernel
theorem dX7_init_69 : decode cX7_init 69 = .ok (.aload_n 0, 1) := by decide +kernel
theorem dX7_init_70 : decode cX7_init 70 = .ok (.iconst 4, 1) := by decide +kernel
theorem dX7_init_71 : decode cX7_init 71 = .ok (.newarray .int, 2) := by decide +kernel
theorem dX7_init_73 : decode cX7_init 73 = .ok (.putfield 36, 3) := by decide +kernel
theorem dX7_init_76 : decode cX7_init 76 = .ok (.aload_n 0, 1) := by decide +kernel
theorem dX7_init_77 : decode cX7_init 77 = .ok (.sipush 6000, 3) := by decide +kernel
theorem dX7_init_80 : decode cX7_init 80 = .ok (.newarray .int, 2) := by decide +kernel
theorem dX7_init_82 : decode cX7_init 82 = .ok (.putfield 39, 3) := by decide +kernel
theorem dX7_init_85 : decode cX7_init 85 = .ok (.aload_n 0, 1) := by decide +kernel
theorem dX7_init_86 : decode cX7_init 86 = .ok (.sipush 6000, 3) := by decide +kernel
theorem dX7_init_89 : decode cX7_init 89 = .ok (.newarray .int, 2) := by decide +kernel
theorem dX7_init_91 : decode cX7_init 91 = .ok (.putfield 42, 3) := by decide +kernel
theorem dX7_init_94 : decode cX7_init 94 = .ok (.aload_n 0, 1) := by decide +kernel
theorem dX7_init_95 : decode cX7_init 95 = .ok (.sipush 6000, 3) := by decide +kernel
theorem dX7_init_98 : decode cX7_init 98 = .ok (.newarray .int, 2) := by decide +kernel
theorem dX7_init_100 : decode cX7_init 100 = .ok (.putfield 45, 3) := by decide +kernel
theorem dX7_init_103 : decode cX7_init 103 = .ok (.aload_n 0, 1) := by decide +kernel
theorem dX7_init_104 : decode cX7_init 104 = .ok (.sipush 6000, 3) := by decide +kernel
theorem dX7_init_107 : decode cX7_init 107 = .ok (.newarray .int, 2) := by decide +kernel
theorem dX7_init_109 : decode cX7_init 109 = .ok (.putfield 48, 3) := by decide +kernel
theorem dX7_init_112 : decode cX7_init 112 = .ok (.aload_n 0, 1) := by decide +kernel
theorem dX7_init_113 : decode cX7_init 113 = .ok (.sipush 6000, 3) := by decide +kernel
theorem dX7_init_116 : decode cX7_init 116 = .ok (.newarray .int, 2) := by decide +kernel
theorem dX7_init_118 : decode cX7_init 118 = .ok (.putfield 51, 3) := by decide +kernel
theorem dX7_init_121 : decode cX7_init 121 = .ok (.aload_n 0, 1) := by decide +kernel
theorem dX7_init_122 : decode cX7_init 122 = .ok (.bipush 60, 2) := by decide +kernel
theorem dX7_init_124 : decode cX7_init 124 = .ok (.newarray .int, 2) := by decide +kernel
theorem dX7_init_126 : decode cX7_init 126 = .ok (.putfield 54, 3) := by decide +kernel
theorem dX7_init_129 : decode cX7_init 129 = .ok (.aload_n 0, 1) := by decide +kernel
theorem dX7_init_130 : decode cX7_init 130 = .ok (.getfield 7, 3) := by decide +kernel
theorem dX7_init_133 : decode cX7_init 133 = .ok (.bipush 50, 2) := by decide +kernel
theorem dX7_init_135 : decode cX7_init 135 = .ok (.sipush 600, 3) := by decide +kernel
theorem dX7_init_138 : decode cX7_init 138 = .ok (.iastore, 1) := by decide +kernel
theorem dX7_init_139 : decode cX7_init 139 = .ok (.aload_n 0, 1) := by decide +kernel
theorem dX7_init_140 : decode cX7_init 140 = .ok (.iconst 0, 1) := by decide +kernel
theorem dX7_init_141 : decode cX7_init 141 = .ok (.invokevirtual 57, 3) := by decide +kernel
theorem dX7_init_144 : decode cX7_init 144 = .ok (.return_, 1) := by decide +kernel
theorem dX7_in_0 : decode cX7_in 0 = .ok (.iload_n 0, 1) := by decide +kernel
theorem dX7_in_1 : decode cX7_in 1 = .ok (.iload_n 1, 1) := by decide +kernel
theorem dX7_in_2 : decode cX7_in 2 = .ok (.if_icmp .lt 12, 3) := by decide +kernel
theorem dX7_in_5 : decode cX7_in 5 = .ok (.iload_n 0, 1) := by decide +kernel
theorem dX7_in_6 : decode cX7_in 6 = .ok (.iload_n 2, 1) := by decide +kernel
theorem dX7_in_7 : decode cX7_in 7 = .ok (.if_icmp .gt 7, 3) := by decide +kernel
theorem dX7_in_10 : decode cX7_in 10 = .ok (.iconst 1, 1) := by decide +kernel
theorem dX7_in_11 : decode cX7_in 11 = .ok (.goto 4, 3) := by decide +kernel
theorem dX7_in_14 : decode cX7_in 14 = .ok (.iconst 0, 1) := by decide +kernel
theorem dX7_in_15 : decode cX7_in 15 = .ok (.ireturn, 1) := by decide +kernel
theorem dX7_isSquare_0 : decode cX7_isSquare 0 = .ok (.iload_n 0, 1) := by decide +kernel
theorem dX7_isSquare_1 : decode cX7_isSquare 1 = .ok (.iconst 0, 1) := by decide +kernel
theorem dX7_isSquare_2 : decode cX7_isSquare 2 = .ok (.bipush 47, 2) := by decide +kernel
theorem dX7_isSquare_4 : decode cX7_isSquare 4 = .ok (.invokestatic 61, 3) := by decide +kernel
theorem dX7_isSquare_7 : decode cX7_isSquare 7 = .ok (.ireturn, 1) := by decide +kernel
theorem dX7_rowOf_0 : decode cX7_rowOf 0 = .ok (.iload_n 0, 1) := by decide +kernel
theorem dX7_rowOf_1 : decode cX7_rowOf 1 = .ok (.bipush 6, 2) := by decide +kernel
theorem dX7_rowOf_3 : decode cX7_rowOf 3 = .ok (.idiv, 1) := by decide +kernel
theorem dX7_rowOf_4 : decode cX7_rowOf 4 = .ok (.ireturn, 1) := by decide +kernel
theorem dX7_columnOf_0 : decode cX7_columnOf 0 = .ok (.iload_n 0, 1) := by decide +kernel
theorem dX7_columnOf_1 : decode cX7_columnOf 1 = .ok (.bipush 6, 2) := by decide +kernel
theorem dX7_columnOf_3 : decode cX7_columnOf 3 = .ok (.irem, 1) := by decide +kernel
theorem dX7_columnOf_4 : decode cX7_columnOf 4 = .ok (.iconst 2, 1) := by decide +kernel
theorem dX7_columnOf_5 : decode cX7_columnOf 5 = .ok (.imul, 1) := by decide +kernel
theorem dX7_columnOf_6 : decode cX7_columnOf 6 = .ok (.iload_n 0, 1) := by decide +kernel
theorem dX7_columnOf_7 : decode cX7_columnOf 7 = .ok (.bipush 6, 2) := by decide +kernel
theorem dX7_columnOf_9 : decode cX7_columnOf 9 = .ok (.idiv, 1) := by decide +kernel
theorem dX7_columnOf_10 : decode cX7_columnOf 10 = .ok (.iconst 2, 1) := by decide +kernel
theorem dX7_columnOf_11 : decode cX7_columnOf 11 = .ok (.irem, 1) := by decide +kernel
theorem dX7_columnOf_12 : decode cX7_columnOf 12 = .ok (.iadd, 1) := by decide +kernel
theorem dX7_columnOf_13 : decode cX7_columnOf 13 = .ok (.ireturn, 1) := by decide +kernel
theorem dX7_next_0 : decode cX7_next 0 = .ok (.iload_n 0, 1) := by decide +kernel
theorem dX7_next_1 : decode cX7_next 1 = .ok (.invokestatic 65, 3) := by decide +kernel
theorem dX7_next_4 : decode cX7_next 4 = .ok (.iload_n 1, 1) := by decide +kernel
theorem dX7_next_5 : decode cX7_next 5 = .ok (.iconst 2, 1) := by decide +kernel
theorem dX7_next_6 : decode cX7_next 6 = .ok (.irem, 1) := by decide +kernel
theorem dX7_next_7 : decode cX7_next 7 = .ok (.ifCond .ne 7, 3) := by decide +kernel
theorem dX7_next_10 : decode cX7_next 10 = .ok (.iconst 1, 1) := by decide +kernel
theorem dX7_next_11 : decode cX7_next 11 = .ok (.goto 5, 3) := by decide +kernel
theorem dX7_next_14 : decode cX7_next 14 = .ok (.bipush 11, 2) := by decide +kernel
theorem dX7_next_16 : decode cX7_next 16 = .ok (.iadd, 1) := by decide +kernel
theorem dX7_next_17 : decode cX7_next 17 = .ok (.bipush 12, 2) := by decide +kernel
theorem dX7_next_19 : decode cX7_next 19 = .ok (.irem, 1) := by decide +kernel
theorem dX7_next_20 : decode cX7_next 20 = .ok (.istore_n 2, 1) := by decide +kernel
theorem dX7_next_21 : decode cX7_next 21 = .ok (.iload_n 0, 1) := by decide +kernel
theorem dX7_next_22 : decode cX7_next 22 = .ok (.invokestatic 69, 3) := by decide +kernel
theorem dX7_next_25 : decode cX7_next 25 = .ok (.iload_n 1, 1) := by decide +kernel
theorem dX7_next_26 : decode cX7_next 26 = .ok (.iconst 2, 1) := by decide +kernel
theorem dX7_next_27 : decode cX7_next 27 = .ok (.if_icmp .ge 7, 3) := by decide +kernel
theorem dX7_next_30 : decode cX7_next 30 = .ok (.iconst 1, 1) := by decide +kernel
theorem dX7_next_31 : decode cX7_next 31 = .ok (.goto 5, 3) := by decide +kernel
theorem dX7_next_34 : decode cX7_next 34 = .ok (.bipush 7, 2) := by decide +kernel
theorem dX7_next_36 : decode cX7_next 36 = .ok (.iadd, 1) := by decide +kernel
theorem dX7_next_37 : decode cX7_next 37 = .ok (.bipush 8, 2) := by decide +kernel
theorem dX7_next_39 : decode cX7_next 39 = .ok (.irem, 1) := by decide +kernel
theorem dX7_next_40 : decode cX7_next 40 = .ok (.istore_n 3, 1) := by decide +kernel
theorem dX7_next_41 : decode cX7_next 41 = .ok (.bipush 6, 2) := by decide +kernel
theorem dX7_next_43 : decode cX7_next 43 = .ok (.iload_n 3, 1) := by decide +kernel
theorem dX7_next_44 : decode cX7_next 44 = .ok (.imul, 1) := by decide +kernel
theorem dX7_next_45 : decode cX7_next 45 = .ok (.iload_n 2, 1) := by decide +kernel
theorem dX7_next_46 : decode cX7_next 46 = .ok (.iconst 2, 1) := by decide +kernel
theorem dX7_next_47 : decode cX7_next 47 = .ok (.idiv, 1) := by decide +kernel
theorem dX7_next_48 : decode cX7_next 48 = .ok (.iadd, 1) := by decide +kernel
theorem dX7_next_49 : decode cX7_next 49 = .ok (.ireturn, 1) := by decide +kernel
theorem dX7_isKing_0 : decode cX7_isKing 0 = .ok (.iload_n 0, 1) := by decide +kernel
theorem dX7_isKing_1 : decode cX7_isKing 1 = .ok (.iconst 1, 1) := by decide +kernel
theorem dX7_isKing_2 : decode cX7_isKing 2 = .ok (.if_icmp .eq 8, 3) := by decide +kernel
theorem dX7_isKing_5 : decode cX7_isKing 5 = .ok (.iload_n 0, 1) := by decide +kernel
theorem dX7_isKing_6 : decode cX7_isKing 6 = .ok (.iconst 3, 1) := by decide +kernel
theorem dX7_isKing_7 : decode cX7_isKing 7 = .ok (.if_icmp .ne 7, 3) := by decide +kernel
theorem dX7_isKing_10 : decode cX7_isKing 10 = .ok (.iconst 1, 1) := by decide +kernel
theorem dX7_isKing_11 : decode cX7_isKing 11 = .ok (.goto 4, 3) := by decide +kernel
theorem dX7_isKing_14 : decode cX7_isKing 14 = .ok (.iconst 0, 1) := by decide +kernel
theorem dX7_isKing_15 : decode cX7_isKing 15 = .ok (.ireturn, 1) := by decide +kernel
theorem dX7_sideOf_0 : decode cX7_sideOf 0 = .ok (.iload_n 0, 1) := by decide +kernel
theorem dX7_sideOf_1 : decode cX7_sideOf 1 = .ok (.bipush (-6), 2) := by decide +kernel
theorem dX7_sideOf_3 : decode cX7_sideOf 3 = .ok (.if_icmp .ne 8, 3) := by decide +kernel
theorem dX7_sideOf_6 : decode cX7_sideOf 6 = .ok (.bipush (-6), 2) := by decide +kernel
theorem dX7_sideOf_8 : decode cX7_sideOf 8 = .ok (.goto 6, 3) := by decide +kernel
theorem dX7_sideOf_11 : decode cX7_sideOf 11 = .ok (.iload_n 0, 1) := by decide +kernel
theorem dX7_sideOf_12 : decode cX7_sideOf 12 = .ok (.iconst 2, 1) := by decide +kernel
theorem dX7_sideOf_13 : decode cX7_sideOf 13 = .ok (.idiv, 1) := by decide +kernel
theorem dX7_sideOf_14 : decode cX7_sideOf 14 = .ok (.ireturn, 1) := by decide +kernel
theorem dX7_record_0 : decode cX7_record 0 = .ok (.aload_n 0, 1) := by decide +kernel
theorem dX7_record_1 : decode cX7_record 1 = .ok (.getfield 72, 3) := by decide +kernel
theorem dX7_record_4 : decode cX7_record 4 = .ok (.bipush 6, 2) := by decide +kernel
theorem dX7_record_6 : decode cX7_record 6 = .ok (.if_icmp .ne 44, 3) := by decide +kernel
theorem dX7_record_9 : decode cX7_record 9 = .ok (.iconst 0, 1) := by decide +kernel
theorem dX7_record_10 : decode cX7_record 10 = .ok (.istore_n 1, 1) := by decide +kernel
theorem dX7_record_11 : decode cX7_record 11 = .ok (.iload_n 1, 1) := by decide +kernel
theorem dX7_record_12 : decode cX7_record 12 = .ok (.sipush 2155, 3) := by decide +kernel
theorem dX7_record_15 : decode cX7_record 15 = .ok (.if_icmp .ge 25, 3) := by decide +kernel
theorem dX7_record_18 : decode cX7_record 18 = .ok (.aload_n 0, 1) := by decide +kernel
theorem dX7_record_19 : decode cX7_record 19 = .ok (.getfield 13, 3) := by decide +kernel
theorem dX7_record_22 : decode cX7_record 22 = .ok (.iload_n 1, 1) := by decide +kernel
theorem dX7_record_23 : decode cX7_record 23 = .ok (.aload_n 0, 1) := by decide +kernel
theorem dX7_record_24 : decode cX7_record 24 = .ok (.getfield 13, 3) := by decide +kernel
theorem dX7_record_27 : decode cX7_record 27 = .ok (.iload_n 1, 1) := by decide +kernel
theorem dX7_record_28 : decode cX7_record 28 = .ok (.sipush 431, 3) := by decide +kernel
theorem dX7_record_31 : decode cX7_record 31 = .ok (.iadd, 1) := by decide +kernel
theorem dX7_record_32 : decode cX7_record 32 = .ok (.iaload, 1) := by decide +kernel
theorem dX7_record_33 : decode cX7_record 33 = .ok (.iastore, 1) := by decide +kernel
theorem dX7_record_34 : decode cX7_record 34 = .ok (.iinc 1 1, 3) := by decide +kernel
theorem dX7_record_37 : decode cX7_record 37 = .ok (.goto (-26), 3) := by decide +kernel
theorem dX7_record_40 : decode cX7_record 40 = .ok (.aload_n 0, 1) := by decide +kernel
theorem dX7_record_41 : decode cX7_record 41 = .ok (.dup, 1) := by decide +kernel
theorem dX7_record_42 : decode cX7_record 42 = .ok (.getfield 72, 3) := by decide +kernel
theorem dX7_record_45 : decode cX7_record 45 = .ok (.iconst 1, 1) := by decide +kernel
theorem dX7_record_46 : decode cX7_record 46 = .ok (.isub, 1) := by decide +kernel
theorem dX7_record_47 : decode cX7_record 47 = .ok (.putfield 72, 3) := by decide +kernel
theorem dX7_record_50 : decode cX7_record 50 = .ok (.iconst 0, 1) := by decide +kernel
theorem dX7_record_51 : decode cX7_record 51 = .ok (.istore_n 1, 1) := by decide +kernel
theorem dX7_record_52 : decode cX7_record 52 = .ok (.iload_n 1, 1) := by decide +kernel
theorem dX7_record_53 : decode cX7_record 53 = .ok (.sipush 431, 3) := by decide +kernel
theorem dX7_record_56 : decode cX7_record 56 = .ok (.if_icmp .ge 30, 3) := by decide +kernel
theorem dX7_record_59 : decode cX7_record 59 = .ok (.aload_n 0, 1) := by decide +kernel
theorem dX7_record_60 : decode cX7_record 60 = .ok (.getfield 13, 3) := by decide +kernel
theorem dX7_record_63 : decode cX7_record 63 = .ok (.aload_n 0, 1) := by decide +kernel
theorem dX7_record_64 : decode cX7_record 64 = .ok (.getfield 72, 3) := by decide +kernel
theorem dX7_record_67 : decode cX7_record 67 = .ok (.sipush 431, 3) := by decide +kernel
theorem dX7_record_70 : decode cX7_record 70 = .ok (.imul, 1) := by decide +kernel
theorem dX7_record_71 : decode cX7_record 71 = .ok (.iload_n 1, 1) := by decide +kernel
theorem dX7_record_72 : decode cX7_record 72 = .ok (.iadd, 1) := by decide +kernel
theorem dX7_record_73 : decode cX7_record 73 = .ok (.aload_n 0, 1) := by decide +kernel
theorem dX7_record_74 : decode cX7_record 74 = .ok (.getfield 7, 3) := by decide +kernel
theorem dX7_record_77 : decode cX7_record 77 = .ok (.iload_n 1, 1) := by decide +kernel
theorem dX7_record_78 : decode cX7_record 78 = .ok (.iaload, 1) := by decide +kernel
theorem dX7_record_79 : decode cX7_record 79 = .ok (.iastore, 1) := by decide +kernel
theorem dX7_record_80 : decode cX7_record 80 = .ok (.iinc 1 1, 3) := by decide +kernel
theorem dX7_record_83 : decode cX7_record 83 = .ok (.goto (-31), 3) := by decide +kernel
theorem dX7_record_86 : decode cX7_record 86 = .ok (.aload_n 0, 1) := by decide +kernel
theorem dX7_record_87 : decode cX7_record 87 = .ok (.dup, 1) := by decide +kernel
theorem dX7_record_88 : decode cX7_record 88 = .ok (.getfield 72, 3) := by decide +kernel
theorem dX7_record_91 : decode cX7_record 91 = .ok (.iconst 1, 1) := by decide +kernel
theorem dX7_record_92 : decode cX7_record 92 = .ok (.iadd, 1) := by decide +kernel
theorem dX7_record_93 : decode cX7_record 93 = .ok (.putfield 72, 3) := by decide +kernel
theorem dX7_record_96 : decode cX7_record 96 = .ok (.return_, 1) := by decide +kernel
theorem dX7_undo_0 : decode cX7_undo 0 = .ok (.aload_n 0, 1) := by decide +kernel
theorem dX7_undo_1 : decode cX7_undo 1 = .ok (.getfield 72, 3) := by decide +kernel
theorem dX7_undo_4 : decode cX7_undo 4 = .ok (.ifCond .ne 6, 3) := by decide +kernel
theorem dX7_undo_7 : decode cX7_undo 7 = .ok (.bipush (-5), 2) := by decide +kernel
theorem dX7_undo_9 : decode cX7_undo 9 = .ok (.ireturn, 1) := by decide +kernel
theorem dX7_undo_10 : decode cX7_undo 10 = .ok (.aload_n 0, 1) := by decide +kernel
theorem dX7_undo_11 : decode cX7_undo 11 = .ok (.dup, 1) := by decide +kernel
theorem dX7_undo_12 : decode cX7_undo 12 = .ok (.getfield 72, 3) := by decide +kernel
theorem dX7_undo_15 : decode cX7_undo 15 = .ok (.iconst 1, 1) := by decide +kernel
theorem dX7_undo_16 : decode cX7_undo 16 = .ok (.isub, 1) := by decide +kernel
theorem dX7_undo_17 : decode cX7_undo 17 = .ok (.putfield 72, 3) := by decide +kernel
theorem dX7_undo_20 : decode cX7_undo 20 = .ok (.iconst 0, 1) := by decide +kernel
theorem dX7_undo_21 : decode cX7_undo 21 = .ok (.istore_n 1, 1) := by decide +kernel
theorem dX7_undo_22 : decode cX7_undo 22 = .ok (.iload_n 1, 1) := by decide +kernel
theorem dX7_undo_23 : decode cX7_undo 23 = .ok (.sipush 431, 3) := by decide +kernel
theorem dX7_undo_26 : decode cX7_undo 26 = .ok (.if_icmp .ge 30, 3) := by decide +kernel
theorem dX7_undo_29 : decode cX7_undo 29 = .ok (.aload_n 0, 1) := by decide +kernel
theorem dX7_undo_30 : decode cX7_undo 30 = .ok (.getfield 7, 3) := by decide +kernel
theorem dX7_undo_33 : decode cX7_undo 33 = .ok (.iload_n 1, 1) := by decide +kernel
theorem dX7_undo_34 : decode cX7_undo 34 = .ok (.aload_n 0, 1) := by decide +kernel
theorem dX7_undo_35 : decode cX7_undo 35 = .ok (.getfield 13, 3) := by decide +kernel
theorem dX7_undo_38 : decode cX7_undo 38 = .ok (.aload_n 0, 1) := by decide +kernel
theorem dX7_undo_39 : decode cX7_undo 39 = .ok (.getfield 72, 3) := by decide +kernel
theorem dX7_undo_42 : decode cX7_undo 42 = .ok (.sipush 431, 3) := by decide +kernel
theorem dX7_undo_45 : decode cX7_undo 45 = .ok (.imul, 1) := by decide +kernel
theorem dX7_undo_46 : decode cX7_undo 46 = .ok (.iload_n 1, 1) := by decide +kernel
theorem dX7_undo_47 : decode cX7_undo 47 = .ok (.iadd, 1) := by decide +kernel
theorem dX7_undo_48 : decode cX7_undo 48 = .ok (.iaload, 1) := by decide +kernel
theorem dX7_undo_49 : decode cX7_undo 49 = .ok (.iastore, 1) := by decide +kernel
theorem dX7_undo_50 : decode cX7_undo 50 = .ok (.iinc 1 1, 3) := by decide +kernel
theorem dX7_undo_53 : decode cX7_undo 53 = .ok (.goto (-31), 3) := by decide +kernel
theorem dX7_undo_56 : decode cX7_undo 56 = .ok (.aload_n 0, 1) := by decide +kernel
theorem dX7_undo_57 : decode cX7_undo 57 = .ok (.getfield 72, 3) := by decide +kernel
theorem dX7_undo_60 : decode cX7_undo 60 = .ok (.ireturn, 1) := by decide +kernel
theorem dX7_save_0 : decode cX7_save 0 = .ok (.iload_n 1, 1) := by decide +kernel
theorem dX7_save_1 : decode cX7_save 1 = .ok (.iconst 0, 1) := by decide +kernel
theorem dX7_save_2 : decode cX7_save 2 = .ok (.iconst 1, 1) := by decide +kernel
theorem dX7_save_3 : decode cX7_save 3 = .ok (.invokestatic 61, 3) := by decide +kernel
theorem dX7_save_6 : decode cX7_save 6 = .ok (.ifCond .ne 6, 3) := by decide +kernel
theorem dX7_save_9 : decode cX7_save 9 = .ok (.bipush (-2), 2) := by decide +kernel
theorem dX7_save_11 : decode cX7_save 11 = .ok (.ireturn, 1) := by decide +kernel
theorem dX7_save_12 : decode cX7_save 12 = .ok (.aload_n 0, 1) := by decide +kernel
theorem dX7_save_13 : decode cX7_save 13 = .ok (.getfield 19, 3) := by decide +kernel
theorem dX7_save_16 : decode cX7_save 16 = .ok (.iload_n 1, 1) := by decide +kernel
theorem dX7_save_17 : decode cX7_save 17 = .ok (.iconst 1, 1) := by decide +kernel
theorem dX7_save_18 : decode cX7_save 18 = .ok (.bastore, 1) := by decide +kernel
theorem dX7_save_19 : decode cX7_save 19 = .ok (.iconst 0, 1) := by decide +kernel
theorem dX7_save_20 : decode cX7_save 20 = .ok (.istore_n 2, 1) := by decide +kernel
theorem dX7_save_21 : decode cX7_save 21 = .ok (.iload_n 2, 1) := by decide +kernel
theorem dX7_save_22 : decode cX7_save 22 = .ok (.sipush 431, 3) := by decide +kernel
theorem dX7_save_25 : decode cX7_save 25 = .ok (.if_icmp .ge 27, 3) := by decide +kernel
theorem dX7_save_28 : decode cX7_save 28 = .ok (.aload_n 0, 1) := by decide +kernel
theorem dX7_save_29 : decode cX7_save 29 = .ok (.getfield 16, 3) := by decide +kernel
theorem dX7_save_32 : decode cX7_save 32 = .ok (.iload_n 1, 1) := by decide +kernel
theorem dX7_save_33 : decode cX7_save 33 = .ok (.sipush 431, 3) := by decide +kernel
theorem dX7_save_36 : decode cX7_save 36 = .ok (.imul, 1) := by decide +kernel
theorem dX7_save_37 : decode cX7_save 37 = .ok (.iload_n 2, 1) := by decide +kernel
theorem dX7_save_38 : decode cX7_save 38 = .ok (.iadd, 1) := by decide +kernel
theorem dX7_save_39 : decode cX7_save 39 = .ok (.aload_n 0, 1) := by decide +kernel
theorem dX7_save_40 : decode cX7_save 40 = .ok (.getfield 7, 3) := by decide +kernel
theorem dX7_save_43 : decode cX7_save 43 = .ok (.iload_n 2, 1) := by decide +kernel
theorem dX7_save_44 : decode cX7_save 44 = .ok (.iaload, 1) := by decide +kernel
theorem dX7_save_45 : decode cX7_save 45 = .ok (.iastore, 1) := by decide +kernel
theorem dX7_save_46 : decode cX7_save 46 = .ok (.iinc 2 1, 3) := by decide +kernel
theorem dX7_save_49 : decode cX7_save 49 = .ok (.goto (-28), 3) := by decide +kernel
theorem dX7_save_52 : decode cX7_save 52 = .ok (.aload_n 0, 1) := by decide +kernel
theorem dX7_save_53 : decode cX7_save 53 = .ok (.getfield 7, 3) := by decide +kernel
theorem dX7_save_56 : decode cX7_save 56 = .ok (.bipush 53, 2) := by decide +kernel
theorem dX7_save_58 : decode cX7_save 58 = .ok (.iaload, 1) := by decide +kernel
theorem dX7_save_59 : decode cX7_save 59 = .ok (.ireturn, 1) := by decide +kernel
theorem dX7_restore_0 : decode cX7_restore 0 = .ok (.iload_n 1, 1) := by decide +kernel
theorem dX7_restore_1 : decode cX7_restore 1 = .ok (.iconst 0, 1) := by decide +kernel
theorem dX7_restore_2 : decode cX7_restore 2 = .ok (.iconst 1, 1) := by decide +kernel
theorem dX7_restore_3 : decode cX7_restore 3 = .ok (.invokestatic 61, 3) := by decide +kernel
theorem dX7_restore_6 : decode cX7_restore 6 = .ok (.ifCond .ne 6, 3) := by decide +kernel
theorem dX7_restore_9 : decode cX7_restore 9 = .ok (.bipush (-2), 2) := by decide +kernel
theorem dX7_restore_11 : decode cX7_restore 11 = .ok (.ireturn, 1) := by decide +kernel
theorem dX7_restore_12 : decode cX7_restore 12 = .ok (.aload_n 0, 1) := by decide +kernel
theorem dX7_restore_13 : decode cX7_restore 13 = .ok (.getfield 19, 3) := by decide +kernel
theorem dX7_restore_16 : decode cX7_restore 16 = .ok (.iload_n 1, 1) := by decide +kernel
theorem dX7_restore_17 : decode cX7_restore 17 = .ok (.baload, 1) := by decide +kernel
theorem dX7_restore_18 : decode cX7_restore 18 = .ok (.ifCond .ne 6, 3) := by decide +kernel
theorem dX7_restore_21 : decode cX7_restore 21 = .ok (.bipush (-5), 2) := by decide +kernel
theorem dX7_restore_23 : decode cX7_restore 23 = .ok (.ireturn, 1) := by decide +kernel
theorem dX7_restore_24 : decode cX7_restore 24 = .ok (.aload_n 0, 1) := by decide +kernel
theorem dX7_restore_25 : decode cX7_restore 25 = .ok (.invokevirtual 76, 3) := by decide +kernel
theorem dX7_restore_28 : decode cX7_restore 28 = .ok (.iconst 0, 1) := by decide +kernel
theorem dX7_restore_29 : decode cX7_restore 29 = .ok (.istore_n 2, 1) := by decide +kernel
theorem dX7_restore_30 : decode cX7_restore 30 = .ok (.iload_n 2, 1) := by decide +kernel
theorem dX7_restore_31 : decode cX7_restore 31 = .ok (.sipush 431, 3) := by decide +kernel
theorem dX7_restore_34 : decode cX7_restore 34 = .ok (.if_icmp .ge 27, 3) := by decide +kernel
theorem dX7_restore_37 : decode cX7_restore 37 = .ok (.aload_n 0, 1) := by decide +kernel
theorem dX7_restore_38 : decode cX7_restore 38 = .ok (.getfield 7, 3) := by decide +kernel
theorem dX7_restore_41 : decode cX7_restore 41 = .ok (.iload_n 2, 1) := by decide +kernel
theorem dX7_restore_42 : decode cX7_restore 42 = .ok (.aload_n 0, 1) := by decide +kernel
theorem dX7_restore_43 : decode cX7_restore 43 = .ok (.getfield 16, 3) := by decide +kernel
theorem dX7_restore_46 : decode cX7_restore 46 = .ok (.iload_n 1, 1) := by decide +kernel
theorem dX7_restore_47 : decode cX7_restore 47 = .ok (.sipush 431, 3) := by decide +kernel
theorem dX7_restore_50 : decode cX7_restore 50 = .ok (.imul, 1) := by decide +kernel
theorem dX7_restore_51 : decode cX7_restore 51 = .ok (.iload_n 2, 1) := by decide +kernel
theorem dX7_restore_52 : decode cX7_restore 52 = .ok (.iadd, 1) := by decide +kernel
theorem dX7_restore_53 : decode cX7_restore 53 = .ok (.iaload, 1) := by decide +kernel
theorem dX7_restore_54 : decode cX7_restore 54 = .ok (.iastore, 1) := by decide +kernel
theorem dX7_restore_55 : decode cX7_restore 55 = .ok (.iinc 2 1, 3) := by decide +kernel
theorem dX7_restore_58 : decode cX7_restore 58 = .ok (.goto (-28), 3) := by decide +kernel
theorem dX7_restore_61 : decode cX7_restore 61 = .ok (.aload_n 0, 1) := by decide +kernel
theorem dX7_restore_62 : decode cX7_restore 62 = .ok (.getfield 7, 3) := by decide +kernel
theorem dX7_restore_65 : decode cX7_restore 65 = .ok (.bipush 53, 2) := by decide +kernel
theorem dX7_restore_67 : decode cX7_restore 67 = .ok (.iaload, 1) := by decide +kernel
theorem dX7_restore_68 : decode cX7_restore 68 = .ok (.ireturn, 1) := by decide +kernel
theorem dX7_pieceAt_0 : decode cX7_pieceAt 0 = .ok (.aload_n 0, 1) := by decide +kernel
theorem dX7_pieceAt_1 : decode cX7_pieceAt 1 = .ok (.getfield 27, 3) := by decide +kernel
theorem dX7_pieceAt_4 : decode cX7_pieceAt 4 = .ok (.bipush 48, 2) := by decide +kernel
theorem dX7_pieceAt_6 : decode cX7_pieceAt 6 = .ok (.iload_n 1, 1) := by decide +kernel
theorem dX7_pieceAt_7 : decode cX7_pieceAt 7 = .ok (.imul, 1) := by decide +kernel
theorem dX7_pieceAt_8 : decode cX7_pieceAt 8 = .ok (.iload_n 2, 1) := by decide +kernel
theorem dX7_pieceAt_9 : decode cX7_pieceAt 9 = .ok (.iadd, 1) := by decide +kernel
theorem dX7_pieceAt_10 : decode cX7_pieceAt 10 = .ok (.iaload, 1) := by decide +kernel
theorem dX7_pieceAt_11 : decode cX7_pieceAt 11 = .ok (.ireturn, 1) := by decide +kernel
theorem dX7_isEmpty_0 : decode cX7_isEmpty 0 = .ok (.aload_n 0, 1) := by decide +kernel
theorem dX7_isEmpty_1 : decode cX7_isEmpty 1 = .ok (.iload_n 1, 1) := by decide +kernel
theorem dX7_isEmpty_2 : decode cX7_isEmpty 2 = .ok (.iload_n 2, 1) := by decide +kernel
theorem dX7_isEmpty_3 : decode cX7_isEmpty 3 = .ok (.invokevirtual 79, 3) := by decide +kernel
theorem dX7_isEmpty_6 : decode cX7_isEmpty 6 = .ok (.bipush (-6), 2) := by decide +kernel
theorem dX7_isEmpty_8 : decode cX7_isEmpty 8 = .ok (.if_icmp .ne 7, 3) := by decide +kernel
theorem dX7_isEmpty_11 : decode cX7_isEmpty 11 = .ok (.iconst 1, 1) := by decide +kernel
theorem dX7_isEmpty_12 : decode cX7_isEmpty 12 = .ok (.goto 4, 3) := by decide +kernel
theorem dX7_isEmpty_15 : decode cX7_isEmpty 15 = .ok (.iconst 0, 1) := by decide +kernel
theorem dX7_isEmpty_16 : decode cX7_isEmpty 16 = .ok (.ireturn, 1) := by decide +kernel
theorem dX7_goesWay_0 : decode cX7_goesWay 0 = .ok (.iload_n 1, 1) := by decide +kernel
theorem dX7_goesWay_1 : decode cX7_goesWay 1 = .ok (.invokestatic 83, 3) := by decide +kernel
theorem dX7_goesWay_4 : decode cX7_goesWay 4 = .ok (.ifCond .ne 28, 3) := by decide +kernel
theorem dX7_goesWay_7 : decode cX7_goesWay 7 = .ok (.iload_n 1, 1) := by decide +kernel
theorem dX7_goesWay_8 : decode cX7_goesWay 8 = .ok (.invokestatic 87, 3) := by decide +kernel
theorem dX7_goesWay_11 : decode cX7_goesWay 11 = .ok (.ifCond .ne 7, 3) := by decide +kernel
theorem dX7_goesWay_14 : decode cX7_goesWay 14 = .ok (.iconst 1, 1) := by decide +kernel
theorem dX7_goesWay_15 : decode cX7_goesWay 15 = .ok (.goto 4, 3) := by decide +kernel
theorem dX7_goesWay_18 : decode cX7_goesWay 18 = .ok (.iconst 0, 1) := by decide +kernel
theorem dX7_goesWay_19 : decode cX7_goesWay 19 = .ok (.iload_n 2, 1) := by decide +kernel
theorem dX7_goesWay_20 : decode cX7_goesWay 20 = .ok (.iconst 2, 1) := by decide +kernel
theorem dX7_goesWay_21 : decode cX7_goesWay 21 = .ok (.if_icmp .ge 7, 3) := by decide +kernel
theorem dX7_goesWay_24 : decode cX7_goesWay 24 = .ok (.iconst 1, 1) := by decide +kernel
theorem dX7_goesWay_25 : decode cX7_goesWay 25 = .ok (.goto 4, 3) := by decide +kernel
theorem dX7_goesWay_28 : decode cX7_goesWay 28 = .ok (.iconst 0, 1) := by decide +kernel
theorem dX7_goesWay_29 : decode cX7_goesWay 29 = .ok (.if_icmp .ne 7, 3) := by decide +kernel
theorem dX7_goesWay_32 : decode cX7_goesWay 32 = .ok (.iconst 1, 1) := by decide +kernel
theorem dX7_goesWay_33 : decode cX7_goesWay 33 = .ok (.goto 4, 3) := by decide +kernel
theorem dX7_goesWay_36 : decode cX7_goesWay 36 = .ok (.iconst 0, 1) := by decide +kernel
theorem dX7_goesWay_37 : decode cX7_goesWay 37 = .ok (.ireturn, 1) := by decide +kernel
theorem dX7_list_0 : decode cX7_list 0 = .ok (.sipush 1500, 3) := by decide +kernel
theorem dX7_list_3 : decode cX7_list 3 = .ok (.iload_n 1, 1) := by decide +kernel
theorem dX7_list_4 : decode cX7_list 4 = .ok (.imul, 1) := by decide +kernel
theorem dX7_list_5 : decode cX7_list 5 = .ok (.aload_n 0, 1) := by decide +kernel
theorem dX7_list_6 : decode cX7_list 6 = .ok (.getfield 36, 3) := by decide +kernel
theorem dX7_list_9 : decode cX7_list 9 = .ok (.iload_n 1, 1) := by decide +kernel
theorem dX7_list_10 : decode cX7_list 10 = .ok (.iaload, 1) := by decide +kernel
theorem dX7_list_11 : decode cX7_list 11 = .ok (.iadd, 1) := by decide +kernel
theorem dX7_list_12 : decode cX7_list 12 = .ok (.istore 7, 2) := by decide +kernel
theorem dX7_list_14 : decode cX7_list 14 = .ok (.aload_n 0, 1) := by decide +kernel
theorem dX7_list_15 : decode cX7_list 15 = .ok (.getfield 39, 3) := by decide +kernel
theorem dX7_list_18 : decode cX7_list 18 = .ok (.iload 7, 2) := by decide +kernel
theorem dX7_list_20 : decode cX7_list 20 = .ok (.iload_n 2, 1) := by decide +kernel
theorem dX7_list_21 : decode cX7_list 21 = .ok (.iastore, 1) := by decide +kernel
theorem dX7_list_22 : decode cX7_list 22 = .ok (.aload_n 0, 1) := by decide +kernel
theorem dX7_list_23 : decode cX7_list 23 = .ok (.getfield 42, 3) := by decide +kernel
theorem dX7_list_26 : decode cX7_list 26 = .ok (.iload 7, 2) := by decide +kernel
theorem dX7_list_28 : decode cX7_list 28 = .ok (.iload_n 3, 1) := by decide +kernel
theorem dX7_list_29 : decode cX7_list 29 = .ok (.iastore, 1) := by decide +kernel
theorem dX7_list_30 : decode cX7_list 30 = .ok (.aload_n 0, 1) := by decide +kernel
theorem dX7_list_31 : decode cX7_list 31 = .ok (.getfield 45, 3) := by decide +kernel
theorem dX7_list_34 : decode cX7_list 34 = .ok (.iload 7, 2) := by decide +kernel
theorem dX7_list_36 : decode cX7_list 36 = .ok (.iload 4, 2) := by decide +kernel
theorem dX7_list_38 : decode cX7_list 38 = .ok (.iastore, 1) := by decide +kernel
theorem dX7_list_39 : decode cX7_list 39 = .ok (.aload_n 0, 1) := by decide +kernel
theorem dX7_list_40 : decode cX7_list 40 = .ok (.getfield 48, 3) := by decide +kernel
theorem dX7_list_43 : decode cX7_list 43 = .ok (.iload 7, 2) := by decide +kernel
theorem dX7_list_45 : decode cX7_list 45 = .ok (.iload 5, 2) := by decide +kernel
theorem dX7_list_47 : decode cX7_list 47 = .ok (.iastore, 1) := by decide +kernel
theorem dX7_list_48 : decode cX7_list 48 = .ok (.aload_n 0, 1) := by decide +kernel
theorem dX7_list_49 : decode cX7_list 49 = .ok (.getfield 51, 3) := by decide +kernel
theorem dX7_list_52 : decode cX7_list 52 = .ok (.iload 7, 2) := by decide +kernel
theorem dX7_list_54 : decode cX7_list 54 = .ok (.iload 6, 2) := by decide +kernel
theorem dX7_list_56 : decode cX7_list 56 = .ok (.iastore, 1) := by decide +kernel
theorem dX7_list_57 : decode cX7_list 57 = .ok (.aload_n 0, 1) := by decide +kernel
theorem dX7_list_58 : decode cX7_list 58 = .ok (.getfield 36, 3) := by decide +kernel
theorem dX7_list_61 : decode cX7_list 61 = .ok (.iload_n 1, 1) := by decide +kernel
theorem dX7_list_62 : decode cX7_list 62 = .ok (.dup2, 1) := by decide +kernel
theorem dX7_list_63 : decode cX7_list 63 = .ok (.iaload, 1) := by decide +kernel
theorem dX7_list_64 : decode cX7_list 64 = .ok (.iconst 1, 1) := by decide +kernel
theorem dX7_list_65 : decode cX7_list 65 = .ok (.iadd, 1) := by decide +kernel
theorem dX7_list_66 : decode cX7_list 66 = .ok (.iastore, 1) := by decide +kernel
theorem dX7_list_67 : decode cX7_list 67 = .ok (.return_, 1) := by decide +kernel
theorem dX7_listJumps_0 : decode cX7_listJumps 0 = .ok (.aload_n 0, 1) := by decide +kernel
theorem dX7_listJumps_1 : decode cX7_listJumps 1 = .ok (.iload_n 1, 1) := by decide +kernel
theorem dX7_listJumps_2 : decode cX7_listJumps 2 = .ok (.iload_n 2, 1) := by decide +kernel
theorem dX7_listJumps_3 : decode cX7_listJumps 3 = .ok (.invokevirtual 79, 3) := by decide +kernel
theorem dX7_listJumps_6 : decode cX7_listJumps 6 = .ok (.istore 4, 2) := by decide +kernel
theorem dX7_listJumps_8 : decode cX7_listJumps 8 = .ok (.iload_n 2, 1) := by decide +kernel
theorem dX7_listJumps_9 : decode cX7_listJumps 9 = .ok (.iload_n 3, 1) := by decide +kernel
theorem dX7_listJumps_10 : decode cX7_listJumps 10 = .ok (.invokestatic 90, 3) := by decide +kernel
theorem dX7_listJumps_13 : decode cX7_listJumps 13 = .ok (.istore 5, 2) := by decide +kernel
theorem dX7_listJumps_15 : decode cX7_listJumps 15 = .ok (.iconst 1, 1) := by decide +kernel
theorem dX7_listJumps_16 : decode cX7_listJumps 16 = .ok (.istore 6, 2) := by decide +kernel
theorem dX7_listJumps_18 : decode cX7_listJumps 18 = .ok (.iload 4, 2) := by decide +kernel
theorem dX7_listJumps_20 : decode cX7_listJumps 20 = .ok (.invokestatic 83, 3) := by decide +kernel
theorem dX7_listJumps_23 : decode cX7_listJumps 23 = .ok (.ifCond .eq 27, 3) := by decide +kernel
theorem dX7_listJumps_26 : decode cX7_listJumps 26 = .ok (.aload_n 0, 1) := by decide +kernel
theorem dX7_listJumps_27 : decode cX7_listJumps 27 = .ok (.iload_n 1, 1) := by decide +kernel
theorem dX7_listJumps_28 : decode cX7_listJumps 28 = .ok (.iload 5, 2) := by decide +kernel
theorem dX7_listJumps_30 : decode cX7_listJumps 30 = .ok (.invokevirtual 93, 3) := by decide +kernel
theorem dX7_listJumps_33 : decode cX7_listJumps 33 = .ok (.ifCond .eq 17, 3) := by decide +kernel
theorem dX7_listJumps_36 : decode cX7_listJumps 36 = .ok (.iload 5, 2) := by decide +kernel
theorem dX7_listJumps_38 : decode cX7_listJumps 38 = .ok (.iload_n 3, 1) := by decide +kernel
theorem dX7_listJumps_39 : decode cX7_listJumps 39 = .ok (.invokestatic 90, 3) := by decide +kernel
theorem dX7_listJumps_42 : decode cX7_listJumps 42 = .ok (.istore 5, 2) := by decide +kernel
theorem dX7_listJumps_44 : decode cX7_listJumps 44 = .ok (.iinc 6 1, 3) := by decide +kernel
theorem dX7_listJumps_47 : decode cX7_listJumps 47 = .ok (.goto (-29), 3) := by decide +kernel
theorem dX7_listJumps_50 : decode cX7_listJumps 50 = .ok (.aload_n 0, 1) := by decide +kernel
theorem dX7_listJumps_51 : decode cX7_listJumps 51 = .ok (.iload_n 1, 1) := by decide +kernel
theorem dX7_listJumps_52 : decode cX7_listJumps 52 = .ok (.iload 5, 2) := by decide +kernel
theorem dX7_listJumps_54 : decode cX7_listJumps 54 = .ok (.invokevirtual 79, 3) := by decide +kernel
theorem dX7_listJumps_57 : decode cX7_listJumps 57 = .ok (.invokestatic 87, 3) := by decide +kernel
theorem dX7_listJumps_60 : decode cX7_listJumps 60 = .ok (.iconst 1, 1) := by decide +kernel
theorem dX7_listJumps_61 : decode cX7_listJumps 61 = .ok (.iload 4, 2) := by decide +kernel
theorem dX7_listJumps_63 : decode cX7_listJumps 63 = .ok (.invokestatic 87, 3) := by decide +kernel
theorem dX7_listJumps_66 : decode cX7_listJumps 66 = .ok (.isub, 1) := by decide +kernel
theorem dX7_listJumps_67 : decode cX7_listJumps 67 = .ok (.if_icmp .eq 4, 3) := by decide +kernel
theorem dX7_listJumps_70 : decode cX7_listJumps 70 = .ok (.return_, 1) := by decide +kernel
theorem dX7_listJumps_71 : decode cX7_listJumps 71 = .ok (.iload 5, 2) := by decide +kernel
theorem dX7_listJumps_73 : decode cX7_listJumps 73 = .ok (.istore 7, 2) := by decide +kernel
theorem dX7_listJumps_75 : decode cX7_listJumps 75 = .ok (.iload 5, 2) := by decide +kernel
theorem dX7_listJumps_77 : decode cX7_listJumps 77 = .ok (.iload_n 3, 1) := by decide +kernel
theorem dX7_listJumps_78 : decode cX7_listJumps 78 = .ok (.invokestatic 90, 3) := by decide +kernel
theorem dX7_listJumps_81 : decode cX7_listJumps 81 = .ok (.istore 5, 2) := by decide +kernel
theorem dX7_listJumps_83 : decode cX7_listJumps 83 = .ok (.iinc 6 1, 3) := by decide +kernel
theorem dX7_listJumps_86 : decode cX7_listJumps 86 = .ok (.aload_n 0, 1) := by decide +kernel
theorem dX7_listJumps_87 : decode cX7_listJumps 87 = .ok (.iload_n 1, 1) := by decide +kernel
theorem dX7_listJumps_88 : decode cX7_listJumps 88 = .ok (.iload 5, 2) := by decide +kernel
theorem dX7_listJumps_90 : decode cX7_listJumps 90 = .ok (.invokevirtual 93, 3) := by decide +kernel
theorem dX7_listJumps_93 : decode cX7_listJumps 93 = .ok (.istore 8, 2) := by decide +kernel
theorem dX7_listJumps_95 : decode cX7_listJumps 95 = .ok (.iload 8, 2) := by decide +kernel
theorem dX7_listJumps_97 : decode cX7_listJumps 97 = .ok (.ifCond .eq 55, 3) := by decide +kernel
theorem dX7_listJumps_100 : decode cX7_listJumps 100 = .ok (.aload_n 0, 1) := by decide +kernel
theorem dX7_listJumps_101 : decode cX7_listJumps 101 = .ok (.iload_n 1, 1) := by decide +kernel
theorem dX7_listJumps_102 : decode cX7_listJumps 102 = .ok (.iload_n 2, 1) := by decide +kernel
theorem dX7_listJumps_103 : decode cX7_listJumps 103 = .ok (.iload_n 3, 1) := by decide +kernel
theorem dX7_listJumps_104 : decode cX7_listJumps 104 = .ok (.iload 6, 2) := by decide +kernel
theorem dX7_listJumps_106 : decode cX7_listJumps 106 = .ok (.iload 5, 2) := by decide +kernel
theorem dX7_listJumps_108 : decode cX7_listJumps 108 = .ok (.iload 7, 2) := by decide +kernel
theorem dX7_listJumps_110 : decode cX7_listJumps 110 = .ok (.invokevirtual 97, 3) := by decide +kernel
theorem dX7_listJumps_113 : decode cX7_listJumps 113 = .ok (.iload 5, 2) := by decide +kernel
theorem dX7_listJumps_115 : decode cX7_listJumps 115 = .ok (.iload_n 3, 1) := by decide +kernel
theorem dX7_listJumps_116 : decode cX7_listJumps 116 = .ok (.invokestatic 90, 3) := by decide +kernel
theorem dX7_listJumps_119 : decode cX7_listJumps 119 = .ok (.istore 5, 2) := by decide +kernel
theorem dX7_listJumps_121 : decode cX7_listJumps 121 = .ok (.iinc 6 1, 3) := by decide +kernel
theorem dX7_listJumps_124 : decode cX7_listJumps 124 = .ok (.iload 4, 2) := by decide +kernel
theorem dX7_listJumps_126 : decode cX7_listJumps 126 = .ok (.invokestatic 83, 3) := by decide +kernel
theorem dX7_listJumps_129 : decode cX7_listJumps 129 = .ok (.ifCond .eq 17, 3) := by decide +kernel
theorem dX7_listJumps_132 : decode cX7_listJumps 132 = .ok (.aload_n 0, 1) := by decide +kernel
theorem dX7_listJumps_133 : decode cX7_listJumps 133 = .ok (.iload_n 1, 1) := by decide +kernel
theorem dX7_listJumps_134 : decode cX7_listJumps 134 = .ok (.iload 5, 2) := by decide +kernel
theorem dX7_listJumps_136 : decode cX7_listJumps 136 = .ok (.invokevirtual 93, 3) := by decide +kernel
theorem dX7_listJumps_139 : decode cX7_listJumps 139 = .ok (.ifCond .eq 7, 3) := by decide +kernel
theorem dX7_listJumps_142 : decode cX7_listJumps 142 = .ok (.iconst 1, 1) := by decide +kernel
theorem dX7_listJumps_143 : decode cX7_listJumps 143 = .ok (.goto 4, 3) := by decide +kernel
theorem dX7_listJumps_146 : decode cX7_listJumps 146 = .ok (.iconst 0, 1) := by decide +kernel
theorem dX7_listJumps_147 : decode cX7_listJumps 147 = .ok (.istore 8, 2) := by decide +kernel
theorem dX7_listJumps_149 : decode cX7_listJumps 149 = .ok (.goto (-54), 3) := by decide +kernel
theorem dX7_listJumps_152 : decode cX7_listJumps 152 = .ok (.return_, 1) := by decide +kernel
theorem dX7_listMoves_0 : decode cX7_listMoves 0 = .ok (.aload_n 0, 1) := by decide +kernel
theorem dX7_listMoves_1 : decode cX7_listMoves 1 = .ok (.iload_n 1, 1) := by decide +kernel
theorem dX7_listMoves_2 : decode cX7_listMoves 2 = .ok (.iload_n 2, 1) := by decide +kernel
theorem dX7_listMoves_3 : decode cX7_listMoves 3 = .ok (.invokevirtual 79, 3) := by decide +kernel
theorem dX7_listMoves_6 : decode cX7_listMoves 6 = .ok (.invokestatic 83, 3) := by decide +kernel
theorem dX7_listMoves_9 : decode cX7_listMoves 9 = .ok (.istore 4, 2) := by decide +kernel
theorem dX7_listMoves_11 : decode cX7_listMoves 11 = .ok (.iload_n 2, 1) := by decide +kernel
theorem dX7_listMoves_12 : decode cX7_listMoves 12 = .ok (.iload_n 3, 1) := by decide +kernel
theorem dX7_listMoves_13 : decode cX7_listMoves 13 = .ok (.invokestatic 90, 3) := by decide +kernel
theorem dX7_listMoves_16 : decode cX7_listMoves 16 = .ok (.istore 5, 2) := by decide +kernel
theorem dX7_listMoves_18 : decode cX7_listMoves 18 = .ok (.iconst 1, 1) := by decide +kernel
theorem dX7_listMoves_19 : decode cX7_listMoves 19 = .ok (.istore 6, 2) := by decide +kernel
theorem dX7_listMoves_21 : decode cX7_listMoves 21 = .ok (.aload_n 0, 1) := by decide +kernel
theorem dX7_listMoves_22 : decode cX7_listMoves 22 = .ok (.iload_n 1, 1) := by decide +kernel
theorem dX7_listMoves_23 : decode cX7_listMoves 23 = .ok (.iload 5, 2) := by decide +kernel
theorem dX7_listMoves_25 : decode cX7_listMoves 25 = .ok (.invokevirtual 93, 3) := by decide +kernel
theorem dX7_listMoves_28 : decode cX7_listMoves 28 = .ok (.istore 7, 2) := by decide +kernel
theorem dX7_listMoves_30 : decode cX7_listMoves 30 = .ok (.iload 7, 2) := by decide +kernel
theorem dX7_listMoves_32 : decode cX7_listMoves 32 = .ok (.ifCond .eq 52, 3) := by decide +kernel
theorem dX7_listMoves_35 : decode cX7_listMoves 35 = .ok (.aload_n 0, 1) := by decide +kernel
theorem dX7_listMoves_36 : decode cX7_listMoves 36 = .ok (.iload_n 1, 1) := by decide +kernel
theorem dX7_listMoves_37 : decode cX7_listMoves 37 = .ok (.iload_n 2, 1) := by decide +kernel
theorem dX7_listMoves_38 : decode cX7_listMoves 38 = .ok (.iload_n 3, 1) := by decide +kernel
theorem dX7_listMoves_39 : decode cX7_listMoves 39 = .ok (.iload 6, 2) := by decide +kernel
theorem dX7_listMoves_41 : decode cX7_listMoves 41 = .ok (.iload 5, 2) := by decide +kernel
theorem dX7_listMoves_43 : decode cX7_listMoves 43 = .ok (.bipush (-6), 2) := by decide +kernel
theorem dX7_listMoves_45 : decode cX7_listMoves 45 = .ok (.invokevirtual 97, 3) := by decide +kernel
theorem dX7_listMoves_48 : decode cX7_listMoves 48 = .ok (.iload 5, 2) := by decide +kernel
theorem dX7_listMoves_50 : decode cX7_listMoves 50 = .ok (.iload_n 3, 1) := by decide +kernel
theorem dX7_listMoves_51 : decode cX7_listMoves 51 = .ok (.invokestatic 90, 3) := by decide +kernel
theorem dX7_listMoves_54 : decode cX7_listMoves 54 = .ok (.istore 5, 2) := by decide +kernel
theorem dX7_listMoves_56 : decode cX7_listMoves 56 = .ok (.iinc 6 1, 3) := by decide +kernel
theorem dX7_listMoves_59 : decode cX7_listMoves 59 = .ok (.iload 4, 2) := by decide +kernel
theorem dX7_listMoves_61 : decode cX7_listMoves 61 = .ok (.ifCond .eq 17, 3) := by decide +kernel
theorem dX7_listMoves_64 : decode cX7_listMoves 64 = .ok (.aload_n 0, 1) := by decide +kernel
theorem dX7_listMoves_65 : decode cX7_listMoves 65 = .ok (.iload_n 1, 1) := by decide +kernel
theorem dX7_listMoves_66 : decode cX7_listMoves 66 = .ok (.iload 5, 2) := by decide +kernel
theorem dX7_listMoves_68 : decode cX7_listMoves 68 = .ok (.invokevirtual 93, 3) := by decide +kernel
theorem dX7_listMoves_71 : decode cX7_listMoves 71 = .ok (.ifCond .eq 7, 3) := by decide +kernel
theorem dX7_listMoves_74 : decode cX7_listMoves 74 = .ok (.iconst 1, 1) := by decide +kernel
theorem dX7_listMoves_75 : decode cX7_listMoves 75 = .ok (.goto 4, 3) := by decide +kernel
theorem dX7_listMoves_78 : decode cX7_listMoves 78 = .ok (.iconst 0, 1) := by decide +kernel
theorem dX7_listMoves_79 : decode cX7_listMoves 79 = .ok (.istore 7, 2) := by decide +kernel
theorem dX7_listMoves_81 : decode cX7_listMoves 81 = .ok (.goto (-51), 3) := by decide +kernel
theorem dX7_listMoves_84 : decode cX7_listMoves 84 = .ok (.return_, 1) := by decide +kernel
theorem dX7_listAllJumps_0 : decode cX7_listAllJumps 0 = .ok (.aload_n 0, 1) := by decide +kernel
theorem dX7_listAllJumps_1 : decode cX7_listAllJumps 1 = .ok (.getfield 36, 3) := by decide +kernel
theorem dX7_listAllJumps_4 : decode cX7_listAllJumps 4 = .ok (.iload_n 1, 1) := by decide +kernel
theorem dX7_listAllJumps_5 : decode cX7_listAllJumps 5 = .ok (.iconst 0, 1) := by decide +kernel
theorem dX7_listAllJumps_6 : decode cX7_listAllJumps 6 = .ok (.iastore, 1) := by decide +kernel
theorem dX7_listAllJumps_7 : decode cX7_listAllJumps 7 = .ok (.iconst 0, 1) := by decide +kernel
theorem dX7_listAllJumps_8 : decode cX7_listAllJumps 8 = .ok (.istore 4, 2) := by decide +kernel
theorem dX7_listAllJumps_10 : decode cX7_listAllJumps 10 = .ok (.iload 4, 2) := by decide +kernel
theorem dX7_listAllJumps_12 : decode cX7_listAllJumps 12 = .ok (.bipush 48, 2) := by decide +kernel
theorem dX7_listAllJumps_14 : decode cX7_listAllJumps 14 = .ok (.if_icmp .ge 87, 3) := by decide +kernel
theorem dX7_listAllJumps_17 : decode cX7_listAllJumps 17 = .ok (.iconst 0, 1) := by decide +kernel
theorem dX7_listAllJumps_18 : decode cX7_listAllJumps 18 = .ok (.istore 5, 2) := by decide +kernel
theorem dX7_listAllJumps_20 : decode cX7_listAllJumps 20 = .ok (.iload 5, 2) := by decide +kernel
theorem dX7_listAllJumps_22 : decode cX7_listAllJumps 22 = .ok (.iconst 4, 1) := by decide +kernel
theorem dX7_listAllJumps_23 : decode cX7_listAllJumps 23 = .ok (.if_icmp .ge 72, 3) := by decide +kernel
theorem dX7_listAllJumps_26 : decode cX7_listAllJumps 26 = .ok (.aload_n 0, 1) := by decide +kernel
theorem dX7_listAllJumps_27 : decode cX7_listAllJumps 27 = .ok (.iload_n 1, 1) := by decide +kernel
theorem dX7_listAllJumps_28 : decode cX7_listAllJumps 28 = .ok (.iload 4, 2) := by decide +kernel
theorem dX7_listAllJumps_30 : decode cX7_listAllJumps 30 = .ok (.invokevirtual 79, 3) := by decide +kernel
theorem dX7_listAllJumps_33 : decode cX7_listAllJumps 33 = .ok (.invokestatic 87, 3) := by decide +kernel
theorem dX7_listAllJumps_36 : decode cX7_listAllJumps 36 = .ok (.iload_n 2, 1) := by decide +kernel
theorem dX7_listAllJumps_37 : decode cX7_listAllJumps 37 = .ok (.if_icmp .ne 19, 3) := by decide +kernel
theorem dX7_listAllJumps_40 : decode cX7_listAllJumps 40 = .ok (.iload_n 3, 1) := by decide +kernel
theorem dX7_listAllJumps_41 : decode cX7_listAllJumps 41 = .ok (.bipush (-6), 2) := by decide +kernel
theorem dX7_listAllJumps_43 : decode cX7_listAllJumps 43 = .ok (.if_icmp .eq 9, 3) := by decide +kernel
theorem dX7_listAllJumps_46 : decode cX7_listAllJumps 46 = .ok (.iload_n 3, 1) := by decide +kernel
theorem dX7_listAllJumps_47 : decode cX7_listAllJumps 47 = .ok (.iload 4, 2) := by decide +kernel
theorem dX7_listAllJumps_49 : decode cX7_listAllJumps 49 = .ok (.if_icmp .ne 7, 3) := by decide +kernel
theorem dX7_listAllJumps_52 : decode cX7_listAllJumps 52 = .ok (.iconst 1, 1) := by decide +kernel
theorem dX7_listAllJumps_53 : decode cX7_listAllJumps 53 = .ok (.goto 4, 3) := by decide +kernel
theorem dX7_listAllJumps_56 : decode cX7_listAllJumps 56 = .ok (.iconst 0, 1) := by decide +kernel
theorem dX7_listAllJumps_57 : decode cX7_listAllJumps 57 = .ok (.istore 6, 2) := by decide +kernel
theorem dX7_listAllJumps_59 : decode cX7_listAllJumps 59 = .ok (.iload 6, 2) := by decide +kernel
theorem dX7_listAllJumps_61 : decode cX7_listAllJumps 61 = .ok (.ifCond .eq 28, 3) := by decide +kernel
theorem dX7_listAllJumps_64 : decode cX7_listAllJumps 64 = .ok (.aload_n 0, 1) := by decide +kernel
theorem dX7_listAllJumps_65 : decode cX7_listAllJumps 65 = .ok (.aload_n 0, 1) := by decide +kernel
theorem dX7_listAllJumps_66 : decode cX7_listAllJumps 66 = .ok (.iload_n 1, 1) := by decide +kernel
theorem dX7_listAllJumps_67 : decode cX7_listAllJumps 67 = .ok (.iload 4, 2) := by decide +kernel
theorem dX7_listAllJumps_69 : decode cX7_listAllJumps 69 = .ok (.invokevirtual 79, 3) := by decide +kernel
theorem dX7_listAllJumps_72 : decode cX7_listAllJumps 72 = .ok (.iload 5, 2) := by decide +kernel
theorem dX7_listAllJumps_74 : decode cX7_listAllJumps 74 = .ok (.invokevirtual 101, 3) := by decide +kernel
theorem dX7_listAllJumps_77 : decode cX7_listAllJumps 77 = .ok (.ifCond .eq 12, 3) := by decide +kernel
theorem dX7_listAllJumps_80 : decode cX7_listAllJumps 80 = .ok (.aload_n 0, 1) := by decide +kernel
theorem dX7_listAllJumps_81 : decode cX7_listAllJumps 81 = .ok (.iload_n 1, 1) := by decide +kernel
theorem dX7_listAllJumps_82 : decode cX7_listAllJumps 82 = .ok (.iload 4, 2) := by decide +kernel
theorem dX7_listAllJumps_84 : decode cX7_listAllJumps 84 = .ok (.iload 5, 2) := by decide +kernel
theorem dX7_listAllJumps_86 : decode cX7_listAllJumps 86 = .ok (.invokevirtual 104, 3) := by decide +kernel
theorem dX7_listAllJumps_89 : decode cX7_listAllJumps 89 = .ok (.iinc 5 1, 3) := by decide +kernel
theorem dX7_listAllJumps_92 : decode cX7_listAllJumps 92 = .ok (.goto (-72), 3) := by decide +kernel
theorem dX7_listAllJumps_95 : decode cX7_listAllJumps 95 = .ok (.iinc 4 1, 3) := by decide +kernel
theorem dX7_listAllJumps_98 : decode cX7_listAllJumps 98 = .ok (.goto (-88), 3) := by decide +kernel
theorem dX7_listAllJumps_101 : decode cX7_listAllJumps 101 = .ok (.return_, 1) := by decide +kernel
theorem dX7_listHops_0 : decode cX7_listHops 0 = .ok (.aload_n 0, 1) := by decide +kernel
theorem dX7_listHops_1 : decode cX7_listHops 1 = .ok (.iload_n 1, 1) := by decide +kernel
theorem dX7_listHops_2 : decode cX7_listHops 2 = .ok (.aload_n 0, 1) := by decide +kernel
theorem dX7_listHops_3 : decode cX7_listHops 3 = .ok (.getfield 30, 3) := by decide +kernel
theorem dX7_listHops_6 : decode cX7_listHops 6 = .ok (.iload_n 1, 1) := by decide +kernel
theorem dX7_listHops_7 : decode cX7_listHops 7 = .ok (.iaload, 1) := by decide +kernel
theorem dX7_listHops_8 : decode cX7_listHops 8 = .ok (.aload_n 0, 1) := by decide +kernel
theorem dX7_listHops_9 : decode cX7_listHops 9 = .ok (.getfield 33, 3) := by decide +kernel
theorem dX7_listHops_12 : decode cX7_listHops 12 = .ok (.iload_n 1, 1) := by decide +kernel
theorem dX7_listHops_13 : decode cX7_listHops 13 = .ok (.iaload, 1) := by decide +kernel
theorem dX7_listHops_14 : decode cX7_listHops 14 = .ok (.invokevirtual 108, 3) := by decide +kernel
theorem dX7_listHops_17 : decode cX7_listHops 17 = .ok (.iconst 0, 1) := by decide +kernel
theorem dX7_listHops_18 : decode cX7_listHops 18 = .ok (.istore_n 2, 1) := by decide +kernel
theorem dX7_listHops_19 : decode cX7_listHops 19 = .ok (.iload_n 2, 1) := by decide +kernel
theorem dX7_listHops_20 : decode cX7_listHops 20 = .ok (.sipush 192, 3) := by decide +kernel
theorem dX7_listHops_23 : decode cX7_listHops 23 = .ok (.if_icmp .ge 101, 3) := by decide +kernel
theorem dX7_listHops_26 : decode cX7_listHops 26 = .ok (.aload_n 0, 1) := by decide +kernel
theorem dX7_listHops_27 : decode cX7_listHops 27 = .ok (.getfield 33, 3) := by decide +kernel
theorem dX7_listHops_30 : decode cX7_listHops 30 = .ok (.iload_n 1, 1) := by decide +kernel
theorem dX7_listHops_31 : decode cX7_listHops 31 = .ok (.iaload, 1) := by decide +kernel
theorem dX7_listHops_32 : decode cX7_listHops 32 = .ok (.bipush (-6), 2) := by decide +kernel
theorem dX7_listHops_34 : decode cX7_listHops 34 = .ok (.if_icmp .ne 90, 3) := by decide +kernel
theorem dX7_listHops_37 : decode cX7_listHops 37 = .ok (.aload_n 0, 1) := by decide +kernel
theorem dX7_listHops_38 : decode cX7_listHops 38 = .ok (.getfield 36, 3) := by decide +kernel
theorem dX7_listHops_41 : decode cX7_listHops 41 = .ok (.iload_n 1, 1) := by decide +kernel
theorem dX7_listHops_42 : decode cX7_listHops 42 = .ok (.iaload, 1) := by decide +kernel
theorem dX7_listHops_43 : decode cX7_listHops 43 = .ok (.ifCond .eq 18, 3) := by decide +kernel
theorem dX7_listHops_46 : decode cX7_listHops 46 = .ok (.aload_n 0, 1) := by decide +kernel
theorem dX7_listHops_47 : decode cX7_listHops 47 = .ok (.getfield 51, 3) := by decide +kernel
theorem dX7_listHops_50 : decode cX7_listHops 50 = .ok (.sipush 1500, 3) := by decide +kernel
theorem dX7_listHops_53 : decode cX7_listHops 53 = .ok (.iload_n 1, 1) := by decide +kernel
theorem dX7_listHops_54 : decode cX7_listHops 54 = .ok (.imul, 1) := by decide +kernel
theorem dX7_listHops_55 : decode cX7_listHops 55 = .ok (.iaload, 1) := by decide +kernel
theorem dX7_listHops_56 : decode cX7_listHops 56 = .ok (.bipush (-6), 2) := by decide +kernel
theorem dX7_listHops_58 : decode cX7_listHops 58 = .ok (.if_icmp .ne 7, 3) := by decide +kernel
theorem dX7_listHops_61 : decode cX7_listHops 61 = .ok (.iconst 1, 1) := by decide +kernel
theorem dX7_listHops_62 : decode cX7_listHops 62 = .ok (.goto 4, 3) := by decide +kernel
theorem dX7_listHops_65 : decode cX7_listHops 65 = .ok (.iconst 0, 1) := by decide +kernel
theorem dX7_listHops_66 : decode cX7_listHops 66 = .ok (.istore_n 3, 1) := by decide +kernel
theorem dX7_listHops_67 : decode cX7_listHops 67 = .ok (.aload_n 0, 1) := by decide +kernel
theorem dX7_listHops_68 : decode cX7_listHops 68 = .ok (.iload_n 1, 1) := by decide +kernel
theorem dX7_listHops_69 : decode cX7_listHops 69 = .ok (.iload_n 2, 1) := by decide +kernel
theorem dX7_listHops_70 : decode cX7_listHops 70 = .ok (.iconst 4, 1) := by decide +kernel
theorem dX7_listHops_71 : decode cX7_listHops 71 = .ok (.idiv, 1) := by decide +kernel
theorem dX7_listHops_72 : decode cX7_listHops 72 = .ok (.invokevirtual 79, 3) := by decide +kernel
theorem dX7_listHops_75 : decode cX7_listHops 75 = .ok (.istore 4, 2) := by decide +kernel
theorem dX7_listHops_77 : decode cX7_listHops 77 = .ok (.iload_n 3, 1) := by decide +kernel
theorem dX7_listHops_78 : decode cX7_listHops 78 = .ok (.ifCond .eq 40, 3) := by decide +kernel
theorem dX7_listHops_81 : decode cX7_listHops 81 = .ok (.iload 4, 2) := by decide +kernel
theorem dX7_listHops_83 : decode cX7_listHops 83 = .ok (.invokestatic 87, 3) := by decide +kernel
theorem dX7_listHops_86 : decode cX7_listHops 86 = .ok (.aload_n 0, 1) := by decide +kernel
theorem dX7_listHops_87 : decode cX7_listHops 87 = .ok (.getfield 30, 3) := by decide +kernel
theorem dX7_listHops_90 : decode cX7_listHops 90 = .ok (.iload_n 1, 1) := by decide +kernel
theorem dX7_listHops_91 : decode cX7_listHops 91 = .ok (.iaload, 1) := by decide +kernel
theorem dX7_listHops_92 : decode cX7_listHops 92 = .ok (.if_icmp .ne 26, 3) := by decide +kernel
theorem dX7_listHops_95 : decode cX7_listHops 95 = .ok (.aload_n 0, 1) := by decide +kernel
theorem dX7_listHops_96 : decode cX7_listHops 96 = .ok (.iload 4, 2) := by decide +kernel
theorem dX7_listHops_98 : decode cX7_listHops 98 = .ok (.iload_n 2, 1) := by decide +kernel
theorem dX7_listHops_99 : decode cX7_listHops 99 = .ok (.iconst 4, 1) := by decide +kernel
theorem dX7_listHops_100 : decode cX7_listHops 100 = .ok (.irem, 1) := by decide +kernel
theorem dX7_listHops_101 : decode cX7_listHops 101 = .ok (.invokevirtual 101, 3) := by decide +kernel
theorem dX7_listHops_104 : decode cX7_listHops 104 = .ok (.ifCond .eq 14, 3) := by decide +kernel
theorem dX7_listHops_107 : decode cX7_listHops 107 = .ok (.aload_n 0, 1) := by decide +kernel
theorem dX7_listHops_108 : decode cX7_listHops 108 = .ok (.iload_n 1, 1) := by decide +kernel
theorem dX7_listHops_109 : decode cX7_listHops 109 = .ok (.iload_n 2, 1) := by decide +kernel
theorem dX7_listHops_110 : decode cX7_listHops 110 = .ok (.iconst 4, 1) := by decide +kernel
theorem dX7_listHops_111 : decode cX7_listHops 111 = .ok (.idiv, 1) := by decide +kernel
theorem dX7_listHops_112 : decode cX7_listHops 112 = .ok (.iload_n 2, 1) := by decide +kernel
theorem dX7_listHops_113 : decode cX7_listHops 113 = .ok (.iconst 4, 1) := by decide +kernel
theorem dX7_listHops_114 : decode cX7_listHops 114 = .ok (.irem, 1) := by decide +kernel
theorem dX7_listHops_115 : decode cX7_listHops 115 = .ok (.invokevirtual 111, 3) := by decide +kernel
theorem dX7_listHops_118 : decode cX7_listHops 118 = .ok (.iinc 2 1, 3) := by decide +kernel
theorem dX7_listHops_121 : decode cX7_listHops 121 = .ok (.goto (-102), 3) := by decide +kernel
theorem dX7_listHops_124 : decode cX7_listHops 124 = .ok (.return_, 1) := by decide +kernel
theorem dX7_becomesKing_0 : decode cX7_becomesKing 0 = .ok (.sipush 1500, 3) := by decide +kernel
theorem dX7_becomesKing_3 : decode cX7_becomesKing 3 = .ok (.iload_n 1, 1) := by decide +kernel
theorem dX7_becomesKing_4 : decode cX7_becomesKing 4 = .ok (.imul, 1) := by decide +kernel
theorem dX7_becomesKing_5 : decode cX7_becomesKing 5 = .ok (.iload_n 2, 1) := by decide +kernel
theorem dX7_becomesKing_6 : decode cX7_becomesKing 6 = .ok (.iadd, 1) := by decide +kernel
theorem dX7_becomesKing_7 : decode cX7_becomesKing 7 = .ok (.istore_n 3, 1) := by decide +kernel
theorem dX7_becomesKing_8 : decode cX7_becomesKing 8 = .ok (.aload_n 0, 1) := by decide +kernel
theorem dX7_becomesKing_9 : decode cX7_becomesKing 9 = .ok (.iload_n 1, 1) := by decide +kernel
theorem dX7_becomesKing_10 : decode cX7_becomesKing 10 = .ok (.aload_n 0, 1) := by decide +kernel
theorem dX7_becomesKing_11 : decode cX7_becomesKing 11 = .ok (.getfield 39, 3) := by decide +kernel
theorem dX7_becomesKing_14 : decode cX7_becomesKing 14 = .ok (.iload_n 3, 1) := by decide +kernel
theorem dX7_becomesKing_15 : decode cX7_becomesKing 15 = .ok (.iaload, 1) := by decide +kernel
theorem dX7_becomesKing_16 : decode cX7_becomesKing 16 = .ok (.invokevirtual 79, 3) := by decide +kernel
theorem dX7_becomesKing_19 : decode cX7_becomesKing 19 = .ok (.istore 4, 2) := by decide +kernel
theorem dX7_becomesKing_21 : decode cX7_becomesKing 21 = .ok (.aload_n 0, 1) := by decide +kernel
theorem dX7_becomesKing_22 : decode cX7_becomesKing 22 = .ok (.getfield 39, 3) := by decide +kernel
theorem dX7_becomesKing_25 : decode cX7_becomesKing 25 = .ok (.iload_n 3, 1) := by decide +kernel
theorem dX7_becomesKing_26 : decode cX7_becomesKing 26 = .ok (.iaload, 1) := by decide +kernel
theorem dX7_becomesKing_27 : decode cX7_becomesKing 27 = .ok (.invokestatic 69, 3) := by decide +kernel
theorem dX7_becomesKing_30 : decode cX7_becomesKing 30 = .ok (.istore 5, 2) := by decide +kernel
theorem dX7_becomesKing_32 : decode cX7_becomesKing 32 = .ok (.iload 4, 2) := by decide +kernel
theorem dX7_becomesKing_34 : decode cX7_becomesKing 34 = .ok (.ifCond .ne 17, 3) := by decide +kernel
theorem dX7_becomesKing_37 : decode cX7_becomesKing 37 = .ok (.iload 5, 2) := by decide +kernel
theorem dX7_becomesKing_39 : decode cX7_becomesKing 39 = .ok (.aload_n 0, 1) := by decide +kernel
theorem dX7_becomesKing_40 : decode cX7_becomesKing 40 = .ok (.getfield 45, 3) := by decide +kernel
theorem dX7_becomesKing_43 : decode cX7_becomesKing 43 = .ok (.iload_n 3, 1) := by decide +kernel
theorem dX7_becomesKing_44 : decode cX7_becomesKing 44 = .ok (.iaload, 1) := by decide +kernel
theorem dX7_becomesKing_45 : decode cX7_becomesKing 45 = .ok (.iadd, 1) := by decide +kernel
theorem dX7_becomesKing_46 : decode cX7_becomesKing 46 = .ok (.bipush 7, 2) := by decide +kernel
theorem dX7_becomesKing_48 : decode cX7_becomesKing 48 = .ok (.if_icmp .gt 21, 3) := by decide +kernel
theorem dX7_becomesKing_51 : decode cX7_becomesKing 51 = .ok (.iload 4, 2) := by decide +kernel
theorem dX7_becomesKing_53 : decode cX7_becomesKing 53 = .ok (.iconst 2, 1) := by decide +kernel
theorem dX7_becomesKing_54 : decode cX7_becomesKing 54 = .ok (.if_icmp .ne 19, 3) := by decide +kernel
theorem dX7_becomesKing_57 : decode cX7_becomesKing 57 = .ok (.iload 5, 2) := by decide +kernel
theorem dX7_becomesKing_59 : decode cX7_becomesKing 59 = .ok (.aload_n 0, 1) := by decide +kernel
theorem dX7_becomesKing_60 : decode cX7_becomesKing 60 = .ok (.getfield 45, 3) := by decide +kernel
theorem dX7_becomesKing_63 : decode cX7_becomesKing 63 = .ok (.iload_n 3, 1) := by decide +kernel
theorem dX7_becomesKing_64 : decode cX7_becomesKing 64 = .ok (.iaload, 1) := by decide +kernel
theorem dX7_becomesKing_65 : decode cX7_becomesKing 65 = .ok (.isub, 1) := by decide +kernel
theorem dX7_becomesKing_66 : decode cX7_becomesKing 66 = .ok (.ifCond .ge 7, 3) := by decide +kernel
theorem dX7_becomesKing_69 : decode cX7_becomesKing 69 = .ok (.iconst 1, 1) := by decide +kernel
theorem dX7_becomesKing_70 : decode cX7_becomesKing 70 = .ok (.goto 4, 3) := by decide +kernel
theorem dX7_becomesKing_73 : decode cX7_becomesKing 73 = .ok (.iconst 0, 1) := by decide +kernel
theorem dX7_becomesKing_74 : decode cX7_becomesKing 74 = .ok (.ireturn, 1) := by decide +kernel
theorem dX7_go_0 : decode cX7_go 0 = .ok (.sipush 1500, 3) := by decide +kernel
theorem dX7_go_3 : decode cX7_go 3 = .ok (.iload_n 1, 1) := by decide +kernel
theorem dX7_go_4 : decode cX7_go 4 = .ok (.imul, 1) := by decide +kernel
theorem dX7_go_5 : decode cX7_go 5 = .ok (.iload_n 2, 1) := by decide +kernel
theorem dX7_go_6 : decode cX7_go 6 = .ok (.iadd, 1) := by decide +kernel
theorem dX7_go_7 : decode cX7_go 7 = .ok (.istore_n 3, 1) := by decide +kernel
theorem dX7_go_8 : decode cX7_go 8 = .ok (.bipush 48, 2) := by decide +kernel
theorem dX7_go_10 : decode cX7_go 10 = .ok (.iload_n 1, 1) := by decide +kernel
theorem dX7_go_11 : decode cX7_go 11 = .ok (.iconst 1, 1) := by decide +kernel
theorem dX7_go_12 : decode cX7_go 12 = .ok (.iadd, 1) := by decide +kernel
theorem dX7_go_13 : decode cX7_go 13 = .ok (.imul, 1) := by decide +kernel
theorem dX7_go_14 : decode cX7_go 14 = .ok (.istore 4, 2) := by decide +kernel
theorem dX7_go_16 : decode cX7_go 16 = .ok (.iconst 0, 1) := by decide +kernel
theorem dX7_go_17 : decode cX7_go 17 = .ok (.istore 5, 2) := by decide +kernel
theorem dX7_go_19 : decode cX7_go 19 = .ok (.iload 5, 2) := by decide +kernel
theorem dX7_go_21 : decode cX7_go 21 = .ok (.bipush 48, 2) := by decide +kernel
theorem dX7_go_23 : decode cX7_go 23 = .ok (.if_icmp .ge 26, 3) := by decide +kernel
theorem dX7_go_26 : decode cX7_go 26 = .ok (.aload_n 0, 1) := by decide +kernel
theorem dX7_go_27 : decode cX7_go 27 = .ok (.getfield 27, 3) := by decide +kernel
theorem dX7_go_30 : decode cX7_go 30 = .ok (.iload 4, 2) := by decide +kernel
theorem dX7_go_32 : decode cX7_go 32 = .ok (.iload 5, 2) := by decide +kernel
theorem dX7_go_34 : decode cX7_go 34 = .ok (.iadd, 1) := by decide +kernel
theorem dX7_go_35 : decode cX7_go 35 = .ok (.aload_n 0, 1) := by decide +kernel
theorem dX7_go_36 : decode cX7_go 36 = .ok (.iload_n 1, 1) := by decide +kernel
theorem dX7_go_37 : decode cX7_go 37 = .ok (.iload 5, 2) := by decide +kernel
theorem dX7_go_39 : decode cX7_go 39 = .ok (.invokevirtual 79, 3) := by decide +kernel
theorem dX7_go_42 : decode cX7_go 42 = .ok (.iastore, 1) := by decide +kernel
theorem dX7_go_43 : decode cX7_go 43 = .ok (.iinc 5 1, 3) := by decide +kernel
theorem dX7_go_46 : decode cX7_go 46 = .ok (.goto (-27), 3) := by decide +kernel
theorem dX7_go_49 : decode cX7_go 49 = .ok (.aload_n 0, 1) := by decide +kernel
theorem dX7_go_50 : decode cX7_go 50 = .ok (.iload_n 1, 1) := by decide +kernel
theorem dX7_go_51 : decode cX7_go 51 = .ok (.aload_n 0, 1) := by decide +kernel
theorem dX7_go_52 : decode cX7_go 52 = .ok (.getfield 39, 3) := by decide +kernel
theorem dX7_go_55 : decode cX7_go 55 = .ok (.iload_n 3, 1) := by decide +kernel
theorem dX7_go_56 : decode cX7_go 56 = .ok (.iaload, 1) := by decide +kernel
theorem dX7_go_57 : decode cX7_go 57 = .ok (.invokevirtual 79, 3) := by decide +kernel
theorem dX7_go_60 : decode cX7_go 60 = .ok (.istore 5, 2) := by decide +kernel
theorem dX7_go_62 : decode cX7_go 62 = .ok (.aload_n 0, 1) := by decide +kernel
theorem dX7_go_63 : decode cX7_go 63 = .ok (.getfield 27, 3) := by decide +kernel
theorem dX7_go_66 : decode cX7_go 66 = .ok (.iload 4, 2) := by decide +kernel
theorem dX7_go_68 : decode cX7_go 68 = .ok (.aload_n 0, 1) := by decide +kernel
theorem dX7_go_69 : decode cX7_go 69 = .ok (.getfield 39, 3) := by decide +kernel
theorem dX7_go_72 : decode cX7_go 72 = .ok (.iload_n 3, 1) := by decide +kernel
theorem dX7_go_73 : decode cX7_go 73 = .ok (.iaload, 1) := by decide +kernel
theorem dX7_go_74 : decode cX7_go 74 = .ok (.iadd, 1) := by decide +kernel
theorem dX7_go_75 : decode cX7_go 75 = .ok (.bipush (-6), 2) := by decide +kernel
theorem dX7_go_77 : decode cX7_go 77 = .ok (.iastore, 1) := by decide +kernel
theorem dX7_go_78 : decode cX7_go 78 = .ok (.aload_n 0, 1) := by decide +kernel
theorem dX7_go_79 : decode cX7_go 79 = .ok (.getfield 27, 3) := by decide +kernel
theorem dX7_go_82 : decode cX7_go 82 = .ok (.iload 4, 2) := by decide +kernel
theorem dX7_go_84 : decode cX7_go 84 = .ok (.aload_n 0, 1) := by decide +kernel
theorem dX7_go_85 : decode cX7_go 85 = .ok (.getfield 48, 3) := by decide +kernel
theorem dX7_go_88 : decode cX7_go 88 = .ok (.iload_n 3, 1) := by decide +kernel
theorem dX7_go_89 : decode cX7_go 89 = .ok (.iaload, 1) := by decide +kernel
theorem dX7_go_90 : decode cX7_go 90 = .ok (.iadd, 1) := by decide +kernel
theorem dX7_go_91 : decode cX7_go 91 = .ok (.aload_n 0, 1) := by decide +kernel
theorem dX7_go_92 : decode cX7_go 92 = .ok (.iload_n 1, 1) := by decide +kernel
theorem dX7_go_93 : decode cX7_go 93 = .ok (.iload_n 2, 1) := by decide +kernel
theorem dX7_go_94 : decode cX7_go 94 = .ok (.invokevirtual 114, 3) := by decide +kernel
theorem dX7_go_97 : decode cX7_go 97 = .ok (.ifCond .eq 10, 3) := by decide +kernel
theorem dX7_go_100 : decode cX7_go 100 = .ok (.iload 5, 2) := by decide +kernel
theorem dX7_go_102 : decode cX7_go 102 = .ok (.iconst 1, 1) := by decide +kernel
theorem dX7_go_103 : decode cX7_go 103 = .ok (.iadd, 1) := by decide +kernel
theorem dX7_go_104 : decode cX7_go 104 = .ok (.goto 5, 3) := by decide +kernel
theorem dX7_go_107 : decode cX7_go 107 = .ok (.iload 5, 2) := by decide +kernel
theorem dX7_go_109 : decode cX7_go 109 = .ok (.iastore, 1) := by decide +kernel
theorem dX7_go_110 : decode cX7_go 110 = .ok (.aload_n 0, 1) := by decide +kernel
theorem dX7_go_111 : decode cX7_go 111 = .ok (.getfield 30, 3) := by decide +kernel
theorem dX7_go_114 : decode cX7_go 114 = .ok (.iload_n 1, 1) := by decide +kernel
theorem dX7_go_115 : decode cX7_go 115 = .ok (.iconst 1, 1) := by decide +kernel
theorem dX7_go_116 : decode cX7_go 116 = .ok (.iadd, 1) := by decide +kernel
theorem dX7_go_117 : decode cX7_go 117 = .ok (.iconst 1, 1) := by decide +kernel
theorem dX7_go_118 : decode cX7_go 118 = .ok (.aload_n 0, 1) := by decide +kernel
theorem dX7_go_119 : decode cX7_go 119 = .ok (.getfield 30, 3) := by decide +kernel
theorem dX7_go_122 : decode cX7_go 122 = .ok (.iload_n 1, 1) := by decide +kernel
theorem dX7_go_123 : decode cX7_go 123 = .ok (.iaload, 1) := by decide +kernel
theorem dX7_go_124 : decode cX7_go 124 = .ok (.isub, 1) := by decide +kernel
theorem dX7_go_125 : decode cX7_go 125 = .ok (.iastore, 1) := by decide +kernel
theorem dX7_go_126 : decode cX7_go 126 = .ok (.aload_n 0, 1) := by decide +kernel
theorem dX7_go_127 : decode cX7_go 127 = .ok (.getfield 33, 3) := by decide +kernel
theorem dX7_go_130 : decode cX7_go 130 = .ok (.iload_n 1, 1) := by decide +kernel
theorem dX7_go_131 : decode cX7_go 131 = .ok (.iconst 1, 1) := by decide +kernel
theorem dX7_go_132 : decode cX7_go 132 = .ok (.iadd, 1) := by decide +kernel
theorem dX7_go_133 : decode cX7_go 133 = .ok (.bipush (-6), 2) := by decide +kernel
theorem dX7_go_135 : decode cX7_go 135 = .ok (.iastore, 1) := by decide +kernel
theorem dX7_go_136 : decode cX7_go 136 = .ok (.aload_n 0, 1) := by decide +kernel
theorem dX7_go_137 : decode cX7_go 137 = .ok (.getfield 51, 3) := by decide +kernel
theorem dX7_go_140 : decode cX7_go 140 = .ok (.iload_n 3, 1) := by decide +kernel
theorem dX7_go_141 : decode cX7_go 141 = .ok (.iaload, 1) := by decide +kernel
theorem dX7_go_142 : decode cX7_go 142 = .ok (.bipush (-6), 2) := by decide +kernel
theorem dX7_go_144 : decode cX7_go 144 = .ok (.if_icmp .eq 77, 3) := by decide +kernel
theorem dX7_go_147 : decode cX7_go 147 = .ok (.aload_n 0, 1) := by decide +kernel
theorem dX7_go_148 : decode cX7_go 148 = .ok (.getfield 27, 3) := by decide +kernel
theorem dX7_go_151 : decode cX7_go 151 = .ok (.iload 4, 2) := by decide +kernel
theorem dX7_go_153 : decode cX7_go 153 = .ok (.aload_n 0, 1) := by decide +kernel
theorem dX7_go_154 : decode cX7_go 154 = .ok (.getfield 51, 3) := by decide +kernel
theorem dX7_go_157 : decode cX7_go 157 = .ok (.iload_n 3, 1) := by decide +kernel
theorem dX7_go_158 : decode cX7_go 158 = .ok (.iaload, 1) := by decide +kernel
theorem dX7_go_159 : decode cX7_go 159 = .ok (.iadd, 1) := by decide +kernel
theorem dX7_go_160 : decode cX7_go 160 = .ok (.bipush (-6), 2) := by decide +kernel
theorem dX7_go_162 : decode cX7_go 162 = .ok (.iastore, 1) := by decide +kernel
theorem dX7_go_163 : decode cX7_go 163 = .ok (.aload_n 0, 1) := by decide +kernel
theorem dX7_go_164 : decode cX7_go 164 = .ok (.iload_n 1, 1) := by decide +kernel
theorem dX7_go_165 : decode cX7_go 165 = .ok (.iconst 1, 1) := by decide +kernel
theorem dX7_go_166 : decode cX7_go 166 = .ok (.iadd, 1) := by decide +kernel
theorem dX7_go_167 : decode cX7_go 167 = .ok (.aload_n 0, 1) := by decide +kernel
theorem dX7_go_168 : decode cX7_go 168 = .ok (.getfield 30, 3) := by decide +kernel
theorem dX7_go_171 : decode cX7_go 171 = .ok (.iload_n 1, 1) := by decide +kernel
theorem dX7_go_172 : decode cX7_go 172 = .ok (.iaload, 1) := by decide +kernel
theorem dX7_go_173 : decode cX7_go 173 = .ok (.aload_n 0, 1) := by decide +kernel
theorem dX7_go_174 : decode cX7_go 174 = .ok (.getfield 48, 3) := by decide +kernel
theorem dX7_go_177 : decode cX7_go 177 = .ok (.iload_n 3, 1) := by decide +kernel
theorem dX7_go_178 : decode cX7_go 178 = .ok (.iaload, 1) := by decide +kernel
theorem dX7_go_179 : decode cX7_go 179 = .ok (.invokevirtual 108, 3) := by decide +kernel
theorem dX7_go_182 : decode cX7_go 182 = .ok (.aload_n 0, 1) := by decide +kernel
theorem dX7_go_183 : decode cX7_go 183 = .ok (.getfield 36, 3) := by decide +kernel
theorem dX7_go_186 : decode cX7_go 186 = .ok (.iload_n 1, 1) := by decide +kernel
theorem dX7_go_187 : decode cX7_go 187 = .ok (.iconst 1, 1) := by decide +kernel
theorem dX7_go_188 : decode cX7_go 188 = .ok (.iadd, 1) := by decide +kernel
theorem dX7_go_189 : decode cX7_go 189 = .ok (.iaload, 1) := by decide +kernel
theorem dX7_go_190 : decode cX7_go 190 = .ok (.ifCond .le 31, 3) := by decide +kernel
theorem dX7_go_193 : decode cX7_go 193 = .ok (.aload_n 0, 1) := by decide +kernel
theorem dX7_go_194 : decode cX7_go 194 = .ok (.getfield 30, 3) := by decide +kernel
theorem dX7_go_197 : decode cX7_go 197 = .ok (.iload_n 1, 1) := by decide +kernel
theorem dX7_go_198 : decode cX7_go 198 = .ok (.iconst 1, 1) := by decide +kernel
theorem dX7_go_199 : decode cX7_go 199 = .ok (.iadd, 1) := by decide +kernel
theorem dX7_go_200 : decode cX7_go 200 = .ok (.aload_n 0, 1) := by decide +kernel
theorem dX7_go_201 : decode cX7_go 201 = .ok (.getfield 30, 3) := by decide +kernel
theorem dX7_go_204 : decode cX7_go 204 = .ok (.iload_n 1, 1) := by decide +kernel
theorem dX7_go_205 : decode cX7_go 205 = .ok (.iaload, 1) := by decide +kernel
theorem dX7_go_206 : decode cX7_go 206 = .ok (.iastore, 1) := by decide +kernel
theorem dX7_go_207 : decode cX7_go 207 = .ok (.aload_n 0, 1) := by decide +kernel
theorem dX7_go_208 : decode cX7_go 208 = .ok (.getfield 33, 3) := by decide +kernel
theorem dX7_go_211 : decode cX7_go 211 = .ok (.iload_n 1, 1) := by decide +kernel
theorem dX7_go_212 : decode cX7_go 212 = .ok (.iconst 1, 1) := by decide +kernel
theorem dX7_go_213 : decode cX7_go 213 = .ok (.iadd, 1) := by decide +kernel
theorem dX7_go_214 : decode cX7_go 214 = .ok (.aload_n 0, 1) := by decide +kernel
theorem dX7_go_215 : decode cX7_go 215 = .ok (.getfield 48, 3) := by decide +kernel
theorem dX7_go_218 : decode cX7_go 218 = .ok (.iload_n 3, 1) := by decide +kernel
theorem dX7_go_219 : decode cX7_go 219 = .ok (.iaload, 1) := by decide +kernel
theorem dX7_go_220 : decode cX7_go 220 = .ok (.iastore, 1) := by decide +kernel
theorem dX7_go_221 : decode cX7_go 221 = .ok (.return_, 1) := by decide +kernel
theorem dX7_look_0 : decode cX7_look 0 = .ok (.iconst 0, 1) := by decide +kernel
theorem dX7_look_1 : decode cX7_look 1 = .ok (.istore_n 1, 1) := by decide +kernel
theorem dX7_look_2 : decode cX7_look 2 = .ok (.iload_n 1, 1) := by decide +kernel
theorem dX7_look_3 : decode cX7_look 3 = .ok (.bipush 48, 2) := by decide +kernel
theorem dX7_look_5 : decode cX7_look 5 = .ok (.if_icmp .ge 23, 3) := by decide +kernel
theorem dX7_look_8 : decode cX7_look 8 = .ok (.aload_n 0, 1) := by decide +kernel
theorem dX7_look_9 : decode cX7_look 9 = .ok (.getfield 27, 3) := by decide +kernel
theorem dX7_look_12 : decode cX7_look 12 = .ok (.iload_n 1, 1) := by decide +kernel
theorem dX7_look_13 : decode cX7_look 13 = .ok (.aload_n 0, 1) := by decide +kernel
theorem dX7_look_14 : decode cX7_look 14 = .ok (.getfield 7, 3) := by decide +kernel
theorem dX7_look_17 : decode cX7_look 17 = .ok (.iconst 0, 1) := by decide +kernel
theorem dX7_look_18 : decode cX7_look 18 = .ok (.iload_n 1, 1) := by decide +kernel
theorem dX7_look_19 : decode cX7_look 19 = .ok (.iadd, 1) := by decide +kernel
theorem dX7_look_20 : decode cX7_look 20 = .ok (.iaload, 1) := by decide +kernel
theorem dX7_look_21 : decode cX7_look 21 = .ok (.iastore, 1) := by decide +kernel
theorem dX7_look_22 : decode cX7_look 22 = .ok (.iinc 1 1, 3) := by decide +kernel
theorem dX7_look_25 : decode cX7_look 25 = .ok (.goto (-23), 3) := by decide +kernel
theorem dX7_look_28 : decode cX7_look 28 = .ok (.aload_n 0, 1) := by decide +kernel
theorem dX7_look_29 : decode cX7_look 29 = .ok (.getfield 30, 3) := by decide +kernel
theorem dX7_look_32 : decode cX7_look 32 = .ok (.iconst 0, 1) := by decide +kernel
theorem dX7_look_33 : decode cX7_look 33 = .ok (.aload_n 0, 1) := by decide +kernel
theorem dX7_look_34 : decode cX7_look 34 = .ok (.getfield 7, 3) := by decide +kernel
theorem dX7_look_37 : decode cX7_look 37 = .ok (.bipush 48, 2) := by decide +kernel
theorem dX7_look_39 : decode cX7_look 39 = .ok (.iaload, 1) := by decide +kernel
theorem dX7_look_40 : decode cX7_look 40 = .ok (.iastore, 1) := by decide +kernel
theorem dX7_look_41 : decode cX7_look 41 = .ok (.aload_n 0, 1) := by decide +kernel
theorem dX7_look_42 : decode cX7_look 42 = .ok (.getfield 33, 3) := by decide +kernel
theorem dX7_look_45 : decode cX7_look 45 = .ok (.iconst 0, 1) := by decide +kernel
theorem dX7_look_46 : decode cX7_look 46 = .ok (.aload_n 0, 1) := by decide +kernel
theorem dX7_look_47 : decode cX7_look 47 = .ok (.getfield 7, 3) := by decide +kernel
theorem dX7_look_50 : decode cX7_look 50 = .ok (.bipush 54, 2) := by decide +kernel
theorem dX7_look_52 : decode cX7_look 52 = .ok (.iaload, 1) := by decide +kernel
theorem dX7_look_53 : decode cX7_look 53 = .ok (.iastore, 1) := by decide +kernel
theorem dX7_look_54 : decode cX7_look 54 = .ok (.aload_n 0, 1) := by decide +kernel
theorem dX7_look_55 : decode cX7_look 55 = .ok (.iconst 0, 1) := by decide +kernel
theorem dX7_look_56 : decode cX7_look 56 = .ok (.invokevirtual 117, 3) := by decide +kernel
theorem dX7_look_59 : decode cX7_look 59 = .ok (.aload_n 0, 1) := by decide +kernel
theorem dX7_look_60 : decode cX7_look 60 = .ok (.getfield 7, 3) := by decide +kernel
theorem dX7_look_63 : decode cX7_look 63 = .ok (.bipush 49, 2) := by decide +kernel
theorem dX7_look_65 : decode cX7_look 65 = .ok (.iaload, 1) := by decide +kernel
theorem dX7_look_66 : decode cX7_look 66 = .ok (.ifCond .eq 10, 3) := by decide +kernel
theorem dX7_look_69 : decode cX7_look 69 = .ok (.aload_n 0, 1) := by decide +kernel
theorem dX7_look_70 : decode cX7_look 70 = .ok (.getfield 36, 3) := by decide +kernel
theorem dX7_look_73 : decode cX7_look 73 = .ok (.iconst 0, 1) := by decide +kernel
theorem dX7_look_74 : decode cX7_look 74 = .ok (.iconst 0, 1) := by decide +kernel
theorem dX7_look_75 : decode cX7_look 75 = .ok (.iastore, 1) := by decide +kernel
theorem dX7_look_76 : decode cX7_look 76 = .ok (.return_, 1) := by decide +kernel
theorem dX7_squaresOf_0 : decode cX7_squaresOf 0 = .ok (.iconst 0, 1) := by decide +kernel
theorem dX7_squaresOf_1 : decode cX7_squaresOf 1 = .ok (.istore_n 2, 1) := by decide +kernel
theorem dX7_squaresOf_2 : decode cX7_squaresOf 2 = .ok (.iload_n 1, 1) := by decide +kernel
theorem dX7_squaresOf_3 : decode cX7_squaresOf 3 = .ok (.istore_n 3, 1) := by decide +kernel
theorem dX7_squaresOf_4 : decode cX7_squaresOf 4 = .ok (.iload_n 3, 1) := by decide +kernel
theorem dX7_squaresOf_5 : decode cX7_squaresOf 5 = .ok (.iload_n 1, 1) := by decide +kernel
theorem dX7_squaresOf_6 : decode cX7_squaresOf 6 = .ok (.bipush 10, 2) := by decide +kernel
theorem dX7_squaresOf_8 : decode cX7_squaresOf 8 = .ok (.iadd, 1) := by decide +kernel
theorem dX7_squaresOf_9 : decode cX7_squaresOf 9 = .ok (.if_icmp .ge 45, 3) := by decide +kernel
theorem dX7_squaresOf_12 : decode cX7_squaresOf 12 = .ok (.iload_n 3, 1) := by decide +kernel
theorem dX7_squaresOf_13 : decode cX7_squaresOf 13 = .ok (.bipush 48, 2) := by decide +kernel
theorem dX7_squaresOf_15 : decode cX7_squaresOf 15 = .ok (.if_icmp .ge 39, 3) := by decide +kernel
theorem dX7_squaresOf_18 : decode cX7_squaresOf 18 = .ok (.iconst 5, 1) := by decide +kernel
theorem dX7_squaresOf_19 : decode cX7_squaresOf 19 = .ok (.iload_n 2, 1) := by decide +kernel
theorem dX7_squaresOf_20 : decode cX7_squaresOf 20 = .ok (.imul, 1) := by decide +kernel
theorem dX7_squaresOf_21 : decode cX7_squaresOf 21 = .ok (.aload_n 0, 1) := by decide +kernel
theorem dX7_squaresOf_22 : decode cX7_squaresOf 22 = .ok (.getfield 7, 3) := by decide +kernel
theorem dX7_squaresOf_25 : decode cX7_squaresOf 25 = .ok (.iconst 0, 1) := by decide +kernel
theorem dX7_squaresOf_26 : decode cX7_squaresOf 26 = .ok (.iload_n 3, 1) := by decide +kernel
theorem dX7_squaresOf_27 : decode cX7_squaresOf 27 = .ok (.iadd, 1) := by decide +kernel
theorem dX7_squaresOf_28 : decode cX7_squaresOf 28 = .ok (.iaload, 1) := by decide +kernel
theorem dX7_squaresOf_29 : decode cX7_squaresOf 29 = .ok (.bipush (-6), 2) := by decide +kernel
theorem dX7_squaresOf_31 : decode cX7_squaresOf 31 = .ok (.if_icmp .ne 7, 3) := by decide +kernel
theorem dX7_squaresOf_34 : decode cX7_squaresOf 34 = .ok (.iconst 4, 1) := by decide +kernel
theorem dX7_squaresOf_35 : decode cX7_squaresOf 35 = .ok (.goto 11, 3) := by decide +kernel
theorem dX7_squaresOf_38 : decode cX7_squaresOf 38 = .ok (.aload_n 0, 1) := by decide +kernel
theorem dX7_squaresOf_39 : decode cX7_squaresOf 39 = .ok (.getfield 7, 3) := by decide +kernel
theorem dX7_squaresOf_42 : decode cX7_squaresOf 42 = .ok (.iconst 0, 1) := by decide +kernel
theorem dX7_squaresOf_43 : decode cX7_squaresOf 43 = .ok (.iload_n 3, 1) := by decide +kernel
theorem dX7_squaresOf_44 : decode cX7_squaresOf 44 = .ok (.iadd, 1) := by decide +kernel
theorem dX7_squaresOf_45 : decode cX7_squaresOf 45 = .ok (.iaload, 1) := by decide +kernel
theorem dX7_squaresOf_46 : decode cX7_squaresOf 46 = .ok (.iadd, 1) := by decide +kernel
theorem dX7_squaresOf_47 : decode cX7_squaresOf 47 = .ok (.istore_n 2, 1) := by decide +kernel
theorem dX7_squaresOf_48 : decode cX7_squaresOf 48 = .ok (.iinc 3 1, 3) := by decide +kernel
theorem dX7_squaresOf_51 : decode cX7_squaresOf 51 = .ok (.goto (-47), 3) := by decide +kernel
theorem dX7_squaresOf_54 : decode cX7_squaresOf 54 = .ok (.iload_n 2, 1) := by decide +kernel
theorem dX7_squaresOf_55 : decode cX7_squaresOf 55 = .ok (.ireturn, 1) := by decide +kernel
theorem dX7_writePosition_0 : decode cX7_writePosition 0 = .ok (.bipush 59, 2) := by decide +kernel
theorem dX7_writePosition_2 : decode cX7_writePosition 2 = .ok (.bipush 6, 2) := by decide +kernel
theorem dX7_writePosition_4 : decode cX7_writePosition 4 = .ok (.aload_n 0, 1) := by decide +kernel
theorem dX7_writePosition_5 : decode cX7_writePosition 5 = .ok (.getfield 7, 3) := by decide +kernel
theorem dX7_writePosition_8 : decode cX7_writePosition 8 = .ok (.bipush 58, 2) := by decide +kernel
theorem dX7_writePosition_10 : decode cX7_writePosition 10 = .ok (.iaload, 1) := by decide +kernel
theorem dX7_writePosition_11 : decode cX7_writePosition 11 = .ok (.imul, 1) := by decide +kernel
theorem dX7_writePosition_12 : decode cX7_writePosition 12 = .ok (.iadd, 1) := by decide +kernel
theorem dX7_writePosition_13 : decode cX7_writePosition 13 = .ok (.istore_n 1, 1) := by decide +kernel
theorem dX7_writePosition_14 : decode cX7_writePosition 14 = .ok (.iconst 0, 1) := by decide +kernel
theorem dX7_writePosition_15 : decode cX7_writePosition 15 = .ok (.istore_n 2, 1) := by decide +kernel
theorem dX7_writePosition_16 : decode cX7_writePosition 16 = .ok (.iload_n 2, 1) := by decide +kernel
theorem dX7_writePosition_17 : decode cX7_writePosition 17 = .ok (.iconst 5, 1) := by decide +kernel
theorem dX7_writePosition_18 : decode cX7_writePosition 18 = .ok (.if_icmp .ge 25, 3) := by decide +kernel
theorem dX7_writePosition_21 : decode cX7_writePosition 21 = .ok (.aload_n 0, 1) := by decide +kernel
theorem dX7_writePosition_22 : decode cX7_writePosition 22 = .ok (.getfield 7, 3) := by decide +kernel
theorem dX7_writePosition_25 : decode cX7_writePosition 25 = .ok (.iload_n 1, 1) := by decide +kernel
theorem dX7_writePosition_26 : decode cX7_writePosition 26 = .ok (.iload_n 2, 1) := by decide +kernel
theorem dX7_writePosition_27 : decode cX7_writePosition 27 = .ok (.iadd, 1) := by decide +kernel
theorem dX7_writePosition_28 : decode cX7_writePosition 28 = .ok (.aload_n 0, 1) := by decide +kernel
theorem dX7_writePosition_29 : decode cX7_writePosition 29 = .ok (.bipush 10, 2) := by decide +kernel
theorem dX7_writePosition_31 : decode cX7_writePosition 31 = .ok (.iload_n 2, 1) := by decide +kernel
theorem dX7_writePosition_32 : decode cX7_writePosition 32 = .ok (.imul, 1) := by decide +kernel
theorem dX7_writePosition_33 : decode cX7_writePosition 33 = .ok (.invokevirtual 121, 3) := by decide +kernel
theorem dX7_writePosition_36 : decode cX7_writePosition 36 = .ok (.iastore, 1) := by decide +kernel
theorem dX7_writePosition_37 : decode cX7_writePosition 37 = .ok (.iinc 2 1, 3) := by decide +kernel
theorem dX7_writePosition_40 : decode cX7_writePosition 40 = .ok (.goto (-24), 3) := by decide +kernel
theorem dX7_writePosition_43 : decode cX7_writePosition 43 = .ok (.aload_n 0, 1) := by decide +kernel
theorem dX7_writePosition_44 : decode cX7_writePosition 44 = .ok (.getfield 7, 3) := by decide +kernel
theorem dX7_writePosition_47 : decode cX7_writePosition 47 = .ok (.iload_n 1, 1) := by decide +kernel
theorem dX7_writePosition_48 : decode cX7_writePosition 48 = .ok (.iconst 5, 1) := by decide +kernel
theorem dX7_writePosition_49 : decode cX7_writePosition 49 = .ok (.iadd, 1) := by decide +kernel
theorem dX7_writePosition_50 : decode cX7_writePosition 50 = .ok (.bipush 100, 2) := by decide +kernel
theorem dX7_writePosition_52 : decode cX7_writePosition 52 = .ok (.aload_n 0, 1) := by decide +kernel
theorem dX7_writePosition_53 : decode cX7_writePosition 53 = .ok (.getfield 7, 3) := by decide +kernel
theorem dX7_writePosition_56 : decode cX7_writePosition 56 = .ok (.bipush 48, 2) := by decide +kernel
theorem dX7_writePosition_58 : decode cX7_writePosition 58 = .ok (.iaload, 1) := by decide +kernel
theorem dX7_writePosition_59 : decode cX7_writePosition 59 = .ok (.imul, 1) := by decide +kernel
theorem dX7_writePosition_60 : decode cX7_writePosition 60 = .ok (.aload_n 0, 1) := by decide +kernel
theorem dX7_writePosition_61 : decode cX7_writePosition 61 = .ok (.getfield 7, 3) := by decide +kernel
theorem dX7_writePosition_64 : decode cX7_writePosition 64 = .ok (.bipush 54, 2) := by decide +kernel
theorem dX7_writePosition_66 : decode cX7_writePosition 66 = .ok (.iaload, 1) := by decide +kernel
theorem dX7_writePosition_67 : decode cX7_writePosition 67 = .ok (.iadd, 1) := by decide +kernel
theorem dX7_writePosition_68 : decode cX7_writePosition 68 = .ok (.iastore, 1) := by decide +kernel
theorem dX7_writePosition_69 : decode cX7_writePosition 69 = .ok (.aload_n 0, 1) := by decide +kernel
theorem dX7_writePosition_70 : decode cX7_writePosition 70 = .ok (.getfield 7, 3) := by decide +kernel
theorem dX7_writePosition_73 : decode cX7_writePosition 73 = .ok (.bipush 58, 2) := by decide +kernel
theorem dX7_writePosition_75 : decode cX7_writePosition 75 = .ok (.dup2, 1) := by decide +kernel
theorem dX7_writePosition_76 : decode cX7_writePosition 76 = .ok (.iaload, 1) := by decide +kernel
theorem dX7_writePosition_77 : decode cX7_writePosition 77 = .ok (.iconst 1, 1) := by decide +kernel
theorem dX7_writePosition_78 : decode cX7_writePosition 78 = .ok (.iadd, 1) := by decide +kernel
theorem dX7_writePosition_79 : decode cX7_writePosition 79 = .ok (.iastore, 1) := by decide +kernel
theorem dX7_writePosition_80 : decode cX7_writePosition 80 = .ok (.return_, 1) := by decide +kernel
theorem dX7_timesCome_0 : decode cX7_timesCome 0 = .ok (.bipush 59, 2) := by decide +kernel
theorem dX7_timesCome_2 : decode cX7_timesCome 2 = .ok (.bipush 6, 2) := by decide +kernel
theorem dX7_timesCome_4 : decode cX7_timesCome 4 = .ok (.aload_n 0, 1) := by decide +kernel
theorem dX7_timesCome_5 : decode cX7_timesCome 5 = .ok (.getfield 7, 3) := by decide +kernel
theorem dX7_timesCome_8 : decode cX7_timesCome 8 = .ok (.bipush 58, 2) := by decide +kernel
theorem dX7_timesCome_10 : decode cX7_timesCome 10 = .ok (.iaload, 1) := by decide +kernel
theorem dX7_timesCome_11 : decode cX7_timesCome 11 = .ok (.iconst 1, 1) := by decide +kernel
theorem dX7_timesCome_12 : decode cX7_timesCome 12 = .ok (.isub, 1) := by decide +kernel
theorem dX7_timesCome_13 : decode cX7_timesCome 13 = .ok (.imul, 1) := by decide +kernel
theorem dX7_timesCome_14 : decode cX7_timesCome 14 = .ok (.iadd, 1) := by decide +kernel
theorem dX7_timesCome_15 : decode cX7_timesCome 15 = .ok (.istore_n 1, 1) := by decide +kernel
theorem dX7_timesCome_16 : decode cX7_timesCome 16 = .ok (.iconst 0, 1) := by decide +kernel
theorem dX7_timesCome_17 : decode cX7_timesCome 17 = .ok (.istore_n 2, 1) := by decide +kernel
theorem dX7_timesCome_18 : decode cX7_timesCome 18 = .ok (.iconst 0, 1) := by decide +kernel
theorem dX7_timesCome_19 : decode cX7_timesCome 19 = .ok (.istore_n 3, 1) := by decide +kernel
theorem dX7_timesCome_20 : decode cX7_timesCome 20 = .ok (.iload_n 3, 1) := by decide +kernel
theorem dX7_timesCome_21 : decode cX7_timesCome 21 = .ok (.aload_n 0, 1) := by decide +kernel
theorem dX7_timesCome_22 : decode cX7_timesCome 22 = .ok (.getfield 7, 3) := by decide +kernel
theorem dX7_timesCome_25 : decode cX7_timesCome 25 = .ok (.bipush 58, 2) := by decide +kernel
theorem dX7_timesCome_27 : decode cX7_timesCome 27 = .ok (.iaload, 1) := by decide +kernel
theorem dX7_timesCome_28 : decode cX7_timesCome 28 = .ok (.if_icmp .ge 80, 3) := by decide +kernel
theorem dX7_timesCome_31 : decode cX7_timesCome 31 = .ok (.iconst 1, 1) := by decide +kernel
theorem dX7_timesCome_32 : decode cX7_timesCome 32 = .ok (.istore 4, 2) := by decide +kernel
theorem dX7_timesCome_34 : decode cX7_timesCome 34 = .ok (.iconst 0, 1) := by decide +kernel
theorem dX7_timesCome_35 : decode cX7_timesCome 35 = .ok (.istore 5, 2) := by decide +kernel
theorem dX7_timesCome_37 : decode cX7_timesCome 37 = .ok (.iload 5, 2) := by decide +kernel
theorem dX7_timesCome_39 : decode cX7_timesCome 39 = .ok (.bipush 6, 2) := by decide +kernel
theorem dX7_timesCome_41 : decode cX7_timesCome 41 = .ok (.if_icmp .ge 48, 3) := by decide +kernel
theorem dX7_timesCome_44 : decode cX7_timesCome 44 = .ok (.iload 4, 2) := by decide +kernel
theorem dX7_timesCome_46 : decode cX7_timesCome 46 = .ok (.ifCond .eq 34, 3) := by decide +kernel
theorem dX7_timesCome_49 : decode cX7_timesCome 49 = .ok (.aload_n 0, 1) := by decide +kernel
theorem dX7_timesCome_50 : decode cX7_timesCome 50 = .ok (.getfield 7, 3) := by decide +kernel
theorem dX7_timesCome_53 : decode cX7_timesCome 53 = .ok (.bipush 59, 2) := by decide +kernel
theorem dX7_timesCome_55 : decode cX7_timesCome 55 = .ok (.bipush 6, 2) := by decide +kernel
theorem dX7_timesCome_57 : decode cX7_timesCome 57 = .ok (.iload_n 3, 1) := by decide +kernel
theorem dX7_timesCome_58 : decode cX7_timesCome 58 = .ok (.imul, 1) := by decide +kernel
theorem dX7_timesCome_59 : decode cX7_timesCome 59 = .ok (.iadd, 1) := by decide +kernel
theorem dX7_timesCome_60 : decode cX7_timesCome 60 = .ok (.iload 5, 2) := by decide +kernel
theorem dX7_timesCome_62 : decode cX7_timesCome 62 = .ok (.iadd, 1) := by decide +kernel
theorem dX7_timesCome_63 : decode cX7_timesCome 63 = .ok (.iaload, 1) := by decide +kernel
theorem dX7_timesCome_64 : decode cX7_timesCome 64 = .ok (.aload_n 0, 1) := by decide +kernel
theorem dX7_timesCome_65 : decode cX7_timesCome 65 = .ok (.getfield 7, 3) := by decide +kernel
theorem dX7_timesCome_68 : decode cX7_timesCome 68 = .ok (.iload_n 1, 1) := by decide +kernel
theorem dX7_timesCome_69 : decode cX7_timesCome 69 = .ok (.iload 5, 2) := by decide +kernel
theorem dX7_timesCome_71 : decode cX7_timesCome 71 = .ok (.iadd, 1) := by decide +kernel
theorem dX7_timesCome_72 : decode cX7_timesCome 72 = .ok (.iaload, 1) := by decide +kernel
theorem dX7_timesCome_73 : decode cX7_timesCome 73 = .ok (.if_icmp .ne 7, 3) := by decide +kernel
theorem dX7_timesCome_76 : decode cX7_timesCome 76 = .ok (.iconst 1, 1) := by decide +kernel
theorem dX7_timesCome_77 : decode cX7_timesCome 77 = .ok (.goto 4, 3) := by decide +kernel
theorem dX7_timesCome_80 : decode cX7_timesCome 80 = .ok (.iconst 0, 1) := by decide +kernel
theorem dX7_timesCome_81 : decode cX7_timesCome 81 = .ok (.istore 4, 2) := by decide +kernel
theorem dX7_timesCome_83 : decode cX7_timesCome 83 = .ok (.iinc 5 1, 3) := by decide +kernel
theorem dX7_timesCome_86 : decode cX7_timesCome 86 = .ok (.goto (-49), 3) := by decide +kernel
theorem dX7_timesCome_89 : decode cX7_timesCome 89 = .ok (.iload_n 2, 1) := by decide +kernel
theorem dX7_timesCome_90 : decode cX7_timesCome 90 = .ok (.iload 4, 2) := by decide +kernel
theorem dX7_timesCome_92 : decode cX7_timesCome 92 = .ok (.ifCond .eq 7, 3) := by decide +kernel
theorem dX7_timesCome_95 : decode cX7_timesCome 95 = .ok (.iconst 1, 1) := by decide +kernel
theorem dX7_timesCome_96 : decode cX7_timesCome 96 = .ok (.goto 4, 3) := by decide +kernel
theorem dX7_timesCome_99 : decode cX7_timesCome 99 = .ok (.iconst 0, 1) := by decide +kernel
theorem dX7_timesCome_100 : decode cX7_timesCome 100 = .ok (.iadd, 1) := by decide +kernel
theorem dX7_timesCome_101 : decode cX7_timesCome 101 = .ok (.istore_n 2, 1) := by decide +kernel
theorem dX7_timesCome_102 : decode cX7_timesCome 102 = .ok (.iinc 3 1, 3) := by decide +kernel
theorem dX7_timesCome_105 : decode cX7_timesCome 105 = .ok (.goto (-85), 3) := by decide +kernel
theorem dX7_timesCome_108 : decode cX7_timesCome 108 = .ok (.iload_n 2, 1) := by decide +kernel
theorem dX7_timesCome_109 : decode cX7_timesCome 109 = .ok (.ireturn, 1) := by decide +kernel
theorem dX7_forgetPositions_0 : decode cX7_forgetPositions 0 = .ok (.bipush 59, 2) := by decide +kernel
theorem dX7_forgetPositions_2 : decode cX7_forgetPositions 2 = .ok (.istore_n 1, 1) := by decide +kernel
theorem dX7_forgetPositions_3 : decode cX7_forgetPositions 3 = .ok (.iload_n 1, 1) := by decide +kernel
theorem dX7_forgetPositions_4 : decode cX7_forgetPositions 4 = .ok (.sipush 431, 3) := by decide +kernel
theorem dX7_forgetPositions_7 : decode cX7_forgetPositions 7 = .ok (.if_icmp .ge 16, 3) := by decide +kernel
theorem dX7_forgetPositions_10 : decode cX7_forgetPositions 10 = .ok (.aload_n 0, 1) := by decide +kernel
theorem dX7_forgetPositions_11 : decode cX7_forgetPositions 11 = .ok (.getfield 7, 3) := by decide +kernel
theorem dX7_forgetPositions_14 : decode cX7_forgetPositions 14 = .ok (.iload_n 1, 1) := by decide +kernel
theorem dX7_forgetPositions_15 : decode cX7_forgetPositions 15 = .ok (.iconst 0, 1) := by decide +kernel
theorem dX7_forgetPositions_16 : decode cX7_forgetPositions 16 = .ok (.iastore, 1) := by decide +kernel
theorem dX7_forgetPositions_17 : decode cX7_forgetPositions 17 = .ok (.iinc 1 1, 3) := by decide +kernel
theorem dX7_forgetPositions_20 : decode cX7_forgetPositions 20 = .ok (.goto (-17), 3) := by decide +kernel
theorem dX7_forgetPositions_23 : decode cX7_forgetPositions 23 = .ok (.aload_n 0, 1) := by decide +kernel
theorem dX7_forgetPositions_24 : decode cX7_forgetPositions 24 = .ok (.getfield 7, 3) := by decide +kernel
theorem dX7_forgetPositions_27 : decode cX7_forgetPositions 27 = .ok (.bipush 58, 2) := by decide +kernel
theorem dX7_forgetPositions_29 : decode cX7_forgetPositions 29 = .ok (.iconst 0, 1) := by decide +kernel
theorem dX7_forgetPositions_30 : decode cX7_forgetPositions 30 = .ok (.iastore, 1) := by decide +kernel
theorem dX7_forgetPositions_31 : decode cX7_forgetPositions 31 = .ok (.return_, 1) := by decide +kernel
theorem dX7_judge_0 : decode cX7_judge 0 = .ok (.aload_n 0, 1) := by decide +kernel
theorem dX7_judge_1 : decode cX7_judge 1 = .ok (.getfield 7, 3) := by decide +kernel
theorem dX7_judge_4 : decode cX7_judge 4 = .ok (.bipush 49, 2) := by decide +kernel
theorem dX7_judge_6 : decode cX7_judge 6 = .ok (.iconst 0, 1) := by decide +kernel
theorem dX7_judge_7 : decode cX7_judge 7 = .ok (.iastore, 1) := by decide +kernel
theorem dX7_judge_8 : decode cX7_judge 8 = .ok (.aload_n 0, 1) := by decide +kernel
theorem dX7_judge_9 : decode cX7_judge 9 = .ok (.invokevirtual 124, 3) := by decide +kernel
theorem dX7_judge_12 : decode cX7_judge 12 = .ok (.aload_n 0, 1) := by decide +kernel
theorem dX7_judge_13 : decode cX7_judge 13 = .ok (.getfield 36, 3) := by decide +kernel
theorem dX7_judge_16 : decode cX7_judge 16 = .ok (.iconst 0, 1) := by decide +kernel
theorem dX7_judge_17 : decode cX7_judge 17 = .ok (.iaload, 1) := by decide +kernel
theorem dX7_judge_18 : decode cX7_judge 18 = .ok (.ifCond .ne 28, 3) := by decide +kernel
theorem dX7_judge_21 : decode cX7_judge 21 = .ok (.aload_n 0, 1) := by decide +kernel
theorem dX7_judge_22 : decode cX7_judge 22 = .ok (.getfield 7, 3) := by decide +kernel
theorem dX7_judge_25 : decode cX7_judge 25 = .ok (.bipush 49, 2) := by decide +kernel
theorem dX7_judge_27 : decode cX7_judge 27 = .ok (.aload_n 0, 1) := by decide +kernel
theorem dX7_judge_28 : decode cX7_judge 28 = .ok (.getfield 7, 3) := by decide +kernel
theorem dX7_judge_31 : decode cX7_judge 31 = .ok (.bipush 48, 2) := by decide +kernel
theorem dX7_judge_33 : decode cX7_judge 33 = .ok (.iaload, 1) := by decide +kernel
theorem dX7_judge_34 : decode cX7_judge 34 = .ok (.ifCond .ne 7, 3) := by decide +kernel
theorem dX7_judge_37 : decode cX7_judge 37 = .ok (.iconst 2, 1) := by decide +kernel
theorem dX7_judge_38 : decode cX7_judge 38 = .ok (.goto 4, 3) := by decide +kernel
theorem dX7_judge_41 : decode cX7_judge 41 = .ok (.iconst 1, 1) := by decide +kernel
theorem dX7_judge_42 : decode cX7_judge 42 = .ok (.iastore, 1) := by decide +kernel
theorem dX7_judge_43 : decode cX7_judge 43 = .ok (.goto 31, 3) := by decide +kernel
theorem dX7_judge_46 : decode cX7_judge 46 = .ok (.aload_n 0, 1) := by decide +kernel
theorem dX7_judge_47 : decode cX7_judge 47 = .ok (.invokevirtual 127, 3) := by decide +kernel
theorem dX7_judge_50 : decode cX7_judge 50 = .ok (.iconst 2, 1) := by decide +kernel
theorem dX7_judge_51 : decode cX7_judge 51 = .ok (.if_icmp .gt 15, 3) := by decide +kernel
theorem dX7_judge_54 : decode cX7_judge 54 = .ok (.aload_n 0, 1) := by decide +kernel
theorem dX7_judge_55 : decode cX7_judge 55 = .ok (.getfield 7, 3) := by decide +kernel
theorem dX7_judge_58 : decode cX7_judge 58 = .ok (.bipush 57, 2) := by decide +kernel
theorem dX7_judge_60 : decode cX7_judge 60 = .ok (.iaload, 1) := by decide +kernel
theorem dX7_judge_61 : decode cX7_judge 61 = .ok (.bipush 60, 2) := by decide +kernel
theorem dX7_judge_63 : decode cX7_judge 63 = .ok (.if_icmp .lt 11, 3) := by decide +kernel
theorem dX7_judge_66 : decode cX7_judge 66 = .ok (.aload_n 0, 1) := by decide +kernel
theorem dX7_judge_67 : decode cX7_judge 67 = .ok (.getfield 7, 3) := by decide +kernel
theorem dX7_judge_70 : decode cX7_judge 70 = .ok (.bipush 49, 2) := by decide +kernel
theorem dX7_judge_72 : decode cX7_judge 72 = .ok (.iconst 3, 1) := by decide +kernel
theorem dX7_judge_73 : decode cX7_judge 73 = .ok (.iastore, 1) := by decide +kernel
theorem dX7_judge_74 : decode cX7_judge 74 = .ok (.return_, 1) := by decide +kernel
theorem dX7_beginHere_0 : decode cX7_beginHere 0 = .ok (.aload_n 0, 1) := by decide +kernel
theorem dX7_beginHere_1 : decode cX7_beginHere 1 = .ok (.getfield 7, 3) := by decide +kernel
theorem dX7_beginHere_4 : decode cX7_beginHere 4 = .ok (.bipush 53, 2) := by decide +kernel
theorem dX7_beginHere_6 : decode cX7_beginHere 6 = .ok (.iconst 0, 1) := by decide +kernel
theorem dX7_beginHere_7 : decode cX7_beginHere 7 = .ok (.iastore, 1) := by decide +kernel
theorem dX7_beginHere_8 : decode cX7_beginHere 8 = .ok (.aload_n 0, 1) := by decide +kernel
theorem dX7_beginHere_9 : decode cX7_beginHere 9 = .ok (.getfield 7, 3) := by decide +kernel
theorem dX7_beginHere_12 : decode cX7_beginHere 12 = .ok (.bipush 54, 2) := by decide +kernel
theorem dX7_beginHere_14 : decode cX7_beginHere 14 = .ok (.bipush (-6), 2) := by decide +kernel
theorem dX7_beginHere_16 : decode cX7_beginHere 16 = .ok (.iastore, 1) := by decide +kernel
theorem dX7_beginHere_17 : decode cX7_beginHere 17 = .ok (.aload_n 0, 1) := by decide +kernel
theorem dX7_beginHere_18 : decode cX7_beginHere 18 = .ok (.getfield 7, 3) := by decide +kernel
theorem dX7_beginHere_21 : decode cX7_beginHere 21 = .ok (.bipush 55, 2) := by decide +kernel
theorem dX7_beginHere_23 : decode cX7_beginHere 23 = .ok (.iconst 0, 1) := by decide +kernel
theorem dX7_beginHere_24 : decode cX7_beginHere 24 = .ok (.iastore, 1) := by decide +kernel
theorem dX7_beginHere_25 : decode cX7_beginHere 25 = .ok (.aload_n 0, 1) := by decide +kernel
theorem dX7_beginHere_26 : decode cX7_beginHere 26 = .ok (.getfield 7, 3) := by decide +kernel
theorem dX7_beginHere_29 : decode cX7_beginHere 29 = .ok (.bipush 56, 2) := by decide +kernel
theorem dX7_beginHere_31 : decode cX7_beginHere 31 = .ok (.iconst 0, 1) := by decide +kernel
theorem dX7_beginHere_32 : decode cX7_beginHere 32 = .ok (.iastore, 1) := by decide +kernel
theorem dX7_beginHere_33 : decode cX7_beginHere 33 = .ok (.aload_n 0, 1) := by decide +kernel
theorem dX7_beginHere_34 : decode cX7_beginHere 34 = .ok (.getfield 7, 3) := by decide +kernel
theorem dX7_beginHere_37 : decode cX7_beginHere 37 = .ok (.bipush 57, 2) := by decide +kernel
theorem dX7_beginHere_39 : decode cX7_beginHere 39 = .ok (.iconst 0, 1) := by decide +kernel
theorem dX7_beginHere_40 : decode cX7_beginHere 40 = .ok (.iastore, 1) := by decide +kernel
theorem dX7_beginHere_41 : decode cX7_beginHere 41 = .ok (.aload_n 0, 1) := by decide +kernel
theorem dX7_beginHere_42 : decode cX7_beginHere 42 = .ok (.invokevirtual 131, 3) := by decide +kernel
theorem dX7_beginHere_45 : decode cX7_beginHere 45 = .ok (.aload_n 0, 1) := by decide +kernel
theorem dX7_beginHere_46 : decode cX7_beginHere 46 = .ok (.invokevirtual 134, 3) := by decide +kernel
theorem dX7_beginHere_49 : decode cX7_beginHere 49 = .ok (.aload_n 0, 1) := by decide +kernel
theorem dX7_beginHere_50 : decode cX7_beginHere 50 = .ok (.invokevirtual 137, 3) := by decide +kernel
theorem dX7_beginHere_53 : decode cX7_beginHere 53 = .ok (.return_, 1) := by decide +kernel
theorem dX7_start_0 : decode cX7_start 0 = .ok (.iconst 0, 1) := by decide +kernel
theorem dX7_start_1 : decode cX7_start 1 = .ok (.istore_n 2, 1) := by decide +kernel
theorem dX7_start_2 : decode cX7_start 2 = .ok (.iload_n 2, 1) := by decide +kernel
theorem dX7_start_3 : decode cX7_start 3 = .ok (.bipush 48, 2) := by decide +kernel
theorem dX7_start_5 : decode cX7_start 5 = .ok (.if_icmp .ge 62, 3) := by decide +kernel
theorem dX7_start_8 : decode cX7_start 8 = .ok (.iload_n 2, 1) := by decide +kernel
theorem dX7_start_9 : decode cX7_start 9 = .ok (.invokestatic 69, 3) := by decide +kernel
theorem dX7_start_12 : decode cX7_start 12 = .ok (.istore_n 3, 1) := by decide +kernel
theorem dX7_start_13 : decode cX7_start 13 = .ok (.aload_n 0, 1) := by decide +kernel
theorem dX7_start_14 : decode cX7_start 14 = .ok (.getfield 7, 3) := by decide +kernel
theorem dX7_start_17 : decode cX7_start 17 = .ok (.iconst 0, 1) := by decide +kernel
theorem dX7_start_18 : decode cX7_start 18 = .ok (.iload_n 2, 1) := by decide +kernel
theorem dX7_start_19 : decode cX7_start 19 = .ok (.iadd, 1) := by decide +kernel
theorem dX7_start_20 : decode cX7_start 20 = .ok (.iload_n 1, 1) := by decide +kernel
theorem dX7_start_21 : decode cX7_start 21 = .ok (.ifCond .eq 8, 3) := by decide +kernel
theorem dX7_start_24 : decode cX7_start 24 = .ok (.bipush (-6), 2) := by decide +kernel
theorem dX7_start_26 : decode cX7_start 26 = .ok (.goto 34, 3) := by decide +kernel
theorem dX7_start_29 : decode cX7_start 29 = .ok (.iload_n 3, 1) := by decide +kernel
theorem dX7_start_30 : decode cX7_start 30 = .ok (.iconst 1, 1) := by decide +kernel
theorem dX7_start_31 : decode cX7_start 31 = .ok (.if_icmp .eq 8, 3) := by decide +kernel
theorem dX7_start_34 : decode cX7_start 34 = .ok (.iload_n 3, 1) := by decide +kernel
theorem dX7_start_35 : decode cX7_start 35 = .ok (.iconst 2, 1) := by decide +kernel
theorem dX7_start_36 : decode cX7_start 36 = .ok (.if_icmp .ne 7, 3) := by decide +kernel
theorem dX7_start_39 : decode cX7_start 39 = .ok (.iconst 0, 1) := by decide +kernel
theorem dX7_start_40 : decode cX7_start 40 = .ok (.goto 20, 3) := by decide +kernel
theorem dX7_start_43 : decode cX7_start 43 = .ok (.iload_n 3, 1) := by decide +kernel
theorem dX7_start_44 : decode cX7_start 44 = .ok (.iconst 5, 1) := by decide +kernel
theorem dX7_start_45 : decode cX7_start 45 = .ok (.if_icmp .eq 9, 3) := by decide +kernel
theorem dX7_start_48 : decode cX7_start 48 = .ok (.iload_n 3, 1) := by decide +kernel
theorem dX7_start_49 : decode cX7_start 49 = .ok (.bipush 6, 2) := by decide +kernel
theorem dX7_start_51 : decode cX7_start 51 = .ok (.if_icmp .ne 7, 3) := by decide +kernel
theorem dX7_start_54 : decode cX7_start 54 = .ok (.iconst 2, 1) := by decide +kernel
theorem dX7_start_55 : decode cX7_start 55 = .ok (.goto 5, 3) := by decide +kernel
theorem dX7_start_58 : decode cX7_start 58 = .ok (.bipush (-6), 2) := by decide +kernel
theorem dX7_start_60 : decode cX7_start 60 = .ok (.iastore, 1) := by decide +kernel
theorem dX7_start_61 : decode cX7_start 61 = .ok (.iinc 2 1, 3) := by decide +kernel
theorem dX7_start_64 : decode cX7_start 64 = .ok (.goto (-62), 3) := by decide +kernel
theorem dX7_start_67 : decode cX7_start 67 = .ok (.aload_n 0, 1) := by decide +kernel
theorem dX7_start_68 : decode cX7_start 68 = .ok (.getfield 7, 3) := by decide +kernel
theorem dX7_start_71 : decode cX7_start 71 = .ok (.bipush 48, 2) := by decide +kernel
theorem dX7_start_73 : decode cX7_start 73 = .ok (.iconst 0, 1) := by decide +kernel
theorem dX7_start_74 : decode cX7_start 74 = .ok (.iastore, 1) := by decide +kernel
theorem dX7_start_75 : decode cX7_start 75 = .ok (.aload_n 0, 1) := by decide +kernel
theorem dX7_start_76 : decode cX7_start 76 = .ok (.getfield 7, 3) := by decide +kernel
theorem dX7_start_79 : decode cX7_start 79 = .ok (.bipush 51, 2) := by decide +kernel
theorem dX7_start_81 : decode cX7_start 81 = .ok (.aload_n 0, 1) := by decide +kernel
theorem dX7_start_82 : decode cX7_start 82 = .ok (.getfield 7, 3) := by decide +kernel
theorem dX7_start_85 : decode cX7_start 85 = .ok (.bipush 50, 2) := by decide +kernel
theorem dX7_start_87 : decode cX7_start 87 = .ok (.iaload, 1) := by decide +kernel
theorem dX7_start_88 : decode cX7_start 88 = .ok (.iastore, 1) := by decide +kernel
theorem dX7_start_89 : decode cX7_start 89 = .ok (.aload_n 0, 1) := by decide +kernel
theorem dX7_start_90 : decode cX7_start 90 = .ok (.getfield 7, 3) := by decide +kernel
theorem dX7_start_93 : decode cX7_start 93 = .ok (.bipush 52, 2) := by decide +kernel
theorem dX7_start_95 : decode cX7_start 95 = .ok (.aload_n 0, 1) := by decide +kernel
theorem dX7_start_96 : decode cX7_start 96 = .ok (.getfield 7, 3) := by decide +kernel
theorem dX7_start_99 : decode cX7_start 99 = .ok (.bipush 50, 2) := by decide +kernel
theorem dX7_start_101 : decode cX7_start 101 = .ok (.iaload, 1) := by decide +kernel
theorem dX7_start_102 : decode cX7_start 102 = .ok (.iastore, 1) := by decide +kernel
theorem dX7_start_103 : decode cX7_start 103 = .ok (.aload_n 0, 1) := by decide +kernel
theorem dX7_start_104 : decode cX7_start 104 = .ok (.invokevirtual 140, 3) := by decide +kernel
theorem dX7_start_107 : decode cX7_start 107 = .ok (.return_, 1) := by decide +kernel
theorem dX7_clock_0 : decode cX7_clock 0 = .ok (.iload_n 1, 1) := by decide +kernel
theorem dX7_clock_1 : decode cX7_clock 1 = .ok (.bipush 10, 2) := by decide +kernel
theorem dX7_clock_3 : decode cX7_clock 3 = .ok (.sipush 9999, 3) := by decide +kernel
