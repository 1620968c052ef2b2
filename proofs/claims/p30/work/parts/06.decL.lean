theorem dL_cell_0 : decode cL_cell 0 = .ok (.iload_n 1, 1) := by decide +kernel
theorem dL_cell_1 : decode cL_cell 1 = .ok (.aload_n 0, 1) := by decide +kernel
theorem dL_cell_2 : decode cL_cell 2 = .ok (.arraylength, 1) := by decide +kernel
theorem dL_cell_3 : decode cL_cell 3 = .ok (.if_icmp .ge 9, 3) := by decide +kernel
theorem dL_cell_6 : decode cL_cell 6 = .ok (.aload_n 0, 1) := by decide +kernel
theorem dL_cell_7 : decode cL_cell 7 = .ok (.iload_n 1, 1) := by decide +kernel
theorem dL_cell_8 : decode cL_cell 8 = .ok (.iaload, 1) := by decide +kernel
theorem dL_cell_9 : decode cL_cell 9 = .ok (.goto 12, 3) := by decide +kernel
theorem dL_cell_12 : decode cL_cell 12 = .ok (.ldc 7, 2) := by decide +kernel
theorem dL_cell_14 : decode cL_cell 14 = .ok (.iload_n 1, 1) := by decide +kernel
theorem dL_cell_15 : decode cL_cell 15 = .ok (.iconst 1, 1) := by decide +kernel
theorem dL_cell_16 : decode cL_cell 16 = .ok (.iadd, 1) := by decide +kernel
theorem dL_cell_17 : decode cL_cell 17 = .ok (.imul, 1) := by decide +kernel
theorem dL_cell_18 : decode cL_cell 18 = .ok (.ldc 8, 2) := by decide +kernel
theorem dL_cell_20 : decode cL_cell 20 = .ok (.iadd, 1) := by decide +kernel
theorem dL_cell_21 : decode cL_cell 21 = .ok (.ireturn, 1) := by decide +kernel
theorem dL_low_0 : decode cL_low 0 = .ok (.iload_n 0, 1) := by decide +kernel
theorem dL_low_1 : decode cL_low 1 = .ok (.ldc 9, 2) := by decide +kernel
theorem dL_low_3 : decode cL_low 3 = .ok (.iand, 1) := by decide +kernel
theorem dL_low_4 : decode cL_low 4 = .ok (.iload_n 1, 1) := by decide +kernel
theorem dL_low_5 : decode cL_low 5 = .ok (.irem, 1) := by decide +kernel
theorem dL_low_6 : decode cL_low 6 = .ok (.ireturn, 1) := by decide +kernel
theorem dL_log_0 : decode cL_log 0 = .ok (.aload_n 2, 1) := by decide +kernel
theorem dL_log_1 : decode cL_log 1 = .ok (.bipush 14, 2) := by decide +kernel
theorem dL_log_3 : decode cL_log 3 = .ok (.iaload, 1) := by decide +kernel
theorem dL_log_4 : decode cL_log 4 = .ok (.bipush 10, 2) := by decide +kernel
theorem dL_log_6 : decode cL_log 6 = .ok (.if_icmp .lt 29, 3) := by decide +kernel
theorem dL_log_9 : decode cL_log 9 = .ok (.iconst 0, 1) := by decide +kernel
theorem dL_log_10 : decode cL_log 10 = .ok (.istore 4, 2) := by decide +kernel
theorem dL_log_12 : decode cL_log 12 = .ok (.iload 4, 2) := by decide +kernel
theorem dL_log_14 : decode cL_log 14 = .ok (.bipush 27, 2) := by decide +kernel
theorem dL_log_16 : decode cL_log 16 = .ok (.if_icmp .ge 19, 3) := by decide +kernel
theorem dL_log_19 : decode cL_log 19 = .ok (.aload_n 3, 1) := by decide +kernel
theorem dL_log_20 : decode cL_log 20 = .ok (.iload 4, 2) := by decide +kernel
theorem dL_log_22 : decode cL_log 22 = .ok (.aload_n 3, 1) := by decide +kernel
theorem dL_log_23 : decode cL_log 23 = .ok (.iload 4, 2) := by decide +kernel
theorem dL_log_25 : decode cL_log 25 = .ok (.iconst 3, 1) := by decide +kernel
theorem dL_log_26 : decode cL_log 26 = .ok (.iadd, 1) := by decide +kernel
theorem dL_log_27 : decode cL_log 27 = .ok (.iaload, 1) := by decide +kernel
theorem dL_log_28 : decode cL_log 28 = .ok (.iastore, 1) := by decide +kernel
theorem dL_log_29 : decode cL_log 29 = .ok (.iinc 4 1, 3) := by decide +kernel
theorem dL_log_32 : decode cL_log 32 = .ok (.goto (-20), 3) := by decide +kernel
theorem dL_log_35 : decode cL_log 35 = .ok (.aload_n 2, 1) := by decide +kernel
theorem dL_log_36 : decode cL_log 36 = .ok (.bipush 14, 2) := by decide +kernel
theorem dL_log_38 : decode cL_log 38 = .ok (.iaload, 1) := by decide +kernel
theorem dL_log_39 : decode cL_log 39 = .ok (.bipush 10, 2) := by decide +kernel
theorem dL_log_41 : decode cL_log 41 = .ok (.if_icmp .ge 10, 3) := by decide +kernel
theorem dL_log_44 : decode cL_log 44 = .ok (.aload_n 2, 1) := by decide +kernel
theorem dL_log_45 : decode cL_log 45 = .ok (.bipush 14, 2) := by decide +kernel
theorem dL_log_47 : decode cL_log 47 = .ok (.iaload, 1) := by decide +kernel
theorem dL_log_48 : decode cL_log 48 = .ok (.goto 5, 3) := by decide +kernel
theorem dL_log_51 : decode cL_log 51 = .ok (.bipush 9, 2) := by decide +kernel
theorem dL_log_53 : decode cL_log 53 = .ok (.istore 4, 2) := by decide +kernel
theorem dL_log_55 : decode cL_log 55 = .ok (.aload_n 3, 1) := by decide +kernel
theorem dL_log_56 : decode cL_log 56 = .ok (.iconst 3, 1) := by decide +kernel
theorem dL_log_57 : decode cL_log 57 = .ok (.iload 4, 2) := by decide +kernel
theorem dL_log_59 : decode cL_log 59 = .ok (.imul, 1) := by decide +kernel
theorem dL_log_60 : decode cL_log 60 = .ok (.aload_n 2, 1) := by decide +kernel
theorem dL_log_61 : decode cL_log 61 = .ok (.iconst 0, 1) := by decide +kernel
theorem dL_log_62 : decode cL_log 62 = .ok (.iaload, 1) := by decide +kernel
theorem dL_log_63 : decode cL_log 63 = .ok (.iastore, 1) := by decide +kernel
theorem dL_log_64 : decode cL_log 64 = .ok (.aload_n 3, 1) := by decide +kernel
theorem dL_log_65 : decode cL_log 65 = .ok (.iconst 3, 1) := by decide +kernel
theorem dL_log_66 : decode cL_log 66 = .ok (.iload 4, 2) := by decide +kernel
theorem dL_log_68 : decode cL_log 68 = .ok (.imul, 1) := by decide +kernel
theorem dL_log_69 : decode cL_log 69 = .ok (.iconst 1, 1) := by decide +kernel
theorem dL_log_70 : decode cL_log 70 = .ok (.iadd, 1) := by decide +kernel
theorem dL_log_71 : decode cL_log 71 = .ok (.iload_n 0, 1) := by decide +kernel
theorem dL_log_72 : decode cL_log 72 = .ok (.iastore, 1) := by decide +kernel
theorem dL_log_73 : decode cL_log 73 = .ok (.aload_n 3, 1) := by decide +kernel
theorem dL_log_74 : decode cL_log 74 = .ok (.iconst 3, 1) := by decide +kernel
theorem dL_log_75 : decode cL_log 75 = .ok (.iload 4, 2) := by decide +kernel
theorem dL_log_77 : decode cL_log 77 = .ok (.imul, 1) := by decide +kernel
theorem dL_log_78 : decode cL_log 78 = .ok (.iconst 2, 1) := by decide +kernel
theorem dL_log_79 : decode cL_log 79 = .ok (.iadd, 1) := by decide +kernel
theorem dL_log_80 : decode cL_log 80 = .ok (.iload_n 1, 1) := by decide +kernel
theorem dL_log_81 : decode cL_log 81 = .ok (.iastore, 1) := by decide +kernel
theorem dL_log_82 : decode cL_log 82 = .ok (.aload_n 2, 1) := by decide +kernel
theorem dL_log_83 : decode cL_log 83 = .ok (.bipush 14, 2) := by decide +kernel
theorem dL_log_85 : decode cL_log 85 = .ok (.dup2, 1) := by decide +kernel
theorem dL_log_86 : decode cL_log 86 = .ok (.iaload, 1) := by decide +kernel
theorem dL_log_87 : decode cL_log 87 = .ok (.iconst 1, 1) := by decide +kernel
theorem dL_log_88 : decode cL_log 88 = .ok (.iadd, 1) := by decide +kernel
theorem dL_log_89 : decode cL_log 89 = .ok (.iastore, 1) := by decide +kernel
theorem dL_log_90 : decode cL_log 90 = .ok (.return_, 1) := by decide +kernel
theorem dL_sum_0 : decode cL_sum 0 = .ok (.iconst 0, 1) := by decide +kernel
theorem dL_sum_1 : decode cL_sum 1 = .ok (.istore 4, 2) := by decide +kernel
theorem dL_sum_3 : decode cL_sum 3 = .ok (.iconst 0, 1) := by decide +kernel
theorem dL_sum_4 : decode cL_sum 4 = .ok (.istore 5, 2) := by decide +kernel
theorem dL_sum_6 : decode cL_sum 6 = .ok (.iload 5, 2) := by decide +kernel
theorem dL_sum_8 : decode cL_sum 8 = .ok (.aload_n 2, 1) := by decide +kernel
theorem dL_sum_9 : decode cL_sum 9 = .ok (.iconst 2, 1) := by decide +kernel
theorem dL_sum_10 : decode cL_sum 10 = .ok (.iaload, 1) := by decide +kernel
theorem dL_sum_11 : decode cL_sum 11 = .ok (.if_icmp .ge 47, 3) := by decide +kernel
theorem dL_sum_14 : decode cL_sum 14 = .ok (.aload_n 3, 1) := by decide +kernel
theorem dL_sum_15 : decode cL_sum 15 = .ok (.iload 5, 2) := by decide +kernel
theorem dL_sum_17 : decode cL_sum 17 = .ok (.iaload, 1) := by decide +kernel
theorem dL_sum_18 : decode cL_sum 18 = .ok (.bipush 10, 2) := by decide +kernel
theorem dL_sum_20 : decode cL_sum 20 = .ok (.idiv, 1) := by decide +kernel
theorem dL_sum_21 : decode cL_sum 21 = .ok (.iload_n 0, 1) := by decide +kernel
theorem dL_sum_22 : decode cL_sum 22 = .ok (.if_icmp .ne 30, 3) := by decide +kernel
theorem dL_sum_25 : decode cL_sum 25 = .ok (.iload 4, 2) := by decide +kernel
theorem dL_sum_27 : decode cL_sum 27 = .ok (.aload_n 3, 1) := by decide +kernel
theorem dL_sum_28 : decode cL_sum 28 = .ok (.iload 5, 2) := by decide +kernel
theorem dL_sum_30 : decode cL_sum 30 = .ok (.iaload, 1) := by decide +kernel
theorem dL_sum_31 : decode cL_sum 31 = .ok (.bipush 10, 2) := by decide +kernel
theorem dL_sum_33 : decode cL_sum 33 = .ok (.irem, 1) := by decide +kernel
theorem dL_sum_34 : decode cL_sum 34 = .ok (.iload_n 1, 1) := by decide +kernel
theorem dL_sum_35 : decode cL_sum 35 = .ok (.if_icmp .le 7, 3) := by decide +kernel
theorem dL_sum_38 : decode cL_sum 38 = .ok (.iload_n 1, 1) := by decide +kernel
theorem dL_sum_39 : decode cL_sum 39 = .ok (.goto 10, 3) := by decide +kernel
theorem dL_sum_42 : decode cL_sum 42 = .ok (.aload_n 3, 1) := by decide +kernel
theorem dL_sum_43 : decode cL_sum 43 = .ok (.iload 5, 2) := by decide +kernel
theorem dL_sum_45 : decode cL_sum 45 = .ok (.iaload, 1) := by decide +kernel
theorem dL_sum_46 : decode cL_sum 46 = .ok (.bipush 10, 2) := by decide +kernel
theorem dL_sum_48 : decode cL_sum 48 = .ok (.irem, 1) := by decide +kernel
theorem dL_sum_49 : decode cL_sum 49 = .ok (.iadd, 1) := by decide +kernel
theorem dL_sum_50 : decode cL_sum 50 = .ok (.istore 4, 2) := by decide +kernel
theorem dL_sum_52 : decode cL_sum 52 = .ok (.iinc 5 1, 3) := by decide +kernel
theorem dL_sum_55 : decode cL_sum 55 = .ok (.goto (-49), 3) := by decide +kernel
theorem dL_sum_58 : decode cL_sum 58 = .ok (.iload 4, 2) := by decide +kernel
theorem dL_sum_60 : decode cL_sum 60 = .ok (.ireturn, 1) := by decide +kernel
theorem dL_place_0 : decode cL_place 0 = .ok (.iconst 0, 1) := by decide +kernel
theorem dL_place_1 : decode cL_place 1 = .ok (.istore_n 3, 1) := by decide +kernel
theorem dL_place_2 : decode cL_place 2 = .ok (.iload_n 3, 1) := by decide +kernel
theorem dL_place_3 : decode cL_place 3 = .ok (.aload_n 1, 1) := by decide +kernel
theorem dL_place_4 : decode cL_place 4 = .ok (.bipush 8, 2) := by decide +kernel
theorem dL_place_6 : decode cL_place 6 = .ok (.iaload, 1) := by decide +kernel
theorem dL_place_7 : decode cL_place 7 = .ok (.if_icmp .ge 18, 3) := by decide +kernel
theorem dL_place_10 : decode cL_place 10 = .ok (.aload_n 2, 1) := by decide +kernel
theorem dL_place_11 : decode cL_place 11 = .ok (.iload_n 3, 1) := by decide +kernel
theorem dL_place_12 : decode cL_place 12 = .ok (.iaload, 1) := by decide +kernel
theorem dL_place_13 : decode cL_place 13 = .ok (.iload_n 0, 1) := by decide +kernel
theorem dL_place_14 : decode cL_place 14 = .ok (.if_icmp .ne 5, 3) := by decide +kernel
theorem dL_place_17 : decode cL_place 17 = .ok (.iload_n 3, 1) := by decide +kernel
theorem dL_place_18 : decode cL_place 18 = .ok (.ireturn, 1) := by decide +kernel
theorem dL_place_19 : decode cL_place 19 = .ok (.iinc 3 1, 3) := by decide +kernel
theorem dL_place_22 : decode cL_place 22 = .ok (.goto (-20), 3) := by decide +kernel
theorem dL_place_25 : decode cL_place 25 = .ok (.bipush (-6), 2) := by decide +kernel
theorem dL_place_27 : decode cL_place 27 = .ok (.ireturn, 1) := by decide +kernel
theorem dL_next_0 : decode cL_next 0 = .ok (.aload_n 0, 1) := by decide +kernel
theorem dL_next_1 : decode cL_next 1 = .ok (.bipush 8, 2) := by decide +kernel
theorem dL_next_3 : decode cL_next 3 = .ok (.iaload, 1) := by decide +kernel
theorem dL_next_4 : decode cL_next 4 = .ok (.ifCond .le 7, 3) := by decide +kernel
theorem dL_next_7 : decode cL_next 7 = .ok (.aload_n 2, 1) := by decide +kernel
theorem dL_next_8 : decode cL_next 8 = .ok (.iconst 0, 1) := by decide +kernel
theorem dL_next_9 : decode cL_next 9 = .ok (.iaload, 1) := by decide +kernel
theorem dL_next_10 : decode cL_next 10 = .ok (.ireturn, 1) := by decide +kernel
theorem dL_next_11 : decode cL_next 11 = .ok (.bipush (-6), 2) := by decide +kernel
theorem dL_next_13 : decode cL_next 13 = .ok (.istore 4, 2) := by decide +kernel
theorem dL_next_15 : decode cL_next 15 = .ok (.iconst (-1), 1) := by decide +kernel
theorem dL_next_16 : decode cL_next 16 = .ok (.istore 5, 2) := by decide +kernel
theorem dL_next_18 : decode cL_next 18 = .ok (.bipush 7, 2) := by decide +kernel
theorem dL_next_20 : decode cL_next 20 = .ok (.istore 6, 2) := by decide +kernel
theorem dL_next_22 : decode cL_next 22 = .ok (.iload 6, 2) := by decide +kernel
theorem dL_next_24 : decode cL_next 24 = .ok (.ifCond .lt 111, 3) := by decide +kernel
theorem dL_next_27 : decode cL_next 27 = .ok (.aload_n 0, 1) := by decide +kernel
theorem dL_next_28 : decode cL_next 28 = .ok (.iconst 0, 1) := by decide +kernel
theorem dL_next_29 : decode cL_next 29 = .ok (.iaload, 1) := by decide +kernel
theorem dL_next_30 : decode cL_next 30 = .ok (.aload_n 1, 1) := by decide +kernel
theorem dL_next_31 : decode cL_next 31 = .ok (.iload 6, 2) := by decide +kernel
theorem dL_next_33 : decode cL_next 33 = .ok (.iaload, 1) := by decide +kernel
theorem dL_next_34 : decode cL_next 34 = .ok (.isub, 1) := by decide +kernel
theorem dL_next_35 : decode cL_next 35 = .ok (.istore 7, 2) := by decide +kernel
theorem dL_next_37 : decode cL_next 37 = .ok (.iload 7, 2) := by decide +kernel
theorem dL_next_39 : decode cL_next 39 = .ok (.aload_n 0, 1) := by decide +kernel
theorem dL_next_40 : decode cL_next 40 = .ok (.bipush 19, 2) := by decide +kernel
theorem dL_next_42 : decode cL_next 42 = .ok (.iaload, 1) := by decide +kernel
theorem dL_next_43 : decode cL_next 43 = .ok (.iconst 2, 1) := by decide +kernel
theorem dL_next_44 : decode cL_next 44 = .ok (.idiv, 1) := by decide +kernel
theorem dL_next_45 : decode cL_next 45 = .ok (.if_icmp .ge 6, 3) := by decide +kernel
theorem dL_next_48 : decode cL_next 48 = .ok (.goto 81, 3) := by decide +kernel
theorem dL_next_51 : decode cL_next 51 = .ok (.aload_n 0, 1) := by decide +kernel
theorem dL_next_52 : decode cL_next 52 = .ok (.iconst 4, 1) := by decide +kernel
theorem dL_next_53 : decode cL_next 53 = .ok (.iaload, 1) := by decide +kernel
theorem dL_next_54 : decode cL_next 54 = .ok (.ifCond .ne 8, 3) := by decide +kernel
theorem dL_next_57 : decode cL_next 57 = .ok (.iload 7, 2) := by decide +kernel
theorem dL_next_59 : decode cL_next 59 = .ok (.goto 53, 3) := by decide +kernel
theorem dL_next_62 : decode cL_next 62 = .ok (.aload_n 0, 1) := by decide +kernel
theorem dL_next_63 : decode cL_next 63 = .ok (.iconst 4, 1) := by decide +kernel
theorem dL_next_64 : decode cL_next 64 = .ok (.iaload, 1) := by decide +kernel
theorem dL_next_65 : decode cL_next 65 = .ok (.iconst 1, 1) := by decide +kernel
theorem dL_next_66 : decode cL_next 66 = .ok (.if_icmp .ne 15, 3) := by decide +kernel
theorem dL_next_69 : decode cL_next 69 = .ok (.iload 6, 2) := by decide +kernel
theorem dL_next_71 : decode cL_next 71 = .ok (.bipush 9, 2) := by decide +kernel
theorem dL_next_73 : decode cL_next 73 = .ok (.aload_n 0, 1) := by decide +kernel
theorem dL_next_74 : decode cL_next 74 = .ok (.aload_n 3, 1) := by decide +kernel
theorem dL_next_75 : decode cL_next 75 = .ok (.invokestatic 10, 3) := by decide +kernel
theorem dL_next_78 : decode cL_next 78 = .ok (.goto 34, 3) := by decide +kernel
theorem dL_next_81 : decode cL_next 81 = .ok (.aload_n 0, 1) := by decide +kernel
theorem dL_next_82 : decode cL_next 82 = .ok (.bipush 13, 2) := by decide +kernel
theorem dL_next_84 : decode cL_next 84 = .ok (.iaload, 1) := by decide +kernel
theorem dL_next_85 : decode cL_next 85 = .ok (.ifCond .ge 11, 3) := by decide +kernel
theorem dL_next_88 : decode cL_next 88 = .ok (.bipush 8, 2) := by decide +kernel
theorem dL_next_90 : decode cL_next 90 = .ok (.iload 6, 2) := by decide +kernel
theorem dL_next_92 : decode cL_next 92 = .ok (.isub, 1) := by decide +kernel
theorem dL_next_93 : decode cL_next 93 = .ok (.goto 19, 3) := by decide +kernel
theorem dL_next_96 : decode cL_next 96 = .ok (.bipush 8, 2) := by decide +kernel
theorem dL_next_98 : decode cL_next 98 = .ok (.iload 6, 2) := by decide +kernel
theorem dL_next_100 : decode cL_next 100 = .ok (.bipush 7, 2) := by decide +kernel
theorem dL_next_102 : decode cL_next 102 = .ok (.iadd, 1) := by decide +kernel
theorem dL_next_103 : decode cL_next 103 = .ok (.aload_n 0, 1) := by decide +kernel
theorem dL_next_104 : decode cL_next 104 = .ok (.bipush 13, 2) := by decide +kernel
theorem dL_next_106 : decode cL_next 106 = .ok (.iaload, 1) := by decide +kernel
theorem dL_next_107 : decode cL_next 107 = .ok (.isub, 1) := by decide +kernel
theorem dL_next_108 : decode cL_next 108 = .ok (.bipush 8, 2) := by decide +kernel
theorem dL_next_110 : decode cL_next 110 = .ok (.irem, 1) := by decide +kernel
theorem dL_next_111 : decode cL_next 111 = .ok (.isub, 1) := by decide +kernel
theorem dL_next_112 : decode cL_next 112 = .ok (.istore 8, 2) := by decide +kernel
theorem dL_next_114 : decode cL_next 114 = .ok (.iload 8, 2) := by decide +kernel
theorem dL_next_116 : decode cL_next 116 = .ok (.iload 5, 2) := by decide +kernel
theorem dL_next_118 : decode cL_next 118 = .ok (.if_icmp .lt 11, 3) := by decide +kernel
theorem dL_next_121 : decode cL_next 121 = .ok (.iload 8, 2) := by decide +kernel
theorem dL_next_123 : decode cL_next 123 = .ok (.istore 5, 2) := by decide +kernel
theorem dL_next_125 : decode cL_next 125 = .ok (.iload 6, 2) := by decide +kernel
theorem dL_next_127 : decode cL_next 127 = .ok (.istore 4, 2) := by decide +kernel
theorem dL_next_129 : decode cL_next 129 = .ok (.iinc 6 (-1), 3) := by decide +kernel
theorem dL_next_132 : decode cL_next 132 = .ok (.goto (-110), 3) := by decide +kernel
theorem dL_next_135 : decode cL_next 135 = .ok (.iload 4, 2) := by decide +kernel
theorem dL_next_137 : decode cL_next 137 = .ok (.ireturn, 1) := by decide +kernel
theorem dL_drop_0 : decode cL_drop 0 = .ok (.aload_n 1, 1) := by decide +kernel
theorem dL_drop_1 : decode cL_drop 1 = .ok (.bipush 8, 2) := by decide +kernel
theorem dL_drop_3 : decode cL_drop 3 = .ok (.dup2, 1) := by decide +kernel
theorem dL_drop_4 : decode cL_drop 4 = .ok (.iaload, 1) := by decide +kernel
theorem dL_drop_5 : decode cL_drop 5 = .ok (.iconst 1, 1) := by decide +kernel
theorem dL_drop_6 : decode cL_drop 6 = .ok (.isub, 1) := by decide +kernel
theorem dL_drop_7 : decode cL_drop 7 = .ok (.iastore, 1) := by decide +kernel
theorem dL_drop_8 : decode cL_drop 8 = .ok (.iload_n 0, 1) := by decide +kernel
theorem dL_drop_9 : decode cL_drop 9 = .ok (.istore_n 3, 1) := by decide +kernel
theorem dL_drop_10 : decode cL_drop 10 = .ok (.iload_n 3, 1) := by decide +kernel
theorem dL_drop_11 : decode cL_drop 11 = .ok (.aload_n 1, 1) := by decide +kernel
theorem dL_drop_12 : decode cL_drop 12 = .ok (.bipush 8, 2) := by decide +kernel
theorem dL_drop_14 : decode cL_drop 14 = .ok (.iaload, 1) := by decide +kernel
theorem dL_drop_15 : decode cL_drop 15 = .ok (.if_icmp .ge 17, 3) := by decide +kernel
theorem dL_drop_18 : decode cL_drop 18 = .ok (.aload_n 2, 1) := by decide +kernel
theorem dL_drop_19 : decode cL_drop 19 = .ok (.iload_n 3, 1) := by decide +kernel
theorem dL_drop_20 : decode cL_drop 20 = .ok (.aload_n 2, 1) := by decide +kernel
theorem dL_drop_21 : decode cL_drop 21 = .ok (.iload_n 3, 1) := by decide +kernel
theorem dL_drop_22 : decode cL_drop 22 = .ok (.iconst 1, 1) := by decide +kernel
theorem dL_drop_23 : decode cL_drop 23 = .ok (.iadd, 1) := by decide +kernel
theorem dL_drop_24 : decode cL_drop 24 = .ok (.iaload, 1) := by decide +kernel
theorem dL_drop_25 : decode cL_drop 25 = .ok (.iastore, 1) := by decide +kernel
theorem dL_drop_26 : decode cL_drop 26 = .ok (.iinc 3 1, 3) := by decide +kernel
theorem dL_drop_29 : decode cL_drop 29 = .ok (.goto (-19), 3) := by decide +kernel
theorem dL_drop_32 : decode cL_drop 32 = .ok (.return_, 1) := by decide +kernel
theorem dL_tick_0 : decode cL_tick 0 = .ok (.aload_n 0, 1) := by decide +kernel
theorem dL_tick_1 : decode cL_tick 1 = .ok (.iconst 0, 1) := by decide +kernel
theorem dL_tick_2 : decode cL_tick 2 = .ok (.dup2, 1) := by decide +kernel
theorem dL_tick_3 : decode cL_tick 3 = .ok (.iaload, 1) := by decide +kernel
theorem dL_tick_4 : decode cL_tick 4 = .ok (.iconst 1, 1) := by decide +kernel
theorem dL_tick_5 : decode cL_tick 5 = .ok (.iadd, 1) := by decide +kernel
theorem dL_tick_6 : decode cL_tick 6 = .ok (.iastore, 1) := by decide +kernel
theorem dL_tick_7 : decode cL_tick 7 = .ok (.aload_n 0, 1) := by decide +kernel
theorem dL_tick_8 : decode cL_tick 8 = .ok (.iconst 1, 1) := by decide +kernel
theorem dL_tick_9 : decode cL_tick 9 = .ok (.iaload, 1) := by decide +kernel
theorem dL_tick_10 : decode cL_tick 10 = .ok (.aload_n 0, 1) := by decide +kernel
theorem dL_tick_11 : decode cL_tick 11 = .ok (.bipush 15, 2) := by decide +kernel
theorem dL_tick_13 : decode cL_tick 13 = .ok (.iaload, 1) := by decide +kernel
theorem dL_tick_14 : decode cL_tick 14 = .ok (.if_icmp .ge 13, 3) := by decide +kernel
theorem dL_tick_17 : decode cL_tick 17 = .ok (.aload_n 0, 1) := by decide +kernel
theorem dL_tick_18 : decode cL_tick 18 = .ok (.iconst 1, 1) := by decide +kernel
theorem dL_tick_19 : decode cL_tick 19 = .ok (.dup2, 1) := by decide +kernel
theorem dL_tick_20 : decode cL_tick 20 = .ok (.iaload, 1) := by decide +kernel
theorem dL_tick_21 : decode cL_tick 21 = .ok (.iconst 1, 1) := by decide +kernel
theorem dL_tick_22 : decode cL_tick 22 = .ok (.iadd, 1) := by decide +kernel
theorem dL_tick_23 : decode cL_tick 23 = .ok (.iastore, 1) := by decide +kernel
theorem dL_tick_24 : decode cL_tick 24 = .ok (.bipush (-6), 2) := by decide +kernel
theorem dL_tick_26 : decode cL_tick 26 = .ok (.ireturn, 1) := by decide +kernel
theorem dL_tick_27 : decode cL_tick 27 = .ok (.aload_n 0, 1) := by decide +kernel
theorem dL_tick_28 : decode cL_tick 28 = .ok (.iconst 5, 1) := by decide +kernel
theorem dL_tick_29 : decode cL_tick 29 = .ok (.iaload, 1) := by decide +kernel
theorem dL_tick_30 : decode cL_tick 30 = .ok (.ifCond .ge 77, 3) := by decide +kernel
theorem dL_tick_33 : decode cL_tick 33 = .ok (.aload_n 0, 1) := by decide +kernel
theorem dL_tick_34 : decode cL_tick 34 = .ok (.aload_n 1, 1) := by decide +kernel
theorem dL_tick_35 : decode cL_tick 35 = .ok (.aload_n 2, 1) := by decide +kernel
theorem dL_tick_36 : decode cL_tick 36 = .ok (.aload_n 3, 1) := by decide +kernel
theorem dL_tick_37 : decode cL_tick 37 = .ok (.invokestatic 16, 3) := by decide +kernel
theorem dL_tick_40 : decode cL_tick 40 = .ok (.istore 5, 2) := by decide +kernel
theorem dL_tick_42 : decode cL_tick 42 = .ok (.iload 5, 2) := by decide +kernel
theorem dL_tick_44 : decode cL_tick 44 = .ok (.ifCond .ge 6, 3) := by decide +kernel
theorem dL_tick_47 : decode cL_tick 47 = .ok (.bipush (-6), 2) := by decide +kernel
theorem dL_tick_49 : decode cL_tick 49 = .ok (.ireturn, 1) := by decide +kernel
theorem dL_tick_50 : decode cL_tick 50 = .ok (.aload_n 0, 1) := by decide +kernel
theorem dL_tick_51 : decode cL_tick 51 = .ok (.bipush 8, 2) := by decide +kernel
theorem dL_tick_53 : decode cL_tick 53 = .ok (.iaload, 1) := by decide +kernel
theorem dL_tick_54 : decode cL_tick 54 = .ok (.ifCond .le 9, 3) := by decide +kernel
theorem dL_tick_57 : decode cL_tick 57 = .ok (.iconst 0, 1) := by decide +kernel
theorem dL_tick_58 : decode cL_tick 58 = .ok (.aload_n 0, 1) := by decide +kernel
theorem dL_tick_59 : decode cL_tick 59 = .ok (.aload_n 2, 1) := by decide +kernel
theorem dL_tick_60 : decode cL_tick 60 = .ok (.invokestatic 20, 3) := by decide +kernel
theorem dL_tick_63 : decode cL_tick 63 = .ok (.aload_n 0, 1) := by decide +kernel
theorem dL_tick_64 : decode cL_tick 64 = .ok (.iconst 5, 1) := by decide +kernel
theorem dL_tick_65 : decode cL_tick 65 = .ok (.iload 5, 2) := by decide +kernel
theorem dL_tick_67 : decode cL_tick 67 = .ok (.iastore, 1) := by decide +kernel
theorem dL_tick_68 : decode cL_tick 68 = .ok (.aload_n 0, 1) := by decide +kernel
theorem dL_tick_69 : decode cL_tick 69 = .ok (.bipush 6, 2) := by decide +kernel
theorem dL_tick_71 : decode cL_tick 71 = .ok (.iconst 0, 1) := by decide +kernel
theorem dL_tick_72 : decode cL_tick 72 = .ok (.iastore, 1) := by decide +kernel
theorem dL_tick_73 : decode cL_tick 73 = .ok (.aload_n 0, 1) := by decide +kernel
theorem dL_tick_74 : decode cL_tick 74 = .ok (.bipush 7, 2) := by decide +kernel
theorem dL_tick_76 : decode cL_tick 76 = .ok (.aload_n 0, 1) := by decide +kernel
theorem dL_tick_77 : decode cL_tick 77 = .ok (.bipush 16, 2) := by decide +kernel
theorem dL_tick_79 : decode cL_tick 79 = .ok (.iaload, 1) := by decide +kernel
theorem dL_tick_80 : decode cL_tick 80 = .ok (.aload_n 0, 1) := by decide +kernel
theorem dL_tick_81 : decode cL_tick 81 = .ok (.bipush 17, 2) := by decide +kernel
theorem dL_tick_83 : decode cL_tick 83 = .ok (.iaload, 1) := by decide +kernel
theorem dL_tick_84 : decode cL_tick 84 = .ok (.iload 5, 2) := by decide +kernel
theorem dL_tick_86 : decode cL_tick 86 = .ok (.aload_n 0, 1) := by decide +kernel
theorem dL_tick_87 : decode cL_tick 87 = .ok (.bipush 18, 2) := by decide +kernel
theorem dL_tick_89 : decode cL_tick 89 = .ok (.iaload, 1) := by decide +kernel
theorem dL_tick_90 : decode cL_tick 90 = .ok (.aload_n 0, 1) := by decide +kernel
theorem dL_tick_91 : decode cL_tick 91 = .ok (.aload_n 3, 1) := by decide +kernel
theorem dL_tick_92 : decode cL_tick 92 = .ok (.invokestatic 10, 3) := by decide +kernel
theorem dL_tick_95 : decode cL_tick 95 = .ok (.imul, 1) := by decide +kernel
theorem dL_tick_96 : decode cL_tick 96 = .ok (.iadd, 1) := by decide +kernel
theorem dL_tick_97 : decode cL_tick 97 = .ok (.iastore, 1) := by decide +kernel
theorem dL_tick_98 : decode cL_tick 98 = .ok (.iconst 1, 1) := by decide +kernel
theorem dL_tick_99 : decode cL_tick 99 = .ok (.iload 5, 2) := by decide +kernel
theorem dL_tick_101 : decode cL_tick 101 = .ok (.aload_n 0, 1) := by decide +kernel
theorem dL_tick_102 : decode cL_tick 102 = .ok (.aload 4, 2) := by decide +kernel
theorem dL_tick_104 : decode cL_tick 104 = .ok (.invokestatic 24, 3) := by decide +kernel
theorem dL_tick_107 : decode cL_tick 107 = .ok (.aload_n 0, 1) := by decide +kernel
theorem dL_tick_108 : decode cL_tick 108 = .ok (.bipush 6, 2) := by decide +kernel
theorem dL_tick_110 : decode cL_tick 110 = .ok (.dup2, 1) := by decide +kernel
theorem dL_tick_111 : decode cL_tick 111 = .ok (.iaload, 1) := by decide +kernel
theorem dL_tick_112 : decode cL_tick 112 = .ok (.iconst 1, 1) := by decide +kernel
theorem dL_tick_113 : decode cL_tick 113 = .ok (.iadd, 1) := by decide +kernel
theorem dL_tick_114 : decode cL_tick 114 = .ok (.iastore, 1) := by decide +kernel
theorem dL_tick_115 : decode cL_tick 115 = .ok (.aload_n 0, 1) := by decide +kernel
theorem dL_tick_116 : decode cL_tick 116 = .ok (.bipush 6, 2) := by decide +kernel
theorem dL_tick_118 : decode cL_tick 118 = .ok (.iaload, 1) := by decide +kernel
theorem dL_tick_119 : decode cL_tick 119 = .ok (.aload_n 0, 1) := by decide +kernel
theorem dL_tick_120 : decode cL_tick 120 = .ok (.bipush 7, 2) := by decide +kernel
theorem dL_tick_122 : decode cL_tick 122 = .ok (.iaload, 1) := by decide +kernel
theorem dL_tick_123 : decode cL_tick 123 = .ok (.if_icmp .ge 6, 3) := by decide +kernel
theorem dL_tick_126 : decode cL_tick 126 = .ok (.bipush (-6), 2) := by decide +kernel
theorem dL_tick_128 : decode cL_tick 128 = .ok (.ireturn, 1) := by decide +kernel
theorem dL_tick_129 : decode cL_tick 129 = .ok (.aload_n 0, 1) := by decide +kernel
theorem dL_tick_130 : decode cL_tick 130 = .ok (.iconst 5, 1) := by decide +kernel
theorem dL_tick_131 : decode cL_tick 131 = .ok (.iaload, 1) := by decide +kernel
theorem dL_tick_132 : decode cL_tick 132 = .ok (.istore 5, 2) := by decide +kernel
theorem dL_tick_134 : decode cL_tick 134 = .ok (.aload_n 1, 1) := by decide +kernel
theorem dL_tick_135 : decode cL_tick 135 = .ok (.iload 5, 2) := by decide +kernel
theorem dL_tick_137 : decode cL_tick 137 = .ok (.aload_n 0, 1) := by decide +kernel
theorem dL_tick_138 : decode cL_tick 138 = .ok (.iconst 0, 1) := by decide +kernel
theorem dL_tick_139 : decode cL_tick 139 = .ok (.iaload, 1) := by decide +kernel
theorem dL_tick_140 : decode cL_tick 140 = .ok (.iastore, 1) := by decide +kernel
theorem dL_tick_141 : decode cL_tick 141 = .ok (.aload_n 0, 1) := by decide +kernel
theorem dL_tick_142 : decode cL_tick 142 = .ok (.iconst 5, 1) := by decide +kernel
theorem dL_tick_143 : decode cL_tick 143 = .ok (.bipush (-6), 2) := by decide +kernel
theorem dL_tick_145 : decode cL_tick 145 = .ok (.iastore, 1) := by decide +kernel
theorem dL_tick_146 : decode cL_tick 146 = .ok (.aload_n 0, 1) := by decide +kernel
theorem dL_tick_147 : decode cL_tick 147 = .ok (.bipush 6, 2) := by decide +kernel
theorem dL_tick_149 : decode cL_tick 149 = .ok (.iconst 0, 1) := by decide +kernel
theorem dL_tick_150 : decode cL_tick 150 = .ok (.iastore, 1) := by decide +kernel
theorem dL_tick_151 : decode cL_tick 151 = .ok (.aload_n 0, 1) := by decide +kernel
theorem dL_tick_152 : decode cL_tick 152 = .ok (.bipush 7, 2) := by decide +kernel
theorem dL_tick_154 : decode cL_tick 154 = .ok (.iconst 0, 1) := by decide +kernel
theorem dL_tick_155 : decode cL_tick 155 = .ok (.iastore, 1) := by decide +kernel
theorem dL_tick_156 : decode cL_tick 156 = .ok (.aload_n 0, 1) := by decide +kernel
theorem dL_tick_157 : decode cL_tick 157 = .ok (.bipush 9, 2) := by decide +kernel
theorem dL_tick_159 : decode cL_tick 159 = .ok (.dup2, 1) := by decide +kernel
theorem dL_tick_160 : decode cL_tick 160 = .ok (.iaload, 1) := by decide +kernel
theorem dL_tick_161 : decode cL_tick 161 = .ok (.iconst 1, 1) := by decide +kernel
theorem dL_tick_162 : decode cL_tick 162 = .ok (.iadd, 1) := by decide +kernel
theorem dL_tick_163 : decode cL_tick 163 = .ok (.iastore, 1) := by decide +kernel
theorem dL_tick_164 : decode cL_tick 164 = .ok (.aload_n 0, 1) := by decide +kernel
theorem dL_tick_165 : decode cL_tick 165 = .ok (.bipush 13, 2) := by decide +kernel
theorem dL_tick_167 : decode cL_tick 167 = .ok (.iload 5, 2) := by decide +kernel
theorem dL_tick_169 : decode cL_tick 169 = .ok (.iastore, 1) := by decide +kernel
theorem dL_tick_170 : decode cL_tick 170 = .ok (.iconst 3, 1) := by decide +kernel
theorem dL_tick_171 : decode cL_tick 171 = .ok (.iload 5, 2) := by decide +kernel
theorem dL_tick_173 : decode cL_tick 173 = .ok (.aload_n 0, 1) := by decide +kernel
theorem dL_tick_174 : decode cL_tick 174 = .ok (.aload 4, 2) := by decide +kernel
theorem dL_tick_176 : decode cL_tick 176 = .ok (.invokestatic 24, 3) := by decide +kernel
theorem dL_tick_179 : decode cL_tick 179 = .ok (.iconst 0, 1) := by decide +kernel
theorem dL_tick_180 : decode cL_tick 180 = .ok (.istore 6, 2) := by decide +kernel
theorem dL_tick_182 : decode cL_tick 182 = .ok (.iload 6, 2) := by decide +kernel
theorem dL_tick_184 : decode cL_tick 184 = .ok (.aload_n 0, 1) := by decide +kernel
theorem dL_tick_185 : decode cL_tick 185 = .ok (.iconst 2, 1) := by decide +kernel
theorem dL_tick_186 : decode cL_tick 186 = .ok (.iaload, 1) := by decide +kernel
theorem dL_tick_187 : decode cL_tick 187 = .ok (.if_icmp .ge 130, 3) := by decide +kernel
theorem dL_tick_190 : decode cL_tick 190 = .ok (.aload_n 3, 1) := by decide +kernel
theorem dL_tick_191 : decode cL_tick 191 = .ok (.iload 6, 2) := by decide +kernel
theorem dL_tick_193 : decode cL_tick 193 = .ok (.iaload, 1) := by decide +kernel
theorem dL_tick_194 : decode cL_tick 194 = .ok (.bipush 10, 2) := by decide +kernel
theorem dL_tick_196 : decode cL_tick 196 = .ok (.idiv, 1) := by decide +kernel
theorem dL_tick_197 : decode cL_tick 197 = .ok (.iload 5, 2) := by decide +kernel
theorem dL_tick_199 : decode cL_tick 199 = .ok (.if_icmp .eq 6, 3) := by decide +kernel
theorem dL_tick_202 : decode cL_tick 202 = .ok (.goto 109, 3) := by decide +kernel
theorem dL_tick_205 : decode cL_tick 205 = .ok (.aload_n 3, 1) := by decide +kernel
theorem dL_tick_206 : decode cL_tick 206 = .ok (.iload 6, 2) := by decide +kernel
theorem dL_tick_208 : decode cL_tick 208 = .ok (.iaload, 1) := by decide +kernel
theorem dL_tick_209 : decode cL_tick 209 = .ok (.bipush 10, 2) := by decide +kernel
theorem dL_tick_211 : decode cL_tick 211 = .ok (.irem, 1) := by decide +kernel
theorem dL_tick_212 : decode cL_tick 212 = .ok (.aload_n 0, 1) := by decide +kernel
theorem dL_tick_213 : decode cL_tick 213 = .ok (.bipush 18, 2) := by decide +kernel
theorem dL_tick_215 : decode cL_tick 215 = .ok (.iaload, 1) := by decide +kernel
theorem dL_tick_216 : decode cL_tick 216 = .ok (.if_icmp .ge 14, 3) := by decide +kernel
theorem dL_tick_219 : decode cL_tick 219 = .ok (.aload_n 3, 1) := by decide +kernel
theorem dL_tick_220 : decode cL_tick 220 = .ok (.iload 6, 2) := by decide +kernel
theorem dL_tick_222 : decode cL_tick 222 = .ok (.dup2, 1) := by decide +kernel
theorem dL_tick_223 : decode cL_tick 223 = .ok (.iaload, 1) := by decide +kernel
theorem dL_tick_224 : decode cL_tick 224 = .ok (.iconst 1, 1) := by decide +kernel
theorem dL_tick_225 : decode cL_tick 225 = .ok (.iadd, 1) := by decide +kernel
theorem dL_tick_226 : decode cL_tick 226 = .ok (.iastore, 1) := by decide +kernel
theorem dL_tick_227 : decode cL_tick 227 = .ok (.goto 84, 3) := by decide +kernel
theorem dL_tick_230 : decode cL_tick 230 = .ok (.aload_n 0, 1) := by decide +kernel
theorem dL_tick_231 : decode cL_tick 231 = .ok (.iconst 3, 1) := by decide +kernel
theorem dL_tick_232 : decode cL_tick 232 = .ok (.iaload, 1) := by decide +kernel
theorem dL_tick_233 : decode cL_tick 233 = .ok (.ifCond .le 7, 3) := by decide +kernel
theorem dL_tick_236 : decode cL_tick 236 = .ok (.iconst 4, 1) := by decide +kernel
theorem dL_tick_237 : decode cL_tick 237 = .ok (.goto 4, 3) := by decide +kernel
theorem dL_tick_240 : decode cL_tick 240 = .ok (.iconst 5, 1) := by decide +kernel
theorem dL_tick_241 : decode cL_tick 241 = .ok (.iload 5, 2) := by decide +kernel
theorem dL_tick_243 : decode cL_tick 243 = .ok (.aload_n 0, 1) := by decide +kernel
theorem dL_tick_244 : decode cL_tick 244 = .ok (.aload 4, 2) := by decide +kernel
theorem dL_tick_246 : decode cL_tick 246 = .ok (.invokestatic 24, 3) := by decide +kernel
theorem dL_tick_249 : decode cL_tick 249 = .ok (.aload_n 0, 1) := by decide +kernel
theorem dL_tick_250 : decode cL_tick 250 = .ok (.iconst 3, 1) := by decide +kernel
theorem dL_tick_251 : decode cL_tick 251 = .ok (.iaload, 1) := by decide +kernel
theorem dL_tick_252 : decode cL_tick 252 = .ok (.ifCond .ne 6, 3) := by decide +kernel
theorem dL_tick_255 : decode cL_tick 255 = .ok (.goto 56, 3) := by decide +kernel
theorem dL_tick_258 : decode cL_tick 258 = .ok (.aload_n 0, 1) := by decide +kernel
theorem dL_tick_259 : decode cL_tick 259 = .ok (.iconst 3, 1) := by decide +kernel
theorem dL_tick_260 : decode cL_tick 260 = .ok (.dup2, 1) := by decide +kernel
theorem dL_tick_261 : decode cL_tick 261 = .ok (.iaload, 1) := by decide +kernel
theorem dL_tick_262 : decode cL_tick 262 = .ok (.iconst 1, 1) := by decide +kernel
theorem dL_tick_263 : decode cL_tick 263 = .ok (.isub, 1) := by decide +kernel
theorem dL_tick_264 : decode cL_tick 264 = .ok (.iastore, 1) := by decide +kernel
theorem dL_tick_265 : decode cL_tick 265 = .ok (.aload_n 0, 1) := by decide +kernel
theorem dL_tick_266 : decode cL_tick 266 = .ok (.bipush 11, 2) := by decide +kernel
theorem dL_tick_268 : decode cL_tick 268 = .ok (.dup2, 1) := by decide +kernel
theorem dL_tick_269 : decode cL_tick 269 = .ok (.iaload, 1) := by decide +kernel
theorem dL_tick_270 : decode cL_tick 270 = .ok (.iconst 1, 1) := by decide +kernel
theorem dL_tick_271 : decode cL_tick 271 = .ok (.iadd, 1) := by decide +kernel
theorem dL_tick_272 : decode cL_tick 272 = .ok (.iastore, 1) := by decide +kernel
theorem dL_tick_273 : decode cL_tick 273 = .ok (.aload_n 0, 1) := by decide +kernel
theorem dL_tick_274 : decode cL_tick 274 = .ok (.iconst 2, 1) := by decide +kernel
theorem dL_tick_275 : decode cL_tick 275 = .ok (.dup2, 1) := by decide +kernel
theorem dL_tick_276 : decode cL_tick 276 = .ok (.iaload, 1) := by decide +kernel
theorem dL_tick_277 : decode cL_tick 277 = .ok (.iconst 1, 1) := by decide +kernel
theorem dL_tick_278 : decode cL_tick 278 = .ok (.isub, 1) := by decide +kernel
theorem dL_tick_279 : decode cL_tick 279 = .ok (.iastore, 1) := by decide +kernel
theorem dL_tick_280 : decode cL_tick 280 = .ok (.iload 6, 2) := by decide +kernel
theorem dL_tick_282 : decode cL_tick 282 = .ok (.istore 7, 2) := by decide +kernel
theorem dL_tick_284 : decode cL_tick 284 = .ok (.iload 7, 2) := by decide +kernel
theorem dL_tick_286 : decode cL_tick 286 = .ok (.aload_n 0, 1) := by decide +kernel
theorem dL_tick_287 : decode cL_tick 287 = .ok (.iconst 2, 1) := by decide +kernel
theorem dL_tick_288 : decode cL_tick 288 = .ok (.iaload, 1) := by decide +kernel
theorem dL_tick_289 : decode cL_tick 289 = .ok (.if_icmp .ge 19, 3) := by decide +kernel
theorem dL_tick_292 : decode cL_tick 292 = .ok (.aload_n 3, 1) := by decide +kernel
theorem dL_tick_293 : decode cL_tick 293 = .ok (.iload 7, 2) := by decide +kernel
theorem dL_tick_295 : decode cL_tick 295 = .ok (.aload_n 3, 1) := by decide +kernel
theorem dL_tick_296 : decode cL_tick 296 = .ok (.iload 7, 2) := by decide +kernel
theorem dL_tick_298 : decode cL_tick 298 = .ok (.iconst 1, 1) := by decide +kernel
theorem dL_tick_299 : decode cL_tick 299 = .ok (.iadd, 1) := by decide +kernel
theorem dL_tick_300 : decode cL_tick 300 = .ok (.iaload, 1) := by decide +kernel
theorem dL_tick_301 : decode cL_tick 301 = .ok (.iastore, 1) := by decide +kernel
theorem dL_tick_302 : decode cL_tick 302 = .ok (.iinc 7 1, 3) := by decide +kernel
theorem dL_tick_305 : decode cL_tick 305 = .ok (.goto (-21), 3) := by decide +kernel
theorem dL_tick_308 : decode cL_tick 308 = .ok (.iinc 6 (-1), 3) := by decide +kernel
theorem dL_tick_311 : decode cL_tick 311 = .ok (.iinc 6 1, 3) := by decide +kernel
theorem dL_tick_314 : decode cL_tick 314 = .ok (.goto (-132), 3) := by decide +kernel
theorem dL_tick_317 : decode cL_tick 317 = .ok (.iload 5, 2) := by decide +kernel
theorem dL_tick_319 : decode cL_tick 319 = .ok (.ireturn, 1) := by decide +kernel
theorem dL_late_0 : decode cL_late 0 = .ok (.iconst 0, 1) := by decide +kernel
theorem dL_late_1 : decode cL_late 1 = .ok (.istore_n 2, 1) := by decide +kernel
theorem dL_late_2 : decode cL_late 2 = .ok (.iconst 0, 1) := by decide +kernel
theorem dL_late_3 : decode cL_late 3 = .ok (.istore_n 3, 1) := by decide +kernel
theorem dL_late_4 : decode cL_late 4 = .ok (.iload_n 3, 1) := by decide +kernel
theorem dL_late_5 : decode cL_late 5 = .ok (.bipush 8, 2) := by decide +kernel
theorem dL_late_7 : decode cL_late 7 = .ok (.if_icmp .ge 31, 3) := by decide +kernel
theorem dL_late_10 : decode cL_late 10 = .ok (.iload_n 2, 1) := by decide +kernel
theorem dL_late_11 : decode cL_late 11 = .ok (.aload_n 0, 1) := by decide +kernel
theorem dL_late_12 : decode cL_late 12 = .ok (.iconst 0, 1) := by decide +kernel
theorem dL_late_13 : decode cL_late 13 = .ok (.iaload, 1) := by decide +kernel
theorem dL_late_14 : decode cL_late 14 = .ok (.aload_n 1, 1) := by decide +kernel
theorem dL_late_15 : decode cL_late 15 = .ok (.iload_n 3, 1) := by decide +kernel
theorem dL_late_16 : decode cL_late 16 = .ok (.iaload, 1) := by decide +kernel
theorem dL_late_17 : decode cL_late 17 = .ok (.isub, 1) := by decide +kernel
theorem dL_late_18 : decode cL_late 18 = .ok (.aload_n 0, 1) := by decide +kernel
theorem dL_late_19 : decode cL_late 19 = .ok (.bipush 19, 2) := by decide +kernel
theorem dL_late_21 : decode cL_late 21 = .ok (.iaload, 1) := by decide +kernel
theorem dL_late_22 : decode cL_late 22 = .ok (.if_icmp .le 7, 3) := by decide +kernel
theorem dL_late_25 : decode cL_late 25 = .ok (.iconst 1, 1) := by decide +kernel
theorem dL_late_26 : decode cL_late 26 = .ok (.goto 4, 3) := by decide +kernel
theorem dL_late_29 : decode cL_late 29 = .ok (.iconst 0, 1) := by decide +kernel
theorem dL_late_30 : decode cL_late 30 = .ok (.iadd, 1) := by decide +kernel
theorem dL_late_31 : decode cL_late 31 = .ok (.istore_n 2, 1) := by decide +kernel
theorem dL_late_32 : decode cL_late 32 = .ok (.iinc 3 1, 3) := by decide +kernel
theorem dL_late_35 : decode cL_late 35 = .ok (.goto (-31), 3) := by decide +kernel
theorem dL_late_38 : decode cL_late 38 = .ok (.iload_n 2, 1) := by decide +kernel
theorem dL_late_39 : decode cL_late 39 = .ok (.ireturn, 1) := by decide +kernel
theorem dL_then_0 : decode cL_then 0 = .ok (.bipush 20, 2) := by decide +kernel
theorem dL_then_2 : decode cL_then 2 = .ok (.newarray .int, 2) := by decide +kernel
theorem dL_then_4 : decode cL_then 4 = .ok (.astore 7, 2) := by decide +kernel
theorem dL_then_6 : decode cL_then 6 = .ok (.bipush 8, 2) := by decide +kernel
theorem dL_then_8 : decode cL_then 8 = .ok (.newarray .int, 2) := by decide +kernel
theorem dL_then_10 : decode cL_then 10 = .ok (.astore 8, 2) := by decide +kernel
theorem dL_then_12 : decode cL_then 12 = .ok (.bipush 6, 2) := by decide +kernel
theorem dL_then_14 : decode cL_then 14 = .ok (.newarray .int, 2) := by decide +kernel
theorem dL_then_16 : decode cL_then 16 = .ok (.astore 9, 2) := by decide +kernel
theorem dL_then_18 : decode cL_then 18 = .ok (.bipush 20, 2) := by decide +kernel
theorem dL_then_20 : decode cL_then 20 = .ok (.newarray .int, 2) := by decide +kernel
theorem dL_then_22 : decode cL_then 22 = .ok (.astore 10, 2) := by decide +kernel
theorem dL_then_24 : decode cL_then 24 = .ok (.bipush 30, 2) := by decide +kernel
theorem dL_then_26 : decode cL_then 26 = .ok (.newarray .int, 2) := by decide +kernel
theorem dL_then_28 : decode cL_then 28 = .ok (.astore 11, 2) := by decide +kernel
theorem dL_then_30 : decode cL_then 30 = .ok (.iconst 0, 1) := by decide +kernel
theorem dL_then_31 : decode cL_then 31 = .ok (.istore 12, 2) := by decide +kernel
theorem dL_then_33 : decode cL_then 33 = .ok (.iload 12, 2) := by decide +kernel
theorem dL_then_35 : decode cL_then 35 = .ok (.bipush 20, 2) := by decide +kernel
theorem dL_then_37 : decode cL_then 37 = .ok (.if_icmp .ge 62, 3) := by decide +kernel
theorem dL_then_40 : decode cL_then 40 = .ok (.aload 7, 2) := by decide +kernel
theorem dL_then_42 : decode cL_then 42 = .ok (.iload 12, 2) := by decide +kernel
theorem dL_then_44 : decode cL_then 44 = .ok (.aload_n 3, 1) := by decide +kernel
theorem dL_then_45 : decode cL_then 45 = .ok (.iload 12, 2) := by decide +kernel
theorem dL_then_47 : decode cL_then 47 = .ok (.iaload, 1) := by decide +kernel
theorem dL_then_48 : decode cL_then 48 = .ok (.iastore, 1) := by decide +kernel
theorem dL_then_49 : decode cL_then 49 = .ok (.aload 10, 2) := by decide +kernel
theorem dL_then_51 : decode cL_then 51 = .ok (.iload 12, 2) := by decide +kernel
theorem dL_then_53 : decode cL_then 53 = .ok (.aload 6, 2) := by decide +kernel
theorem dL_then_55 : decode cL_then 55 = .ok (.iload 12, 2) := by decide +kernel
theorem dL_then_57 : decode cL_then 57 = .ok (.iaload, 1) := by decide +kernel
theorem dL_then_58 : decode cL_then 58 = .ok (.iastore, 1) := by decide +kernel
theorem dL_then_59 : decode cL_then 59 = .ok (.iload 12, 2) := by decide +kernel
theorem dL_then_61 : decode cL_then 61 = .ok (.bipush 8, 2) := by decide +kernel
theorem dL_then_63 : decode cL_then 63 = .ok (.if_icmp .ge 13, 3) := by decide +kernel
theorem dL_then_66 : decode cL_then 66 = .ok (.aload 8, 2) := by decide +kernel
theorem dL_then_68 : decode cL_then 68 = .ok (.iload 12, 2) := by decide +kernel
theorem dL_then_70 : decode cL_then 70 = .ok (.aload 4, 2) := by decide +kernel
theorem dL_then_72 : decode cL_then 72 = .ok (.iload 12, 2) := by decide +kernel
theorem dL_then_74 : decode cL_then 74 = .ok (.iaload, 1) := by decide +kernel
theorem dL_then_75 : decode cL_then 75 = .ok (.iastore, 1) := by decide +kernel
theorem dL_then_76 : decode cL_then 76 = .ok (.iload 12, 2) := by decide +kernel
theorem dL_then_78 : decode cL_then 78 = .ok (.bipush 6, 2) := by decide +kernel
theorem dL_then_80 : decode cL_then 80 = .ok (.if_icmp .ge 13, 3) := by decide +kernel
theorem dL_then_83 : decode cL_then 83 = .ok (.aload 9, 2) := by decide +kernel
theorem dL_then_85 : decode cL_then 85 = .ok (.iload 12, 2) := by decide +kernel
theorem dL_then_87 : decode cL_then 87 = .ok (.aload 5, 2) := by decide +kernel
theorem dL_then_89 : decode cL_then 89 = .ok (.iload 12, 2) := by decide +kernel
theorem dL_then_91 : decode cL_then 91 = .ok (.iaload, 1) := by decide +kernel
theorem dL_then_92 : decode cL_then 92 = .ok (.iastore, 1) := by decide +kernel
theorem dL_then_93 : decode cL_then 93 = .ok (.iinc 12 1, 3) := by decide +kernel
theorem dL_then_96 : decode cL_then 96 = .ok (.goto (-63), 3) := by decide +kernel
theorem dL_then_99 : decode cL_then 99 = .ok (.aload 7, 2) := by decide +kernel
theorem dL_then_101 : decode cL_then 101 = .ok (.iconst 4, 1) := by decide +kernel
theorem dL_then_102 : decode cL_then 102 = .ok (.iload_n 1, 1) := by decide +kernel
theorem dL_then_103 : decode cL_then 103 = .ok (.iastore, 1) := by decide +kernel
theorem dL_then_104 : decode cL_then 104 = .ok (.iconst 1, 1) := by decide +kernel
theorem dL_then_105 : decode cL_then 105 = .ok (.istore 12, 2) := by decide +kernel
theorem dL_then_107 : decode cL_then 107 = .ok (.iload 12, 2) := by decide +kernel
theorem dL_then_109 : decode cL_then 109 = .ok (.iload_n 0, 1) := by decide +kernel
theorem dL_then_110 : decode cL_then 110 = .ok (.if_icmp .gt 33, 3) := by decide +kernel
theorem dL_then_113 : decode cL_then 113 = .ok (.aload 7, 2) := by decide +kernel
theorem dL_then_115 : decode cL_then 115 = .ok (.aload 8, 2) := by decide +kernel
theorem dL_then_117 : decode cL_then 117 = .ok (.aload 9, 2) := by decide +kernel
theorem dL_then_119 : decode cL_then 119 = .ok (.aload 10, 2) := by decide +kernel
theorem dL_then_121 : decode cL_then 121 = .ok (.aload 11, 2) := by decide +kernel
theorem dL_then_123 : decode cL_then 123 = .ok (.invokestatic 28, 3) := by decide +kernel
theorem dL_then_126 : decode cL_then 126 = .ok (.iload_n 2, 1) := by decide +kernel
theorem dL_then_127 : decode cL_then 127 = .ok (.if_icmp .ne 10, 3) := by decide +kernel
theorem dL_then_130 : decode cL_then 130 = .ok (.iload_n 2, 1) := by decide +kernel
theorem dL_then_131 : decode cL_then 131 = .ok (.ifCond .lt 6, 3) := by decide +kernel
theorem dL_then_134 : decode cL_then 134 = .ok (.iload 12, 2) := by decide +kernel
theorem dL_then_136 : decode cL_then 136 = .ok (.ireturn, 1) := by decide +kernel
theorem dL_then_137 : decode cL_then 137 = .ok (.iinc 12 1, 3) := by decide +kernel
theorem dL_then_140 : decode cL_then 140 = .ok (.goto (-33), 3) := by decide +kernel
theorem dL_then_143 : decode cL_then 143 = .ok (.iload_n 2, 1) := by decide +kernel
theorem dL_then_144 : decode cL_then 144 = .ok (.ifCond .lt 8, 3) := by decide +kernel
theorem dL_then_147 : decode cL_then 147 = .ok (.bipush (-6), 2) := by decide +kernel
theorem dL_then_149 : decode cL_then 149 = .ok (.goto 10, 3) := by decide +kernel
theorem dL_then_152 : decode cL_then 152 = .ok (.aload 7, 2) := by decide +kernel
theorem dL_then_154 : decode cL_then 154 = .ok (.aload 8, 2) := by decide +kernel
theorem dL_then_156 : decode cL_then 156 = .ok (.invokestatic 32, 3) := by decide +kernel
theorem dL_then_159 : decode cL_then 159 = .ok (.ireturn, 1) := by decide +kernel
theorem dL_letter_0 : decode cL_letter 0 = .ok (.iload_n 0, 1) := by decide +kernel
theorem dL_letter_1 : decode cL_letter 1 = .ok (.iconst 1, 1) := by decide +kernel
theorem dL_letter_2 : decode cL_letter 2 = .ok (.if_icmp .ne 9, 3) := by decide +kernel
theorem dL_letter_5 : decode cL_letter 5 = .ok (.ldc2_w 36, 3) := by decide +kernel
theorem dL_letter_8 : decode cL_letter 8 = .ok (.goto 50, 3) := by decide +kernel
theorem dL_letter_11 : decode cL_letter 11 = .ok (.iload_n 0, 1) := by decide +kernel
theorem dL_letter_12 : decode cL_letter 12 = .ok (.iconst 2, 1) := by decide +kernel
theorem dL_letter_13 : decode cL_letter 13 = .ok (.if_icmp .ne 9, 3) := by decide +kernel
theorem dL_letter_16 : decode cL_letter 16 = .ok (.ldc2_w 38, 3) := by decide +kernel
theorem dL_letter_19 : decode cL_letter 19 = .ok (.goto 39, 3) := by decide +kernel
theorem dL_letter_22 : decode cL_letter 22 = .ok (.iload_n 0, 1) := by decide +kernel
theorem dL_letter_23 : decode cL_letter 23 = .ok (.iconst 3, 1) := by decide +kernel
theorem dL_letter_24 : decode cL_letter 24 = .ok (.if_icmp .ne 9, 3) := by decide +kernel
theorem dL_letter_27 : decode cL_letter 27 = .ok (.ldc2_w 40, 3) := by decide +kernel
theorem dL_letter_30 : decode cL_letter 30 = .ok (.goto 28, 3) := by decide +kernel
theorem dL_letter_33 : decode cL_letter 33 = .ok (.iload_n 0, 1) := by decide +kernel
theorem dL_letter_34 : decode cL_letter 34 = .ok (.iconst 4, 1) := by decide +kernel
theorem dL_letter_35 : decode cL_letter 35 = .ok (.if_icmp .ne 9, 3) := by decide +kernel
theorem dL_letter_38 : decode cL_letter 38 = .ok (.ldc2_w 42, 3) := by decide +kernel
theorem dL_letter_41 : decode cL_letter 41 = .ok (.goto 17, 3) := by decide +kernel
theorem dL_letter_44 : decode cL_letter 44 = .ok (.iload_n 0, 1) := by decide +kernel
theorem dL_letter_45 : decode cL_letter 45 = .ok (.iconst 5, 1) := by decide +kernel
theorem dL_letter_46 : decode cL_letter 46 = .ok (.if_icmp .ne 9, 3) := by decide +kernel
theorem dL_letter_49 : decode cL_letter 49 = .ok (.ldc2_w 44, 3) := by decide +kernel
theorem dL_letter_52 : decode cL_letter 52 = .ok (.goto 6, 3) := by decide +kernel
theorem dL_letter_55 : decode cL_letter 55 = .ok (.ldc2_w 46, 3) := by decide +kernel
theorem dL_letter_58 : decode cL_letter 58 = .ok (.lstore_n 2, 1) := by decide +kernel
theorem dL_letter_59 : decode cL_letter 59 = .ok (.iload_n 1, 1) := by decide +kernel
theorem dL_letter_60 : decode cL_letter 60 = .ok (.bipush 7, 2) := by decide +kernel
theorem dL_letter_62 : decode cL_letter 62 = .ok (.if_icmp .le 7, 3) := by decide +kernel
theorem dL_letter_65 : decode cL_letter 65 = .ok (.iconst 0, 1) := by decide +kernel
theorem dL_letter_66 : decode cL_letter 66 = .ok (.goto 14, 3) := by decide +kernel
theorem dL_letter_69 : decode cL_letter 69 = .ok (.lload_n 2, 1) := by decide +kernel
theorem dL_letter_70 : decode cL_letter 70 = .ok (.bipush 8, 2) := by decide +kernel
theorem dL_letter_72 : decode cL_letter 72 = .ok (.iload_n 1, 1) := by decide +kernel
theorem dL_letter_73 : decode cL_letter 73 = .ok (.imul, 1) := by decide +kernel
theorem dL_letter_74 : decode cL_letter 74 = .ok (.lshr, 1) := by decide +kernel
theorem dL_letter_75 : decode cL_letter 75 = .ok (.ldc2_w 48, 3) := by decide +kernel
theorem dL_letter_78 : decode cL_letter 78 = .ok (.land, 1) := by decide +kernel
theorem dL_letter_79 : decode cL_letter 79 = .ok (.l2i, 1) := by decide +kernel
theorem dL_letter_80 : decode cL_letter 80 = .ok (.ireturn, 1) := by decide +kernel
theorem dL_same_0 : decode cL_same 0 = .ok (.iconst 0, 1) := by decide +kernel
theorem dL_same_1 : decode cL_same 1 = .ok (.istore 7, 2) := by decide +kernel
theorem dL_same_3 : decode cL_same 3 = .ok (.iload 7, 2) := by decide +kernel
theorem dL_same_5 : decode cL_same 5 = .ok (.bipush 13, 2) := by decide +kernel
theorem dL_same_7 : decode cL_same 7 = .ok (.if_icmp .ge 24, 3) := by decide +kernel
theorem dL_same_10 : decode cL_same 10 = .ok (.aload_n 0, 1) := by decide +kernel
theorem dL_same_11 : decode cL_same 11 = .ok (.iload 7, 2) := by decide +kernel
theorem dL_same_13 : decode cL_same 13 = .ok (.invokevirtual 50, 3) := by decide +kernel
theorem dL_same_16 : decode cL_same 16 = .ok (.aload_n 2, 1) := by decide +kernel
theorem dL_same_17 : decode cL_same 17 = .ok (.iload 7, 2) := by decide +kernel
theorem dL_same_19 : decode cL_same 19 = .ok (.iaload, 1) := by decide +kernel
theorem dL_same_20 : decode cL_same 20 = .ok (.if_icmp .eq 5, 3) := by decide +kernel
theorem dL_same_23 : decode cL_same 23 = .ok (.iconst 0, 1) := by decide +kernel
theorem dL_same_24 : decode cL_same 24 = .ok (.ireturn, 1) := by decide +kernel
theorem dL_same_25 : decode cL_same 25 = .ok (.iinc 7 1, 3) := by decide +kernel
theorem dL_same_28 : decode cL_same 28 = .ok (.goto (-25), 3) := by decide +kernel
theorem dL_same_31 : decode cL_same 31 = .ok (.iconst 0, 1) := by decide +kernel
theorem dL_same_32 : decode cL_same 32 = .ok (.istore 7, 2) := by decide +kernel
theorem dL_same_34 : decode cL_same 34 = .ok (.iload 7, 2) := by decide +kernel
theorem dL_same_36 : decode cL_same 36 = .ok (.iconst 5, 1) := by decide +kernel
theorem dL_same_37 : decode cL_same 37 = .ok (.if_icmp .ge 27, 3) := by decide +kernel
theorem dL_same_40 : decode cL_same 40 = .ok (.aload_n 0, 1) := by decide +kernel
theorem dL_same_41 : decode cL_same 41 = .ok (.iload 7, 2) := by decide +kernel
theorem dL_same_43 : decode cL_same 43 = .ok (.invokevirtual 56, 3) := by decide +kernel
theorem dL_same_46 : decode cL_same 46 = .ok (.aload_n 2, 1) := by decide +kernel
theorem dL_same_47 : decode cL_same 47 = .ok (.bipush 15, 2) := by decide +kernel
theorem dL_same_49 : decode cL_same 49 = .ok (.iload 7, 2) := by decide +kernel
theorem dL_same_51 : decode cL_same 51 = .ok (.iadd, 1) := by decide +kernel
theorem dL_same_52 : decode cL_same 52 = .ok (.iaload, 1) := by decide +kernel
theorem dL_same_53 : decode cL_same 53 = .ok (.if_icmp .eq 5, 3) := by decide +kernel
theorem dL_same_56 : decode cL_same 56 = .ok (.iconst 0, 1) := by decide +kernel
theorem dL_same_57 : decode cL_same 57 = .ok (.ireturn, 1) := by decide +kernel
theorem dL_same_58 : decode cL_same 58 = .ok (.iinc 7 1, 3) := by decide +kernel
theorem dL_same_61 : decode cL_same 61 = .ok (.goto (-27), 3) := by decide +kernel
theorem dL_same_64 : decode cL_same 64 = .ok (.iconst 0, 1) := by decide +kernel
theorem dL_same_65 : decode cL_same 65 = .ok (.istore 7, 2) := by decide +kernel
theorem dL_same_67 : decode cL_same 67 = .ok (.iload 7, 2) := by decide +kernel
theorem dL_same_69 : decode cL_same 69 = .ok (.bipush 8, 2) := by decide +kernel
theorem dL_same_71 : decode cL_same 71 = .ok (.if_icmp .ge 241, 3) := by decide +kernel
theorem dL_same_74 : decode cL_same 74 = .ok (.aload_n 2, 1) := by decide +kernel
theorem dL_same_75 : decode cL_same 75 = .ok (.iconst 0, 1) := by decide +kernel
theorem dL_same_76 : decode cL_same 76 = .ok (.iaload, 1) := by decide +kernel
theorem dL_same_77 : decode cL_same 77 = .ok (.aload_n 3, 1) := by decide +kernel
theorem dL_same_78 : decode cL_same 78 = .ok (.iload 7, 2) := by decide +kernel
theorem dL_same_80 : decode cL_same 80 = .ok (.iaload, 1) := by decide +kernel
theorem dL_same_81 : decode cL_same 81 = .ok (.isub, 1) := by decide +kernel
theorem dL_same_82 : decode cL_same 82 = .ok (.istore 8, 2) := by decide +kernel
theorem dL_same_84 : decode cL_same 84 = .ok (.iconst 0, 1) := by decide +kernel
theorem dL_same_85 : decode cL_same 85 = .ok (.istore 9, 2) := by decide +kernel
theorem dL_same_87 : decode cL_same 87 = .ok (.iconst 0, 1) := by decide +kernel
theorem dL_same_88 : decode cL_same 88 = .ok (.istore 10, 2) := by decide +kernel
theorem dL_same_90 : decode cL_same 90 = .ok (.iload 10, 2) := by decide +kernel
theorem dL_same_92 : decode cL_same 92 = .ok (.aload_n 2, 1) := by decide +kernel
theorem dL_same_93 : decode cL_same 93 = .ok (.iconst 2, 1) := by decide +kernel
theorem dL_same_94 : decode cL_same 94 = .ok (.iaload, 1) := by decide +kernel
theorem dL_same_95 : decode cL_same 95 = .ok (.if_icmp .ge 49, 3) := by decide +kernel
theorem dL_same_98 : decode cL_same 98 = .ok (.aload 5, 2) := by decide +kernel
theorem dL_same_100 : decode cL_same 100 = .ok (.iload 10, 2) := by decide +kernel
theorem dL_same_102 : decode cL_same 102 = .ok (.iaload, 1) := by decide +kernel
theorem dL_same_103 : decode cL_same 103 = .ok (.bipush 10, 2) := by decide +kernel
theorem dL_same_105 : decode cL_same 105 = .ok (.idiv, 1) := by decide +kernel
theorem dL_same_106 : decode cL_same 106 = .ok (.iload 7, 2) := by decide +kernel
theorem dL_same_108 : decode cL_same 108 = .ok (.if_icmp .eq 6, 3) := by decide +kernel
theorem dL_same_111 : decode cL_same 111 = .ok (.goto 27, 3) := by decide +kernel
theorem dL_same_114 : decode cL_same 114 = .ok (.aload_n 0, 1) := by decide +kernel
theorem dL_same_115 : decode cL_same 115 = .ok (.iload 7, 2) := by decide +kernel
theorem dL_same_117 : decode cL_same 117 = .ok (.iload 9, 2) := by decide +kernel
theorem dL_same_119 : decode cL_same 119 = .ok (.invokevirtual 59, 3) := by decide +kernel
theorem dL_same_122 : decode cL_same 122 = .ok (.aload 5, 2) := by decide +kernel
theorem dL_same_124 : decode cL_same 124 = .ok (.iload 10, 2) := by decide +kernel
theorem dL_same_126 : decode cL_same 126 = .ok (.iaload, 1) := by decide +kernel
theorem dL_same_127 : decode cL_same 127 = .ok (.bipush 10, 2) := by decide +kernel
theorem dL_same_129 : decode cL_same 129 = .ok (.irem, 1) := by decide +kernel
theorem dL_same_130 : decode cL_same 130 = .ok (.if_icmp .eq 5, 3) := by decide +kernel
theorem dL_same_133 : decode cL_same 133 = .ok (.iconst 0, 1) := by decide +kernel
theorem dL_same_134 : decode cL_same 134 = .ok (.ireturn, 1) := by decide +kernel
theorem dL_same_135 : decode cL_same 135 = .ok (.iinc 9 1, 3) := by decide +kernel
theorem dL_same_138 : decode cL_same 138 = .ok (.iinc 10 1, 3) := by decide +kernel
theorem dL_same_141 : decode cL_same 141 = .ok (.goto (-51), 3) := by decide +kernel
theorem dL_same_144 : decode cL_same 144 = .ok (.aload_n 0, 1) := by decide +kernel
theorem dL_same_145 : decode cL_same 145 = .ok (.iload 7, 2) := by decide +kernel
theorem dL_same_147 : decode cL_same 147 = .ok (.iconst 0, 1) := by decide +kernel
theorem dL_same_148 : decode cL_same 148 = .ok (.invokevirtual 63, 3) := by decide +kernel
theorem dL_same_151 : decode cL_same 151 = .ok (.aload_n 3, 1) := by decide +kernel
theorem dL_same_152 : decode cL_same 152 = .ok (.iload 7, 2) := by decide +kernel
theorem dL_same_154 : decode cL_same 154 = .ok (.iaload, 1) := by decide +kernel
theorem dL_same_155 : decode cL_same 155 = .ok (.if_icmp .ne 149, 3) := by decide +kernel
theorem dL_same_158 : decode cL_same 158 = .ok (.aload_n 0, 1) := by decide +kernel
theorem dL_same_159 : decode cL_same 159 = .ok (.iload 7, 2) := by decide +kernel
theorem dL_same_161 : decode cL_same 161 = .ok (.iconst 1, 1) := by decide +kernel
theorem dL_same_162 : decode cL_same 162 = .ok (.invokevirtual 63, 3) := by decide +kernel
theorem dL_same_165 : decode cL_same 165 = .ok (.iload 8, 2) := by decide +kernel
theorem dL_same_167 : decode cL_same 167 = .ok (.if_icmp .ne 137, 3) := by decide +kernel
theorem dL_same_170 : decode cL_same 170 = .ok (.aload_n 0, 1) := by decide +kernel
theorem dL_same_171 : decode cL_same 171 = .ok (.iload 7, 2) := by decide +kernel
theorem dL_same_173 : decode cL_same 173 = .ok (.iconst 2, 1) := by decide +kernel
theorem dL_same_174 : decode cL_same 174 = .ok (.invokevirtual 63, 3) := by decide +kernel
theorem dL_same_177 : decode cL_same 177 = .ok (.iload 9, 2) := by decide +kernel
theorem dL_same_179 : decode cL_same 179 = .ok (.if_icmp .ne 125, 3) := by decide +kernel
theorem dL_same_182 : decode cL_same 182 = .ok (.aload_n 0, 1) := by decide +kernel
theorem dL_same_183 : decode cL_same 183 = .ok (.iload 7, 2) := by decide +kernel
theorem dL_same_185 : decode cL_same 185 = .ok (.iconst 3, 1) := by decide +kernel
theorem dL_same_186 : decode cL_same 186 = .ok (.invokevirtual 63, 3) := by decide +kernel
theorem dL_same_189 : decode cL_same 189 = .ok (.iload 7, 2) := by decide +kernel
theorem dL_same_191 : decode cL_same 191 = .ok (.bipush 9, 2) := by decide +kernel
theorem dL_same_193 : decode cL_same 193 = .ok (.aload_n 2, 1) := by decide +kernel
theorem dL_same_194 : decode cL_same 194 = .ok (.aload 5, 2) := by decide +kernel
theorem dL_same_196 : decode cL_same 196 = .ok (.invokestatic 10, 3) := by decide +kernel
theorem dL_same_199 : decode cL_same 199 = .ok (.if_icmp .ne 105, 3) := by decide +kernel
theorem dL_same_202 : decode cL_same 202 = .ok (.aload_n 0, 1) := by decide +kernel
theorem dL_same_203 : decode cL_same 203 = .ok (.iload 7, 2) := by decide +kernel
theorem dL_same_205 : decode cL_same 205 = .ok (.iconst 4, 1) := by decide +kernel
theorem dL_same_206 : decode cL_same 206 = .ok (.invokevirtual 63, 3) := by decide +kernel
theorem dL_same_209 : decode cL_same 209 = .ok (.iload 8, 2) := by decide +kernel
theorem dL_same_211 : decode cL_same 211 = .ok (.aload_n 2, 1) := by decide +kernel
theorem dL_same_212 : decode cL_same 212 = .ok (.bipush 19, 2) := by decide +kernel
theorem dL_same_214 : decode cL_same 214 = .ok (.iaload, 1) := by decide +kernel
theorem dL_same_215 : decode cL_same 215 = .ok (.if_icmp .le 7, 3) := by decide +kernel
theorem dL_same_218 : decode cL_same 218 = .ok (.iconst 2, 1) := by decide +kernel
theorem dL_same_219 : decode cL_same 219 = .ok (.goto 19, 3) := by decide +kernel
theorem dL_same_222 : decode cL_same 222 = .ok (.iload 8, 2) := by decide +kernel
theorem dL_same_224 : decode cL_same 224 = .ok (.aload_n 2, 1) := by decide +kernel
theorem dL_same_225 : decode cL_same 225 = .ok (.bipush 19, 2) := by decide +kernel
theorem dL_same_227 : decode cL_same 227 = .ok (.iaload, 1) := by decide +kernel
theorem dL_same_228 : decode cL_same 228 = .ok (.iconst 2, 1) := by decide +kernel
theorem dL_same_229 : decode cL_same 229 = .ok (.idiv, 1) := by decide +kernel
theorem dL_same_230 : decode cL_same 230 = .ok (.if_icmp .lt 7, 3) := by decide +kernel
theorem dL_same_233 : decode cL_same 233 = .ok (.iconst 1, 1) := by decide +kernel
theorem dL_same_234 : decode cL_same 234 = .ok (.goto 4, 3) := by decide +kernel
theorem dL_same_237 : decode cL_same 237 = .ok (.iconst 0, 1) := by decide +kernel
theorem dL_same_238 : decode cL_same 238 = .ok (.if_icmp .ne 66, 3) := by decide +kernel
theorem dL_same_241 : decode cL_same 241 = .ok (.aload_n 0, 1) := by decide +kernel
theorem dL_same_242 : decode cL_same 242 = .ok (.iload 7, 2) := by decide +kernel
theorem dL_same_244 : decode cL_same 244 = .ok (.iconst 5, 1) := by decide +kernel
theorem dL_same_245 : decode cL_same 245 = .ok (.invokevirtual 63, 3) := by decide +kernel
theorem dL_same_248 : decode cL_same 248 = .ok (.aload_n 2, 1) := by decide +kernel
theorem dL_same_249 : decode cL_same 249 = .ok (.bipush 16, 2) := by decide +kernel
theorem dL_same_251 : decode cL_same 251 = .ok (.iaload, 1) := by decide +kernel
theorem dL_same_252 : decode cL_same 252 = .ok (.aload_n 2, 1) := by decide +kernel
theorem dL_same_253 : decode cL_same 253 = .ok (.bipush 17, 2) := by decide +kernel
theorem dL_same_255 : decode cL_same 255 = .ok (.iaload, 1) := by decide +kernel
theorem dL_same_256 : decode cL_same 256 = .ok (.iload 7, 2) := by decide +kernel
theorem dL_same_258 : decode cL_same 258 = .ok (.aload_n 2, 1) := by decide +kernel
theorem dL_same_259 : decode cL_same 259 = .ok (.bipush 18, 2) := by decide +kernel
theorem dL_same_261 : decode cL_same 261 = .ok (.iaload, 1) := by decide +kernel
theorem dL_same_262 : decode cL_same 262 = .ok (.aload_n 2, 1) := by decide +kernel
theorem dL_same_263 : decode cL_same 263 = .ok (.aload 5, 2) := by decide +kernel
theorem dL_same_265 : decode cL_same 265 = .ok (.invokestatic 10, 3) := by decide +kernel
theorem dL_same_268 : decode cL_same 268 = .ok (.imul, 1) := by decide +kernel
theorem dL_same_269 : decode cL_same 269 = .ok (.iadd, 1) := by decide +kernel
theorem dL_same_270 : decode cL_same 270 = .ok (.if_icmp .ne 34, 3) := by decide +kernel
theorem dL_same_273 : decode cL_same 273 = .ok (.aload_n 0, 1) := by decide +kernel
theorem dL_same_274 : decode cL_same 274 = .ok (.iload 7, 2) := by decide +kernel
theorem dL_same_276 : decode cL_same 276 = .ok (.bipush 6, 2) := by decide +kernel
theorem dL_same_278 : decode cL_same 278 = .ok (.invokevirtual 63, 3) := by decide +kernel
theorem dL_same_281 : decode cL_same 281 = .ok (.iload 7, 2) := by decide +kernel
theorem dL_same_283 : decode cL_same 283 = .ok (.aload_n 2, 1) := by decide +kernel
theorem dL_same_284 : decode cL_same 284 = .ok (.aload 4, 2) := by decide +kernel
theorem dL_same_286 : decode cL_same 286 = .ok (.invokestatic 66, 3) := by decide +kernel
theorem dL_same_289 : decode cL_same 289 = .ok (.if_icmp .ne 15, 3) := by decide +kernel
theorem dL_same_292 : decode cL_same 292 = .ok (.aload_n 0, 1) := by decide +kernel
theorem dL_same_293 : decode cL_same 293 = .ok (.iload 7, 2) := by decide +kernel
theorem dL_same_295 : decode cL_same 295 = .ok (.iload 9, 2) := by decide +kernel
theorem dL_same_297 : decode cL_same 297 = .ok (.invokevirtual 59, 3) := by decide +kernel
theorem dL_same_300 : decode cL_same 300 = .ok (.iconst (-1), 1) := by decide +kernel
theorem dL_same_301 : decode cL_same 301 = .ok (.if_icmp .eq 5, 3) := by decide +kernel
theorem dL_same_304 : decode cL_same 304 = .ok (.iconst 0, 1) := by decide +kernel
theorem dL_same_305 : decode cL_same 305 = .ok (.ireturn, 1) := by decide +kernel
theorem dL_same_306 : decode cL_same 306 = .ok (.iinc 7 1, 3) := by decide +kernel
theorem dL_same_309 : decode cL_same 309 = .ok (.goto (-242), 3) := by decide +kernel
theorem dL_same_312 : decode cL_same 312 = .ok (.aload_n 2, 1) := by decide +kernel
theorem dL_same_313 : decode cL_same 313 = .ok (.bipush 14, 2) := by decide +kernel
theorem dL_same_315 : decode cL_same 315 = .ok (.iaload, 1) := by decide +kernel
theorem dL_same_316 : decode cL_same 316 = .ok (.bipush 10, 2) := by decide +kernel
theorem dL_same_318 : decode cL_same 318 = .ok (.if_icmp .ge 10, 3) := by decide +kernel
theorem dL_same_321 : decode cL_same 321 = .ok (.aload_n 2, 1) := by decide +kernel
theorem dL_same_322 : decode cL_same 322 = .ok (.bipush 14, 2) := by decide +kernel
theorem dL_same_324 : decode cL_same 324 = .ok (.iaload, 1) := by decide +kernel
theorem dL_same_325 : decode cL_same 325 = .ok (.goto 5, 3) := by decide +kernel
theorem dL_same_328 : decode cL_same 328 = .ok (.bipush 10, 2) := by decide +kernel
theorem dL_same_330 : decode cL_same 330 = .ok (.istore 7, 2) := by decide +kernel
theorem dL_same_332 : decode cL_same 332 = .ok (.aload_n 0, 1) := by decide +kernel
theorem dL_same_333 : decode cL_same 333 = .ok (.invokevirtual 70, 3) := by decide +kernel
theorem dL_same_336 : decode cL_same 336 = .ok (.iload 7, 2) := by decide +kernel
theorem dL_same_338 : decode cL_same 338 = .ok (.if_icmp .ne 42, 3) := by decide +kernel
theorem dL_same_341 : decode cL_same 341 = .ok (.aload_n 0, 1) := by decide +kernel
theorem dL_same_342 : decode cL_same 342 = .ok (.invokevirtual 74, 3) := by decide +kernel
theorem dL_same_345 : decode cL_same 345 = .ok (.aload_n 2, 1) := by decide +kernel
theorem dL_same_346 : decode cL_same 346 = .ok (.aload_n 3, 1) := by decide +kernel
theorem dL_same_347 : decode cL_same 347 = .ok (.invokestatic 32, 3) := by decide +kernel
theorem dL_same_350 : decode cL_same 350 = .ok (.if_icmp .ne 30, 3) := by decide +kernel
theorem dL_same_353 : decode cL_same 353 = .ok (.aload_n 0, 1) := by decide +kernel
theorem dL_same_354 : decode cL_same 354 = .ok (.invokevirtual 77, 3) := by decide +kernel
theorem dL_same_357 : decode cL_same 357 = .ok (.aload_n 2, 1) := by decide +kernel
theorem dL_same_358 : decode cL_same 358 = .ok (.aload_n 3, 1) := by decide +kernel
theorem dL_same_359 : decode cL_same 359 = .ok (.aload 4, 2) := by decide +kernel
theorem dL_same_361 : decode cL_same 361 = .ok (.aload 5, 2) := by decide +kernel
theorem dL_same_363 : decode cL_same 363 = .ok (.invokestatic 16, 3) := by decide +kernel
theorem dL_same_366 : decode cL_same 366 = .ok (.if_icmp .ne 14, 3) := by decide +kernel
theorem dL_same_369 : decode cL_same 369 = .ok (.aload_n 0, 1) := by decide +kernel
theorem dL_same_370 : decode cL_same 370 = .ok (.iload 7, 2) := by decide +kernel
theorem dL_same_372 : decode cL_same 372 = .ok (.iconst 0, 1) := by decide +kernel
theorem dL_same_373 : decode cL_same 373 = .ok (.invokevirtual 80, 3) := by decide +kernel
theorem dL_same_376 : decode cL_same 376 = .ok (.iconst (-1), 1) := by decide +kernel
theorem dL_same_377 : decode cL_same 377 = .ok (.if_icmp .eq 5, 3) := by decide +kernel
theorem dL_same_380 : decode cL_same 380 = .ok (.iconst 0, 1) := by decide +kernel
theorem dL_same_381 : decode cL_same 381 = .ok (.ireturn, 1) := by decide +kernel
theorem dL_same_382 : decode cL_same 382 = .ok (.iconst 0, 1) := by decide +kernel
theorem dL_same_383 : decode cL_same 383 = .ok (.istore 8, 2) := by decide +kernel
theorem dL_same_385 : decode cL_same 385 = .ok (.iload 8, 2) := by decide +kernel
theorem dL_same_387 : decode cL_same 387 = .ok (.iload 7, 2) := by decide +kernel
theorem dL_same_389 : decode cL_same 389 = .ok (.if_icmp .ge 267, 3) := by decide +kernel
theorem dL_same_392 : decode cL_same 392 = .ok (.iconst 0, 1) := by decide +kernel
theorem dL_same_393 : decode cL_same 393 = .ok (.istore 9, 2) := by decide +kernel
theorem dL_same_395 : decode cL_same 395 = .ok (.iload 9, 2) := by decide +kernel
theorem dL_same_397 : decode cL_same 397 = .ok (.iconst 3, 1) := by decide +kernel
theorem dL_same_398 : decode cL_same 398 = .ok (.if_icmp .ge 32, 3) := by decide +kernel
theorem dL_same_401 : decode cL_same 401 = .ok (.aload_n 0, 1) := by decide +kernel
theorem dL_same_402 : decode cL_same 402 = .ok (.iload 8, 2) := by decide +kernel
theorem dL_same_404 : decode cL_same 404 = .ok (.iload 9, 2) := by decide +kernel
theorem dL_same_406 : decode cL_same 406 = .ok (.invokevirtual 80, 3) := by decide +kernel
theorem dL_same_409 : decode cL_same 409 = .ok (.aload 6, 2) := by decide +kernel
theorem dL_same_411 : decode cL_same 411 = .ok (.iconst 3, 1) := by decide +kernel
theorem dL_same_412 : decode cL_same 412 = .ok (.iload 8, 2) := by decide +kernel
theorem dL_same_414 : decode cL_same 414 = .ok (.imul, 1) := by decide +kernel
theorem dL_same_415 : decode cL_same 415 = .ok (.iload 9, 2) := by decide +kernel
theorem dL_same_417 : decode cL_same 417 = .ok (.iadd, 1) := by decide +kernel
theorem dL_same_418 : decode cL_same 418 = .ok (.iaload, 1) := by decide +kernel
theorem dL_same_419 : decode cL_same 419 = .ok (.if_icmp .eq 5, 3) := by decide +kernel
theorem dL_same_422 : decode cL_same 422 = .ok (.iconst 0, 1) := by decide +kernel
theorem dL_same_423 : decode cL_same 423 = .ok (.ireturn, 1) := by decide +kernel
theorem dL_same_424 : decode cL_same 424 = .ok (.iinc 9 1, 3) := by decide +kernel
theorem dL_same_427 : decode cL_same 427 = .ok (.goto (-32), 3) := by decide +kernel
theorem dL_same_430 : decode cL_same 430 = .ok (.iconst 0, 1) := by decide +kernel
theorem dL_same_431 : decode cL_same 431 = .ok (.istore 9, 2) := by decide +kernel
theorem dL_same_433 : decode cL_same 433 = .ok (.iconst 1, 1) := by decide +kernel
theorem dL_same_434 : decode cL_same 434 = .ok (.istore 10, 2) := by decide +kernel
theorem dL_same_436 : decode cL_same 436 = .ok (.aload 6, 2) := by decide +kernel
theorem dL_same_438 : decode cL_same 438 = .ok (.iconst 3, 1) := by decide +kernel
theorem dL_same_439 : decode cL_same 439 = .ok (.iload 8, 2) := by decide +kernel
theorem dL_same_441 : decode cL_same 441 = .ok (.imul, 1) := by decide +kernel
theorem dL_same_442 : decode cL_same 442 = .ok (.iaload, 1) := by decide +kernel
theorem dL_same_443 : decode cL_same 443 = .ok (.iload 10, 2) := by decide +kernel
theorem dL_same_445 : decode cL_same 445 = .ok (.idiv, 1) := by decide +kernel
theorem dL_same_446 : decode cL_same 446 = .ok (.bipush 9, 2) := by decide +kernel
