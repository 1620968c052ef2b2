theorem dX7_ask_18 : decode cX7_ask 18 = .ok (.invokevirtual 143, 3) := by decide +kernel
theorem dX7_ask_21 : decode cX7_ask 21 = .ok (.ireturn, 1) := by decide +kernel
theorem dX7_unask_0 : decode cX7_unask 0 = .ok (.iload_n 1, 1) := by decide +kernel
theorem dX7_unask_1 : decode cX7_unask 1 = .ok (.invokestatic 125, 3) := by decide +kernel
theorem dX7_unask_4 : decode cX7_unask 4 = .ok (.ifCond .ne 5, 3) := by decide +kernel
theorem dX7_unask_7 : decode cX7_unask 7 = .ok (.iconst (-1), 1) := by decide +kernel
theorem dX7_unask_8 : decode cX7_unask 8 = .ok (.ireturn, 1) := by decide +kernel
theorem dX7_unask_9 : decode cX7_unask 9 = .ok (.aload_n 0, 1) := by decide +kernel
theorem dX7_unask_10 : decode cX7_unask 10 = .ok (.iload_n 1, 1) := by decide +kernel
theorem dX7_unask_11 : decode cX7_unask 11 = .ok (.invokevirtual 137, 3) := by decide +kernel
theorem dX7_unask_14 : decode cX7_unask 14 = .ok (.istore_n 2, 1) := by decide +kernel
theorem dX7_unask_15 : decode cX7_unask 15 = .ok (.iload_n 2, 1) := by decide +kernel
theorem dX7_unask_16 : decode cX7_unask 16 = .ok (.bipush (-6), 2) := by decide +kernel
theorem dX7_unask_18 : decode cX7_unask 18 = .ok (.if_icmp .ne 6, 3) := by decide +kernel
theorem dX7_unask_21 : decode cX7_unask 21 = .ok (.bipush (-3), 2) := by decide +kernel
theorem dX7_unask_23 : decode cX7_unask 23 = .ok (.ireturn, 1) := by decide +kernel
theorem dX7_unask_24 : decode cX7_unask 24 = .ok (.aload_n 0, 1) := by decide +kernel
theorem dX7_unask_25 : decode cX7_unask 25 = .ok (.invokevirtual 112, 3) := by decide +kernel
theorem dX7_unask_28 : decode cX7_unask 28 = .ok (.aload_n 0, 1) := by decide +kernel
theorem dX7_unask_29 : decode cX7_unask 29 = .ok (.iload_n 2, 1) := by decide +kernel
theorem dX7_unask_30 : decode cX7_unask 30 = .ok (.invokevirtual 89, 3) := by decide +kernel
theorem dX7_unask_33 : decode cX7_unask 33 = .ok (.aload_n 0, 1) := by decide +kernel
theorem dX7_unask_34 : decode cX7_unask 34 = .ok (.getfield 7, 3) := by decide +kernel
theorem dX7_unask_37 : decode cX7_unask 37 = .ok (.bipush 8, 2) := by decide +kernel
theorem dX7_unask_39 : decode cX7_unask 39 = .ok (.iaload, 1) := by decide +kernel
theorem dX7_unask_40 : decode cX7_unask 40 = .ok (.ireturn, 1) := by decide +kernel
theorem dX7_whyNotRead_0 : decode cX7_whyNotRead 0 = .ok (.iload_n 1, 1) := by decide +kernel
theorem dX7_whyNotRead_1 : decode cX7_whyNotRead 1 = .ok (.invokestatic 125, 3) := by decide +kernel
theorem dX7_whyNotRead_4 : decode cX7_whyNotRead 4 = .ok (.ifCond .ne 7, 3) := by decide +kernel
theorem dX7_whyNotRead_7 : decode cX7_whyNotRead 7 = .ok (.iconst (-1), 1) := by decide +kernel
theorem dX7_whyNotRead_8 : decode cX7_whyNotRead 8 = .ok (.goto 38, 3) := by decide +kernel
theorem dX7_whyNotRead_11 : decode cX7_whyNotRead 11 = .ok (.iload_n 2, 1) := by decide +kernel
theorem dX7_whyNotRead_12 : decode cX7_whyNotRead 12 = .ok (.iconst 1, 1) := by decide +kernel
theorem dX7_whyNotRead_13 : decode cX7_whyNotRead 13 = .ok (.sipush 200, 3) := by decide +kernel
theorem dX7_whyNotRead_16 : decode cX7_whyNotRead 16 = .ok (.invokestatic 30, 3) := by decide +kernel
theorem dX7_whyNotRead_19 : decode cX7_whyNotRead 19 = .ok (.ifCond .ne 8, 3) := by decide +kernel
theorem dX7_whyNotRead_22 : decode cX7_whyNotRead 22 = .ok (.bipush (-2), 2) := by decide +kernel
theorem dX7_whyNotRead_24 : decode cX7_whyNotRead 24 = .ok (.goto 22, 3) := by decide +kernel
theorem dX7_whyNotRead_27 : decode cX7_whyNotRead 27 = .ok (.aload_n 0, 1) := by decide +kernel
theorem dX7_whyNotRead_28 : decode cX7_whyNotRead 28 = .ok (.getfield 7, 3) := by decide +kernel
theorem dX7_whyNotRead_31 : decode cX7_whyNotRead 31 = .ok (.iconst 0, 1) := by decide +kernel
theorem dX7_whyNotRead_32 : decode cX7_whyNotRead 32 = .ok (.iaload, 1) := by decide +kernel
theorem dX7_whyNotRead_33 : decode cX7_whyNotRead 33 = .ok (.iload_n 2, 1) := by decide +kernel
theorem dX7_whyNotRead_34 : decode cX7_whyNotRead 34 = .ok (.iadd, 1) := by decide +kernel
theorem dX7_whyNotRead_35 : decode cX7_whyNotRead 35 = .ok (.ldc 146, 2) := by decide +kernel
theorem dX7_whyNotRead_37 : decode cX7_whyNotRead 37 = .ok (.if_icmp .le 8, 3) := by decide +kernel
theorem dX7_whyNotRead_40 : decode cX7_whyNotRead 40 = .ok (.bipush (-4), 2) := by decide +kernel
theorem dX7_whyNotRead_42 : decode cX7_whyNotRead 42 = .ok (.goto 4, 3) := by decide +kernel
theorem dX7_whyNotRead_45 : decode cX7_whyNotRead 45 = .ok (.iconst 0, 1) := by decide +kernel
theorem dX7_whyNotRead_46 : decode cX7_whyNotRead 46 = .ok (.ireturn, 1) := by decide +kernel
theorem dX7_isSlow_0 : decode cX7_isSlow 0 = .ok (.iconst 0, 1) := by decide +kernel
theorem dX7_isSlow_1 : decode cX7_isSlow 1 = .ok (.istore_n 2, 1) := by decide +kernel
theorem dX7_isSlow_2 : decode cX7_isSlow 2 = .ok (.iconst 0, 1) := by decide +kernel
theorem dX7_isSlow_3 : decode cX7_isSlow 3 = .ok (.istore_n 3, 1) := by decide +kernel
theorem dX7_isSlow_4 : decode cX7_isSlow 4 = .ok (.iload_n 3, 1) := by decide +kernel
theorem dX7_isSlow_5 : decode cX7_isSlow 5 = .ok (.aload_n 0, 1) := by decide +kernel
theorem dX7_isSlow_6 : decode cX7_isSlow 6 = .ok (.getfield 7, 3) := by decide +kernel
theorem dX7_isSlow_9 : decode cX7_isSlow 9 = .ok (.iconst 2, 1) := by decide +kernel
theorem dX7_isSlow_10 : decode cX7_isSlow 10 = .ok (.iaload, 1) := by decide +kernel
theorem dX7_isSlow_11 : decode cX7_isSlow 11 = .ok (.if_icmp .ge 43, 3) := by decide +kernel
theorem dX7_isSlow_14 : decode cX7_isSlow 14 = .ok (.iload_n 2, 1) := by decide +kernel
theorem dX7_isSlow_15 : decode cX7_isSlow 15 = .ok (.ifCond .ne 27, 3) := by decide +kernel
theorem dX7_isSlow_18 : decode cX7_isSlow 18 = .ok (.aload_n 0, 1) := by decide +kernel
theorem dX7_isSlow_19 : decode cX7_isSlow 19 = .ok (.iload_n 3, 1) := by decide +kernel
theorem dX7_isSlow_20 : decode cX7_isSlow 20 = .ok (.invokevirtual 73, 3) := by decide +kernel
theorem dX7_isSlow_23 : decode cX7_isSlow 23 = .ok (.iload_n 1, 1) := by decide +kernel
theorem dX7_isSlow_24 : decode cX7_isSlow 24 = .ok (.if_icmp .ne 22, 3) := by decide +kernel
theorem dX7_isSlow_27 : decode cX7_isSlow 27 = .ok (.aload_n 0, 1) := by decide +kernel
theorem dX7_isSlow_28 : decode cX7_isSlow 28 = .ok (.iload_n 3, 1) := by decide +kernel
theorem dX7_isSlow_29 : decode cX7_isSlow 29 = .ok (.invokevirtual 70, 3) := by decide +kernel
theorem dX7_isSlow_32 : decode cX7_isSlow 32 = .ok (.aload_n 0, 1) := by decide +kernel
theorem dX7_isSlow_33 : decode cX7_isSlow 33 = .ok (.getfield 7, 3) := by decide +kernel
theorem dX7_isSlow_36 : decode cX7_isSlow 36 = .ok (.bipush 18, 2) := by decide +kernel
theorem dX7_isSlow_38 : decode cX7_isSlow 38 = .ok (.iaload, 1) := by decide +kernel
theorem dX7_isSlow_39 : decode cX7_isSlow 39 = .ok (.if_icmp .lt 7, 3) := by decide +kernel
theorem dX7_isSlow_42 : decode cX7_isSlow 42 = .ok (.iconst 1, 1) := by decide +kernel
theorem dX7_isSlow_43 : decode cX7_isSlow 43 = .ok (.goto 4, 3) := by decide +kernel
theorem dX7_isSlow_46 : decode cX7_isSlow 46 = .ok (.iconst 0, 1) := by decide +kernel
theorem dX7_isSlow_47 : decode cX7_isSlow 47 = .ok (.istore_n 2, 1) := by decide +kernel
theorem dX7_isSlow_48 : decode cX7_isSlow 48 = .ok (.iinc 3 1, 3) := by decide +kernel
theorem dX7_isSlow_51 : decode cX7_isSlow 51 = .ok (.goto (-47), 3) := by decide +kernel
theorem dX7_isSlow_54 : decode cX7_isSlow 54 = .ok (.iload_n 2, 1) := by decide +kernel
theorem dX7_isSlow_55 : decode cX7_isSlow 55 = .ok (.ireturn, 1) := by decide +kernel
theorem dX7_reads_0 : decode cX7_reads 0 = .ok (.aload_n 0, 1) := by decide +kernel
theorem dX7_reads_1 : decode cX7_reads 1 = .ok (.getfield 7, 3) := by decide +kernel
theorem dX7_reads_4 : decode cX7_reads 4 = .ok (.iconst 1, 1) := by decide +kernel
theorem dX7_reads_5 : decode cX7_reads 5 = .ok (.iconst 0, 1) := by decide +kernel
theorem dX7_reads_6 : decode cX7_reads 6 = .ok (.iastore, 1) := by decide +kernel
theorem dX7_reads_7 : decode cX7_reads 7 = .ok (.aload_n 0, 1) := by decide +kernel
theorem dX7_reads_8 : decode cX7_reads 8 = .ok (.getfield 7, 3) := by decide +kernel
theorem dX7_reads_11 : decode cX7_reads 11 = .ok (.iconst 0, 1) := by decide +kernel
theorem dX7_reads_12 : decode cX7_reads 12 = .ok (.dup2, 1) := by decide +kernel
theorem dX7_reads_13 : decode cX7_reads 13 = .ok (.iaload, 1) := by decide +kernel
theorem dX7_reads_14 : decode cX7_reads 14 = .ok (.iload_n 2, 1) := by decide +kernel
theorem dX7_reads_15 : decode cX7_reads 15 = .ok (.iadd, 1) := by decide +kernel
theorem dX7_reads_16 : decode cX7_reads 16 = .ok (.iastore, 1) := by decide +kernel
theorem dX7_reads_17 : decode cX7_reads 17 = .ok (.aload_n 0, 1) := by decide +kernel
theorem dX7_reads_18 : decode cX7_reads 18 = .ok (.getfield 7, 3) := by decide +kernel
theorem dX7_reads_21 : decode cX7_reads 21 = .ok (.iconst 5, 1) := by decide +kernel
theorem dX7_reads_22 : decode cX7_reads 22 = .ok (.iaload, 1) := by decide +kernel
theorem dX7_reads_23 : decode cX7_reads 23 = .ok (.bipush (-6), 2) := by decide +kernel
theorem dX7_reads_25 : decode cX7_reads 25 = .ok (.if_icmp .eq 56, 3) := by decide +kernel
theorem dX7_reads_28 : decode cX7_reads 28 = .ok (.aload_n 0, 1) := by decide +kernel
theorem dX7_reads_29 : decode cX7_reads 29 = .ok (.getfield 7, 3) := by decide +kernel
theorem dX7_reads_32 : decode cX7_reads 32 = .ok (.bipush 6, 2) := by decide +kernel
theorem dX7_reads_34 : decode cX7_reads 34 = .ok (.aload_n 0, 1) := by decide +kernel
theorem dX7_reads_35 : decode cX7_reads 35 = .ok (.getfield 7, 3) := by decide +kernel
theorem dX7_reads_38 : decode cX7_reads 38 = .ok (.bipush 6, 2) := by decide +kernel
theorem dX7_reads_40 : decode cX7_reads 40 = .ok (.iaload, 1) := by decide +kernel
theorem dX7_reads_41 : decode cX7_reads 41 = .ok (.iconst 2, 1) := by decide +kernel
theorem dX7_reads_42 : decode cX7_reads 42 = .ok (.if_icmp .ge 7, 3) := by decide +kernel
theorem dX7_reads_45 : decode cX7_reads 45 = .ok (.iconst 0, 1) := by decide +kernel
theorem dX7_reads_46 : decode cX7_reads 46 = .ok (.goto 12, 3) := by decide +kernel
theorem dX7_reads_49 : decode cX7_reads 49 = .ok (.aload_n 0, 1) := by decide +kernel
theorem dX7_reads_50 : decode cX7_reads 50 = .ok (.getfield 7, 3) := by decide +kernel
theorem dX7_reads_53 : decode cX7_reads 53 = .ok (.bipush 6, 2) := by decide +kernel
theorem dX7_reads_55 : decode cX7_reads 55 = .ok (.iaload, 1) := by decide +kernel
theorem dX7_reads_56 : decode cX7_reads 56 = .ok (.iconst 2, 1) := by decide +kernel
theorem dX7_reads_57 : decode cX7_reads 57 = .ok (.isub, 1) := by decide +kernel
theorem dX7_reads_58 : decode cX7_reads 58 = .ok (.iastore, 1) := by decide +kernel
theorem dX7_reads_59 : decode cX7_reads 59 = .ok (.aload_n 0, 1) := by decide +kernel
theorem dX7_reads_60 : decode cX7_reads 60 = .ok (.getfield 7, 3) := by decide +kernel
theorem dX7_reads_63 : decode cX7_reads 63 = .ok (.bipush 10, 2) := by decide +kernel
theorem dX7_reads_65 : decode cX7_reads 65 = .ok (.dup2, 1) := by decide +kernel
theorem dX7_reads_66 : decode cX7_reads 66 = .ok (.iaload, 1) := by decide +kernel
theorem dX7_reads_67 : decode cX7_reads 67 = .ok (.iconst 1, 1) := by decide +kernel
theorem dX7_reads_68 : decode cX7_reads 68 = .ok (.iadd, 1) := by decide +kernel
theorem dX7_reads_69 : decode cX7_reads 69 = .ok (.iastore, 1) := by decide +kernel
theorem dX7_reads_70 : decode cX7_reads 70 = .ok (.aload_n 0, 1) := by decide +kernel
theorem dX7_reads_71 : decode cX7_reads 71 = .ok (.iconst 2, 1) := by decide +kernel
theorem dX7_reads_72 : decode cX7_reads 72 = .ok (.aload_n 0, 1) := by decide +kernel
theorem dX7_reads_73 : decode cX7_reads 73 = .ok (.getfield 7, 3) := by decide +kernel
theorem dX7_reads_76 : decode cX7_reads 76 = .ok (.iconst 5, 1) := by decide +kernel
theorem dX7_reads_77 : decode cX7_reads 77 = .ok (.iaload, 1) := by decide +kernel
theorem dX7_reads_78 : decode cX7_reads 78 = .ok (.invokevirtual 96, 3) := by decide +kernel
theorem dX7_reads_81 : decode cX7_reads 81 = .ok (.aload_n 0, 1) := by decide +kernel
theorem dX7_reads_82 : decode cX7_reads 82 = .ok (.iload_n 1, 1) := by decide +kernel
theorem dX7_reads_83 : decode cX7_reads 83 = .ok (.invokevirtual 147, 3) := by decide +kernel
theorem dX7_reads_86 : decode cX7_reads 86 = .ok (.ifCond .ne 5, 3) := by decide +kernel
theorem dX7_reads_89 : decode cX7_reads 89 = .ok (.iconst 0, 1) := by decide +kernel
theorem dX7_reads_90 : decode cX7_reads 90 = .ok (.ireturn, 1) := by decide +kernel
theorem dX7_reads_91 : decode cX7_reads 91 = .ok (.aload_n 0, 1) := by decide +kernel
theorem dX7_reads_92 : decode cX7_reads 92 = .ok (.getfield 7, 3) := by decide +kernel
theorem dX7_reads_95 : decode cX7_reads 95 = .ok (.bipush 12, 2) := by decide +kernel
theorem dX7_reads_97 : decode cX7_reads 97 = .ok (.dup2, 1) := by decide +kernel
theorem dX7_reads_98 : decode cX7_reads 98 = .ok (.iaload, 1) := by decide +kernel
theorem dX7_reads_99 : decode cX7_reads 99 = .ok (.iconst 1, 1) := by decide +kernel
theorem dX7_reads_100 : decode cX7_reads 100 = .ok (.iadd, 1) := by decide +kernel
theorem dX7_reads_101 : decode cX7_reads 101 = .ok (.iastore, 1) := by decide +kernel
theorem dX7_reads_102 : decode cX7_reads 102 = .ok (.aload_n 0, 1) := by decide +kernel
theorem dX7_reads_103 : decode cX7_reads 103 = .ok (.bipush 6, 2) := by decide +kernel
theorem dX7_reads_105 : decode cX7_reads 105 = .ok (.iload_n 1, 1) := by decide +kernel
theorem dX7_reads_106 : decode cX7_reads 106 = .ok (.invokevirtual 96, 3) := by decide +kernel
theorem dX7_reads_109 : decode cX7_reads 109 = .ok (.aload_n 0, 1) := by decide +kernel
theorem dX7_reads_110 : decode cX7_reads 110 = .ok (.iload_n 1, 1) := by decide +kernel
theorem dX7_reads_111 : decode cX7_reads 111 = .ok (.invokevirtual 140, 3) := by decide +kernel
theorem dX7_reads_114 : decode cX7_reads 114 = .ok (.ifCond .ne 9, 3) := by decide +kernel
theorem dX7_reads_117 : decode cX7_reads 117 = .ok (.aload_n 0, 1) := by decide +kernel
theorem dX7_reads_118 : decode cX7_reads 118 = .ok (.iload_n 1, 1) := by decide +kernel
theorem dX7_reads_119 : decode cX7_reads 119 = .ok (.invokevirtual 143, 3) := by decide +kernel
theorem dX7_reads_122 : decode cX7_reads 122 = .ok (.pop, 1) := by decide +kernel
theorem dX7_reads_123 : decode cX7_reads 123 = .ok (.iconst 1, 1) := by decide +kernel
theorem dX7_reads_124 : decode cX7_reads 124 = .ok (.ireturn, 1) := by decide +kernel
theorem dX7_read_0 : decode cX7_read 0 = .ok (.aload_n 0, 1) := by decide +kernel
theorem dX7_read_1 : decode cX7_read 1 = .ok (.iload_n 1, 1) := by decide +kernel
theorem dX7_read_2 : decode cX7_read 2 = .ok (.iload_n 2, 1) := by decide +kernel
theorem dX7_read_3 : decode cX7_read 3 = .ok (.invokevirtual 150, 3) := by decide +kernel
theorem dX7_read_6 : decode cX7_read 6 = .ok (.istore_n 3, 1) := by decide +kernel
theorem dX7_read_7 : decode cX7_read 7 = .ok (.iload_n 3, 1) := by decide +kernel
theorem dX7_read_8 : decode cX7_read 8 = .ok (.ifCond .ge 5, 3) := by decide +kernel
theorem dX7_read_11 : decode cX7_read 11 = .ok (.iload_n 3, 1) := by decide +kernel
theorem dX7_read_12 : decode cX7_read 12 = .ok (.ireturn, 1) := by decide +kernel
theorem dX7_read_13 : decode cX7_read 13 = .ok (.aload_n 0, 1) := by decide +kernel
theorem dX7_read_14 : decode cX7_read 14 = .ok (.invokevirtual 112, 3) := by decide +kernel
theorem dX7_read_17 : decode cX7_read 17 = .ok (.aload_n 0, 1) := by decide +kernel
theorem dX7_read_18 : decode cX7_read 18 = .ok (.iload_n 1, 1) := by decide +kernel
theorem dX7_read_19 : decode cX7_read 19 = .ok (.iload_n 2, 1) := by decide +kernel
theorem dX7_read_20 : decode cX7_read 20 = .ok (.invokevirtual 153, 3) := by decide +kernel
theorem dX7_read_23 : decode cX7_read 23 = .ok (.ireturn, 1) := by decide +kernel
theorem dX7_whyNotQuiet_0 : decode cX7_whyNotQuiet 0 = .ok (.iload_n 1, 1) := by decide +kernel
theorem dX7_whyNotQuiet_1 : decode cX7_whyNotQuiet 1 = .ok (.iconst 1, 1) := by decide +kernel
theorem dX7_whyNotQuiet_2 : decode cX7_whyNotQuiet 2 = .ok (.sipush 500, 3) := by decide +kernel
theorem dX7_whyNotQuiet_5 : decode cX7_whyNotQuiet 5 = .ok (.invokestatic 30, 3) := by decide +kernel
theorem dX7_whyNotQuiet_8 : decode cX7_whyNotQuiet 8 = .ok (.ifCond .ne 8, 3) := by decide +kernel
theorem dX7_whyNotQuiet_11 : decode cX7_whyNotQuiet 11 = .ok (.bipush (-2), 2) := by decide +kernel
theorem dX7_whyNotQuiet_13 : decode cX7_whyNotQuiet 13 = .ok (.goto 22, 3) := by decide +kernel
theorem dX7_whyNotQuiet_16 : decode cX7_whyNotQuiet 16 = .ok (.aload_n 0, 1) := by decide +kernel
theorem dX7_whyNotQuiet_17 : decode cX7_whyNotQuiet 17 = .ok (.getfield 7, 3) := by decide +kernel
theorem dX7_whyNotQuiet_20 : decode cX7_whyNotQuiet 20 = .ok (.iconst 0, 1) := by decide +kernel
theorem dX7_whyNotQuiet_21 : decode cX7_whyNotQuiet 21 = .ok (.iaload, 1) := by decide +kernel
theorem dX7_whyNotQuiet_22 : decode cX7_whyNotQuiet 22 = .ok (.iload_n 1, 1) := by decide +kernel
theorem dX7_whyNotQuiet_23 : decode cX7_whyNotQuiet 23 = .ok (.iadd, 1) := by decide +kernel
theorem dX7_whyNotQuiet_24 : decode cX7_whyNotQuiet 24 = .ok (.ldc 146, 2) := by decide +kernel
theorem dX7_whyNotQuiet_26 : decode cX7_whyNotQuiet 26 = .ok (.if_icmp .le 8, 3) := by decide +kernel
theorem dX7_whyNotQuiet_29 : decode cX7_whyNotQuiet 29 = .ok (.bipush (-4), 2) := by decide +kernel
theorem dX7_whyNotQuiet_31 : decode cX7_whyNotQuiet 31 = .ok (.goto 4, 3) := by decide +kernel
theorem dX7_whyNotQuiet_34 : decode cX7_whyNotQuiet 34 = .ok (.iconst 0, 1) := by decide +kernel
theorem dX7_whyNotQuiet_35 : decode cX7_whyNotQuiet 35 = .ok (.ireturn, 1) := by decide +kernel
theorem dX7_quiet_0 : decode cX7_quiet 0 = .ok (.aload_n 0, 1) := by decide +kernel
theorem dX7_quiet_1 : decode cX7_quiet 1 = .ok (.iload_n 1, 1) := by decide +kernel
theorem dX7_quiet_2 : decode cX7_quiet 2 = .ok (.invokevirtual 156, 3) := by decide +kernel
theorem dX7_quiet_5 : decode cX7_quiet 5 = .ok (.istore_n 2, 1) := by decide +kernel
theorem dX7_quiet_6 : decode cX7_quiet 6 = .ok (.iload_n 2, 1) := by decide +kernel
theorem dX7_quiet_7 : decode cX7_quiet 7 = .ok (.ifCond .ge 5, 3) := by decide +kernel
theorem dX7_quiet_10 : decode cX7_quiet 10 = .ok (.iload_n 2, 1) := by decide +kernel
theorem dX7_quiet_11 : decode cX7_quiet 11 = .ok (.ireturn, 1) := by decide +kernel
theorem dX7_quiet_12 : decode cX7_quiet 12 = .ok (.aload_n 0, 1) := by decide +kernel
theorem dX7_quiet_13 : decode cX7_quiet 13 = .ok (.invokevirtual 112, 3) := by decide +kernel
theorem dX7_quiet_16 : decode cX7_quiet 16 = .ok (.aload_n 0, 1) := by decide +kernel
theorem dX7_quiet_17 : decode cX7_quiet 17 = .ok (.iload_n 1, 1) := by decide +kernel
theorem dX7_quiet_18 : decode cX7_quiet 18 = .ok (.invokevirtual 159, 3) := by decide +kernel
theorem dX7_quiet_21 : decode cX7_quiet 21 = .ok (.ireturn, 1) := by decide +kernel
theorem dX7_giveUp_0 : decode cX7_giveUp 0 = .ok (.aload_n 0, 1) := by decide +kernel
theorem dX7_giveUp_1 : decode cX7_giveUp 1 = .ok (.getfield 7, 3) := by decide +kernel
theorem dX7_giveUp_4 : decode cX7_giveUp 4 = .ok (.iconst 5, 1) := by decide +kernel
theorem dX7_giveUp_5 : decode cX7_giveUp 5 = .ok (.iaload, 1) := by decide +kernel
theorem dX7_giveUp_6 : decode cX7_giveUp 6 = .ok (.bipush (-6), 2) := by decide +kernel
theorem dX7_giveUp_8 : decode cX7_giveUp 8 = .ok (.if_icmp .ne 6, 3) := by decide +kernel
theorem dX7_giveUp_11 : decode cX7_giveUp 11 = .ok (.bipush (-3), 2) := by decide +kernel
theorem dX7_giveUp_13 : decode cX7_giveUp 13 = .ok (.ireturn, 1) := by decide +kernel
theorem dX7_giveUp_14 : decode cX7_giveUp 14 = .ok (.aload_n 0, 1) := by decide +kernel
theorem dX7_giveUp_15 : decode cX7_giveUp 15 = .ok (.invokevirtual 112, 3) := by decide +kernel
theorem dX7_giveUp_18 : decode cX7_giveUp 18 = .ok (.aload_n 0, 1) := by decide +kernel
theorem dX7_giveUp_19 : decode cX7_giveUp 19 = .ok (.getfield 7, 3) := by decide +kernel
theorem dX7_giveUp_22 : decode cX7_giveUp 22 = .ok (.bipush 6, 2) := by decide +kernel
theorem dX7_giveUp_24 : decode cX7_giveUp 24 = .ok (.iaload, 1) := by decide +kernel
theorem dX7_giveUp_25 : decode cX7_giveUp 25 = .ok (.istore_n 1, 1) := by decide +kernel
theorem dX7_giveUp_26 : decode cX7_giveUp 26 = .ok (.aload_n 0, 1) := by decide +kernel
theorem dX7_giveUp_27 : decode cX7_giveUp 27 = .ok (.invokevirtual 100, 3) := by decide +kernel
theorem dX7_giveUp_30 : decode cX7_giveUp 30 = .ok (.iload_n 1, 1) := by decide +kernel
theorem dX7_giveUp_31 : decode cX7_giveUp 31 = .ok (.ireturn, 1) := by decide +kernel
theorem dX7_count_0 : decode cX7_count 0 = .ok (.iload_n 1, 1) := by decide +kernel
theorem dX7_count_1 : decode cX7_count 1 = .ok (.iconst 0, 1) := by decide +kernel
theorem dX7_count_2 : decode cX7_count 2 = .ok (.bipush 12, 2) := by decide +kernel
theorem dX7_count_4 : decode cX7_count 4 = .ok (.invokestatic 30, 3) := by decide +kernel
theorem dX7_count_7 : decode cX7_count 7 = .ok (.ifCond .eq 12, 3) := by decide +kernel
theorem dX7_count_10 : decode cX7_count 10 = .ok (.aload_n 0, 1) := by decide +kernel
theorem dX7_count_11 : decode cX7_count 11 = .ok (.getfield 7, 3) := by decide +kernel
theorem dX7_count_14 : decode cX7_count 14 = .ok (.iload_n 1, 1) := by decide +kernel
theorem dX7_count_15 : decode cX7_count 15 = .ok (.iaload, 1) := by decide +kernel
theorem dX7_count_16 : decode cX7_count 16 = .ok (.goto 5, 3) := by decide +kernel
theorem dX7_count_19 : decode cX7_count 19 = .ok (.bipush (-2), 2) := by decide +kernel
theorem dX7_count_21 : decode cX7_count 21 = .ok (.ireturn, 1) := by decide +kernel
theorem dX7_setting_0 : decode cX7_setting 0 = .ok (.iload_n 1, 1) := by decide +kernel
theorem dX7_setting_1 : decode cX7_setting 1 = .ok (.invokestatic 115, 3) := by decide +kernel
theorem dX7_setting_4 : decode cX7_setting 4 = .ok (.ifCond .eq 15, 3) := by decide +kernel
theorem dX7_setting_7 : decode cX7_setting 7 = .ok (.aload_n 0, 1) := by decide +kernel
theorem dX7_setting_8 : decode cX7_setting 8 = .ok (.getfield 7, 3) := by decide +kernel
theorem dX7_setting_11 : decode cX7_setting 11 = .ok (.bipush 15, 2) := by decide +kernel
theorem dX7_setting_13 : decode cX7_setting 13 = .ok (.iload_n 1, 1) := by decide +kernel
theorem dX7_setting_14 : decode cX7_setting 14 = .ok (.iadd, 1) := by decide +kernel
theorem dX7_setting_15 : decode cX7_setting 15 = .ok (.iaload, 1) := by decide +kernel
theorem dX7_setting_16 : decode cX7_setting 16 = .ok (.goto 4, 3) := by decide +kernel
theorem dX7_setting_19 : decode cX7_setting 19 = .ok (.iconst (-1), 1) := by decide +kernel
theorem dX7_setting_20 : decode cX7_setting 20 = .ok (.ireturn, 1) := by decide +kernel
theorem dX7_ofSpan_0 : decode cX7_ofSpan 0 = .ok (.iload_n 2, 1) := by decide +kernel
theorem dX7_ofSpan_1 : decode cX7_ofSpan 1 = .ok (.tableswitch 108 0 5 #[39, 49, 55, 61, 69, 102], 39) := by decide +kernel
theorem dX7_ofSpan_40 : decode cX7_ofSpan 40 = .ok (.aload_n 0, 1) := by decide +kernel
theorem dX7_ofSpan_41 : decode cX7_ofSpan 41 = .ok (.getfield 7, 3) := by decide +kernel
theorem dX7_ofSpan_44 : decode cX7_ofSpan 44 = .ok (.bipush 20, 2) := by decide +kernel
theorem dX7_ofSpan_46 : decode cX7_ofSpan 46 = .ok (.iload_n 1, 1) := by decide +kernel
theorem dX7_ofSpan_47 : decode cX7_ofSpan 47 = .ok (.iadd, 1) := by decide +kernel
theorem dX7_ofSpan_48 : decode cX7_ofSpan 48 = .ok (.iaload, 1) := by decide +kernel
theorem dX7_ofSpan_49 : decode cX7_ofSpan 49 = .ok (.ireturn, 1) := by decide +kernel
theorem dX7_ofSpan_50 : decode cX7_ofSpan 50 = .ok (.aload_n 0, 1) := by decide +kernel
theorem dX7_ofSpan_51 : decode cX7_ofSpan 51 = .ok (.iload_n 1, 1) := by decide +kernel
theorem dX7_ofSpan_52 : decode cX7_ofSpan 52 = .ok (.invokevirtual 67, 3) := by decide +kernel
theorem dX7_ofSpan_55 : decode cX7_ofSpan 55 = .ok (.ireturn, 1) := by decide +kernel
theorem dX7_ofSpan_56 : decode cX7_ofSpan 56 = .ok (.aload_n 0, 1) := by decide +kernel
theorem dX7_ofSpan_57 : decode cX7_ofSpan 57 = .ok (.iload_n 1, 1) := by decide +kernel
theorem dX7_ofSpan_58 : decode cX7_ofSpan 58 = .ok (.invokevirtual 128, 3) := by decide +kernel
theorem dX7_ofSpan_61 : decode cX7_ofSpan 61 = .ok (.ireturn, 1) := by decide +kernel
theorem dX7_ofSpan_62 : decode cX7_ofSpan 62 = .ok (.aload_n 0, 1) := by decide +kernel
theorem dX7_ofSpan_63 : decode cX7_ofSpan 63 = .ok (.iload_n 1, 1) := by decide +kernel
theorem dX7_ofSpan_64 : decode cX7_ofSpan 64 = .ok (.bipush 9, 2) := by decide +kernel
theorem dX7_ofSpan_66 : decode cX7_ofSpan 66 = .ok (.invokevirtual 76, 3) := by decide +kernel
theorem dX7_ofSpan_69 : decode cX7_ofSpan 69 = .ok (.ireturn, 1) := by decide +kernel
theorem dX7_ofSpan_70 : decode cX7_ofSpan 70 = .ok (.aload_n 0, 1) := by decide +kernel
theorem dX7_ofSpan_71 : decode cX7_ofSpan 71 = .ok (.iload_n 1, 1) := by decide +kernel
theorem dX7_ofSpan_72 : decode cX7_ofSpan 72 = .ok (.invokevirtual 67, 3) := by decide +kernel
theorem dX7_ofSpan_75 : decode cX7_ofSpan 75 = .ok (.aload_n 0, 1) := by decide +kernel
theorem dX7_ofSpan_76 : decode cX7_ofSpan 76 = .ok (.getfield 7, 3) := by decide +kernel
theorem dX7_ofSpan_79 : decode cX7_ofSpan 79 = .ok (.bipush 19, 2) := by decide +kernel
theorem dX7_ofSpan_81 : decode cX7_ofSpan 81 = .ok (.iaload, 1) := by decide +kernel
theorem dX7_ofSpan_82 : decode cX7_ofSpan 82 = .ok (.if_icmp .le 7, 3) := by decide +kernel
theorem dX7_ofSpan_85 : decode cX7_ofSpan 85 = .ok (.iconst 2, 1) := by decide +kernel
theorem dX7_ofSpan_86 : decode cX7_ofSpan 86 = .ok (.goto 16, 3) := by decide +kernel
theorem dX7_ofSpan_89 : decode cX7_ofSpan 89 = .ok (.aload_n 0, 1) := by decide +kernel
theorem dX7_ofSpan_90 : decode cX7_ofSpan 90 = .ok (.iload_n 1, 1) := by decide +kernel
theorem dX7_ofSpan_91 : decode cX7_ofSpan 91 = .ok (.invokevirtual 79, 3) := by decide +kernel
theorem dX7_ofSpan_94 : decode cX7_ofSpan 94 = .ok (.ifCond .eq 7, 3) := by decide +kernel
theorem dX7_ofSpan_97 : decode cX7_ofSpan 97 = .ok (.iconst 1, 1) := by decide +kernel
theorem dX7_ofSpan_98 : decode cX7_ofSpan 98 = .ok (.goto 4, 3) := by decide +kernel
theorem dX7_ofSpan_101 : decode cX7_ofSpan 101 = .ok (.iconst 0, 1) := by decide +kernel
theorem dX7_ofSpan_102 : decode cX7_ofSpan 102 = .ok (.ireturn, 1) := by decide +kernel
theorem dX7_ofSpan_103 : decode cX7_ofSpan 103 = .ok (.aload_n 0, 1) := by decide +kernel
theorem dX7_ofSpan_104 : decode cX7_ofSpan 104 = .ok (.iload_n 1, 1) := by decide +kernel
theorem dX7_ofSpan_105 : decode cX7_ofSpan 105 = .ok (.invokevirtual 93, 3) := by decide +kernel
theorem dX7_ofSpan_108 : decode cX7_ofSpan 108 = .ok (.ireturn, 1) := by decide +kernel
theorem dX7_ofSpan_109 : decode cX7_ofSpan 109 = .ok (.aload_n 0, 1) := by decide +kernel
theorem dX7_ofSpan_110 : decode cX7_ofSpan 110 = .ok (.iload_n 1, 1) := by decide +kernel
theorem dX7_ofSpan_111 : decode cX7_ofSpan 111 = .ok (.invokevirtual 137, 3) := by decide +kernel
theorem dX7_ofSpan_114 : decode cX7_ofSpan 114 = .ok (.ireturn, 1) := by decide +kernel
theorem dX7_span_0 : decode cX7_span 0 = .ok (.iload_n 1, 1) := by decide +kernel
theorem dX7_span_1 : decode cX7_span 1 = .ok (.invokestatic 125, 3) := by decide +kernel
theorem dX7_span_4 : decode cX7_span 4 = .ok (.ifCond .ne 5, 3) := by decide +kernel
theorem dX7_span_7 : decode cX7_span 7 = .ok (.iconst (-1), 1) := by decide +kernel
theorem dX7_span_8 : decode cX7_span 8 = .ok (.ireturn, 1) := by decide +kernel
theorem dX7_span_9 : decode cX7_span 9 = .ok (.iload_n 2, 1) := by decide +kernel
theorem dX7_span_10 : decode cX7_span 10 = .ok (.iconst 0, 1) := by decide +kernel
theorem dX7_span_11 : decode cX7_span 11 = .ok (.bipush 6, 2) := by decide +kernel
theorem dX7_span_13 : decode cX7_span 13 = .ok (.invokestatic 30, 3) := by decide +kernel
theorem dX7_span_16 : decode cX7_span 16 = .ok (.ifCond .eq 12, 3) := by decide +kernel
theorem dX7_span_19 : decode cX7_span 19 = .ok (.aload_n 0, 1) := by decide +kernel
theorem dX7_span_20 : decode cX7_span 20 = .ok (.iload_n 1, 1) := by decide +kernel
theorem dX7_span_21 : decode cX7_span 21 = .ok (.iload_n 2, 1) := by decide +kernel
theorem dX7_span_22 : decode cX7_span 22 = .ok (.invokevirtual 162, 3) := by decide +kernel
theorem dX7_span_25 : decode cX7_span 25 = .ok (.goto 5, 3) := by decide +kernel
theorem dX7_span_28 : decode cX7_span 28 = .ok (.bipush (-2), 2) := by decide +kernel
theorem dX7_span_30 : decode cX7_span 30 = .ok (.ireturn, 1) := by decide +kernel
theorem dX7_tries_0 : decode cX7_tries 0 = .ok (.iload_n 1, 1) := by decide +kernel
theorem dX7_tries_1 : decode cX7_tries 1 = .ok (.invokestatic 125, 3) := by decide +kernel
theorem dX7_tries_4 : decode cX7_tries 4 = .ok (.ifCond .eq 18, 3) := by decide +kernel
theorem dX7_tries_7 : decode cX7_tries 7 = .ok (.iload_n 2, 1) := by decide +kernel
theorem dX7_tries_8 : decode cX7_tries 8 = .ok (.iconst 0, 1) := by decide +kernel
theorem dX7_tries_9 : decode cX7_tries 9 = .ok (.aload_n 0, 1) := by decide +kernel
theorem dX7_tries_10 : decode cX7_tries 10 = .ok (.iload_n 1, 1) := by decide +kernel
theorem dX7_tries_11 : decode cX7_tries 11 = .ok (.invokevirtual 128, 3) := by decide +kernel
theorem dX7_tries_14 : decode cX7_tries 14 = .ok (.iconst 1, 1) := by decide +kernel
theorem dX7_tries_15 : decode cX7_tries 15 = .ok (.isub, 1) := by decide +kernel
theorem dX7_tries_16 : decode cX7_tries 16 = .ok (.invokestatic 30, 3) := by decide +kernel
theorem dX7_tries_19 : decode cX7_tries 19 = .ok (.ifCond .ne 5, 3) := by decide +kernel
theorem dX7_tries_22 : decode cX7_tries 22 = .ok (.iconst (-1), 1) := by decide +kernel
theorem dX7_tries_23 : decode cX7_tries 23 = .ok (.ireturn, 1) := by decide +kernel
theorem dX7_tries_24 : decode cX7_tries 24 = .ok (.iload_n 2, 1) := by decide +kernel
theorem dX7_tries_25 : decode cX7_tries 25 = .ok (.istore_n 3, 1) := by decide +kernel
theorem dX7_tries_26 : decode cX7_tries 26 = .ok (.iconst 0, 1) := by decide +kernel
theorem dX7_tries_27 : decode cX7_tries 27 = .ok (.istore 4, 2) := by decide +kernel
theorem dX7_tries_29 : decode cX7_tries 29 = .ok (.aload_n 0, 1) := by decide +kernel
theorem dX7_tries_30 : decode cX7_tries 30 = .ok (.iload 4, 2) := by decide +kernel
theorem dX7_tries_32 : decode cX7_tries 32 = .ok (.invokevirtual 73, 3) := by decide +kernel
theorem dX7_tries_35 : decode cX7_tries 35 = .ok (.iload_n 1, 1) := by decide +kernel
theorem dX7_tries_36 : decode cX7_tries 36 = .ok (.if_icmp .ne 7, 3) := by decide +kernel
theorem dX7_tries_39 : decode cX7_tries 39 = .ok (.iload_n 3, 1) := by decide +kernel
theorem dX7_tries_40 : decode cX7_tries 40 = .ok (.ifCond .le 27, 3) := by decide +kernel
theorem dX7_tries_43 : decode cX7_tries 43 = .ok (.iload_n 3, 1) := by decide +kernel
theorem dX7_tries_44 : decode cX7_tries 44 = .ok (.aload_n 0, 1) := by decide +kernel
theorem dX7_tries_45 : decode cX7_tries 45 = .ok (.iload 4, 2) := by decide +kernel
theorem dX7_tries_47 : decode cX7_tries 47 = .ok (.invokevirtual 73, 3) := by decide +kernel
theorem dX7_tries_50 : decode cX7_tries 50 = .ok (.iload_n 1, 1) := by decide +kernel
theorem dX7_tries_51 : decode cX7_tries 51 = .ok (.if_icmp .ne 7, 3) := by decide +kernel
theorem dX7_tries_54 : decode cX7_tries 54 = .ok (.iconst 1, 1) := by decide +kernel
theorem dX7_tries_55 : decode cX7_tries 55 = .ok (.goto 4, 3) := by decide +kernel
theorem dX7_tries_58 : decode cX7_tries 58 = .ok (.iconst 0, 1) := by decide +kernel
theorem dX7_tries_59 : decode cX7_tries 59 = .ok (.isub, 1) := by decide +kernel
theorem dX7_tries_60 : decode cX7_tries 60 = .ok (.istore_n 3, 1) := by decide +kernel
theorem dX7_tries_61 : decode cX7_tries 61 = .ok (.iinc 4 1, 3) := by decide +kernel
theorem dX7_tries_64 : decode cX7_tries 64 = .ok (.goto (-35), 3) := by decide +kernel
theorem dX7_tries_67 : decode cX7_tries 67 = .ok (.aload_n 0, 1) := by decide +kernel
theorem dX7_tries_68 : decode cX7_tries 68 = .ok (.iload 4, 2) := by decide +kernel
theorem dX7_tries_70 : decode cX7_tries 70 = .ok (.invokevirtual 70, 3) := by decide +kernel
theorem dX7_tries_73 : decode cX7_tries 73 = .ok (.ireturn, 1) := by decide +kernel
theorem dX7_entries_0 : decode cX7_entries 0 = .ok (.aload_n 0, 1) := by decide +kernel
theorem dX7_entries_1 : decode cX7_entries 1 = .ok (.invokevirtual 34, 3) := by decide +kernel
theorem dX7_entries_4 : decode cX7_entries 4 = .ok (.ireturn, 1) := by decide +kernel
theorem dX7_isEntry_0 : decode cX7_isEntry 0 = .ok (.iload_n 1, 1) := by decide +kernel
theorem dX7_isEntry_1 : decode cX7_isEntry 1 = .ok (.iconst 0, 1) := by decide +kernel
theorem dX7_isEntry_2 : decode cX7_isEntry 2 = .ok (.aload_n 0, 1) := by decide +kernel
theorem dX7_isEntry_3 : decode cX7_isEntry 3 = .ok (.invokevirtual 34, 3) := by decide +kernel
theorem dX7_isEntry_6 : decode cX7_isEntry 6 = .ok (.iconst 1, 1) := by decide +kernel
theorem dX7_isEntry_7 : decode cX7_isEntry 7 = .ok (.isub, 1) := by decide +kernel
theorem dX7_isEntry_8 : decode cX7_isEntry 8 = .ok (.invokestatic 30, 3) := by decide +kernel
theorem dX7_isEntry_11 : decode cX7_isEntry 11 = .ok (.ireturn, 1) := by decide +kernel
theorem dX7_entry_0 : decode cX7_entry 0 = .ok (.aload_n 0, 1) := by decide +kernel
theorem dX7_entry_1 : decode cX7_entry 1 = .ok (.iload_n 1, 1) := by decide +kernel
theorem dX7_entry_2 : decode cX7_entry 2 = .ok (.invokevirtual 165, 3) := by decide +kernel
theorem dX7_entry_5 : decode cX7_entry 5 = .ok (.ifCond .ne 5, 3) := by decide +kernel
theorem dX7_entry_8 : decode cX7_entry 8 = .ok (.iconst (-1), 1) := by decide +kernel
theorem dX7_entry_9 : decode cX7_entry 9 = .ok (.ireturn, 1) := by decide +kernel
theorem dX7_entry_10 : decode cX7_entry 10 = .ok (.iload_n 2, 1) := by decide +kernel
theorem dX7_entry_11 : decode cX7_entry 11 = .ok (.iconst 0, 1) := by decide +kernel
theorem dX7_entry_12 : decode cX7_entry 12 = .ok (.iconst 3, 1) := by decide +kernel
theorem dX7_entry_13 : decode cX7_entry 13 = .ok (.invokestatic 30, 3) := by decide +kernel
theorem dX7_entry_16 : decode cX7_entry 16 = .ok (.ifCond .ne 8, 3) := by decide +kernel
theorem dX7_entry_19 : decode cX7_entry 19 = .ok (.bipush (-2), 2) := by decide +kernel
theorem dX7_entry_21 : decode cX7_entry 21 = .ok (.goto 22, 3) := by decide +kernel
theorem dX7_entry_24 : decode cX7_entry 24 = .ok (.iload_n 2, 1) := by decide +kernel
theorem dX7_entry_25 : decode cX7_entry 25 = .ok (.iconst 3, 1) := by decide +kernel
theorem dX7_entry_26 : decode cX7_entry 26 = .ok (.if_icmp .ne 11, 3) := by decide +kernel
theorem dX7_entry_29 : decode cX7_entry 29 = .ok (.aload_n 0, 1) := by decide +kernel
theorem dX7_entry_30 : decode cX7_entry 30 = .ok (.iload_n 1, 1) := by decide +kernel
theorem dX7_entry_31 : decode cX7_entry 31 = .ok (.invokevirtual 168, 3) := by decide +kernel
theorem dX7_entry_34 : decode cX7_entry 34 = .ok (.goto 9, 3) := by decide +kernel
theorem dX7_entry_37 : decode cX7_entry 37 = .ok (.aload_n 0, 1) := by decide +kernel
theorem dX7_entry_38 : decode cX7_entry 38 = .ok (.iload_n 1, 1) := by decide +kernel
theorem dX7_entry_39 : decode cX7_entry 39 = .ok (.iload_n 2, 1) := by decide +kernel
theorem dX7_entry_40 : decode cX7_entry 40 = .ok (.invokevirtual 54, 3) := by decide +kernel
theorem dX7_entry_43 : decode cX7_entry 43 = .ok (.ireturn, 1) := by decide +kernel
theorem dX7_lineAt_0 : decode cX7_lineAt 0 = .ok (.aload_n 0, 1) := by decide +kernel
theorem dX7_lineAt_1 : decode cX7_lineAt 1 = .ok (.iload_n 1, 1) := by decide +kernel
theorem dX7_lineAt_2 : decode cX7_lineAt 2 = .ok (.invokevirtual 165, 3) := by decide +kernel
theorem dX7_lineAt_5 : decode cX7_lineAt 5 = .ok (.ifCond .eq 27, 3) := by decide +kernel
theorem dX7_lineAt_8 : decode cX7_lineAt 8 = .ok (.iload_n 2, 1) := by decide +kernel
theorem dX7_lineAt_9 : decode cX7_lineAt 9 = .ok (.iconst 0, 1) := by decide +kernel
theorem dX7_lineAt_10 : decode cX7_lineAt 10 = .ok (.aload_n 0, 1) := by decide +kernel
theorem dX7_lineAt_11 : decode cX7_lineAt 11 = .ok (.iload_n 1, 1) := by decide +kernel
theorem dX7_lineAt_12 : decode cX7_lineAt 12 = .ok (.invokevirtual 168, 3) := by decide +kernel
theorem dX7_lineAt_15 : decode cX7_lineAt 15 = .ok (.iconst 1, 1) := by decide +kernel
theorem dX7_lineAt_16 : decode cX7_lineAt 16 = .ok (.isub, 1) := by decide +kernel
theorem dX7_lineAt_17 : decode cX7_lineAt 17 = .ok (.invokestatic 30, 3) := by decide +kernel
theorem dX7_lineAt_20 : decode cX7_lineAt 20 = .ok (.ifCond .eq 12, 3) := by decide +kernel
theorem dX7_lineAt_23 : decode cX7_lineAt 23 = .ok (.aload_n 0, 1) := by decide +kernel
theorem dX7_lineAt_24 : decode cX7_lineAt 24 = .ok (.iload_n 1, 1) := by decide +kernel
theorem dX7_lineAt_25 : decode cX7_lineAt 25 = .ok (.iload_n 2, 1) := by decide +kernel
theorem dX7_lineAt_26 : decode cX7_lineAt 26 = .ok (.invokevirtual 171, 3) := by decide +kernel
theorem dX7_lineAt_29 : decode cX7_lineAt 29 = .ok (.goto 4, 3) := by decide +kernel
theorem dX7_lineAt_32 : decode cX7_lineAt 32 = .ok (.iconst (-1), 1) := by decide +kernel
theorem dX7_lineAt_33 : decode cX7_lineAt 33 = .ok (.ireturn, 1) := by decide +kernel
theorem dX7_overdueMany_0 : decode cX7_overdueMany 0 = .ok (.iconst 0, 1) := by decide +kernel
theorem dX7_overdueMany_1 : decode cX7_overdueMany 1 = .ok (.istore_n 1, 1) := by decide +kernel
theorem dX7_overdueMany_2 : decode cX7_overdueMany 2 = .ok (.iconst 0, 1) := by decide +kernel
theorem dX7_overdueMany_3 : decode cX7_overdueMany 3 = .ok (.istore_n 2, 1) := by decide +kernel
theorem dX7_overdueMany_4 : decode cX7_overdueMany 4 = .ok (.iload_n 2, 1) := by decide +kernel
theorem dX7_overdueMany_5 : decode cX7_overdueMany 5 = .ok (.bipush 8, 2) := by decide +kernel
theorem dX7_overdueMany_7 : decode cX7_overdueMany 7 = .ok (.if_icmp .ge 32, 3) := by decide +kernel
theorem dX7_overdueMany_10 : decode cX7_overdueMany 10 = .ok (.iload_n 1, 1) := by decide +kernel
theorem dX7_overdueMany_11 : decode cX7_overdueMany 11 = .ok (.aload_n 0, 1) := by decide +kernel
theorem dX7_overdueMany_12 : decode cX7_overdueMany 12 = .ok (.iload_n 2, 1) := by decide +kernel
theorem dX7_overdueMany_13 : decode cX7_overdueMany 13 = .ok (.invokevirtual 67, 3) := by decide +kernel
theorem dX7_overdueMany_16 : decode cX7_overdueMany 16 = .ok (.aload_n 0, 1) := by decide +kernel
theorem dX7_overdueMany_17 : decode cX7_overdueMany 17 = .ok (.getfield 7, 3) := by decide +kernel
theorem dX7_overdueMany_20 : decode cX7_overdueMany 20 = .ok (.bipush 19, 2) := by decide +kernel
theorem dX7_overdueMany_22 : decode cX7_overdueMany 22 = .ok (.iaload, 1) := by decide +kernel
theorem dX7_overdueMany_23 : decode cX7_overdueMany 23 = .ok (.if_icmp .le 7, 3) := by decide +kernel
theorem dX7_overdueMany_26 : decode cX7_overdueMany 26 = .ok (.iconst 1, 1) := by decide +kernel
theorem dX7_overdueMany_27 : decode cX7_overdueMany 27 = .ok (.goto 4, 3) := by decide +kernel
theorem dX7_overdueMany_30 : decode cX7_overdueMany 30 = .ok (.iconst 0, 1) := by decide +kernel
theorem dX7_overdueMany_31 : decode cX7_overdueMany 31 = .ok (.iadd, 1) := by decide +kernel
theorem dX7_overdueMany_32 : decode cX7_overdueMany 32 = .ok (.istore_n 1, 1) := by decide +kernel
theorem dX7_overdueMany_33 : decode cX7_overdueMany 33 = .ok (.iinc 2 1, 3) := by decide +kernel
theorem dX7_overdueMany_36 : decode cX7_overdueMany 36 = .ok (.goto (-32), 3) := by decide +kernel
theorem dX7_overdueMany_39 : decode cX7_overdueMany 39 = .ok (.iload_n 1, 1) := by decide +kernel
theorem dX7_overdueMany_40 : decode cX7_overdueMany 40 = .ok (.ireturn, 1) := by decide +kernel
theorem dX7_overdue_0 : decode cX7_overdue 0 = .ok (.aload_n 0, 1) := by decide +kernel
theorem dX7_overdue_1 : decode cX7_overdue 1 = .ok (.invokevirtual 174, 3) := by decide +kernel
theorem dX7_overdue_4 : decode cX7_overdue 4 = .ok (.ireturn, 1) := by decide +kernel
theorem dX7_nextCheck_0 : decode cX7_nextCheck 0 = .ok (.aload_n 0, 1) := by decide +kernel
theorem dX7_nextCheck_1 : decode cX7_nextCheck 1 = .ok (.invokevirtual 86, 3) := by decide +kernel
theorem dX7_nextCheck_4 : decode cX7_nextCheck 4 = .ok (.ireturn, 1) := by decide +kernel
theorem dX7_checkedIn_0 : decode cX7_checkedIn 0 = .ok (.iload_n 1, 1) := by decide +kernel
theorem dX7_checkedIn_1 : decode cX7_checkedIn 1 = .ok (.invokestatic 125, 3) := by decide +kernel
theorem dX7_checkedIn_4 : decode cX7_checkedIn 4 = .ok (.ifCond .ne 5, 3) := by decide +kernel
theorem dX7_checkedIn_7 : decode cX7_checkedIn 7 = .ok (.iconst (-1), 1) := by decide +kernel
theorem dX7_checkedIn_8 : decode cX7_checkedIn 8 = .ok (.ireturn, 1) := by decide +kernel
theorem dX7_checkedIn_9 : decode cX7_checkedIn 9 = .ok (.aload_n 0, 1) := by decide +kernel
theorem dX7_checkedIn_10 : decode cX7_checkedIn 10 = .ok (.getfield 7, 3) := by decide +kernel
theorem dX7_checkedIn_13 : decode cX7_checkedIn 13 = .ok (.iconst 0, 1) := by decide +kernel
theorem dX7_checkedIn_14 : decode cX7_checkedIn 14 = .ok (.aload_n 0, 1) := by decide +kernel
theorem dX7_checkedIn_15 : decode cX7_checkedIn 15 = .ok (.getfield 13, 3) := by decide +kernel
theorem dX7_checkedIn_18 : decode cX7_checkedIn 18 = .ok (.iconst 0, 1) := by decide +kernel
theorem dX7_checkedIn_19 : decode cX7_checkedIn 19 = .ok (.invokestatic 26, 3) := by decide +kernel
theorem dX7_checkedIn_22 : decode cX7_checkedIn 22 = .ok (.bipush (-6), 2) := by decide +kernel
theorem dX7_checkedIn_24 : decode cX7_checkedIn 24 = .ok (.istore_n 2, 1) := by decide +kernel
theorem dX7_checkedIn_25 : decode cX7_checkedIn 25 = .ok (.iconst 1, 1) := by decide +kernel
theorem dX7_checkedIn_26 : decode cX7_checkedIn 26 = .ok (.istore_n 3, 1) := by decide +kernel
theorem dX7_checkedIn_27 : decode cX7_checkedIn 27 = .ok (.iload_n 3, 1) := by decide +kernel
theorem dX7_checkedIn_28 : decode cX7_checkedIn 28 = .ok (.sipush 3000, 3) := by decide +kernel
theorem dX7_checkedIn_31 : decode cX7_checkedIn 31 = .ok (.if_icmp .gt 30, 3) := by decide +kernel
theorem dX7_checkedIn_34 : decode cX7_checkedIn 34 = .ok (.iload_n 2, 1) := by decide +kernel
theorem dX7_checkedIn_35 : decode cX7_checkedIn 35 = .ok (.bipush (-6), 2) := by decide +kernel
theorem dX7_checkedIn_37 : decode cX7_checkedIn 37 = .ok (.if_icmp .ne 24, 3) := by decide +kernel
theorem dX7_checkedIn_40 : decode cX7_checkedIn 40 = .ok (.aload_n 0, 1) := by decide +kernel
theorem dX7_checkedIn_41 : decode cX7_checkedIn 41 = .ok (.invokevirtual 109, 3) := by decide +kernel
theorem dX7_checkedIn_44 : decode cX7_checkedIn 44 = .ok (.iload_n 1, 1) := by decide +kernel
theorem dX7_checkedIn_45 : decode cX7_checkedIn 45 = .ok (.if_icmp .ne 7, 3) := by decide +kernel
theorem dX7_checkedIn_48 : decode cX7_checkedIn 48 = .ok (.iload_n 3, 1) := by decide +kernel
theorem dX7_checkedIn_49 : decode cX7_checkedIn 49 = .ok (.goto 5, 3) := by decide +kernel
theorem dX7_checkedIn_52 : decode cX7_checkedIn 52 = .ok (.bipush (-6), 2) := by decide +kernel
theorem dX7_checkedIn_54 : decode cX7_checkedIn 54 = .ok (.istore_n 2, 1) := by decide +kernel
theorem dX7_checkedIn_55 : decode cX7_checkedIn 55 = .ok (.iinc 3 1, 3) := by decide +kernel
theorem dX7_checkedIn_58 : decode cX7_checkedIn 58 = .ok (.goto (-31), 3) := by decide +kernel
theorem dX7_checkedIn_61 : decode cX7_checkedIn 61 = .ok (.aload_n 0, 1) := by decide +kernel
theorem dX7_checkedIn_62 : decode cX7_checkedIn 62 = .ok (.getfield 13, 3) := by decide +kernel
theorem dX7_checkedIn_65 : decode cX7_checkedIn 65 = .ok (.iconst 0, 1) := by decide +kernel
theorem dX7_checkedIn_66 : decode cX7_checkedIn 66 = .ok (.aload_n 0, 1) := by decide +kernel
theorem dX7_checkedIn_67 : decode cX7_checkedIn 67 = .ok (.getfield 7, 3) := by decide +kernel
theorem dX7_checkedIn_70 : decode cX7_checkedIn 70 = .ok (.iconst 0, 1) := by decide +kernel
theorem dX7_checkedIn_71 : decode cX7_checkedIn 71 = .ok (.invokestatic 26, 3) := by decide +kernel
theorem dX7_checkedIn_74 : decode cX7_checkedIn 74 = .ok (.iload_n 2, 1) := by decide +kernel
theorem dX7_checkedIn_75 : decode cX7_checkedIn 75 = .ok (.ireturn, 1) := by decide +kernel
theorem dX7_overdueIn_0 : decode cX7_overdueIn 0 = .ok (.aload_n 0, 1) := by decide +kernel
theorem dX7_overdueIn_1 : decode cX7_overdueIn 1 = .ok (.getfield 7, 3) := by decide +kernel
theorem dX7_overdueIn_4 : decode cX7_overdueIn 4 = .ok (.iconst 0, 1) := by decide +kernel
theorem dX7_overdueIn_5 : decode cX7_overdueIn 5 = .ok (.aload_n 0, 1) := by decide +kernel
theorem dX7_overdueIn_6 : decode cX7_overdueIn 6 = .ok (.getfield 13, 3) := by decide +kernel
theorem dX7_overdueIn_9 : decode cX7_overdueIn 9 = .ok (.iconst 0, 1) := by decide +kernel
theorem dX7_overdueIn_10 : decode cX7_overdueIn 10 = .ok (.invokestatic 26, 3) := by decide +kernel
theorem dX7_overdueIn_13 : decode cX7_overdueIn 13 = .ok (.aload_n 0, 1) := by decide +kernel
theorem dX7_overdueIn_14 : decode cX7_overdueIn 14 = .ok (.getfield 7, 3) := by decide +kernel
theorem dX7_overdueIn_17 : decode cX7_overdueIn 17 = .ok (.iconst 4, 1) := by decide +kernel
theorem dX7_overdueIn_18 : decode cX7_overdueIn 18 = .ok (.iload_n 2, 1) := by decide +kernel
theorem dX7_overdueIn_19 : decode cX7_overdueIn 19 = .ok (.iastore, 1) := by decide +kernel
theorem dX7_overdueIn_20 : decode cX7_overdueIn 20 = .ok (.aload_n 0, 1) := by decide +kernel
theorem dX7_overdueIn_21 : decode cX7_overdueIn 21 = .ok (.iload_n 1, 1) := by decide +kernel
theorem dX7_overdueIn_22 : decode cX7_overdueIn 22 = .ok (.invokevirtual 159, 3) := by decide +kernel
theorem dX7_overdueIn_25 : decode cX7_overdueIn 25 = .ok (.pop, 1) := by decide +kernel
theorem dX7_overdueIn_26 : decode cX7_overdueIn 26 = .ok (.aload_n 0, 1) := by decide +kernel
theorem dX7_overdueIn_27 : decode cX7_overdueIn 27 = .ok (.invokevirtual 174, 3) := by decide +kernel
theorem dX7_overdueIn_30 : decode cX7_overdueIn 30 = .ok (.istore_n 3, 1) := by decide +kernel
theorem dX7_overdueIn_31 : decode cX7_overdueIn 31 = .ok (.aload_n 0, 1) := by decide +kernel
theorem dX7_overdueIn_32 : decode cX7_overdueIn 32 = .ok (.getfield 13, 3) := by decide +kernel
theorem dX7_overdueIn_35 : decode cX7_overdueIn 35 = .ok (.iconst 0, 1) := by decide +kernel
theorem dX7_overdueIn_36 : decode cX7_overdueIn 36 = .ok (.aload_n 0, 1) := by decide +kernel
theorem dX7_overdueIn_37 : decode cX7_overdueIn 37 = .ok (.getfield 7, 3) := by decide +kernel
theorem dX7_overdueIn_40 : decode cX7_overdueIn 40 = .ok (.iconst 0, 1) := by decide +kernel
theorem dX7_overdueIn_41 : decode cX7_overdueIn 41 = .ok (.invokestatic 26, 3) := by decide +kernel
theorem dX7_overdueIn_44 : decode cX7_overdueIn 44 = .ok (.iload_n 3, 1) := by decide +kernel
theorem dX7_overdueIn_45 : decode cX7_overdueIn 45 = .ok (.ireturn, 1) := by decide +kernel
theorem dX7_ifQuiet_0 : decode cX7_ifQuiet 0 = .ok (.iload_n 1, 1) := by decide +kernel
theorem dX7_ifQuiet_1 : decode cX7_ifQuiet 1 = .ok (.iconst 0, 1) := by decide +kernel
theorem dX7_ifQuiet_2 : decode cX7_ifQuiet 2 = .ok (.sipush 3000, 3) := by decide +kernel
theorem dX7_ifQuiet_5 : decode cX7_ifQuiet 5 = .ok (.invokestatic 30, 3) := by decide +kernel
theorem dX7_ifQuiet_8 : decode cX7_ifQuiet 8 = .ok (.ifCond .eq 17, 3) := by decide +kernel
theorem dX7_ifQuiet_11 : decode cX7_ifQuiet 11 = .ok (.aload_n 0, 1) := by decide +kernel
theorem dX7_ifQuiet_12 : decode cX7_ifQuiet 12 = .ok (.iload_n 1, 1) := by decide +kernel
theorem dX7_ifQuiet_13 : decode cX7_ifQuiet 13 = .ok (.aload_n 0, 1) := by decide +kernel
theorem dX7_ifQuiet_14 : decode cX7_ifQuiet 14 = .ok (.getfield 7, 3) := by decide +kernel
theorem dX7_ifQuiet_17 : decode cX7_ifQuiet 17 = .ok (.iconst 4, 1) := by decide +kernel
theorem dX7_ifQuiet_18 : decode cX7_ifQuiet 18 = .ok (.iaload, 1) := by decide +kernel
theorem dX7_ifQuiet_19 : decode cX7_ifQuiet 19 = .ok (.invokevirtual 177, 3) := by decide +kernel
theorem dX7_ifQuiet_22 : decode cX7_ifQuiet 22 = .ok (.goto 5, 3) := by decide +kernel
theorem dX7_ifQuiet_25 : decode cX7_ifQuiet 25 = .ok (.bipush (-2), 2) := by decide +kernel
theorem dX7_ifQuiet_27 : decode cX7_ifQuiet 27 = .ok (.ireturn, 1) := by decide +kernel
theorem dX7_bestWay_0 : decode cX7_bestWay 0 = .ok (.iload_n 1, 1) := by decide +kernel
theorem dX7_bestWay_1 : decode cX7_bestWay 1 = .ok (.iconst 0, 1) := by decide +kernel
theorem dX7_bestWay_2 : decode cX7_bestWay 2 = .ok (.sipush 3000, 3) := by decide +kernel
theorem dX7_bestWay_5 : decode cX7_bestWay 5 = .ok (.invokestatic 30, 3) := by decide +kernel
theorem dX7_bestWay_8 : decode cX7_bestWay 8 = .ok (.ifCond .ne 6, 3) := by decide +kernel
theorem dX7_bestWay_11 : decode cX7_bestWay 11 = .ok (.bipush (-2), 2) := by decide +kernel
theorem dX7_bestWay_13 : decode cX7_bestWay 13 = .ok (.ireturn, 1) := by decide +kernel
theorem dX7_bestWay_14 : decode cX7_bestWay 14 = .ok (.iconst 0, 1) := by decide +kernel
theorem dX7_bestWay_15 : decode cX7_bestWay 15 = .ok (.istore_n 2, 1) := by decide +kernel
theorem dX7_bestWay_16 : decode cX7_bestWay 16 = .ok (.aload_n 0, 1) := by decide +kernel
theorem dX7_bestWay_17 : decode cX7_bestWay 17 = .ok (.iload_n 1, 1) := by decide +kernel
theorem dX7_bestWay_18 : decode cX7_bestWay 18 = .ok (.iconst 0, 1) := by decide +kernel
theorem dX7_bestWay_19 : decode cX7_bestWay 19 = .ok (.invokevirtual 177, 3) := by decide +kernel
theorem dX7_bestWay_22 : decode cX7_bestWay 22 = .ok (.istore_n 3, 1) := by decide +kernel
theorem dX7_bestWay_23 : decode cX7_bestWay 23 = .ok (.iconst 1, 1) := by decide +kernel
theorem dX7_bestWay_24 : decode cX7_bestWay 24 = .ok (.istore 4, 2) := by decide +kernel
theorem dX7_bestWay_26 : decode cX7_bestWay 26 = .ok (.iload 4, 2) := by decide +kernel
theorem dX7_bestWay_28 : decode cX7_bestWay 28 = .ok (.iconst 2, 1) := by decide +kernel
theorem dX7_bestWay_29 : decode cX7_bestWay 29 = .ok (.if_icmp .gt 44, 3) := by decide +kernel
theorem dX7_bestWay_32 : decode cX7_bestWay 32 = .ok (.aload_n 0, 1) := by decide +kernel
theorem dX7_bestWay_33 : decode cX7_bestWay 33 = .ok (.iload_n 1, 1) := by decide +kernel
theorem dX7_bestWay_34 : decode cX7_bestWay 34 = .ok (.iload 4, 2) := by decide +kernel
theorem dX7_bestWay_36 : decode cX7_bestWay 36 = .ok (.invokevirtual 177, 3) := by decide +kernel
theorem dX7_bestWay_39 : decode cX7_bestWay 39 = .ok (.istore 5, 2) := by decide +kernel
theorem dX7_bestWay_41 : decode cX7_bestWay 41 = .ok (.iload 5, 2) := by decide +kernel
theorem dX7_bestWay_43 : decode cX7_bestWay 43 = .ok (.iload_n 3, 1) := by decide +kernel
theorem dX7_bestWay_44 : decode cX7_bestWay 44 = .ok (.if_icmp .ge 8, 3) := by decide +kernel
theorem dX7_bestWay_47 : decode cX7_bestWay 47 = .ok (.iload 4, 2) := by decide +kernel
theorem dX7_bestWay_49 : decode cX7_bestWay 49 = .ok (.goto 4, 3) := by decide +kernel
theorem dX7_bestWay_52 : decode cX7_bestWay 52 = .ok (.iload_n 2, 1) := by decide +kernel
theorem dX7_bestWay_53 : decode cX7_bestWay 53 = .ok (.istore_n 2, 1) := by decide +kernel
theorem dX7_bestWay_54 : decode cX7_bestWay 54 = .ok (.iload 5, 2) := by decide +kernel
theorem dX7_bestWay_56 : decode cX7_bestWay 56 = .ok (.iload_n 3, 1) := by decide +kernel
theorem dX7_bestWay_57 : decode cX7_bestWay 57 = .ok (.if_icmp .ge 8, 3) := by decide +kernel
theorem dX7_bestWay_60 : decode cX7_bestWay 60 = .ok (.iload 5, 2) := by decide +kernel
theorem dX7_bestWay_62 : decode cX7_bestWay 62 = .ok (.goto 4, 3) := by decide +kernel
theorem dX7_bestWay_65 : decode cX7_bestWay 65 = .ok (.iload_n 3, 1) := by decide +kernel
theorem dX7_bestWay_66 : decode cX7_bestWay 66 = .ok (.istore_n 3, 1) := by decide +kernel
theorem dX7_bestWay_67 : decode cX7_bestWay 67 = .ok (.iinc 4 1, 3) := by decide +kernel
theorem dX7_bestWay_70 : decode cX7_bestWay 70 = .ok (.goto (-44), 3) := by decide +kernel
theorem dX7_bestWay_73 : decode cX7_bestWay 73 = .ok (.iload_n 2, 1) := by decide +kernel
theorem dX7_bestWay_74 : decode cX7_bestWay 74 = .ok (.ireturn, 1) := by decide +kernel
theorem dX7_type_0 : decode cX7_type 0 = .ok (.iload_n 1, 1) := by decide +kernel
theorem dX7_type_1 : decode cX7_type 1 = .ok (.bipush 32, 2) := by decide +kernel
theorem dX7_type_3 : decode cX7_type 3 = .ok (.bipush 126, 2) := by decide +kernel
theorem dX7_type_5 : decode cX7_type 5 = .ok (.invokestatic 30, 3) := by decide +kernel
theorem dX7_type_8 : decode cX7_type 8 = .ok (.ifCond .ne 6, 3) := by decide +kernel
theorem dX7_type_11 : decode cX7_type 11 = .ok (.bipush (-2), 2) := by decide +kernel
theorem dX7_type_13 : decode cX7_type 13 = .ok (.ireturn, 1) := by decide +kernel
theorem dX7_type_14 : decode cX7_type 14 = .ok (.aload_n 0, 1) := by decide +kernel
theorem dX7_type_15 : decode cX7_type 15 = .ok (.getfield 180, 3) := by decide +kernel
theorem dX7_type_18 : decode cX7_type 18 = .ok (.bipush 80, 2) := by decide +kernel
theorem dX7_type_20 : decode cX7_type 20 = .ok (.if_icmp .ne 6, 3) := by decide +kernel
theorem dX7_type_23 : decode cX7_type 23 = .ok (.bipush (-4), 2) := by decide +kernel
theorem dX7_type_25 : decode cX7_type 25 = .ok (.ireturn, 1) := by decide +kernel
theorem dX7_type_26 : decode cX7_type 26 = .ok (.aload_n 0, 1) := by decide +kernel
theorem dX7_type_27 : decode cX7_type 27 = .ok (.getfield 19, 3) := by decide +kernel
theorem dX7_type_30 : decode cX7_type 30 = .ok (.aload_n 0, 1) := by decide +kernel
theorem dX7_type_31 : decode cX7_type 31 = .ok (.getfield 180, 3) := by decide +kernel
theorem dX7_type_34 : decode cX7_type 34 = .ok (.iload_n 1, 1) := by decide +kernel
theorem dX7_type_35 : decode cX7_type 35 = .ok (.iastore, 1) := by decide +kernel
theorem dX7_type_36 : decode cX7_type 36 = .ok (.aload_n 0, 1) := by decide +kernel
theorem dX7_type_37 : decode cX7_type 37 = .ok (.dup, 1) := by decide +kernel
theorem dX7_type_38 : decode cX7_type 38 = .ok (.getfield 180, 3) := by decide +kernel
theorem dX7_type_41 : decode cX7_type 41 = .ok (.iconst 1, 1) := by decide +kernel
theorem dX7_type_42 : decode cX7_type 42 = .ok (.iadd, 1) := by decide +kernel
theorem dX7_type_43 : decode cX7_type 43 = .ok (.putfield 180, 3) := by decide +kernel
theorem dX7_type_46 : decode cX7_type 46 = .ok (.aload_n 0, 1) := by decide +kernel
theorem dX7_type_47 : decode cX7_type 47 = .ok (.getfield 180, 3) := by decide +kernel
theorem dX7_type_50 : decode cX7_type 50 = .ok (.ireturn, 1) := by decide +kernel
theorem dX7_clearText_0 : decode cX7_clearText 0 = .ok (.aload_n 0, 1) := by decide +kernel
theorem dX7_clearText_1 : decode cX7_clearText 1 = .ok (.getfield 180, 3) := by decide +kernel
theorem dX7_clearText_4 : decode cX7_clearText 4 = .ok (.istore_n 1, 1) := by decide +kernel
theorem dX7_clearText_5 : decode cX7_clearText 5 = .ok (.aload_n 0, 1) := by decide +kernel
theorem dX7_clearText_6 : decode cX7_clearText 6 = .ok (.iconst 0, 1) := by decide +kernel
theorem dX7_clearText_7 : decode cX7_clearText 7 = .ok (.putfield 180, 3) := by decide +kernel
theorem dX7_clearText_10 : decode cX7_clearText 10 = .ok (.iload_n 1, 1) := by decide +kernel
theorem dX7_clearText_11 : decode cX7_clearText 11 = .ok (.ireturn, 1) := by decide +kernel
theorem dX7_character_0 : decode cX7_character 0 = .ok (.iload_n 1, 1) := by decide +kernel
theorem dX7_character_1 : decode cX7_character 1 = .ok (.aload_n 0, 1) := by decide +kernel
theorem dX7_character_2 : decode cX7_character 2 = .ok (.getfield 180, 3) := by decide +kernel
theorem dX7_character_5 : decode cX7_character 5 = .ok (.if_icmp .ge 12, 3) := by decide +kernel
theorem dX7_character_8 : decode cX7_character 8 = .ok (.aload_n 0, 1) := by decide +kernel
theorem dX7_character_9 : decode cX7_character 9 = .ok (.getfield 19, 3) := by decide +kernel
theorem dX7_character_12 : decode cX7_character 12 = .ok (.iload_n 1, 1) := by decide +kernel
theorem dX7_character_13 : decode cX7_character 13 = .ok (.iaload, 1) := by decide +kernel
theorem dX7_character_14 : decode cX7_character 14 = .ok (.goto 4, 3) := by decide +kernel
theorem dX7_character_17 : decode cX7_character 17 = .ok (.iconst (-1), 1) := by decide +kernel
theorem dX7_character_18 : decode cX7_character 18 = .ok (.ireturn, 1) := by decide +kernel
theorem dX7_isNext_0 : decode cX7_isNext 0 = .ok (.aload_n 0, 1) := by decide +kernel
theorem dX7_isNext_1 : decode cX7_isNext 1 = .ok (.aload_n 0, 1) := by decide +kernel
theorem dX7_isNext_2 : decode cX7_isNext 2 = .ok (.getfield 183, 3) := by decide +kernel
theorem dX7_isNext_5 : decode cX7_isNext 5 = .ok (.invokevirtual 186, 3) := by decide +kernel
theorem dX7_isNext_8 : decode cX7_isNext 8 = .ok (.iload_n 1, 1) := by decide +kernel
theorem dX7_isNext_9 : decode cX7_isNext 9 = .ok (.if_icmp .ne 7, 3) := by decide +kernel
theorem dX7_isNext_12 : decode cX7_isNext 12 = .ok (.iconst 1, 1) := by decide +kernel
theorem dX7_isNext_13 : decode cX7_isNext 13 = .ok (.goto 4, 3) := by decide +kernel
theorem dX7_isNext_16 : decode cX7_isNext 16 = .ok (.iconst 0, 1) := by decide +kernel
theorem dX7_isNext_17 : decode cX7_isNext 17 = .ok (.istore_n 2, 1) := by decide +kernel
theorem dX7_isNext_18 : decode cX7_isNext 18 = .ok (.aload_n 0, 1) := by decide +kernel
theorem dX7_isNext_19 : decode cX7_isNext 19 = .ok (.dup, 1) := by decide +kernel
theorem dX7_isNext_20 : decode cX7_isNext 20 = .ok (.getfield 183, 3) := by decide +kernel
theorem dX7_isNext_23 : decode cX7_isNext 23 = .ok (.iload_n 2, 1) := by decide +kernel
theorem dX7_isNext_24 : decode cX7_isNext 24 = .ok (.ifCond .eq 7, 3) := by decide +kernel
theorem dX7_isNext_27 : decode cX7_isNext 27 = .ok (.iconst 1, 1) := by decide +kernel
theorem dX7_isNext_28 : decode cX7_isNext 28 = .ok (.goto 4, 3) := by decide +kernel
theorem dX7_isNext_31 : decode cX7_isNext 31 = .ok (.iconst 0, 1) := by decide +kernel
theorem dX7_isNext_32 : decode cX7_isNext 32 = .ok (.iadd, 1) := by decide +kernel
theorem dX7_isNext_33 : decode cX7_isNext 33 = .ok (.putfield 183, 3) := by decide +kernel
theorem dX7_isNext_36 : decode cX7_isNext 36 = .ok (.iload_n 2, 1) := by decide +kernel
theorem dX7_isNext_37 : decode cX7_isNext 37 = .ok (.ireturn, 1) := by decide +kernel
theorem dX7_readsWord_0 : decode cX7_readsWord 0 = .ok (.iconst 1, 1) := by decide +kernel
theorem dX7_readsWord_1 : decode cX7_readsWord 1 = .ok (.istore_n 3, 1) := by decide +kernel
theorem dX7_readsWord_2 : decode cX7_readsWord 2 = .ok (.lload_n 1, 1) := by decide +kernel
theorem dX7_readsWord_3 : decode cX7_readsWord 3 = .ok (.lstore 4, 2) := by decide +kernel
theorem dX7_readsWord_5 : decode cX7_readsWord 5 = .ok (.lload 4, 2) := by decide +kernel
theorem dX7_readsWord_7 : decode cX7_readsWord 7 = .ok (.lconst 0, 1) := by decide +kernel
theorem dX7_readsWord_8 : decode cX7_readsWord 8 = .ok (.lcmp, 1) := by decide +kernel
theorem dX7_readsWord_9 : decode cX7_readsWord 9 = .ok (.ifCond .le 29, 3) := by decide +kernel
theorem dX7_readsWord_12 : decode cX7_readsWord 12 = .ok (.iload_n 3, 1) := by decide +kernel
theorem dX7_readsWord_13 : decode cX7_readsWord 13 = .ok (.ifCond .eq 25, 3) := by decide +kernel
theorem dX7_readsWord_16 : decode cX7_readsWord 16 = .ok (.aload_n 0, 1) := by decide +kernel
theorem dX7_readsWord_17 : decode cX7_readsWord 17 = .ok (.lload 4, 2) := by decide +kernel
theorem dX7_readsWord_19 : decode cX7_readsWord 19 = .ok (.ldc2_w 65, 3) := by decide +kernel
theorem dX7_readsWord_22 : decode cX7_readsWord 22 = .ok (.land, 1) := by decide +kernel
theorem dX7_readsWord_23 : decode cX7_readsWord 23 = .ok (.l2i, 1) := by decide +kernel
theorem dX7_readsWord_24 : decode cX7_readsWord 24 = .ok (.invokevirtual 189, 3) := by decide +kernel
theorem dX7_readsWord_27 : decode cX7_readsWord 27 = .ok (.istore_n 3, 1) := by decide +kernel
theorem dX7_readsWord_28 : decode cX7_readsWord 28 = .ok (.lload 4, 2) := by decide +kernel
theorem dX7_readsWord_30 : decode cX7_readsWord 30 = .ok (.bipush 8, 2) := by decide +kernel
theorem dX7_readsWord_32 : decode cX7_readsWord 32 = .ok (.lshr, 1) := by decide +kernel
theorem dX7_readsWord_33 : decode cX7_readsWord 33 = .ok (.lstore 4, 2) := by decide +kernel
theorem dX7_readsWord_35 : decode cX7_readsWord 35 = .ok (.goto (-30), 3) := by decide +kernel
theorem dX7_readsWord_38 : decode cX7_readsWord 38 = .ok (.iload_n 3, 1) := by decide +kernel
theorem dX7_readsWord_39 : decode cX7_readsWord 39 = .ok (.ireturn, 1) := by decide +kernel
theorem dX7_readsNumber_0 : decode cX7_readsNumber 0 = .ok (.aload_n 0, 1) := by decide +kernel
theorem dX7_readsNumber_1 : decode cX7_readsNumber 1 = .ok (.iconst 0, 1) := by decide +kernel
theorem dX7_readsNumber_2 : decode cX7_readsNumber 2 = .ok (.putfield 192, 3) := by decide +kernel
theorem dX7_readsNumber_5 : decode cX7_readsNumber 5 = .ok (.iconst 0, 1) := by decide +kernel
theorem dX7_readsNumber_6 : decode cX7_readsNumber 6 = .ok (.istore_n 1, 1) := by decide +kernel
theorem dX7_readsNumber_7 : decode cX7_readsNumber 7 = .ok (.iload_n 1, 1) := by decide +kernel
theorem dX7_readsNumber_8 : decode cX7_readsNumber 8 = .ok (.iconst 3, 1) := by decide +kernel
theorem dX7_readsNumber_9 : decode cX7_readsNumber 9 = .ok (.if_icmp .ge 60, 3) := by decide +kernel
theorem dX7_readsNumber_12 : decode cX7_readsNumber 12 = .ok (.aload_n 0, 1) := by decide +kernel
theorem dX7_readsNumber_13 : decode cX7_readsNumber 13 = .ok (.aload_n 0, 1) := by decide +kernel
theorem dX7_readsNumber_14 : decode cX7_readsNumber 14 = .ok (.getfield 183, 3) := by decide +kernel
theorem dX7_readsNumber_17 : decode cX7_readsNumber 17 = .ok (.invokevirtual 186, 3) := by decide +kernel
theorem dX7_readsNumber_20 : decode cX7_readsNumber 20 = .ok (.bipush 48, 2) := by decide +kernel
theorem dX7_readsNumber_22 : decode cX7_readsNumber 22 = .ok (.bipush 57, 2) := by decide +kernel
theorem dX7_readsNumber_24 : decode cX7_readsNumber 24 = .ok (.invokestatic 30, 3) := by decide +kernel
theorem dX7_readsNumber_27 : decode cX7_readsNumber 27 = .ok (.ifCond .eq 42, 3) := by decide +kernel
theorem dX7_readsNumber_30 : decode cX7_readsNumber 30 = .ok (.aload_n 0, 1) := by decide +kernel
theorem dX7_readsNumber_31 : decode cX7_readsNumber 31 = .ok (.bipush 10, 2) := by decide +kernel
theorem dX7_readsNumber_33 : decode cX7_readsNumber 33 = .ok (.aload_n 0, 1) := by decide +kernel
theorem dX7_readsNumber_34 : decode cX7_readsNumber 34 = .ok (.getfield 192, 3) := by decide +kernel
theorem dX7_readsNumber_37 : decode cX7_readsNumber 37 = .ok (.imul, 1) := by decide +kernel
theorem dX7_readsNumber_38 : decode cX7_readsNumber 38 = .ok (.aload_n 0, 1) := by decide +kernel
theorem dX7_readsNumber_39 : decode cX7_readsNumber 39 = .ok (.aload_n 0, 1) := by decide +kernel
theorem dX7_readsNumber_40 : decode cX7_readsNumber 40 = .ok (.getfield 183, 3) := by decide +kernel
theorem dX7_readsNumber_43 : decode cX7_readsNumber 43 = .ok (.invokevirtual 186, 3) := by decide +kernel
theorem dX7_readsNumber_46 : decode cX7_readsNumber 46 = .ok (.iadd, 1) := by decide +kernel
theorem dX7_readsNumber_47 : decode cX7_readsNumber 47 = .ok (.bipush 48, 2) := by decide +kernel
theorem dX7_readsNumber_49 : decode cX7_readsNumber 49 = .ok (.isub, 1) := by decide +kernel
theorem dX7_readsNumber_50 : decode cX7_readsNumber 50 = .ok (.putfield 192, 3) := by decide +kernel
theorem dX7_readsNumber_53 : decode cX7_readsNumber 53 = .ok (.iinc 1 1, 3) := by decide +kernel
theorem dX7_readsNumber_56 : decode cX7_readsNumber 56 = .ok (.aload_n 0, 1) := by decide +kernel
theorem dX7_readsNumber_57 : decode cX7_readsNumber 57 = .ok (.dup, 1) := by decide +kernel
theorem dX7_readsNumber_58 : decode cX7_readsNumber 58 = .ok (.getfield 183, 3) := by decide +kernel
theorem dX7_readsNumber_61 : decode cX7_readsNumber 61 = .ok (.iconst 1, 1) := by decide +kernel
theorem dX7_readsNumber_62 : decode cX7_readsNumber 62 = .ok (.iadd, 1) := by decide +kernel
theorem dX7_readsNumber_63 : decode cX7_readsNumber 63 = .ok (.putfield 183, 3) := by decide +kernel
theorem dX7_readsNumber_66 : decode cX7_readsNumber 66 = .ok (.goto (-59), 3) := by decide +kernel
theorem dX7_readsNumber_69 : decode cX7_readsNumber 69 = .ok (.iload_n 1, 1) := by decide +kernel
theorem dX7_readsNumber_70 : decode cX7_readsNumber 70 = .ok (.ifCond .le 7, 3) := by decide +kernel
theorem dX7_readsNumber_73 : decode cX7_readsNumber 73 = .ok (.iconst 1, 1) := by decide +kernel
theorem dX7_readsNumber_74 : decode cX7_readsNumber 74 = .ok (.goto 4, 3) := by decide +kernel
theorem dX7_readsNumber_77 : decode cX7_readsNumber 77 = .ok (.iconst 0, 1) := by decide +kernel
theorem dX7_readsNumber_78 : decode cX7_readsNumber 78 = .ok (.ireturn, 1) := by decide +kernel
theorem dX7_readsDigit_0 : decode cX7_readsDigit 0 = .ok (.aload_n 0, 1) := by decide +kernel
theorem dX7_readsDigit_1 : decode cX7_readsDigit 1 = .ok (.aload_n 0, 1) := by decide +kernel
theorem dX7_readsDigit_2 : decode cX7_readsDigit 2 = .ok (.getfield 183, 3) := by decide +kernel
theorem dX7_readsDigit_5 : decode cX7_readsDigit 5 = .ok (.invokevirtual 186, 3) := by decide +kernel
theorem dX7_readsDigit_8 : decode cX7_readsDigit 8 = .ok (.bipush 48, 2) := by decide +kernel
theorem dX7_readsDigit_10 : decode cX7_readsDigit 10 = .ok (.iload_n 1, 1) := by decide +kernel
theorem dX7_readsDigit_11 : decode cX7_readsDigit 11 = .ok (.iadd, 1) := by decide +kernel
theorem dX7_readsDigit_12 : decode cX7_readsDigit 12 = .ok (.bipush 48, 2) := by decide +kernel
theorem dX7_readsDigit_14 : decode cX7_readsDigit 14 = .ok (.iload_n 2, 1) := by decide +kernel
theorem dX7_readsDigit_15 : decode cX7_readsDigit 15 = .ok (.iadd, 1) := by decide +kernel
theorem dX7_readsDigit_16 : decode cX7_readsDigit 16 = .ok (.invokestatic 30, 3) := by decide +kernel
theorem dX7_readsDigit_19 : decode cX7_readsDigit 19 = .ok (.istore_n 3, 1) := by decide +kernel
theorem dX7_readsDigit_20 : decode cX7_readsDigit 20 = .ok (.aload_n 0, 1) := by decide +kernel
theorem dX7_readsDigit_21 : decode cX7_readsDigit 21 = .ok (.aload_n 0, 1) := by decide +kernel
theorem dX7_readsDigit_22 : decode cX7_readsDigit 22 = .ok (.aload_n 0, 1) := by decide +kernel
theorem dX7_readsDigit_23 : decode cX7_readsDigit 23 = .ok (.getfield 183, 3) := by decide +kernel
theorem dX7_readsDigit_26 : decode cX7_readsDigit 26 = .ok (.invokevirtual 186, 3) := by decide +kernel
theorem dX7_readsDigit_29 : decode cX7_readsDigit 29 = .ok (.bipush 48, 2) := by decide +kernel
theorem dX7_readsDigit_31 : decode cX7_readsDigit 31 = .ok (.isub, 1) := by decide +kernel
theorem dX7_readsDigit_32 : decode cX7_readsDigit 32 = .ok (.putfield 192, 3) := by decide +kernel
theorem dX7_readsDigit_35 : decode cX7_readsDigit 35 = .ok (.aload_n 0, 1) := by decide +kernel
theorem dX7_readsDigit_36 : decode cX7_readsDigit 36 = .ok (.dup, 1) := by decide +kernel
theorem dX7_readsDigit_37 : decode cX7_readsDigit 37 = .ok (.getfield 183, 3) := by decide +kernel
theorem dX7_readsDigit_40 : decode cX7_readsDigit 40 = .ok (.iload_n 3, 1) := by decide +kernel
theorem dX7_readsDigit_41 : decode cX7_readsDigit 41 = .ok (.ifCond .eq 7, 3) := by decide +kernel
theorem dX7_readsDigit_44 : decode cX7_readsDigit 44 = .ok (.iconst 1, 1) := by decide +kernel
theorem dX7_readsDigit_45 : decode cX7_readsDigit 45 = .ok (.goto 4, 3) := by decide +kernel
theorem dX7_readsDigit_48 : decode cX7_readsDigit 48 = .ok (.iconst 0, 1) := by decide +kernel
theorem dX7_readsDigit_49 : decode cX7_readsDigit 49 = .ok (.iadd, 1) := by decide +kernel
theorem dX7_readsDigit_50 : decode cX7_readsDigit 50 = .ok (.putfield 183, 3) := by decide +kernel
theorem dX7_readsDigit_53 : decode cX7_readsDigit 53 = .ok (.iload_n 3, 1) := by decide +kernel
theorem dX7_readsDigit_54 : decode cX7_readsDigit 54 = .ok (.ireturn, 1) := by decide +kernel
theorem dX7_readsSpan_0 : decode cX7_readsSpan 0 = .ok (.aload_n 0, 1) := by decide +kernel
theorem dX7_readsSpan_1 : decode cX7_readsSpan 1 = .ok (.iconst 0, 1) := by decide +kernel
theorem dX7_readsSpan_2 : decode cX7_readsSpan 2 = .ok (.bipush 7, 2) := by decide +kernel
theorem dX7_readsSpan_4 : decode cX7_readsSpan 4 = .ok (.invokevirtual 195, 3) := by decide +kernel
theorem dX7_readsSpan_7 : decode cX7_readsSpan 7 = .ok (.istore_n 1, 1) := by decide +kernel
theorem dX7_readsSpan_8 : decode cX7_readsSpan 8 = .ok (.aload_n 0, 1) := by decide +kernel
theorem dX7_readsSpan_9 : decode cX7_readsSpan 9 = .ok (.aload_n 0, 1) := by decide +kernel
theorem dX7_readsSpan_10 : decode cX7_readsSpan 10 = .ok (.getfield 192, 3) := by decide +kernel
theorem dX7_readsSpan_13 : decode cX7_readsSpan 13 = .ok (.putfield 198, 3) := by decide +kernel
theorem dX7_readsSpan_16 : decode cX7_readsSpan 16 = .ok (.iload_n 1, 1) := by decide +kernel
theorem dX7_readsSpan_17 : decode cX7_readsSpan 17 = .ok (.ireturn, 1) := by decide +kernel
theorem dX7_readsWay_0 : decode cX7_readsWay 0 = .ok (.aload_n 0, 1) := by decide +kernel
theorem dX7_readsWay_1 : decode cX7_readsWay 1 = .ok (.aload_n 0, 1) := by decide +kernel
theorem dX7_readsWay_2 : decode cX7_readsWay 2 = .ok (.getfield 183, 3) := by decide +kernel
theorem dX7_readsWay_5 : decode cX7_readsWay 5 = .ok (.invokevirtual 186, 3) := by decide +kernel
theorem dX7_readsWay_8 : decode cX7_readsWay 8 = .ok (.istore_n 1, 1) := by decide +kernel
theorem dX7_readsWay_9 : decode cX7_readsWay 9 = .ok (.aload_n 0, 1) := by decide +kernel
theorem dX7_readsWay_10 : decode cX7_readsWay 10 = .ok (.iload_n 1, 1) := by decide +kernel
theorem dX7_readsWay_11 : decode cX7_readsWay 11 = .ok (.bipush 111, 2) := by decide +kernel
theorem dX7_readsWay_13 : decode cX7_readsWay 13 = .ok (.if_icmp .ne 7, 3) := by decide +kernel
theorem dX7_readsWay_16 : decode cX7_readsWay 16 = .ok (.iconst 0, 1) := by decide +kernel
theorem dX7_readsWay_17 : decode cX7_readsWay 17 = .ok (.goto 14, 3) := by decide +kernel
theorem dX7_readsWay_20 : decode cX7_readsWay 20 = .ok (.iload_n 1, 1) := by decide +kernel
theorem dX7_readsWay_21 : decode cX7_readsWay 21 = .ok (.bipush 119, 2) := by decide +kernel
theorem dX7_readsWay_23 : decode cX7_readsWay 23 = .ok (.if_icmp .ne 7, 3) := by decide +kernel
theorem dX7_readsWay_26 : decode cX7_readsWay 26 = .ok (.iconst 1, 1) := by decide +kernel
theorem dX7_readsWay_27 : decode cX7_readsWay 27 = .ok (.goto 4, 3) := by decide +kernel
theorem dX7_readsWay_30 : decode cX7_readsWay 30 = .ok (.iconst 2, 1) := by decide +kernel
theorem dX7_readsWay_31 : decode cX7_readsWay 31 = .ok (.putfield 201, 3) := by decide +kernel
theorem dX7_readsWay_34 : decode cX7_readsWay 34 = .ok (.aload_n 0, 1) := by decide +kernel
theorem dX7_readsWay_35 : decode cX7_readsWay 35 = .ok (.iload_n 1, 1) := by decide +kernel
theorem dX7_readsWay_36 : decode cX7_readsWay 36 = .ok (.bipush 111, 2) := by decide +kernel
theorem dX7_readsWay_38 : decode cX7_readsWay 38 = .ok (.if_icmp .ne 9, 3) := by decide +kernel
theorem dX7_readsWay_41 : decode cX7_readsWay 41 = .ok (.ldc2_w 204, 3) := by decide +kernel
theorem dX7_readsWay_44 : decode cX7_readsWay 44 = .ok (.goto 18, 3) := by decide +kernel
theorem dX7_readsWay_47 : decode cX7_readsWay 47 = .ok (.iload_n 1, 1) := by decide +kernel
theorem dX7_readsWay_48 : decode cX7_readsWay 48 = .ok (.bipush 119, 2) := by decide +kernel
theorem dX7_readsWay_50 : decode cX7_readsWay 50 = .ok (.if_icmp .ne 9, 3) := by decide +kernel
theorem dX7_readsWay_53 : decode cX7_readsWay 53 = .ok (.ldc2_w 206, 3) := by decide +kernel
theorem dX7_readsWay_56 : decode cX7_readsWay 56 = .ok (.goto 6, 3) := by decide +kernel
theorem dX7_readsWay_59 : decode cX7_readsWay 59 = .ok (.ldc2_w 208, 3) := by decide +kernel
theorem dX7_readsWay_62 : decode cX7_readsWay 62 = .ok (.invokevirtual 210, 3) := by decide +kernel
theorem dX7_readsWay_65 : decode cX7_readsWay 65 = .ok (.ireturn, 1) := by decide +kernel
theorem dX7_readsCommand_0 : decode cX7_readsCommand 0 = .ok (.aload_n 0, 1) := by decide +kernel
theorem dX7_readsCommand_1 : decode cX7_readsCommand 1 = .ok (.aload_n 0, 1) := by decide +kernel
theorem dX7_readsCommand_2 : decode cX7_readsCommand 2 = .ok (.aload_n 0, 1) := by decide +kernel
theorem dX7_readsCommand_3 : decode cX7_readsCommand 3 = .ok (.getfield 183, 3) := by decide +kernel
theorem dX7_readsCommand_6 : decode cX7_readsCommand 6 = .ok (.invokevirtual 186, 3) := by decide +kernel
theorem dX7_readsCommand_9 : decode cX7_readsCommand 9 = .ok (.putfield 214, 3) := by decide +kernel
theorem dX7_readsCommand_12 : decode cX7_readsCommand 12 = .ok (.aload_n 0, 1) := by decide +kernel
theorem dX7_readsCommand_13 : decode cX7_readsCommand 13 = .ok (.getfield 214, 3) := by decide +kernel
theorem dX7_readsCommand_16 : decode cX7_readsCommand 16 = .ok (.lookupswitch 232 #[(97, 134), (113, 101), (114, 52), (115, 157), (119, 209)], 52) := by decide +kernel
theorem dX7_readsCommand_68 : decode cX7_readsCommand 68 = .ok (.aload_n 0, 1) := by decide +kernel
theorem dX7_readsCommand_69 : decode cX7_readsCommand 69 = .ok (.ldc2_w 217, 3) := by decide +kernel
theorem dX7_readsCommand_72 : decode cX7_readsCommand 72 = .ok (.invokevirtual 210, 3) := by decide +kernel
theorem dX7_readsCommand_75 : decode cX7_readsCommand 75 = .ok (.ifCond .eq 30, 3) := by decide +kernel
theorem dX7_readsCommand_78 : decode cX7_readsCommand 78 = .ok (.aload_n 0, 1) := by decide +kernel
theorem dX7_readsCommand_79 : decode cX7_readsCommand 79 = .ok (.invokevirtual 219, 3) := by decide +kernel
theorem dX7_readsCommand_82 : decode cX7_readsCommand 82 = .ok (.ifCond .eq 23, 3) := by decide +kernel
theorem dX7_readsCommand_85 : decode cX7_readsCommand 85 = .ok (.aload_n 0, 1) := by decide +kernel
theorem dX7_readsCommand_86 : decode cX7_readsCommand 86 = .ok (.bipush 58, 2) := by decide +kernel
theorem dX7_readsCommand_88 : decode cX7_readsCommand 88 = .ok (.invokevirtual 189, 3) := by decide +kernel
theorem dX7_readsCommand_91 : decode cX7_readsCommand 91 = .ok (.ifCond .eq 14, 3) := by decide +kernel
theorem dX7_readsCommand_94 : decode cX7_readsCommand 94 = .ok (.aload_n 0, 1) := by decide +kernel
theorem dX7_readsCommand_95 : decode cX7_readsCommand 95 = .ok (.invokevirtual 223, 3) := by decide +kernel
theorem dX7_readsCommand_98 : decode cX7_readsCommand 98 = .ok (.ifCond .eq 7, 3) := by decide +kernel
theorem dX7_readsCommand_101 : decode cX7_readsCommand 101 = .ok (.iconst 1, 1) := by decide +kernel
theorem dX7_readsCommand_102 : decode cX7_readsCommand 102 = .ok (.goto 4, 3) := by decide +kernel
theorem dX7_readsCommand_105 : decode cX7_readsCommand 105 = .ok (.iconst 0, 1) := by decide +kernel
theorem dX7_readsCommand_106 : decode cX7_readsCommand 106 = .ok (.istore_n 1, 1) := by decide +kernel
theorem dX7_readsCommand_107 : decode cX7_readsCommand 107 = .ok (.aload_n 0, 1) := by decide +kernel
theorem dX7_readsCommand_108 : decode cX7_readsCommand 108 = .ok (.aload_n 0, 1) := by decide +kernel
theorem dX7_readsCommand_109 : decode cX7_readsCommand 109 = .ok (.getfield 192, 3) := by decide +kernel
theorem dX7_readsCommand_112 : decode cX7_readsCommand 112 = .ok (.putfield 201, 3) := by decide +kernel
theorem dX7_readsCommand_115 : decode cX7_readsCommand 115 = .ok (.iload_n 1, 1) := by decide +kernel
theorem dX7_readsCommand_116 : decode cX7_readsCommand 116 = .ok (.ireturn, 1) := by decide +kernel
theorem dX7_readsCommand_117 : decode cX7_readsCommand 117 = .ok (.aload_n 0, 1) := by decide +kernel
theorem dX7_readsCommand_118 : decode cX7_readsCommand 118 = .ok (.ldc2_w 226, 3) := by decide +kernel
theorem dX7_readsCommand_121 : decode cX7_readsCommand 121 = .ok (.invokevirtual 210, 3) := by decide +kernel
theorem dX7_readsCommand_124 : decode cX7_readsCommand 124 = .ok (.ifCond .eq 14, 3) := by decide +kernel
theorem dX7_readsCommand_127 : decode cX7_readsCommand 127 = .ok (.aload_n 0, 1) := by decide +kernel
theorem dX7_readsCommand_128 : decode cX7_readsCommand 128 = .ok (.invokevirtual 223, 3) := by decide +kernel
theorem dX7_readsCommand_131 : decode cX7_readsCommand 131 = .ok (.ifCond .eq 7, 3) := by decide +kernel
theorem dX7_readsCommand_134 : decode cX7_readsCommand 134 = .ok (.iconst 1, 1) := by decide +kernel
theorem dX7_readsCommand_135 : decode cX7_readsCommand 135 = .ok (.goto 4, 3) := by decide +kernel
theorem dX7_readsCommand_138 : decode cX7_readsCommand 138 = .ok (.iconst 0, 1) := by decide +kernel
theorem dX7_readsCommand_139 : decode cX7_readsCommand 139 = .ok (.istore_n 1, 1) := by decide +kernel
theorem dX7_readsCommand_140 : decode cX7_readsCommand 140 = .ok (.aload_n 0, 1) := by decide +kernel
theorem dX7_readsCommand_141 : decode cX7_readsCommand 141 = .ok (.aload_n 0, 1) := by decide +kernel
theorem dX7_readsCommand_142 : decode cX7_readsCommand 142 = .ok (.getfield 192, 3) := by decide +kernel
theorem dX7_readsCommand_145 : decode cX7_readsCommand 145 = .ok (.putfield 201, 3) := by decide +kernel
theorem dX7_readsCommand_148 : decode cX7_readsCommand 148 = .ok (.iload_n 1, 1) := by decide +kernel
theorem dX7_readsCommand_149 : decode cX7_readsCommand 149 = .ok (.ireturn, 1) := by decide +kernel
theorem dX7_readsCommand_150 : decode cX7_readsCommand 150 = .ok (.aload_n 0, 1) := by decide +kernel
theorem dX7_readsCommand_151 : decode cX7_readsCommand 151 = .ok (.ldc2_w 228, 3) := by decide +kernel
theorem dX7_readsCommand_154 : decode cX7_readsCommand 154 = .ok (.invokevirtual 210, 3) := by decide +kernel
theorem dX7_readsCommand_157 : decode cX7_readsCommand 157 = .ok (.ifCond .eq 14, 3) := by decide +kernel
theorem dX7_readsCommand_160 : decode cX7_readsCommand 160 = .ok (.aload_n 0, 1) := by decide +kernel
theorem dX7_readsCommand_161 : decode cX7_readsCommand 161 = .ok (.invokevirtual 219, 3) := by decide +kernel
theorem dX7_readsCommand_164 : decode cX7_readsCommand 164 = .ok (.ifCond .eq 7, 3) := by decide +kernel
theorem dX7_readsCommand_167 : decode cX7_readsCommand 167 = .ok (.iconst 1, 1) := by decide +kernel
theorem dX7_readsCommand_168 : decode cX7_readsCommand 168 = .ok (.goto 4, 3) := by decide +kernel
theorem dX7_readsCommand_171 : decode cX7_readsCommand 171 = .ok (.iconst 0, 1) := by decide +kernel
theorem dX7_readsCommand_172 : decode cX7_readsCommand 172 = .ok (.ireturn, 1) := by decide +kernel
theorem dX7_readsCommand_173 : decode cX7_readsCommand 173 = .ok (.aload_n 0, 1) := by decide +kernel
theorem dX7_readsCommand_174 : decode cX7_readsCommand 174 = .ok (.ldc2_w 230, 3) := by decide +kernel
theorem dX7_readsCommand_177 : decode cX7_readsCommand 177 = .ok (.invokevirtual 210, 3) := by decide +kernel
theorem dX7_readsCommand_180 : decode cX7_readsCommand 180 = .ok (.ifCond .eq 33, 3) := by decide +kernel
theorem dX7_readsCommand_183 : decode cX7_readsCommand 183 = .ok (.aload_n 0, 1) := by decide +kernel
theorem dX7_readsCommand_184 : decode cX7_readsCommand 184 = .ok (.invokevirtual 219, 3) := by decide +kernel
theorem dX7_readsCommand_187 : decode cX7_readsCommand 187 = .ok (.ifCond .eq 26, 3) := by decide +kernel
theorem dX7_readsCommand_190 : decode cX7_readsCommand 190 = .ok (.aload_n 0, 1) := by decide +kernel
theorem dX7_readsCommand_191 : decode cX7_readsCommand 191 = .ok (.bipush 58, 2) := by decide +kernel
theorem dX7_readsCommand_193 : decode cX7_readsCommand 193 = .ok (.invokevirtual 189, 3) := by decide +kernel
theorem dX7_readsCommand_196 : decode cX7_readsCommand 196 = .ok (.ifCond .eq 17, 3) := by decide +kernel
theorem dX7_readsCommand_199 : decode cX7_readsCommand 199 = .ok (.aload_n 0, 1) := by decide +kernel
theorem dX7_readsCommand_200 : decode cX7_readsCommand 200 = .ok (.iconst 1, 1) := by decide +kernel
theorem dX7_readsCommand_201 : decode cX7_readsCommand 201 = .ok (.bipush 9, 2) := by decide +kernel
theorem dX7_readsCommand_203 : decode cX7_readsCommand 203 = .ok (.invokevirtual 195, 3) := by decide +kernel
theorem dX7_readsCommand_206 : decode cX7_readsCommand 206 = .ok (.ifCond .eq 7, 3) := by decide +kernel
theorem dX7_readsCommand_209 : decode cX7_readsCommand 209 = .ok (.iconst 1, 1) := by decide +kernel
theorem dX7_readsCommand_210 : decode cX7_readsCommand 210 = .ok (.goto 4, 3) := by decide +kernel
theorem dX7_readsCommand_213 : decode cX7_readsCommand 213 = .ok (.iconst 0, 1) := by decide +kernel
theorem dX7_readsCommand_214 : decode cX7_readsCommand 214 = .ok (.istore_n 1, 1) := by decide +kernel
theorem dX7_readsCommand_215 : decode cX7_readsCommand 215 = .ok (.aload_n 0, 1) := by decide +kernel
theorem dX7_readsCommand_216 : decode cX7_readsCommand 216 = .ok (.aload_n 0, 1) := by decide +kernel
theorem dX7_readsCommand_217 : decode cX7_readsCommand 217 = .ok (.getfield 192, 3) := by decide +kernel
theorem dX7_readsCommand_220 : decode cX7_readsCommand 220 = .ok (.putfield 201, 3) := by decide +kernel
theorem dX7_readsCommand_223 : decode cX7_readsCommand 223 = .ok (.iload_n 1, 1) := by decide +kernel
theorem dX7_readsCommand_224 : decode cX7_readsCommand 224 = .ok (.ireturn, 1) := by decide +kernel
theorem dX7_readsCommand_225 : decode cX7_readsCommand 225 = .ok (.aload_n 0, 1) := by decide +kernel
theorem dX7_readsCommand_226 : decode cX7_readsCommand 226 = .ok (.ldc2_w 232, 3) := by decide +kernel
theorem dX7_readsCommand_229 : decode cX7_readsCommand 229 = .ok (.invokevirtual 210, 3) := by decide +kernel
theorem dX7_readsCommand_232 : decode cX7_readsCommand 232 = .ok (.ifCond .eq 14, 3) := by decide +kernel
theorem dX7_readsCommand_235 : decode cX7_readsCommand 235 = .ok (.aload_n 0, 1) := by decide +kernel
theorem dX7_readsCommand_236 : decode cX7_readsCommand 236 = .ok (.invokevirtual 234, 3) := by decide +kernel
theorem dX7_readsCommand_239 : decode cX7_readsCommand 239 = .ok (.ifCond .eq 7, 3) := by decide +kernel
theorem dX7_readsCommand_242 : decode cX7_readsCommand 242 = .ok (.iconst 1, 1) := by decide +kernel
theorem dX7_readsCommand_243 : decode cX7_readsCommand 243 = .ok (.goto 4, 3) := by decide +kernel
theorem dX7_readsCommand_246 : decode cX7_readsCommand 246 = .ok (.iconst 0, 1) := by decide +kernel
theorem dX7_readsCommand_247 : decode cX7_readsCommand 247 = .ok (.ireturn, 1) := by decide +kernel
theorem dX7_readsCommand_248 : decode cX7_readsCommand 248 = .ok (.iconst 0, 1) := by decide +kernel
theorem dX7_readsCommand_249 : decode cX7_readsCommand 249 = .ok (.ireturn, 1) := by decide +kernel
theorem dX7_findError_0 : decode cX7_findError 0 = .ok (.aload_n 0, 1) := by decide +kernel
theorem dX7_findError_1 : decode cX7_findError 1 = .ok (.iconst 0, 1) := by decide +kernel
theorem dX7_findError_2 : decode cX7_findError 2 = .ok (.putfield 183, 3) := by decide +kernel
theorem dX7_findError_5 : decode cX7_findError 5 = .ok (.aload_n 0, 1) := by decide +kernel
theorem dX7_findError_6 : decode cX7_findError 6 = .ok (.invokevirtual 237, 3) := by decide +kernel
theorem dX7_findError_9 : decode cX7_findError 9 = .ok (.ifCond .ne 8, 3) := by decide +kernel
theorem dX7_findError_12 : decode cX7_findError 12 = .ok (.aload_n 0, 1) := by decide +kernel
theorem dX7_findError_13 : decode cX7_findError 13 = .ok (.getfield 183, 3) := by decide +kernel
theorem dX7_findError_16 : decode cX7_findError 16 = .ok (.ireturn, 1) := by decide +kernel
theorem dX7_findError_17 : decode cX7_findError 17 = .ok (.aload_n 0, 1) := by decide +kernel
theorem dX7_findError_18 : decode cX7_findError 18 = .ok (.getfield 183, 3) := by decide +kernel
theorem dX7_findError_21 : decode cX7_findError 21 = .ok (.aload_n 0, 1) := by decide +kernel
theorem dX7_findError_22 : decode cX7_findError 22 = .ok (.getfield 180, 3) := by decide +kernel
theorem dX7_findError_25 : decode cX7_findError 25 = .ok (.if_icmp .ne 6, 3) := by decide +kernel
theorem dX7_findError_28 : decode cX7_findError 28 = .ok (.bipush (-6), 2) := by decide +kernel
theorem dX7_findError_30 : decode cX7_findError 30 = .ok (.ireturn, 1) := by decide +kernel
theorem dX7_findError_31 : decode cX7_findError 31 = .ok (.aload_n 0, 1) := by decide +kernel
theorem dX7_findError_32 : decode cX7_findError 32 = .ok (.bipush 59, 2) := by decide +kernel
theorem dX7_findError_34 : decode cX7_findError 34 = .ok (.invokevirtual 189, 3) := by decide +kernel
theorem dX7_findError_37 : decode cX7_findError 37 = .ok (.ifCond .ne (-32), 3) := by decide +kernel
theorem dX7_findError_40 : decode cX7_findError 40 = .ok (.aload_n 0, 1) := by decide +kernel
theorem dX7_findError_41 : decode cX7_findError 41 = .ok (.getfield 183, 3) := by decide +kernel
theorem dX7_findError_44 : decode cX7_findError 44 = .ok (.ireturn, 1) := by decide +kernel
theorem dX7_syntaxError_0 : decode cX7_syntaxError 0 = .ok (.aload_n 0, 1) := by decide +kernel
theorem dX7_syntaxError_1 : decode cX7_syntaxError 1 = .ok (.invokevirtual 240, 3) := by decide +kernel
theorem dX7_syntaxError_4 : decode cX7_syntaxError 4 = .ok (.ireturn, 1) := by decide +kernel
theorem dX7_whyNotDone_0 : decode cX7_whyNotDone 0 = .ok (.aload_n 0, 1) := by decide +kernel
theorem dX7_whyNotDone_1 : decode cX7_whyNotDone 1 = .ok (.getfield 214, 3) := by decide +kernel
theorem dX7_whyNotDone_4 : decode cX7_whyNotDone 4 = .ok (.lookupswitch 88 #[(97, 66), (113, 57), (114, 44), (115, 75)], 44) := by decide +kernel
theorem dX7_whyNotDone_48 : decode cX7_whyNotDone 48 = .ok (.aload_n 0, 1) := by decide +kernel
theorem dX7_whyNotDone_49 : decode cX7_whyNotDone 49 = .ok (.aload_n 0, 1) := by decide +kernel
theorem dX7_whyNotDone_50 : decode cX7_whyNotDone 50 = .ok (.getfield 198, 3) := by decide +kernel
theorem dX7_whyNotDone_53 : decode cX7_whyNotDone 53 = .ok (.aload_n 0, 1) := by decide +kernel
theorem dX7_whyNotDone_54 : decode cX7_whyNotDone 54 = .ok (.getfield 201, 3) := by decide +kernel
theorem dX7_whyNotDone_57 : decode cX7_whyNotDone 57 = .ok (.invokevirtual 150, 3) := by decide +kernel
theorem dX7_whyNotDone_60 : decode cX7_whyNotDone 60 = .ok (.ireturn, 1) := by decide +kernel
theorem dX7_whyNotDone_61 : decode cX7_whyNotDone 61 = .ok (.aload_n 0, 1) := by decide +kernel
theorem dX7_whyNotDone_62 : decode cX7_whyNotDone 62 = .ok (.aload_n 0, 1) := by decide +kernel
theorem dX7_whyNotDone_63 : decode cX7_whyNotDone 63 = .ok (.getfield 201, 3) := by decide +kernel
theorem dX7_whyNotDone_66 : decode cX7_whyNotDone 66 = .ok (.invokevirtual 156, 3) := by decide +kernel
theorem dX7_whyNotDone_69 : decode cX7_whyNotDone 69 = .ok (.ireturn, 1) := by decide +kernel
theorem dX7_whyNotDone_70 : decode cX7_whyNotDone 70 = .ok (.aload_n 0, 1) := by decide +kernel
theorem dX7_whyNotDone_71 : decode cX7_whyNotDone 71 = .ok (.aload_n 0, 1) := by decide +kernel
theorem dX7_whyNotDone_72 : decode cX7_whyNotDone 72 = .ok (.getfield 198, 3) := by decide +kernel
theorem dX7_whyNotDone_75 : decode cX7_whyNotDone 75 = .ok (.invokevirtual 140, 3) := by decide +kernel
theorem dX7_whyNotDone_78 : decode cX7_whyNotDone 78 = .ok (.ireturn, 1) := by decide +kernel
theorem dX7_whyNotDone_79 : decode cX7_whyNotDone 79 = .ok (.aload_n 0, 1) := by decide +kernel
theorem dX7_whyNotDone_80 : decode cX7_whyNotDone 80 = .ok (.aload_n 0, 1) := by decide +kernel
theorem dX7_whyNotDone_81 : decode cX7_whyNotDone 81 = .ok (.getfield 198, 3) := by decide +kernel
theorem dX7_whyNotDone_84 : decode cX7_whyNotDone 84 = .ok (.aload_n 0, 1) := by decide +kernel
theorem dX7_whyNotDone_85 : decode cX7_whyNotDone 85 = .ok (.getfield 201, 3) := by decide +kernel
theorem dX7_whyNotDone_88 : decode cX7_whyNotDone 88 = .ok (.invokevirtual 131, 3) := by decide +kernel
theorem dX7_whyNotDone_91 : decode cX7_whyNotDone 91 = .ok (.ireturn, 1) := by decide +kernel
theorem dX7_whyNotDone_92 : decode cX7_whyNotDone 92 = .ok (.iconst 0, 1) := by decide +kernel
theorem dX7_whyNotDone_93 : decode cX7_whyNotDone 93 = .ok (.ireturn, 1) := by decide +kernel
theorem dX7_does_0 : decode cX7_does 0 = .ok (.aload_n 0, 1) := by decide +kernel
theorem dX7_does_1 : decode cX7_does 1 = .ok (.getfield 214, 3) := by decide +kernel
theorem dX7_does_4 : decode cX7_does 4 = .ok (.lookupswitch 100 #[(97, 72), (113, 60), (114, 44), (115, 84)], 44) := by decide +kernel
theorem dX7_does_48 : decode cX7_does 48 = .ok (.aload_n 0, 1) := by decide +kernel
theorem dX7_does_49 : decode cX7_does 49 = .ok (.aload_n 0, 1) := by decide +kernel
theorem dX7_does_50 : decode cX7_does 50 = .ok (.getfield 198, 3) := by decide +kernel
theorem dX7_does_53 : decode cX7_does 53 = .ok (.aload_n 0, 1) := by decide +kernel
theorem dX7_does_54 : decode cX7_does 54 = .ok (.getfield 201, 3) := by decide +kernel
theorem dX7_does_57 : decode cX7_does 57 = .ok (.invokevirtual 153, 3) := by decide +kernel
theorem dX7_does_60 : decode cX7_does 60 = .ok (.pop, 1) := by decide +kernel
theorem dX7_does_61 : decode cX7_does 61 = .ok (.goto 53, 3) := by decide +kernel
theorem dX7_does_64 : decode cX7_does 64 = .ok (.aload_n 0, 1) := by decide +kernel
theorem dX7_does_65 : decode cX7_does 65 = .ok (.aload_n 0, 1) := by decide +kernel
theorem dX7_does_66 : decode cX7_does 66 = .ok (.getfield 201, 3) := by decide +kernel
theorem dX7_does_69 : decode cX7_does 69 = .ok (.invokevirtual 159, 3) := by decide +kernel
theorem dX7_does_72 : decode cX7_does 72 = .ok (.pop, 1) := by decide +kernel
theorem dX7_does_73 : decode cX7_does 73 = .ok (.goto 41, 3) := by decide +kernel
theorem dX7_does_76 : decode cX7_does 76 = .ok (.aload_n 0, 1) := by decide +kernel
theorem dX7_does_77 : decode cX7_does 77 = .ok (.aload_n 0, 1) := by decide +kernel
theorem dX7_does_78 : decode cX7_does 78 = .ok (.getfield 198, 3) := by decide +kernel
theorem dX7_does_81 : decode cX7_does 81 = .ok (.invokevirtual 143, 3) := by decide +kernel
theorem dX7_does_84 : decode cX7_does 84 = .ok (.pop, 1) := by decide +kernel
theorem dX7_does_85 : decode cX7_does 85 = .ok (.goto 29, 3) := by decide +kernel
theorem dX7_does_88 : decode cX7_does 88 = .ok (.aload_n 0, 1) := by decide +kernel
theorem dX7_does_89 : decode cX7_does 89 = .ok (.aload_n 0, 1) := by decide +kernel
theorem dX7_does_90 : decode cX7_does 90 = .ok (.getfield 198, 3) := by decide +kernel
theorem dX7_does_93 : decode cX7_does 93 = .ok (.aload_n 0, 1) := by decide +kernel
theorem dX7_does_94 : decode cX7_does 94 = .ok (.getfield 201, 3) := by decide +kernel
theorem dX7_does_97 : decode cX7_does 97 = .ok (.invokevirtual 134, 3) := by decide +kernel
theorem dX7_does_100 : decode cX7_does 100 = .ok (.pop, 1) := by decide +kernel
theorem dX7_does_101 : decode cX7_does 101 = .ok (.goto 13, 3) := by decide +kernel
theorem dX7_does_104 : decode cX7_does 104 = .ok (.aload_n 0, 1) := by decide +kernel
theorem dX7_does_105 : decode cX7_does 105 = .ok (.getfield 7, 3) := by decide +kernel
theorem dX7_does_108 : decode cX7_does 108 = .ok (.iconst 4, 1) := by decide +kernel
theorem dX7_does_109 : decode cX7_does 109 = .ok (.aload_n 0, 1) := by decide +kernel
theorem dX7_does_110 : decode cX7_does 110 = .ok (.getfield 201, 3) := by decide +kernel
theorem dX7_does_113 : decode cX7_does 113 = .ok (.iastore, 1) := by decide +kernel
theorem dX7_does_114 : decode cX7_does 114 = .ok (.return_, 1) := by decide +kernel
theorem dX7_carryOut_0 : decode cX7_carryOut 0 = .ok (.aload_n 0, 1) := by decide +kernel
theorem dX7_carryOut_1 : decode cX7_carryOut 1 = .ok (.invokevirtual 240, 3) := by decide +kernel
theorem dX7_carryOut_4 : decode cX7_carryOut 4 = .ok (.bipush (-6), 2) := by decide +kernel
theorem dX7_carryOut_6 : decode cX7_carryOut 6 = .ok (.if_icmp .eq 6, 3) := by decide +kernel
theorem dX7_carryOut_9 : decode cX7_carryOut 9 = .ok (.bipush (-5), 2) := by decide +kernel
theorem dX7_carryOut_11 : decode cX7_carryOut 11 = .ok (.ireturn, 1) := by decide +kernel
theorem dX7_carryOut_12 : decode cX7_carryOut 12 = .ok (.aload_n 0, 1) := by decide +kernel
theorem dX7_carryOut_13 : decode cX7_carryOut 13 = .ok (.invokevirtual 112, 3) := by decide +kernel
theorem dX7_carryOut_16 : decode cX7_carryOut 16 = .ok (.iconst 0, 1) := by decide +kernel
theorem dX7_carryOut_17 : decode cX7_carryOut 17 = .ok (.istore_n 1, 1) := by decide +kernel
theorem dX7_carryOut_18 : decode cX7_carryOut 18 = .ok (.aload_n 0, 1) := by decide +kernel
theorem dX7_carryOut_19 : decode cX7_carryOut 19 = .ok (.iconst 0, 1) := by decide +kernel
theorem dX7_carryOut_20 : decode cX7_carryOut 20 = .ok (.putfield 183, 3) := by decide +kernel
theorem dX7_carryOut_23 : decode cX7_carryOut 23 = .ok (.iconst 1, 1) := by decide +kernel
theorem dX7_carryOut_24 : decode cX7_carryOut 24 = .ok (.istore_n 2, 1) := by decide +kernel
theorem dX7_carryOut_25 : decode cX7_carryOut 25 = .ok (.iload_n 2, 1) := by decide +kernel
theorem dX7_carryOut_26 : decode cX7_carryOut 26 = .ok (.ifCond .eq 53, 3) := by decide +kernel
theorem dX7_carryOut_29 : decode cX7_carryOut 29 = .ok (.aload_n 0, 1) := by decide +kernel
theorem dX7_carryOut_30 : decode cX7_carryOut 30 = .ok (.getfield 183, 3) := by decide +kernel
theorem dX7_carryOut_33 : decode cX7_carryOut 33 = .ok (.aload_n 0, 1) := by decide +kernel
theorem dX7_carryOut_34 : decode cX7_carryOut 34 = .ok (.getfield 180, 3) := by decide +kernel
theorem dX7_carryOut_37 : decode cX7_carryOut 37 = .ok (.if_icmp .ge 42, 3) := by decide +kernel
theorem dX7_carryOut_40 : decode cX7_carryOut 40 = .ok (.aload_n 0, 1) := by decide +kernel
theorem dX7_carryOut_41 : decode cX7_carryOut 41 = .ok (.invokevirtual 237, 3) := by decide +kernel
theorem dX7_carryOut_44 : decode cX7_carryOut 44 = .ok (.pop, 1) := by decide +kernel
theorem dX7_carryOut_45 : decode cX7_carryOut 45 = .ok (.aload_n 0, 1) := by decide +kernel
theorem dX7_carryOut_46 : decode cX7_carryOut 46 = .ok (.bipush 59, 2) := by decide +kernel
theorem dX7_carryOut_48 : decode cX7_carryOut 48 = .ok (.invokevirtual 189, 3) := by decide +kernel
theorem dX7_carryOut_51 : decode cX7_carryOut 51 = .ok (.pop, 1) := by decide +kernel
theorem dX7_carryOut_52 : decode cX7_carryOut 52 = .ok (.aload_n 0, 1) := by decide +kernel
theorem dX7_carryOut_53 : decode cX7_carryOut 53 = .ok (.invokevirtual 243, 3) := by decide +kernel
theorem dX7_carryOut_56 : decode cX7_carryOut 56 = .ok (.ifCond .ne 7, 3) := by decide +kernel
theorem dX7_carryOut_59 : decode cX7_carryOut 59 = .ok (.iconst 1, 1) := by decide +kernel
theorem dX7_carryOut_60 : decode cX7_carryOut 60 = .ok (.goto 4, 3) := by decide +kernel
theorem dX7_carryOut_63 : decode cX7_carryOut 63 = .ok (.iconst 0, 1) := by decide +kernel
theorem dX7_carryOut_64 : decode cX7_carryOut 64 = .ok (.istore_n 2, 1) := by decide +kernel
theorem dX7_carryOut_65 : decode cX7_carryOut 65 = .ok (.iload_n 2, 1) := by decide +kernel
theorem dX7_carryOut_66 : decode cX7_carryOut 66 = .ok (.ifCond .eq (-41), 3) := by decide +kernel
theorem dX7_carryOut_69 : decode cX7_carryOut 69 = .ok (.aload_n 0, 1) := by decide +kernel
theorem dX7_carryOut_70 : decode cX7_carryOut 70 = .ok (.invokevirtual 246, 3) := by decide +kernel
theorem dX7_carryOut_73 : decode cX7_carryOut 73 = .ok (.iinc 1 1, 3) := by decide +kernel
theorem dX7_carryOut_76 : decode cX7_carryOut 76 = .ok (.goto (-51), 3) := by decide +kernel
theorem dX7_carryOut_79 : decode cX7_carryOut 79 = .ok (.aload_n 0, 1) := by decide +kernel
theorem dX7_carryOut_80 : decode cX7_carryOut 80 = .ok (.iconst 0, 1) := by decide +kernel
theorem dX7_carryOut_81 : decode cX7_carryOut 81 = .ok (.putfield 180, 3) := by decide +kernel
theorem dX7_carryOut_84 : decode cX7_carryOut 84 = .ok (.iload_n 1, 1) := by decide +kernel
theorem dX7_carryOut_85 : decode cX7_carryOut 85 = .ok (.ireturn, 1) := by decide +kernel
theorem dX7_undo_0 : decode cX7_undo 0 = .ok (.aload_n 0, 1) := by decide +kernel
theorem dX7_undo_1 : decode cX7_undo 1 = .ok (.getfield 22, 3) := by decide +kernel
theorem dX7_undo_4 : decode cX7_undo 4 = .ok (.ifCond .ne 6, 3) := by decide +kernel
theorem dX7_undo_7 : decode cX7_undo 7 = .ok (.bipush (-3), 2) := by decide +kernel
theorem dX7_undo_9 : decode cX7_undo 9 = .ok (.ireturn, 1) := by decide +kernel
theorem dX7_undo_10 : decode cX7_undo 10 = .ok (.aload_n 0, 1) := by decide +kernel
theorem dX7_undo_11 : decode cX7_undo 11 = .ok (.dup, 1) := by decide +kernel
theorem dX7_undo_12 : decode cX7_undo 12 = .ok (.getfield 22, 3) := by decide +kernel
theorem dX7_undo_15 : decode cX7_undo 15 = .ok (.iconst 1, 1) := by decide +kernel
theorem dX7_undo_16 : decode cX7_undo 16 = .ok (.isub, 1) := by decide +kernel
theorem dX7_undo_17 : decode cX7_undo 17 = .ok (.putfield 22, 3) := by decide +kernel
theorem dX7_undo_20 : decode cX7_undo 20 = .ok (.aload_n 0, 1) := by decide +kernel
theorem dX7_undo_21 : decode cX7_undo 21 = .ok (.getfield 16, 3) := by decide +kernel
theorem dX7_undo_24 : decode cX7_undo 24 = .ok (.aload_n 0, 1) := by decide +kernel
theorem dX7_undo_25 : decode cX7_undo 25 = .ok (.getfield 22, 3) := by decide +kernel
theorem dX7_undo_28 : decode cX7_undo 28 = .ok (.bipush 104, 2) := by decide +kernel
theorem dX7_undo_30 : decode cX7_undo 30 = .ok (.imul, 1) := by decide +kernel
theorem dX7_undo_31 : decode cX7_undo 31 = .ok (.aload_n 0, 1) := by decide +kernel
theorem dX7_undo_32 : decode cX7_undo 32 = .ok (.getfield 7, 3) := by decide +kernel
theorem dX7_undo_35 : decode cX7_undo 35 = .ok (.iconst 0, 1) := by decide +kernel
theorem dX7_undo_36 : decode cX7_undo 36 = .ok (.invokestatic 26, 3) := by decide +kernel
theorem dX7_undo_39 : decode cX7_undo 39 = .ok (.aload_n 0, 1) := by decide +kernel
theorem dX7_undo_40 : decode cX7_undo 40 = .ok (.getfield 22, 3) := by decide +kernel
theorem dX7_undo_43 : decode cX7_undo 43 = .ok (.ireturn, 1) := by decide +kernel
theorem dX7_digest_0 : decode cX7_digest 0 = .ok (.ldc2_w 249, 3) := by decide +kernel
theorem dX7_digest_3 : decode cX7_digest 3 = .ok (.lstore_n 1, 1) := by decide +kernel
theorem dX7_digest_4 : decode cX7_digest 4 = .ok (.iconst 0, 1) := by decide +kernel
theorem dX7_digest_5 : decode cX7_digest 5 = .ok (.istore_n 3, 1) := by decide +kernel
theorem dX7_digest_6 : decode cX7_digest 6 = .ok (.iload_n 3, 1) := by decide +kernel
theorem dX7_digest_7 : decode cX7_digest 7 = .ok (.bipush 12, 2) := by decide +kernel
theorem dX7_digest_9 : decode cX7_digest 9 = .ok (.if_icmp .gt 23, 3) := by decide +kernel
theorem dX7_digest_12 : decode cX7_digest 12 = .ok (.ldc2_w 251, 3) := by decide +kernel
theorem dX7_digest_15 : decode cX7_digest 15 = .ok (.lload_n 1, 1) := by decide +kernel
theorem dX7_digest_16 : decode cX7_digest 16 = .ok (.lmul, 1) := by decide +kernel
theorem dX7_digest_17 : decode cX7_digest 17 = .ok (.aload_n 0, 1) := by decide +kernel
theorem dX7_digest_18 : decode cX7_digest 18 = .ok (.getfield 7, 3) := by decide +kernel
theorem dX7_digest_21 : decode cX7_digest 21 = .ok (.iload_n 3, 1) := by decide +kernel
theorem dX7_digest_22 : decode cX7_digest 22 = .ok (.iaload, 1) := by decide +kernel
theorem dX7_digest_23 : decode cX7_digest 23 = .ok (.i2l, 1) := by decide +kernel
theorem dX7_digest_24 : decode cX7_digest 24 = .ok (.ladd, 1) := by decide +kernel
theorem dX7_digest_25 : decode cX7_digest 25 = .ok (.lstore_n 1, 1) := by decide +kernel
theorem dX7_digest_26 : decode cX7_digest 26 = .ok (.iinc 3 1, 3) := by decide +kernel
theorem dX7_digest_29 : decode cX7_digest 29 = .ok (.goto (-23), 3) := by decide +kernel
theorem dX7_digest_32 : decode cX7_digest 32 = .ok (.iconst 0, 1) := by decide +kernel
theorem dX7_digest_33 : decode cX7_digest 33 = .ok (.istore_n 3, 1) := by decide +kernel
theorem dX7_digest_34 : decode cX7_digest 34 = .ok (.iload_n 3, 1) := by decide +kernel
theorem dX7_digest_35 : decode cX7_digest 35 = .ok (.iconst 5, 1) := by decide +kernel
theorem dX7_digest_36 : decode cX7_digest 36 = .ok (.if_icmp .ge 26, 3) := by decide +kernel
theorem dX7_digest_39 : decode cX7_digest 39 = .ok (.ldc2_w 251, 3) := by decide +kernel
theorem dX7_digest_42 : decode cX7_digest 42 = .ok (.lload_n 1, 1) := by decide +kernel
theorem dX7_digest_43 : decode cX7_digest 43 = .ok (.lmul, 1) := by decide +kernel
theorem dX7_digest_44 : decode cX7_digest 44 = .ok (.aload_n 0, 1) := by decide +kernel
theorem dX7_digest_45 : decode cX7_digest 45 = .ok (.getfield 7, 3) := by decide +kernel
theorem dX7_digest_48 : decode cX7_digest 48 = .ok (.bipush 15, 2) := by decide +kernel
theorem dX7_digest_50 : decode cX7_digest 50 = .ok (.iload_n 3, 1) := by decide +kernel
theorem dX7_digest_51 : decode cX7_digest 51 = .ok (.iadd, 1) := by decide +kernel
theorem dX7_digest_52 : decode cX7_digest 52 = .ok (.iaload, 1) := by decide +kernel
theorem dX7_digest_53 : decode cX7_digest 53 = .ok (.i2l, 1) := by decide +kernel
theorem dX7_digest_54 : decode cX7_digest 54 = .ok (.ladd, 1) := by decide +kernel
theorem dX7_digest_55 : decode cX7_digest 55 = .ok (.lstore_n 1, 1) := by decide +kernel
theorem dX7_digest_56 : decode cX7_digest 56 = .ok (.iinc 3 1, 3) := by decide +kernel
theorem dX7_digest_59 : decode cX7_digest 59 = .ok (.goto (-25), 3) := by decide +kernel
theorem dX7_digest_62 : decode cX7_digest 62 = .ok (.iconst 0, 1) := by decide +kernel
theorem dX7_digest_63 : decode cX7_digest 63 = .ok (.istore_n 3, 1) := by decide +kernel
theorem dX7_digest_64 : decode cX7_digest 64 = .ok (.iload_n 3, 1) := by decide +kernel
theorem dX7_digest_65 : decode cX7_digest 65 = .ok (.bipush 8, 2) := by decide +kernel
theorem dX7_digest_67 : decode cX7_digest 67 = .ok (.if_icmp .ge 88, 3) := by decide +kernel
theorem dX7_digest_70 : decode cX7_digest 70 = .ok (.iconst 0, 1) := by decide +kernel
theorem dX7_digest_71 : decode cX7_digest 71 = .ok (.istore 4, 2) := by decide +kernel
theorem dX7_digest_73 : decode cX7_digest 73 = .ok (.iload 4, 2) := by decide +kernel
theorem dX7_digest_75 : decode cX7_digest 75 = .ok (.bipush 6, 2) := by decide +kernel
theorem dX7_digest_77 : decode cX7_digest 77 = .ok (.if_icmp .gt 24, 3) := by decide +kernel
theorem dX7_digest_80 : decode cX7_digest 80 = .ok (.ldc2_w 251, 3) := by decide +kernel
theorem dX7_digest_83 : decode cX7_digest 83 = .ok (.lload_n 1, 1) := by decide +kernel
theorem dX7_digest_84 : decode cX7_digest 84 = .ok (.lmul, 1) := by decide +kernel
theorem dX7_digest_85 : decode cX7_digest 85 = .ok (.aload_n 0, 1) := by decide +kernel
theorem dX7_digest_86 : decode cX7_digest 86 = .ok (.iload_n 3, 1) := by decide +kernel
theorem dX7_digest_87 : decode cX7_digest 87 = .ok (.iload 4, 2) := by decide +kernel
theorem dX7_digest_89 : decode cX7_digest 89 = .ok (.invokevirtual 162, 3) := by decide +kernel
theorem dX7_digest_92 : decode cX7_digest 92 = .ok (.i2l, 1) := by decide +kernel
theorem dX7_digest_93 : decode cX7_digest 93 = .ok (.ladd, 1) := by decide +kernel
theorem dX7_digest_94 : decode cX7_digest 94 = .ok (.lstore_n 1, 1) := by decide +kernel
theorem dX7_digest_95 : decode cX7_digest 95 = .ok (.iinc 4 1, 3) := by decide +kernel
theorem dX7_digest_98 : decode cX7_digest 98 = .ok (.goto (-25), 3) := by decide +kernel
theorem dX7_digest_101 : decode cX7_digest 101 = .ok (.iconst 0, 1) := by decide +kernel
theorem dX7_digest_102 : decode cX7_digest 102 = .ok (.istore 4, 2) := by decide +kernel
theorem dX7_digest_104 : decode cX7_digest 104 = .ok (.iload 4, 2) := by decide +kernel
theorem dX7_digest_106 : decode cX7_digest 106 = .ok (.aload_n 0, 1) := by decide +kernel
theorem dX7_digest_107 : decode cX7_digest 107 = .ok (.getfield 7, 3) := by decide +kernel
theorem dX7_digest_110 : decode cX7_digest 110 = .ok (.iconst 2, 1) := by decide +kernel
theorem dX7_digest_111 : decode cX7_digest 111 = .ok (.iaload, 1) := by decide +kernel
theorem dX7_digest_112 : decode cX7_digest 112 = .ok (.if_icmp .ge 37, 3) := by decide +kernel
theorem dX7_digest_115 : decode cX7_digest 115 = .ok (.aload_n 0, 1) := by decide +kernel
theorem dX7_digest_116 : decode cX7_digest 116 = .ok (.iload 4, 2) := by decide +kernel
theorem dX7_digest_118 : decode cX7_digest 118 = .ok (.invokevirtual 73, 3) := by decide +kernel
theorem dX7_digest_121 : decode cX7_digest 121 = .ok (.iload_n 3, 1) := by decide +kernel
theorem dX7_digest_122 : decode cX7_digest 122 = .ok (.if_icmp .ne 19, 3) := by decide +kernel
theorem dX7_digest_125 : decode cX7_digest 125 = .ok (.ldc2_w 251, 3) := by decide +kernel
theorem dX7_digest_128 : decode cX7_digest 128 = .ok (.lload_n 1, 1) := by decide +kernel
theorem dX7_digest_129 : decode cX7_digest 129 = .ok (.lmul, 1) := by decide +kernel
theorem dX7_digest_130 : decode cX7_digest 130 = .ok (.aload_n 0, 1) := by decide +kernel
theorem dX7_digest_131 : decode cX7_digest 131 = .ok (.iload 4, 2) := by decide +kernel
theorem dX7_digest_133 : decode cX7_digest 133 = .ok (.invokevirtual 70, 3) := by decide +kernel
theorem dX7_digest_136 : decode cX7_digest 136 = .ok (.i2l, 1) := by decide +kernel
theorem dX7_digest_137 : decode cX7_digest 137 = .ok (.ladd, 1) := by decide +kernel
theorem dX7_digest_138 : decode cX7_digest 138 = .ok (.goto 4, 3) := by decide +kernel
theorem dX7_digest_141 : decode cX7_digest 141 = .ok (.lload_n 1, 1) := by decide +kernel
theorem dX7_digest_142 : decode cX7_digest 142 = .ok (.lstore_n 1, 1) := by decide +kernel
theorem dX7_digest_143 : decode cX7_digest 143 = .ok (.iinc 4 1, 3) := by decide +kernel
theorem dX7_digest_146 : decode cX7_digest 146 = .ok (.goto (-42), 3) := by decide +kernel
theorem dX7_digest_149 : decode cX7_digest 149 = .ok (.iinc 3 1, 3) := by decide +kernel
theorem dX7_digest_152 : decode cX7_digest 152 = .ok (.goto (-88), 3) := by decide +kernel
theorem dX7_digest_155 : decode cX7_digest 155 = .ok (.ldc2_w 251, 3) := by decide +kernel
theorem dX7_digest_158 : decode cX7_digest 158 = .ok (.lload_n 1, 1) := by decide +kernel
theorem dX7_digest_159 : decode cX7_digest 159 = .ok (.lmul, 1) := by decide +kernel
theorem dX7_digest_160 : decode cX7_digest 160 = .ok (.aload_n 0, 1) := by decide +kernel
theorem dX7_digest_161 : decode cX7_digest 161 = .ok (.invokevirtual 34, 3) := by decide +kernel
theorem dX7_digest_164 : decode cX7_digest 164 = .ok (.i2l, 1) := by decide +kernel
theorem dX7_digest_165 : decode cX7_digest 165 = .ok (.ladd, 1) := by decide +kernel
theorem dX7_digest_166 : decode cX7_digest 166 = .ok (.lstore_n 1, 1) := by decide +kernel
theorem dX7_digest_167 : decode cX7_digest 167 = .ok (.iconst 0, 1) := by decide +kernel
theorem dX7_digest_168 : decode cX7_digest 168 = .ok (.istore_n 3, 1) := by decide +kernel
theorem dX7_digest_169 : decode cX7_digest 169 = .ok (.iload_n 3, 1) := by decide +kernel
theorem dX7_digest_170 : decode cX7_digest 170 = .ok (.aload_n 0, 1) := by decide +kernel
theorem dX7_digest_171 : decode cX7_digest 171 = .ok (.invokevirtual 34, 3) := by decide +kernel
theorem dX7_digest_174 : decode cX7_digest 174 = .ok (.if_icmp .ge 73, 3) := by decide +kernel
theorem dX7_digest_177 : decode cX7_digest 177 = .ok (.iconst 0, 1) := by decide +kernel
theorem dX7_digest_178 : decode cX7_digest 178 = .ok (.istore 4, 2) := by decide +kernel
theorem dX7_digest_180 : decode cX7_digest 180 = .ok (.iload 4, 2) := by decide +kernel
theorem dX7_digest_182 : decode cX7_digest 182 = .ok (.iconst 3, 1) := by decide +kernel
theorem dX7_digest_183 : decode cX7_digest 183 = .ok (.if_icmp .ge 24, 3) := by decide +kernel
theorem dX7_digest_186 : decode cX7_digest 186 = .ok (.ldc2_w 251, 3) := by decide +kernel
theorem dX7_digest_189 : decode cX7_digest 189 = .ok (.lload_n 1, 1) := by decide +kernel
theorem dX7_digest_190 : decode cX7_digest 190 = .ok (.lmul, 1) := by decide +kernel
theorem dX7_digest_191 : decode cX7_digest 191 = .ok (.aload_n 0, 1) := by decide +kernel
theorem dX7_digest_192 : decode cX7_digest 192 = .ok (.iload_n 3, 1) := by decide +kernel
theorem dX7_digest_193 : decode cX7_digest 193 = .ok (.iload 4, 2) := by decide +kernel
theorem dX7_digest_195 : decode cX7_digest 195 = .ok (.invokevirtual 54, 3) := by decide +kernel
theorem dX7_digest_198 : decode cX7_digest 198 = .ok (.i2l, 1) := by decide +kernel
theorem dX7_digest_199 : decode cX7_digest 199 = .ok (.ladd, 1) := by decide +kernel
theorem dX7_digest_200 : decode cX7_digest 200 = .ok (.lstore_n 1, 1) := by decide +kernel
theorem dX7_digest_201 : decode cX7_digest 201 = .ok (.iinc 4 1, 3) := by decide +kernel
theorem dX7_digest_204 : decode cX7_digest 204 = .ok (.goto (-24), 3) := by decide +kernel
theorem dX7_digest_207 : decode cX7_digest 207 = .ok (.iconst 0, 1) := by decide +kernel
theorem dX7_digest_208 : decode cX7_digest 208 = .ok (.istore 4, 2) := by decide +kernel
theorem dX7_digest_210 : decode cX7_digest 210 = .ok (.iload 4, 2) := by decide +kernel
theorem dX7_digest_212 : decode cX7_digest 212 = .ok (.aload_n 0, 1) := by decide +kernel
theorem dX7_digest_213 : decode cX7_digest 213 = .ok (.iload_n 3, 1) := by decide +kernel
theorem dX7_digest_214 : decode cX7_digest 214 = .ok (.invokevirtual 168, 3) := by decide +kernel
theorem dX7_digest_217 : decode cX7_digest 217 = .ok (.if_icmp .ge 24, 3) := by decide +kernel
theorem dX7_digest_220 : decode cX7_digest 220 = .ok (.ldc2_w 251, 3) := by decide +kernel
theorem dX7_digest_223 : decode cX7_digest 223 = .ok (.lload_n 1, 1) := by decide +kernel
theorem dX7_digest_224 : decode cX7_digest 224 = .ok (.lmul, 1) := by decide +kernel
theorem dX7_digest_225 : decode cX7_digest 225 = .ok (.aload_n 0, 1) := by decide +kernel
theorem dX7_digest_226 : decode cX7_digest 226 = .ok (.iload_n 3, 1) := by decide +kernel
theorem dX7_digest_227 : decode cX7_digest 227 = .ok (.iload 4, 2) := by decide +kernel
theorem dX7_digest_229 : decode cX7_digest 229 = .ok (.invokevirtual 171, 3) := by decide +kernel
theorem dX7_digest_232 : decode cX7_digest 232 = .ok (.i2l, 1) := by decide +kernel
theorem dX7_digest_233 : decode cX7_digest 233 = .ok (.ladd, 1) := by decide +kernel
theorem dX7_digest_234 : decode cX7_digest 234 = .ok (.lstore_n 1, 1) := by decide +kernel
theorem dX7_digest_235 : decode cX7_digest 235 = .ok (.iinc 4 1, 3) := by decide +kernel
theorem dX7_digest_238 : decode cX7_digest 238 = .ok (.goto (-28), 3) := by decide +kernel
theorem dX7_digest_241 : decode cX7_digest 241 = .ok (.iinc 3 1, 3) := by decide +kernel
theorem dX7_digest_244 : decode cX7_digest 244 = .ok (.goto (-75), 3) := by decide +kernel
theorem dX7_digest_247 : decode cX7_digest 247 = .ok (.ldc2_w 251, 3) := by decide +kernel
theorem dX7_digest_250 : decode cX7_digest 250 = .ok (.lload_n 1, 1) := by decide +kernel
theorem dX7_digest_251 : decode cX7_digest 251 = .ok (.lmul, 1) := by decide +kernel
theorem dX7_digest_252 : decode cX7_digest 252 = .ok (.aload_n 0, 1) := by decide +kernel
theorem dX7_digest_253 : decode cX7_digest 253 = .ok (.invokevirtual 174, 3) := by decide +kernel
theorem dX7_digest_256 : decode cX7_digest 256 = .ok (.i2l, 1) := by decide +kernel
theorem dX7_digest_257 : decode cX7_digest 257 = .ok (.ladd, 1) := by decide +kernel
theorem dX7_digest_258 : decode cX7_digest 258 = .ok (.lstore_n 1, 1) := by decide +kernel
theorem dX7_digest_259 : decode cX7_digest 259 = .ok (.ldc2_w 251, 3) := by decide +kernel
theorem dX7_digest_262 : decode cX7_digest 262 = .ok (.lload_n 1, 1) := by decide +kernel
theorem dX7_digest_263 : decode cX7_digest 263 = .ok (.lmul, 1) := by decide +kernel
theorem dX7_digest_264 : decode cX7_digest 264 = .ok (.aload_n 0, 1) := by decide +kernel
theorem dX7_digest_265 : decode cX7_digest 265 = .ok (.invokevirtual 86, 3) := by decide +kernel
theorem dX7_digest_268 : decode cX7_digest 268 = .ok (.i2l, 1) := by decide +kernel
theorem dX7_digest_269 : decode cX7_digest 269 = .ok (.ladd, 1) := by decide +kernel
theorem dX7_digest_270 : decode cX7_digest 270 = .ok (.lreturn, 1) := by decide +kernel
