theorem dX7_init_0 : decode cX7_init 0 = .ok (.aload_n 0, 1) := by decide +kernel
theorem dX7_init_1 : decode cX7_init 1 = .ok (.invokespecial 1, 3) := by decide +kernel
theorem dX7_init_4 : decode cX7_init 4 = .ok (.aload_n 0, 1) := by decide +kernel
theorem dX7_init_5 : decode cX7_init 5 = .ok (.bipush 104, 2) := by decide +kernel
theorem dX7_init_7 : decode cX7_init 7 = .ok (.newarray .int, 2) := by decide +kernel
theorem dX7_init_9 : decode cX7_init 9 = .ok (.putfield 7, 3) := by decide +kernel
theorem dX7_init_12 : decode cX7_init 12 = .ok (.aload_n 0, 1) := by decide +kernel
theorem dX7_init_13 : decode cX7_init 13 = .ok (.bipush 104, 2) := by decide +kernel
theorem dX7_init_15 : decode cX7_init 15 = .ok (.newarray .int, 2) := by decide +kernel
theorem dX7_init_17 : decode cX7_init 17 = .ok (.putfield 13, 3) := by decide +kernel
theorem dX7_init_20 : decode cX7_init 20 = .ok (.aload_n 0, 1) := by decide +kernel
theorem dX7_init_21 : decode cX7_init 21 = .ok (.sipush 624, 3) := by decide +kernel
theorem dX7_init_24 : decode cX7_init 24 = .ok (.newarray .int, 2) := by decide +kernel
theorem dX7_init_26 : decode cX7_init 26 = .ok (.putfield 16, 3) := by decide +kernel
theorem dX7_init_29 : decode cX7_init 29 = .ok (.aload_n 0, 1) := by decide +kernel
theorem dX7_init_30 : decode cX7_init 30 = .ok (.bipush 80, 2) := by decide +kernel
theorem dX7_init_32 : decode cX7_init 32 = .ok (.newarray .int, 2) := by decide +kernel
theorem dX7_init_34 : decode cX7_init 34 = .ok (.putfield 19, 3) := by decide +kernel
theorem dX7_init_37 : decode cX7_init 37 = .ok (.aload_n 0, 1) := by decide +kernel
theorem dX7_init_38 : decode cX7_init 38 = .ok (.getfield 7, 3) := by decide +kernel
theorem dX7_init_41 : decode cX7_init 41 = .ok (.iconst 3, 1) := by decide +kernel
theorem dX7_init_42 : decode cX7_init 42 = .ok (.bipush 6, 2) := by decide +kernel
theorem dX7_init_44 : decode cX7_init 44 = .ok (.iastore, 1) := by decide +kernel
theorem dX7_init_45 : decode cX7_init 45 = .ok (.aload_n 0, 1) := by decide +kernel
theorem dX7_init_46 : decode cX7_init 46 = .ok (.getfield 7, 3) := by decide +kernel
theorem dX7_init_49 : decode cX7_init 49 = .ok (.iconst 5, 1) := by decide +kernel
theorem dX7_init_50 : decode cX7_init 50 = .ok (.bipush (-6), 2) := by decide +kernel
theorem dX7_init_52 : decode cX7_init 52 = .ok (.iastore, 1) := by decide +kernel
theorem dX7_init_53 : decode cX7_init 53 = .ok (.aload_n 0, 1) := by decide +kernel
theorem dX7_init_54 : decode cX7_init 54 = .ok (.getfield 7, 3) := by decide +kernel
theorem dX7_init_57 : decode cX7_init 57 = .ok (.bipush 13, 2) := by decide +kernel
theorem dX7_init_59 : decode cX7_init 59 = .ok (.bipush (-6), 2) := by decide +kernel
theorem dX7_init_61 : decode cX7_init 61 = .ok (.iastore, 1) := by decide +kernel
theorem dX7_init_62 : decode cX7_init 62 = .ok (.aload_n 0, 1) := by decide +kernel
theorem dX7_init_63 : decode cX7_init 63 = .ok (.getfield 7, 3) := by decide +kernel
theorem dX7_init_66 : decode cX7_init 66 = .ok (.bipush 15, 2) := by decide +kernel
theorem dX7_init_68 : decode cX7_init 68 = .ok (.iconst 5, 1) := by decide +kernel
theorem dX7_init_69 : decode cX7_init 69 = .ok (.iastore, 1) := by decide +kernel
theorem dX7_init_70 : decode cX7_init 70 = .ok (.aload_n 0, 1) := by decide +kernel
theorem dX7_init_71 : decode cX7_init 71 = .ok (.getfield 7, 3) := by decide +kernel
theorem dX7_init_74 : decode cX7_init 74 = .ok (.bipush 16, 2) := by decide +kernel
theorem dX7_init_76 : decode cX7_init 76 = .ok (.bipush 10, 2) := by decide +kernel
theorem dX7_init_78 : decode cX7_init 78 = .ok (.iastore, 1) := by decide +kernel
theorem dX7_init_79 : decode cX7_init 79 = .ok (.aload_n 0, 1) := by decide +kernel
theorem dX7_init_80 : decode cX7_init 80 = .ok (.getfield 7, 3) := by decide +kernel
theorem dX7_init_83 : decode cX7_init 83 = .ok (.bipush 17, 2) := by decide +kernel
theorem dX7_init_85 : decode cX7_init 85 = .ok (.iconst 3, 1) := by decide +kernel
theorem dX7_init_86 : decode cX7_init 86 = .ok (.iastore, 1) := by decide +kernel
theorem dX7_init_87 : decode cX7_init 87 = .ok (.aload_n 0, 1) := by decide +kernel
theorem dX7_init_88 : decode cX7_init 88 = .ok (.getfield 7, 3) := by decide +kernel
theorem dX7_init_91 : decode cX7_init 91 = .ok (.bipush 18, 2) := by decide +kernel
theorem dX7_init_93 : decode cX7_init 93 = .ok (.iconst 5, 1) := by decide +kernel
theorem dX7_init_94 : decode cX7_init 94 = .ok (.iastore, 1) := by decide +kernel
theorem dX7_init_95 : decode cX7_init 95 = .ok (.aload_n 0, 1) := by decide +kernel
theorem dX7_init_96 : decode cX7_init 96 = .ok (.getfield 7, 3) := by decide +kernel
theorem dX7_init_99 : decode cX7_init 99 = .ok (.bipush 19, 2) := by decide +kernel
theorem dX7_init_101 : decode cX7_init 101 = .ok (.sipush 400, 3) := by decide +kernel
theorem dX7_init_104 : decode cX7_init 104 = .ok (.iastore, 1) := by decide +kernel
theorem dX7_init_105 : decode cX7_init 105 = .ok (.return_, 1) := by decide +kernel
theorem dX7_within_0 : decode cX7_within 0 = .ok (.iload_n 0, 1) := by decide +kernel
theorem dX7_within_1 : decode cX7_within 1 = .ok (.iload_n 1, 1) := by decide +kernel
theorem dX7_within_2 : decode cX7_within 2 = .ok (.if_icmp .lt 12, 3) := by decide +kernel
theorem dX7_within_5 : decode cX7_within 5 = .ok (.iload_n 0, 1) := by decide +kernel
theorem dX7_within_6 : decode cX7_within 6 = .ok (.iload_n 2, 1) := by decide +kernel
theorem dX7_within_7 : decode cX7_within 7 = .ok (.if_icmp .gt 7, 3) := by decide +kernel
theorem dX7_within_10 : decode cX7_within 10 = .ok (.iconst 1, 1) := by decide +kernel
theorem dX7_within_11 : decode cX7_within 11 = .ok (.goto 4, 3) := by decide +kernel
theorem dX7_within_14 : decode cX7_within 14 = .ok (.iconst 0, 1) := by decide +kernel
theorem dX7_within_15 : decode cX7_within 15 = .ok (.ireturn, 1) := by decide +kernel
theorem dX7_copies_0 : decode cX7_copies 0 = .ok (.iconst 0, 1) := by decide +kernel
theorem dX7_copies_1 : decode cX7_copies 1 = .ok (.istore 4, 2) := by decide +kernel
theorem dX7_copies_3 : decode cX7_copies 3 = .ok (.iload 4, 2) := by decide +kernel
theorem dX7_copies_5 : decode cX7_copies 5 = .ok (.bipush 104, 2) := by decide +kernel
theorem dX7_copies_7 : decode cX7_copies 7 = .ok (.if_icmp .ge 21, 3) := by decide +kernel
theorem dX7_copies_10 : decode cX7_copies 10 = .ok (.aload_n 2, 1) := by decide +kernel
theorem dX7_copies_11 : decode cX7_copies 11 = .ok (.iload_n 3, 1) := by decide +kernel
theorem dX7_copies_12 : decode cX7_copies 12 = .ok (.iload 4, 2) := by decide +kernel
theorem dX7_copies_14 : decode cX7_copies 14 = .ok (.iadd, 1) := by decide +kernel
theorem dX7_copies_15 : decode cX7_copies 15 = .ok (.aload_n 0, 1) := by decide +kernel
theorem dX7_copies_16 : decode cX7_copies 16 = .ok (.iload_n 1, 1) := by decide +kernel
theorem dX7_copies_17 : decode cX7_copies 17 = .ok (.iload 4, 2) := by decide +kernel
theorem dX7_copies_19 : decode cX7_copies 19 = .ok (.iadd, 1) := by decide +kernel
theorem dX7_copies_20 : decode cX7_copies 20 = .ok (.iaload, 1) := by decide +kernel
theorem dX7_copies_21 : decode cX7_copies 21 = .ok (.iastore, 1) := by decide +kernel
theorem dX7_copies_22 : decode cX7_copies 22 = .ok (.iinc 4 1, 3) := by decide +kernel
theorem dX7_copies_25 : decode cX7_copies 25 = .ok (.goto (-22), 3) := by decide +kernel
theorem dX7_copies_28 : decode cX7_copies 28 = .ok (.return_, 1) := by decide +kernel
theorem dX7_record_0 : decode cX7_record 0 = .ok (.aload_n 0, 1) := by decide +kernel
theorem dX7_record_1 : decode cX7_record 1 = .ok (.getfield 22, 3) := by decide +kernel
theorem dX7_record_4 : decode cX7_record 4 = .ok (.bipush 6, 2) := by decide +kernel
theorem dX7_record_6 : decode cX7_record 6 = .ok (.if_icmp .ne 43, 3) := by decide +kernel
theorem dX7_record_9 : decode cX7_record 9 = .ok (.iconst 0, 1) := by decide +kernel
theorem dX7_record_10 : decode cX7_record 10 = .ok (.istore_n 1, 1) := by decide +kernel
theorem dX7_record_11 : decode cX7_record 11 = .ok (.iload_n 1, 1) := by decide +kernel
theorem dX7_record_12 : decode cX7_record 12 = .ok (.sipush 520, 3) := by decide +kernel
theorem dX7_record_15 : decode cX7_record 15 = .ok (.if_icmp .ge 24, 3) := by decide +kernel
theorem dX7_record_18 : decode cX7_record 18 = .ok (.aload_n 0, 1) := by decide +kernel
theorem dX7_record_19 : decode cX7_record 19 = .ok (.getfield 16, 3) := by decide +kernel
theorem dX7_record_22 : decode cX7_record 22 = .ok (.iload_n 1, 1) := by decide +kernel
theorem dX7_record_23 : decode cX7_record 23 = .ok (.aload_n 0, 1) := by decide +kernel
theorem dX7_record_24 : decode cX7_record 24 = .ok (.getfield 16, 3) := by decide +kernel
theorem dX7_record_27 : decode cX7_record 27 = .ok (.iload_n 1, 1) := by decide +kernel
theorem dX7_record_28 : decode cX7_record 28 = .ok (.bipush 104, 2) := by decide +kernel
theorem dX7_record_30 : decode cX7_record 30 = .ok (.iadd, 1) := by decide +kernel
theorem dX7_record_31 : decode cX7_record 31 = .ok (.iaload, 1) := by decide +kernel
theorem dX7_record_32 : decode cX7_record 32 = .ok (.iastore, 1) := by decide +kernel
theorem dX7_record_33 : decode cX7_record 33 = .ok (.iinc 1 1, 3) := by decide +kernel
theorem dX7_record_36 : decode cX7_record 36 = .ok (.goto (-25), 3) := by decide +kernel
theorem dX7_record_39 : decode cX7_record 39 = .ok (.aload_n 0, 1) := by decide +kernel
theorem dX7_record_40 : decode cX7_record 40 = .ok (.dup, 1) := by decide +kernel
theorem dX7_record_41 : decode cX7_record 41 = .ok (.getfield 22, 3) := by decide +kernel
theorem dX7_record_44 : decode cX7_record 44 = .ok (.iconst 1, 1) := by decide +kernel
theorem dX7_record_45 : decode cX7_record 45 = .ok (.isub, 1) := by decide +kernel
theorem dX7_record_46 : decode cX7_record 46 = .ok (.putfield 22, 3) := by decide +kernel
theorem dX7_record_49 : decode cX7_record 49 = .ok (.aload_n 0, 1) := by decide +kernel
theorem dX7_record_50 : decode cX7_record 50 = .ok (.getfield 7, 3) := by decide +kernel
theorem dX7_record_53 : decode cX7_record 53 = .ok (.iconst 0, 1) := by decide +kernel
theorem dX7_record_54 : decode cX7_record 54 = .ok (.aload_n 0, 1) := by decide +kernel
theorem dX7_record_55 : decode cX7_record 55 = .ok (.getfield 16, 3) := by decide +kernel
theorem dX7_record_58 : decode cX7_record 58 = .ok (.aload_n 0, 1) := by decide +kernel
theorem dX7_record_59 : decode cX7_record 59 = .ok (.getfield 22, 3) := by decide +kernel
theorem dX7_record_62 : decode cX7_record 62 = .ok (.bipush 104, 2) := by decide +kernel
theorem dX7_record_64 : decode cX7_record 64 = .ok (.imul, 1) := by decide +kernel
theorem dX7_record_65 : decode cX7_record 65 = .ok (.invokestatic 26, 3) := by decide +kernel
theorem dX7_record_68 : decode cX7_record 68 = .ok (.aload_n 0, 1) := by decide +kernel
theorem dX7_record_69 : decode cX7_record 69 = .ok (.dup, 1) := by decide +kernel
theorem dX7_record_70 : decode cX7_record 70 = .ok (.getfield 22, 3) := by decide +kernel
theorem dX7_record_73 : decode cX7_record 73 = .ok (.iconst 1, 1) := by decide +kernel
theorem dX7_record_74 : decode cX7_record 74 = .ok (.iadd, 1) := by decide +kernel
theorem dX7_record_75 : decode cX7_record 75 = .ok (.putfield 22, 3) := by decide +kernel
theorem dX7_record_78 : decode cX7_record 78 = .ok (.return_, 1) := by decide +kernel
theorem dX7_isSpan_0 : decode cX7_isSpan 0 = .ok (.iload_n 0, 1) := by decide +kernel
theorem dX7_isSpan_1 : decode cX7_isSpan 1 = .ok (.iconst 0, 1) := by decide +kernel
theorem dX7_isSpan_2 : decode cX7_isSpan 2 = .ok (.bipush 7, 2) := by decide +kernel
theorem dX7_isSpan_4 : decode cX7_isSpan 4 = .ok (.invokestatic 30, 3) := by decide +kernel
theorem dX7_isSpan_7 : decode cX7_isSpan 7 = .ok (.ireturn, 1) := by decide +kernel
theorem dX7_logs_0 : decode cX7_logs 0 = .ok (.bipush 74, 2) := by decide +kernel
theorem dX7_logs_2 : decode cX7_logs 2 = .ok (.iconst 3, 1) := by decide +kernel
theorem dX7_logs_3 : decode cX7_logs 3 = .ok (.aload_n 0, 1) := by decide +kernel
theorem dX7_logs_4 : decode cX7_logs 4 = .ok (.getfield 7, 3) := by decide +kernel
theorem dX7_logs_7 : decode cX7_logs 7 = .ok (.bipush 14, 2) := by decide +kernel
theorem dX7_logs_9 : decode cX7_logs 9 = .ok (.iaload, 1) := by decide +kernel
theorem dX7_logs_10 : decode cX7_logs 10 = .ok (.bipush 10, 2) := by decide +kernel
theorem dX7_logs_12 : decode cX7_logs 12 = .ok (.irem, 1) := by decide +kernel
theorem dX7_logs_13 : decode cX7_logs 13 = .ok (.imul, 1) := by decide +kernel
theorem dX7_logs_14 : decode cX7_logs 14 = .ok (.iadd, 1) := by decide +kernel
theorem dX7_logs_15 : decode cX7_logs 15 = .ok (.istore_n 3, 1) := by decide +kernel
theorem dX7_logs_16 : decode cX7_logs 16 = .ok (.aload_n 0, 1) := by decide +kernel
theorem dX7_logs_17 : decode cX7_logs 17 = .ok (.getfield 7, 3) := by decide +kernel
theorem dX7_logs_20 : decode cX7_logs 20 = .ok (.iload_n 3, 1) := by decide +kernel
theorem dX7_logs_21 : decode cX7_logs 21 = .ok (.aload_n 0, 1) := by decide +kernel
theorem dX7_logs_22 : decode cX7_logs 22 = .ok (.getfield 7, 3) := by decide +kernel
theorem dX7_logs_25 : decode cX7_logs 25 = .ok (.iconst 0, 1) := by decide +kernel
theorem dX7_logs_26 : decode cX7_logs 26 = .ok (.iaload, 1) := by decide +kernel
theorem dX7_logs_27 : decode cX7_logs 27 = .ok (.iastore, 1) := by decide +kernel
theorem dX7_logs_28 : decode cX7_logs 28 = .ok (.aload_n 0, 1) := by decide +kernel
theorem dX7_logs_29 : decode cX7_logs 29 = .ok (.getfield 7, 3) := by decide +kernel
theorem dX7_logs_32 : decode cX7_logs 32 = .ok (.iload_n 3, 1) := by decide +kernel
theorem dX7_logs_33 : decode cX7_logs 33 = .ok (.iconst 1, 1) := by decide +kernel
theorem dX7_logs_34 : decode cX7_logs 34 = .ok (.iadd, 1) := by decide +kernel
theorem dX7_logs_35 : decode cX7_logs 35 = .ok (.iload_n 1, 1) := by decide +kernel
theorem dX7_logs_36 : decode cX7_logs 36 = .ok (.iastore, 1) := by decide +kernel
theorem dX7_logs_37 : decode cX7_logs 37 = .ok (.aload_n 0, 1) := by decide +kernel
theorem dX7_logs_38 : decode cX7_logs 38 = .ok (.getfield 7, 3) := by decide +kernel
theorem dX7_logs_41 : decode cX7_logs 41 = .ok (.iload_n 3, 1) := by decide +kernel
theorem dX7_logs_42 : decode cX7_logs 42 = .ok (.iconst 2, 1) := by decide +kernel
theorem dX7_logs_43 : decode cX7_logs 43 = .ok (.iadd, 1) := by decide +kernel
theorem dX7_logs_44 : decode cX7_logs 44 = .ok (.iload_n 2, 1) := by decide +kernel
theorem dX7_logs_45 : decode cX7_logs 45 = .ok (.iastore, 1) := by decide +kernel
theorem dX7_logs_46 : decode cX7_logs 46 = .ok (.aload_n 0, 1) := by decide +kernel
theorem dX7_logs_47 : decode cX7_logs 47 = .ok (.getfield 7, 3) := by decide +kernel
theorem dX7_logs_50 : decode cX7_logs 50 = .ok (.bipush 14, 2) := by decide +kernel
theorem dX7_logs_52 : decode cX7_logs 52 = .ok (.dup2, 1) := by decide +kernel
theorem dX7_logs_53 : decode cX7_logs 53 = .ok (.iaload, 1) := by decide +kernel
theorem dX7_logs_54 : decode cX7_logs 54 = .ok (.iconst 1, 1) := by decide +kernel
theorem dX7_logs_55 : decode cX7_logs 55 = .ok (.iadd, 1) := by decide +kernel
theorem dX7_logs_56 : decode cX7_logs 56 = .ok (.iastore, 1) := by decide +kernel
theorem dX7_logs_57 : decode cX7_logs 57 = .ok (.return_, 1) := by decide +kernel
theorem dX7_entriesMany_0 : decode cX7_entriesMany 0 = .ok (.aload_n 0, 1) := by decide +kernel
theorem dX7_entriesMany_1 : decode cX7_entriesMany 1 = .ok (.getfield 7, 3) := by decide +kernel
theorem dX7_entriesMany_4 : decode cX7_entriesMany 4 = .ok (.bipush 14, 2) := by decide +kernel
theorem dX7_entriesMany_6 : decode cX7_entriesMany 6 = .ok (.iaload, 1) := by decide +kernel
theorem dX7_entriesMany_7 : decode cX7_entriesMany 7 = .ok (.bipush 10, 2) := by decide +kernel
theorem dX7_entriesMany_9 : decode cX7_entriesMany 9 = .ok (.if_icmp .ge 13, 3) := by decide +kernel
theorem dX7_entriesMany_12 : decode cX7_entriesMany 12 = .ok (.aload_n 0, 1) := by decide +kernel
theorem dX7_entriesMany_13 : decode cX7_entriesMany 13 = .ok (.getfield 7, 3) := by decide +kernel
theorem dX7_entriesMany_16 : decode cX7_entriesMany 16 = .ok (.bipush 14, 2) := by decide +kernel
theorem dX7_entriesMany_18 : decode cX7_entriesMany 18 = .ok (.iaload, 1) := by decide +kernel
theorem dX7_entriesMany_19 : decode cX7_entriesMany 19 = .ok (.goto 5, 3) := by decide +kernel
theorem dX7_entriesMany_22 : decode cX7_entriesMany 22 = .ok (.bipush 10, 2) := by decide +kernel
theorem dX7_entriesMany_24 : decode cX7_entriesMany 24 = .ok (.ireturn, 1) := by decide +kernel
theorem dX7_entryPart_0 : decode cX7_entryPart 0 = .ok (.aload_n 0, 1) := by decide +kernel
theorem dX7_entryPart_1 : decode cX7_entryPart 1 = .ok (.getfield 7, 3) := by decide +kernel
theorem dX7_entryPart_4 : decode cX7_entryPart 4 = .ok (.bipush 74, 2) := by decide +kernel
theorem dX7_entryPart_6 : decode cX7_entryPart 6 = .ok (.iconst 3, 1) := by decide +kernel
theorem dX7_entryPart_7 : decode cX7_entryPart 7 = .ok (.aload_n 0, 1) := by decide +kernel
theorem dX7_entryPart_8 : decode cX7_entryPart 8 = .ok (.getfield 7, 3) := by decide +kernel
theorem dX7_entryPart_11 : decode cX7_entryPart 11 = .ok (.bipush 14, 2) := by decide +kernel
theorem dX7_entryPart_13 : decode cX7_entryPart 13 = .ok (.iaload, 1) := by decide +kernel
theorem dX7_entryPart_14 : decode cX7_entryPart 14 = .ok (.aload_n 0, 1) := by decide +kernel
theorem dX7_entryPart_15 : decode cX7_entryPart 15 = .ok (.invokevirtual 34, 3) := by decide +kernel
theorem dX7_entryPart_18 : decode cX7_entryPart 18 = .ok (.isub, 1) := by decide +kernel
theorem dX7_entryPart_19 : decode cX7_entryPart 19 = .ok (.iload_n 1, 1) := by decide +kernel
theorem dX7_entryPart_20 : decode cX7_entryPart 20 = .ok (.iadd, 1) := by decide +kernel
theorem dX7_entryPart_21 : decode cX7_entryPart 21 = .ok (.bipush 10, 2) := by decide +kernel
theorem dX7_entryPart_23 : decode cX7_entryPart 23 = .ok (.irem, 1) := by decide +kernel
theorem dX7_entryPart_24 : decode cX7_entryPart 24 = .ok (.imul, 1) := by decide +kernel
theorem dX7_entryPart_25 : decode cX7_entryPart 25 = .ok (.iadd, 1) := by decide +kernel
theorem dX7_entryPart_26 : decode cX7_entryPart 26 = .ok (.iload_n 2, 1) := by decide +kernel
theorem dX7_entryPart_27 : decode cX7_entryPart 27 = .ok (.iadd, 1) := by decide +kernel
theorem dX7_entryPart_28 : decode cX7_entryPart 28 = .ok (.iaload, 1) := by decide +kernel
theorem dX7_entryPart_29 : decode cX7_entryPart 29 = .ok (.ireturn, 1) := by decide +kernel
theorem dX7_word_0 : decode cX7_word 0 = .ok (.iload_n 0, 1) := by decide +kernel
theorem dX7_word_1 : decode cX7_word 1 = .ok (.tableswitch 55 1 5 #[35, 39, 43, 47, 51], 35) := by decide +kernel
theorem dX7_word_36 : decode cX7_word 36 = .ok (.ldc2_w 38, 3) := by decide +kernel
theorem dX7_word_39 : decode cX7_word 39 = .ok (.lreturn, 1) := by decide +kernel
theorem dX7_word_40 : decode cX7_word 40 = .ok (.ldc2_w 40, 3) := by decide +kernel
theorem dX7_word_43 : decode cX7_word 43 = .ok (.lreturn, 1) := by decide +kernel
theorem dX7_word_44 : decode cX7_word 44 = .ok (.ldc2_w 42, 3) := by decide +kernel
theorem dX7_word_47 : decode cX7_word 47 = .ok (.lreturn, 1) := by decide +kernel
theorem dX7_word_48 : decode cX7_word 48 = .ok (.ldc2_w 44, 3) := by decide +kernel
theorem dX7_word_51 : decode cX7_word 51 = .ok (.lreturn, 1) := by decide +kernel
theorem dX7_word_52 : decode cX7_word 52 = .ok (.ldc2_w 46, 3) := by decide +kernel
theorem dX7_word_55 : decode cX7_word 55 = .ok (.lreturn, 1) := by decide +kernel
theorem dX7_word_56 : decode cX7_word 56 = .ok (.ldc2_w 48, 3) := by decide +kernel
theorem dX7_word_59 : decode cX7_word 59 = .ok (.lreturn, 1) := by decide +kernel
theorem dX7_digits_0 : decode cX7_digits 0 = .ok (.iconst 1, 1) := by decide +kernel
theorem dX7_digits_1 : decode cX7_digits 1 = .ok (.istore_n 1, 1) := by decide +kernel
theorem dX7_digits_2 : decode cX7_digits 2 = .ok (.iload_n 0, 1) := by decide +kernel
theorem dX7_digits_3 : decode cX7_digits 3 = .ok (.bipush 10, 2) := by decide +kernel
theorem dX7_digits_5 : decode cX7_digits 5 = .ok (.idiv, 1) := by decide +kernel
theorem dX7_digits_6 : decode cX7_digits 6 = .ok (.istore_n 2, 1) := by decide +kernel
theorem dX7_digits_7 : decode cX7_digits 7 = .ok (.iload_n 2, 1) := by decide +kernel
theorem dX7_digits_8 : decode cX7_digits 8 = .ok (.ifCond .le 14, 3) := by decide +kernel
theorem dX7_digits_11 : decode cX7_digits 11 = .ok (.iinc 1 1, 3) := by decide +kernel
theorem dX7_digits_14 : decode cX7_digits 14 = .ok (.iload_n 2, 1) := by decide +kernel
theorem dX7_digits_15 : decode cX7_digits 15 = .ok (.bipush 10, 2) := by decide +kernel
theorem dX7_digits_17 : decode cX7_digits 17 = .ok (.idiv, 1) := by decide +kernel
theorem dX7_digits_18 : decode cX7_digits 18 = .ok (.istore_n 2, 1) := by decide +kernel
theorem dX7_digits_19 : decode cX7_digits 19 = .ok (.goto (-12), 3) := by decide +kernel
theorem dX7_digits_22 : decode cX7_digits 22 = .ok (.iload_n 1, 1) := by decide +kernel
theorem dX7_digits_23 : decode cX7_digits 23 = .ok (.ireturn, 1) := by decide +kernel
theorem dX7_letters_0 : decode cX7_letters 0 = .ok (.iconst 0, 1) := by decide +kernel
theorem dX7_letters_1 : decode cX7_letters 1 = .ok (.istore_n 1, 1) := by decide +kernel
theorem dX7_letters_2 : decode cX7_letters 2 = .ok (.iload_n 0, 1) := by decide +kernel
theorem dX7_letters_3 : decode cX7_letters 3 = .ok (.invokestatic 50, 3) := by decide +kernel
theorem dX7_letters_6 : decode cX7_letters 6 = .ok (.lstore_n 2, 1) := by decide +kernel
theorem dX7_letters_7 : decode cX7_letters 7 = .ok (.lload_n 2, 1) := by decide +kernel
theorem dX7_letters_8 : decode cX7_letters 8 = .ok (.lconst 0, 1) := by decide +kernel
theorem dX7_letters_9 : decode cX7_letters 9 = .ok (.lcmp, 1) := by decide +kernel
theorem dX7_letters_10 : decode cX7_letters 10 = .ok (.ifCond .le 14, 3) := by decide +kernel
theorem dX7_letters_13 : decode cX7_letters 13 = .ok (.iinc 1 1, 3) := by decide +kernel
theorem dX7_letters_16 : decode cX7_letters 16 = .ok (.lload_n 2, 1) := by decide +kernel
theorem dX7_letters_17 : decode cX7_letters 17 = .ok (.bipush 8, 2) := by decide +kernel
theorem dX7_letters_19 : decode cX7_letters 19 = .ok (.lshr, 1) := by decide +kernel
theorem dX7_letters_20 : decode cX7_letters 20 = .ok (.lstore_n 2, 1) := by decide +kernel
theorem dX7_letters_21 : decode cX7_letters 21 = .ok (.goto (-14), 3) := by decide +kernel
theorem dX7_letters_24 : decode cX7_letters 24 = .ok (.iload_n 1, 1) := by decide +kernel
theorem dX7_letters_25 : decode cX7_letters 25 = .ok (.ireturn, 1) := by decide +kernel
theorem dX7_lineLength_0 : decode cX7_lineLength 0 = .ok (.aload_n 0, 1) := by decide +kernel
theorem dX7_lineLength_1 : decode cX7_lineLength 1 = .ok (.iload_n 1, 1) := by decide +kernel
theorem dX7_lineLength_2 : decode cX7_lineLength 2 = .ok (.iconst 0, 1) := by decide +kernel
theorem dX7_lineLength_3 : decode cX7_lineLength 3 = .ok (.invokevirtual 54, 3) := by decide +kernel
theorem dX7_lineLength_6 : decode cX7_lineLength 6 = .ok (.invokestatic 58, 3) := by decide +kernel
theorem dX7_lineLength_9 : decode cX7_lineLength 9 = .ok (.aload_n 0, 1) := by decide +kernel
theorem dX7_lineLength_10 : decode cX7_lineLength 10 = .ok (.iload_n 1, 1) := by decide +kernel
theorem dX7_lineLength_11 : decode cX7_lineLength 11 = .ok (.iconst 1, 1) := by decide +kernel
theorem dX7_lineLength_12 : decode cX7_lineLength 12 = .ok (.invokevirtual 54, 3) := by decide +kernel
theorem dX7_lineLength_15 : decode cX7_lineLength 15 = .ok (.invokestatic 62, 3) := by decide +kernel
theorem dX7_lineLength_18 : decode cX7_lineLength 18 = .ok (.iadd, 1) := by decide +kernel
theorem dX7_lineLength_19 : decode cX7_lineLength 19 = .ok (.iconst 3, 1) := by decide +kernel
theorem dX7_lineLength_20 : decode cX7_lineLength 20 = .ok (.iadd, 1) := by decide +kernel
theorem dX7_lineLength_21 : decode cX7_lineLength 21 = .ok (.ireturn, 1) := by decide +kernel
theorem dX7_lineCharacter_0 : decode cX7_lineCharacter 0 = .ok (.aload_n 0, 1) := by decide +kernel
theorem dX7_lineCharacter_1 : decode cX7_lineCharacter 1 = .ok (.iload_n 1, 1) := by decide +kernel
theorem dX7_lineCharacter_2 : decode cX7_lineCharacter 2 = .ok (.iconst 0, 1) := by decide +kernel
theorem dX7_lineCharacter_3 : decode cX7_lineCharacter 3 = .ok (.invokevirtual 54, 3) := by decide +kernel
theorem dX7_lineCharacter_6 : decode cX7_lineCharacter 6 = .ok (.istore_n 3, 1) := by decide +kernel
theorem dX7_lineCharacter_7 : decode cX7_lineCharacter 7 = .ok (.iload_n 3, 1) := by decide +kernel
theorem dX7_lineCharacter_8 : decode cX7_lineCharacter 8 = .ok (.invokestatic 58, 3) := by decide +kernel
theorem dX7_lineCharacter_11 : decode cX7_lineCharacter 11 = .ok (.istore 4, 2) := by decide +kernel
theorem dX7_lineCharacter_13 : decode cX7_lineCharacter 13 = .ok (.iload_n 2, 1) := by decide +kernel
theorem dX7_lineCharacter_14 : decode cX7_lineCharacter 14 = .ok (.iload 4, 2) := by decide +kernel
theorem dX7_lineCharacter_16 : decode cX7_lineCharacter 16 = .ok (.if_icmp .ge 34, 3) := by decide +kernel
theorem dX7_lineCharacter_19 : decode cX7_lineCharacter 19 = .ok (.iload 4, 2) := by decide +kernel
theorem dX7_lineCharacter_21 : decode cX7_lineCharacter 21 = .ok (.iconst 1, 1) := by decide +kernel
theorem dX7_lineCharacter_22 : decode cX7_lineCharacter 22 = .ok (.isub, 1) := by decide +kernel
theorem dX7_lineCharacter_23 : decode cX7_lineCharacter 23 = .ok (.istore 5, 2) := by decide +kernel
theorem dX7_lineCharacter_25 : decode cX7_lineCharacter 25 = .ok (.iload 5, 2) := by decide +kernel
theorem dX7_lineCharacter_27 : decode cX7_lineCharacter 27 = .ok (.iload_n 2, 1) := by decide +kernel
theorem dX7_lineCharacter_28 : decode cX7_lineCharacter 28 = .ok (.if_icmp .le 14, 3) := by decide +kernel
theorem dX7_lineCharacter_31 : decode cX7_lineCharacter 31 = .ok (.iload_n 3, 1) := by decide +kernel
theorem dX7_lineCharacter_32 : decode cX7_lineCharacter 32 = .ok (.bipush 10, 2) := by decide +kernel
theorem dX7_lineCharacter_34 : decode cX7_lineCharacter 34 = .ok (.idiv, 1) := by decide +kernel
theorem dX7_lineCharacter_35 : decode cX7_lineCharacter 35 = .ok (.istore_n 3, 1) := by decide +kernel
theorem dX7_lineCharacter_36 : decode cX7_lineCharacter 36 = .ok (.iinc 5 (-1), 3) := by decide +kernel
theorem dX7_lineCharacter_39 : decode cX7_lineCharacter 39 = .ok (.goto (-14), 3) := by decide +kernel
theorem dX7_lineCharacter_42 : decode cX7_lineCharacter 42 = .ok (.bipush 48, 2) := by decide +kernel
theorem dX7_lineCharacter_44 : decode cX7_lineCharacter 44 = .ok (.iload_n 3, 1) := by decide +kernel
theorem dX7_lineCharacter_45 : decode cX7_lineCharacter 45 = .ok (.bipush 10, 2) := by decide +kernel
theorem dX7_lineCharacter_47 : decode cX7_lineCharacter 47 = .ok (.irem, 1) := by decide +kernel
theorem dX7_lineCharacter_48 : decode cX7_lineCharacter 48 = .ok (.iadd, 1) := by decide +kernel
theorem dX7_lineCharacter_49 : decode cX7_lineCharacter 49 = .ok (.ireturn, 1) := by decide +kernel
theorem dX7_lineCharacter_50 : decode cX7_lineCharacter 50 = .ok (.iload_n 2, 1) := by decide +kernel
theorem dX7_lineCharacter_51 : decode cX7_lineCharacter 51 = .ok (.iload 4, 2) := by decide +kernel
theorem dX7_lineCharacter_53 : decode cX7_lineCharacter 53 = .ok (.isub, 1) := by decide +kernel
theorem dX7_lineCharacter_54 : decode cX7_lineCharacter 54 = .ok (.iconst 1, 1) := by decide +kernel
theorem dX7_lineCharacter_55 : decode cX7_lineCharacter 55 = .ok (.isub, 1) := by decide +kernel
theorem dX7_lineCharacter_56 : decode cX7_lineCharacter 56 = .ok (.istore 5, 2) := by decide +kernel
theorem dX7_lineCharacter_58 : decode cX7_lineCharacter 58 = .ok (.aload_n 0, 1) := by decide +kernel
theorem dX7_lineCharacter_59 : decode cX7_lineCharacter 59 = .ok (.iload_n 1, 1) := by decide +kernel
theorem dX7_lineCharacter_60 : decode cX7_lineCharacter 60 = .ok (.iconst 1, 1) := by decide +kernel
theorem dX7_lineCharacter_61 : decode cX7_lineCharacter 61 = .ok (.invokevirtual 54, 3) := by decide +kernel
theorem dX7_lineCharacter_64 : decode cX7_lineCharacter 64 = .ok (.invokestatic 62, 3) := by decide +kernel
theorem dX7_lineCharacter_67 : decode cX7_lineCharacter 67 = .ok (.istore 6, 2) := by decide +kernel
theorem dX7_lineCharacter_69 : decode cX7_lineCharacter 69 = .ok (.iload 5, 2) := by decide +kernel
theorem dX7_lineCharacter_71 : decode cX7_lineCharacter 71 = .ok (.iconst (-1), 1) := by decide +kernel
theorem dX7_lineCharacter_72 : decode cX7_lineCharacter 72 = .ok (.if_icmp .eq 10, 3) := by decide +kernel
theorem dX7_lineCharacter_75 : decode cX7_lineCharacter 75 = .ok (.iload 5, 2) := by decide +kernel
theorem dX7_lineCharacter_77 : decode cX7_lineCharacter 77 = .ok (.iload 6, 2) := by decide +kernel
theorem dX7_lineCharacter_79 : decode cX7_lineCharacter 79 = .ok (.if_icmp .ne 6, 3) := by decide +kernel
theorem dX7_lineCharacter_82 : decode cX7_lineCharacter 82 = .ok (.bipush 32, 2) := by decide +kernel
theorem dX7_lineCharacter_84 : decode cX7_lineCharacter 84 = .ok (.ireturn, 1) := by decide +kernel
theorem dX7_lineCharacter_85 : decode cX7_lineCharacter 85 = .ok (.iload 5, 2) := by decide +kernel
theorem dX7_lineCharacter_87 : decode cX7_lineCharacter 87 = .ok (.iload 6, 2) := by decide +kernel
theorem dX7_lineCharacter_89 : decode cX7_lineCharacter 89 = .ok (.if_icmp .ge 26, 3) := by decide +kernel
theorem dX7_lineCharacter_92 : decode cX7_lineCharacter 92 = .ok (.aload_n 0, 1) := by decide +kernel
theorem dX7_lineCharacter_93 : decode cX7_lineCharacter 93 = .ok (.iload_n 1, 1) := by decide +kernel
theorem dX7_lineCharacter_94 : decode cX7_lineCharacter 94 = .ok (.iconst 1, 1) := by decide +kernel
theorem dX7_lineCharacter_95 : decode cX7_lineCharacter 95 = .ok (.invokevirtual 54, 3) := by decide +kernel
theorem dX7_lineCharacter_98 : decode cX7_lineCharacter 98 = .ok (.invokestatic 50, 3) := by decide +kernel
theorem dX7_lineCharacter_101 : decode cX7_lineCharacter 101 = .ok (.bipush 8, 2) := by decide +kernel
theorem dX7_lineCharacter_103 : decode cX7_lineCharacter 103 = .ok (.iload 5, 2) := by decide +kernel
theorem dX7_lineCharacter_105 : decode cX7_lineCharacter 105 = .ok (.imul, 1) := by decide +kernel
theorem dX7_lineCharacter_106 : decode cX7_lineCharacter 106 = .ok (.lshr, 1) := by decide +kernel
theorem dX7_lineCharacter_107 : decode cX7_lineCharacter 107 = .ok (.ldc2_w 65, 3) := by decide +kernel
theorem dX7_lineCharacter_110 : decode cX7_lineCharacter 110 = .ok (.land, 1) := by decide +kernel
theorem dX7_lineCharacter_111 : decode cX7_lineCharacter 111 = .ok (.l2i, 1) := by decide +kernel
theorem dX7_lineCharacter_112 : decode cX7_lineCharacter 112 = .ok (.goto 12, 3) := by decide +kernel
theorem dX7_lineCharacter_115 : decode cX7_lineCharacter 115 = .ok (.bipush 48, 2) := by decide +kernel
theorem dX7_lineCharacter_117 : decode cX7_lineCharacter 117 = .ok (.aload_n 0, 1) := by decide +kernel
theorem dX7_lineCharacter_118 : decode cX7_lineCharacter 118 = .ok (.iload_n 1, 1) := by decide +kernel
theorem dX7_lineCharacter_119 : decode cX7_lineCharacter 119 = .ok (.iconst 2, 1) := by decide +kernel
theorem dX7_lineCharacter_120 : decode cX7_lineCharacter 120 = .ok (.invokevirtual 54, 3) := by decide +kernel
theorem dX7_lineCharacter_123 : decode cX7_lineCharacter 123 = .ok (.iadd, 1) := by decide +kernel
theorem dX7_lineCharacter_124 : decode cX7_lineCharacter 124 = .ok (.ireturn, 1) := by decide +kernel
theorem dX7_spotSpan_0 : decode cX7_spotSpan 0 = .ok (.aload_n 0, 1) := by decide +kernel
theorem dX7_spotSpan_1 : decode cX7_spotSpan 1 = .ok (.getfield 7, 3) := by decide +kernel
theorem dX7_spotSpan_4 : decode cX7_spotSpan 4 = .ok (.bipush 34, 2) := by decide +kernel
theorem dX7_spotSpan_6 : decode cX7_spotSpan 6 = .ok (.iconst 2, 1) := by decide +kernel
theorem dX7_spotSpan_7 : decode cX7_spotSpan 7 = .ok (.iload_n 1, 1) := by decide +kernel
theorem dX7_spotSpan_8 : decode cX7_spotSpan 8 = .ok (.imul, 1) := by decide +kernel
theorem dX7_spotSpan_9 : decode cX7_spotSpan 9 = .ok (.iadd, 1) := by decide +kernel
theorem dX7_spotSpan_10 : decode cX7_spotSpan 10 = .ok (.iaload, 1) := by decide +kernel
theorem dX7_spotSpan_11 : decode cX7_spotSpan 11 = .ok (.ireturn, 1) := by decide +kernel
theorem dX7_spotTries_0 : decode cX7_spotTries 0 = .ok (.aload_n 0, 1) := by decide +kernel
theorem dX7_spotTries_1 : decode cX7_spotTries 1 = .ok (.getfield 7, 3) := by decide +kernel
theorem dX7_spotTries_4 : decode cX7_spotTries 4 = .ok (.bipush 34, 2) := by decide +kernel
theorem dX7_spotTries_6 : decode cX7_spotTries 6 = .ok (.iconst 2, 1) := by decide +kernel
theorem dX7_spotTries_7 : decode cX7_spotTries 7 = .ok (.iload_n 1, 1) := by decide +kernel
theorem dX7_spotTries_8 : decode cX7_spotTries 8 = .ok (.imul, 1) := by decide +kernel
theorem dX7_spotTries_9 : decode cX7_spotTries 9 = .ok (.iadd, 1) := by decide +kernel
theorem dX7_spotTries_10 : decode cX7_spotTries 10 = .ok (.iconst 1, 1) := by decide +kernel
theorem dX7_spotTries_11 : decode cX7_spotTries 11 = .ok (.iadd, 1) := by decide +kernel
theorem dX7_spotTries_12 : decode cX7_spotTries 12 = .ok (.iaload, 1) := by decide +kernel
theorem dX7_spotTries_13 : decode cX7_spotTries 13 = .ok (.ireturn, 1) := by decide +kernel
theorem dX7_age_0 : decode cX7_age 0 = .ok (.aload_n 0, 1) := by decide +kernel
theorem dX7_age_1 : decode cX7_age 1 = .ok (.getfield 7, 3) := by decide +kernel
theorem dX7_age_4 : decode cX7_age 4 = .ok (.iconst 0, 1) := by decide +kernel
theorem dX7_age_5 : decode cX7_age 5 = .ok (.iaload, 1) := by decide +kernel
theorem dX7_age_6 : decode cX7_age 6 = .ok (.aload_n 0, 1) := by decide +kernel
theorem dX7_age_7 : decode cX7_age 7 = .ok (.getfield 7, 3) := by decide +kernel
theorem dX7_age_10 : decode cX7_age 10 = .ok (.bipush 20, 2) := by decide +kernel
theorem dX7_age_12 : decode cX7_age 12 = .ok (.iload_n 1, 1) := by decide +kernel
theorem dX7_age_13 : decode cX7_age 13 = .ok (.iadd, 1) := by decide +kernel
theorem dX7_age_14 : decode cX7_age 14 = .ok (.iaload, 1) := by decide +kernel
theorem dX7_age_15 : decode cX7_age 15 = .ok (.isub, 1) := by decide +kernel
theorem dX7_age_16 : decode cX7_age 16 = .ok (.ireturn, 1) := by decide +kernel
theorem dX7_isDue_0 : decode cX7_isDue 0 = .ok (.aload_n 0, 1) := by decide +kernel
theorem dX7_isDue_1 : decode cX7_isDue 1 = .ok (.iload_n 1, 1) := by decide +kernel
theorem dX7_isDue_2 : decode cX7_isDue 2 = .ok (.invokevirtual 67, 3) := by decide +kernel
theorem dX7_isDue_5 : decode cX7_isDue 5 = .ok (.aload_n 0, 1) := by decide +kernel
theorem dX7_isDue_6 : decode cX7_isDue 6 = .ok (.getfield 7, 3) := by decide +kernel
theorem dX7_isDue_9 : decode cX7_isDue 9 = .ok (.bipush 19, 2) := by decide +kernel
theorem dX7_isDue_11 : decode cX7_isDue 11 = .ok (.iaload, 1) := by decide +kernel
theorem dX7_isDue_12 : decode cX7_isDue 12 = .ok (.iconst 2, 1) := by decide +kernel
theorem dX7_isDue_13 : decode cX7_isDue 13 = .ok (.idiv, 1) := by decide +kernel
theorem dX7_isDue_14 : decode cX7_isDue 14 = .ok (.if_icmp .lt 7, 3) := by decide +kernel
theorem dX7_isDue_17 : decode cX7_isDue 17 = .ok (.iconst 1, 1) := by decide +kernel
theorem dX7_isDue_18 : decode cX7_isDue 18 = .ok (.goto 4, 3) := by decide +kernel
theorem dX7_isDue_21 : decode cX7_isDue 21 = .ok (.iconst 0, 1) := by decide +kernel
theorem dX7_isDue_22 : decode cX7_isDue 22 = .ok (.ireturn, 1) := by decide +kernel
theorem dX7_sumOf_0 : decode cX7_sumOf 0 = .ok (.iconst 0, 1) := by decide +kernel
theorem dX7_sumOf_1 : decode cX7_sumOf 1 = .ok (.istore_n 3, 1) := by decide +kernel
theorem dX7_sumOf_2 : decode cX7_sumOf 2 = .ok (.iconst 0, 1) := by decide +kernel
theorem dX7_sumOf_3 : decode cX7_sumOf 3 = .ok (.istore 4, 2) := by decide +kernel
theorem dX7_sumOf_5 : decode cX7_sumOf 5 = .ok (.iload 4, 2) := by decide +kernel
theorem dX7_sumOf_7 : decode cX7_sumOf 7 = .ok (.aload_n 0, 1) := by decide +kernel
theorem dX7_sumOf_8 : decode cX7_sumOf 8 = .ok (.getfield 7, 3) := by decide +kernel
theorem dX7_sumOf_11 : decode cX7_sumOf 11 = .ok (.iconst 2, 1) := by decide +kernel
theorem dX7_sumOf_12 : decode cX7_sumOf 12 = .ok (.iaload, 1) := by decide +kernel
theorem dX7_sumOf_13 : decode cX7_sumOf 13 = .ok (.if_icmp .ge 50, 3) := by decide +kernel
theorem dX7_sumOf_16 : decode cX7_sumOf 16 = .ok (.aload_n 0, 1) := by decide +kernel
theorem dX7_sumOf_17 : decode cX7_sumOf 17 = .ok (.iload 4, 2) := by decide +kernel
theorem dX7_sumOf_19 : decode cX7_sumOf 19 = .ok (.invokevirtual 70, 3) := by decide +kernel
theorem dX7_sumOf_22 : decode cX7_sumOf 22 = .ok (.iload_n 2, 1) := by decide +kernel
theorem dX7_sumOf_23 : decode cX7_sumOf 23 = .ok (.if_icmp .ge 12, 3) := by decide +kernel
theorem dX7_sumOf_26 : decode cX7_sumOf 26 = .ok (.aload_n 0, 1) := by decide +kernel
theorem dX7_sumOf_27 : decode cX7_sumOf 27 = .ok (.iload 4, 2) := by decide +kernel
theorem dX7_sumOf_29 : decode cX7_sumOf 29 = .ok (.invokevirtual 70, 3) := by decide +kernel
theorem dX7_sumOf_32 : decode cX7_sumOf 32 = .ok (.goto 4, 3) := by decide +kernel
theorem dX7_sumOf_35 : decode cX7_sumOf 35 = .ok (.iload_n 2, 1) := by decide +kernel
theorem dX7_sumOf_36 : decode cX7_sumOf 36 = .ok (.istore 5, 2) := by decide +kernel
theorem dX7_sumOf_38 : decode cX7_sumOf 38 = .ok (.iload_n 3, 1) := by decide +kernel
theorem dX7_sumOf_39 : decode cX7_sumOf 39 = .ok (.aload_n 0, 1) := by decide +kernel
theorem dX7_sumOf_40 : decode cX7_sumOf 40 = .ok (.iload 4, 2) := by decide +kernel
theorem dX7_sumOf_42 : decode cX7_sumOf 42 = .ok (.invokevirtual 73, 3) := by decide +kernel
theorem dX7_sumOf_45 : decode cX7_sumOf 45 = .ok (.iload_n 1, 1) := by decide +kernel
theorem dX7_sumOf_46 : decode cX7_sumOf 46 = .ok (.if_icmp .ne 8, 3) := by decide +kernel
theorem dX7_sumOf_49 : decode cX7_sumOf 49 = .ok (.iload 5, 2) := by decide +kernel
theorem dX7_sumOf_51 : decode cX7_sumOf 51 = .ok (.goto 4, 3) := by decide +kernel
theorem dX7_sumOf_54 : decode cX7_sumOf 54 = .ok (.iconst 0, 1) := by decide +kernel
theorem dX7_sumOf_55 : decode cX7_sumOf 55 = .ok (.iadd, 1) := by decide +kernel
theorem dX7_sumOf_56 : decode cX7_sumOf 56 = .ok (.istore_n 3, 1) := by decide +kernel
theorem dX7_sumOf_57 : decode cX7_sumOf 57 = .ok (.iinc 4 1, 3) := by decide +kernel
theorem dX7_sumOf_60 : decode cX7_sumOf 60 = .ok (.goto (-55), 3) := by decide +kernel
theorem dX7_sumOf_63 : decode cX7_sumOf 63 = .ok (.iload_n 3, 1) := by decide +kernel
theorem dX7_sumOf_64 : decode cX7_sumOf 64 = .ok (.ireturn, 1) := by decide +kernel
theorem dX7_takes_0 : decode cX7_takes 0 = .ok (.aload_n 0, 1) := by decide +kernel
theorem dX7_takes_1 : decode cX7_takes 1 = .ok (.getfield 7, 3) := by decide +kernel
theorem dX7_takes_4 : decode cX7_takes 4 = .ok (.bipush 16, 2) := by decide +kernel
theorem dX7_takes_6 : decode cX7_takes 6 = .ok (.iaload, 1) := by decide +kernel
theorem dX7_takes_7 : decode cX7_takes 7 = .ok (.aload_n 0, 1) := by decide +kernel
theorem dX7_takes_8 : decode cX7_takes 8 = .ok (.getfield 7, 3) := by decide +kernel
theorem dX7_takes_11 : decode cX7_takes 11 = .ok (.bipush 17, 2) := by decide +kernel
theorem dX7_takes_13 : decode cX7_takes 13 = .ok (.iaload, 1) := by decide +kernel
theorem dX7_takes_14 : decode cX7_takes 14 = .ok (.aload_n 0, 1) := by decide +kernel
theorem dX7_takes_15 : decode cX7_takes 15 = .ok (.iload_n 1, 1) := by decide +kernel
theorem dX7_takes_16 : decode cX7_takes 16 = .ok (.aload_n 0, 1) := by decide +kernel
theorem dX7_takes_17 : decode cX7_takes 17 = .ok (.getfield 7, 3) := by decide +kernel
theorem dX7_takes_20 : decode cX7_takes 20 = .ok (.bipush 18, 2) := by decide +kernel
theorem dX7_takes_22 : decode cX7_takes 22 = .ok (.iaload, 1) := by decide +kernel
theorem dX7_takes_23 : decode cX7_takes 23 = .ok (.invokevirtual 76, 3) := by decide +kernel
theorem dX7_takes_26 : decode cX7_takes 26 = .ok (.imul, 1) := by decide +kernel
theorem dX7_takes_27 : decode cX7_takes 27 = .ok (.iadd, 1) := by decide +kernel
theorem dX7_takes_28 : decode cX7_takes 28 = .ok (.ireturn, 1) := by decide +kernel
theorem dX7_placeOf_0 : decode cX7_placeOf 0 = .ok (.bipush (-6), 2) := by decide +kernel
theorem dX7_placeOf_2 : decode cX7_placeOf 2 = .ok (.istore_n 2, 1) := by decide +kernel
theorem dX7_placeOf_3 : decode cX7_placeOf 3 = .ok (.iconst 0, 1) := by decide +kernel
theorem dX7_placeOf_4 : decode cX7_placeOf 4 = .ok (.istore_n 3, 1) := by decide +kernel
theorem dX7_placeOf_5 : decode cX7_placeOf 5 = .ok (.iload_n 3, 1) := by decide +kernel
theorem dX7_placeOf_6 : decode cX7_placeOf 6 = .ok (.aload_n 0, 1) := by decide +kernel
theorem dX7_placeOf_7 : decode cX7_placeOf 7 = .ok (.getfield 7, 3) := by decide +kernel
theorem dX7_placeOf_10 : decode cX7_placeOf 10 = .ok (.bipush 8, 2) := by decide +kernel
theorem dX7_placeOf_12 : decode cX7_placeOf 12 = .ok (.iaload, 1) := by decide +kernel
theorem dX7_placeOf_13 : decode cX7_placeOf 13 = .ok (.if_icmp .ge 28, 3) := by decide +kernel
theorem dX7_placeOf_16 : decode cX7_placeOf 16 = .ok (.aload_n 0, 1) := by decide +kernel
theorem dX7_placeOf_17 : decode cX7_placeOf 17 = .ok (.getfield 7, 3) := by decide +kernel
theorem dX7_placeOf_20 : decode cX7_placeOf 20 = .ok (.bipush 28, 2) := by decide +kernel
theorem dX7_placeOf_22 : decode cX7_placeOf 22 = .ok (.iload_n 3, 1) := by decide +kernel
theorem dX7_placeOf_23 : decode cX7_placeOf 23 = .ok (.iadd, 1) := by decide +kernel
theorem dX7_placeOf_24 : decode cX7_placeOf 24 = .ok (.iaload, 1) := by decide +kernel
theorem dX7_placeOf_25 : decode cX7_placeOf 25 = .ok (.iload_n 1, 1) := by decide +kernel
theorem dX7_placeOf_26 : decode cX7_placeOf 26 = .ok (.if_icmp .ne 7, 3) := by decide +kernel
theorem dX7_placeOf_29 : decode cX7_placeOf 29 = .ok (.iload_n 3, 1) := by decide +kernel
theorem dX7_placeOf_30 : decode cX7_placeOf 30 = .ok (.goto 4, 3) := by decide +kernel
theorem dX7_placeOf_33 : decode cX7_placeOf 33 = .ok (.iload_n 2, 1) := by decide +kernel
theorem dX7_placeOf_34 : decode cX7_placeOf 34 = .ok (.istore_n 2, 1) := by decide +kernel
theorem dX7_placeOf_35 : decode cX7_placeOf 35 = .ok (.iinc 3 1, 3) := by decide +kernel
theorem dX7_placeOf_38 : decode cX7_placeOf 38 = .ok (.goto (-33), 3) := by decide +kernel
theorem dX7_placeOf_41 : decode cX7_placeOf 41 = .ok (.iload_n 2, 1) := by decide +kernel
theorem dX7_placeOf_42 : decode cX7_placeOf 42 = .ok (.ireturn, 1) := by decide +kernel
theorem dX7_takesOut_0 : decode cX7_takesOut 0 = .ok (.aload_n 0, 1) := by decide +kernel
theorem dX7_takesOut_1 : decode cX7_takesOut 1 = .ok (.getfield 7, 3) := by decide +kernel
theorem dX7_takesOut_4 : decode cX7_takesOut 4 = .ok (.bipush 8, 2) := by decide +kernel
theorem dX7_takesOut_6 : decode cX7_takesOut 6 = .ok (.dup2, 1) := by decide +kernel
theorem dX7_takesOut_7 : decode cX7_takesOut 7 = .ok (.iaload, 1) := by decide +kernel
theorem dX7_takesOut_8 : decode cX7_takesOut 8 = .ok (.iconst 1, 1) := by decide +kernel
theorem dX7_takesOut_9 : decode cX7_takesOut 9 = .ok (.isub, 1) := by decide +kernel
theorem dX7_takesOut_10 : decode cX7_takesOut 10 = .ok (.iastore, 1) := by decide +kernel
theorem dX7_takesOut_11 : decode cX7_takesOut 11 = .ok (.iload_n 1, 1) := by decide +kernel
theorem dX7_takesOut_12 : decode cX7_takesOut 12 = .ok (.istore_n 2, 1) := by decide +kernel
theorem dX7_takesOut_13 : decode cX7_takesOut 13 = .ok (.iload_n 2, 1) := by decide +kernel
theorem dX7_takesOut_14 : decode cX7_takesOut 14 = .ok (.aload_n 0, 1) := by decide +kernel
theorem dX7_takesOut_15 : decode cX7_takesOut 15 = .ok (.getfield 7, 3) := by decide +kernel
theorem dX7_takesOut_18 : decode cX7_takesOut 18 = .ok (.bipush 8, 2) := by decide +kernel
theorem dX7_takesOut_20 : decode cX7_takesOut 20 = .ok (.iaload, 1) := by decide +kernel
theorem dX7_takesOut_21 : decode cX7_takesOut 21 = .ok (.if_icmp .ge 29, 3) := by decide +kernel
theorem dX7_takesOut_24 : decode cX7_takesOut 24 = .ok (.aload_n 0, 1) := by decide +kernel
theorem dX7_takesOut_25 : decode cX7_takesOut 25 = .ok (.getfield 7, 3) := by decide +kernel
theorem dX7_takesOut_28 : decode cX7_takesOut 28 = .ok (.bipush 28, 2) := by decide +kernel
theorem dX7_takesOut_30 : decode cX7_takesOut 30 = .ok (.iload_n 2, 1) := by decide +kernel
theorem dX7_takesOut_31 : decode cX7_takesOut 31 = .ok (.iadd, 1) := by decide +kernel
theorem dX7_takesOut_32 : decode cX7_takesOut 32 = .ok (.aload_n 0, 1) := by decide +kernel
theorem dX7_takesOut_33 : decode cX7_takesOut 33 = .ok (.getfield 7, 3) := by decide +kernel
theorem dX7_takesOut_36 : decode cX7_takesOut 36 = .ok (.bipush 28, 2) := by decide +kernel
theorem dX7_takesOut_38 : decode cX7_takesOut 38 = .ok (.iload_n 2, 1) := by decide +kernel
theorem dX7_takesOut_39 : decode cX7_takesOut 39 = .ok (.iadd, 1) := by decide +kernel
theorem dX7_takesOut_40 : decode cX7_takesOut 40 = .ok (.iconst 1, 1) := by decide +kernel
theorem dX7_takesOut_41 : decode cX7_takesOut 41 = .ok (.iadd, 1) := by decide +kernel
theorem dX7_takesOut_42 : decode cX7_takesOut 42 = .ok (.iaload, 1) := by decide +kernel
theorem dX7_takesOut_43 : decode cX7_takesOut 43 = .ok (.iastore, 1) := by decide +kernel
theorem dX7_takesOut_44 : decode cX7_takesOut 44 = .ok (.iinc 2 1, 3) := by decide +kernel
theorem dX7_takesOut_47 : decode cX7_takesOut 47 = .ok (.goto (-34), 3) := by decide +kernel
theorem dX7_takesOut_50 : decode cX7_takesOut 50 = .ok (.aload_n 0, 1) := by decide +kernel
theorem dX7_takesOut_51 : decode cX7_takesOut 51 = .ok (.getfield 7, 3) := by decide +kernel
theorem dX7_takesOut_54 : decode cX7_takesOut 54 = .ok (.bipush 28, 2) := by decide +kernel
theorem dX7_takesOut_56 : decode cX7_takesOut 56 = .ok (.aload_n 0, 1) := by decide +kernel
theorem dX7_takesOut_57 : decode cX7_takesOut 57 = .ok (.getfield 7, 3) := by decide +kernel
theorem dX7_takesOut_60 : decode cX7_takesOut 60 = .ok (.bipush 8, 2) := by decide +kernel
theorem dX7_takesOut_62 : decode cX7_takesOut 62 = .ok (.iaload, 1) := by decide +kernel
theorem dX7_takesOut_63 : decode cX7_takesOut 63 = .ok (.iadd, 1) := by decide +kernel
theorem dX7_takesOut_64 : decode cX7_takesOut 64 = .ok (.iconst 0, 1) := by decide +kernel
theorem dX7_takesOut_65 : decode cX7_takesOut 65 = .ok (.iastore, 1) := by decide +kernel
theorem dX7_takesOut_66 : decode cX7_takesOut 66 = .ok (.return_, 1) := by decide +kernel
theorem dX7_bestDue_0 : decode cX7_bestDue 0 = .ok (.bipush (-6), 2) := by decide +kernel
theorem dX7_bestDue_2 : decode cX7_bestDue 2 = .ok (.istore_n 1, 1) := by decide +kernel
theorem dX7_bestDue_3 : decode cX7_bestDue 3 = .ok (.aload_n 0, 1) := by decide +kernel
theorem dX7_bestDue_4 : decode cX7_bestDue 4 = .ok (.getfield 7, 3) := by decide +kernel
theorem dX7_bestDue_7 : decode cX7_bestDue 7 = .ok (.bipush 13, 2) := by decide +kernel
theorem dX7_bestDue_9 : decode cX7_bestDue 9 = .ok (.iaload, 1) := by decide +kernel
theorem dX7_bestDue_10 : decode cX7_bestDue 10 = .ok (.bipush (-6), 2) := by decide +kernel
theorem dX7_bestDue_12 : decode cX7_bestDue 12 = .ok (.if_icmp .ne 8, 3) := by decide +kernel
theorem dX7_bestDue_15 : decode cX7_bestDue 15 = .ok (.bipush 7, 2) := by decide +kernel
theorem dX7_bestDue_17 : decode cX7_bestDue 17 = .ok (.goto 10, 3) := by decide +kernel
theorem dX7_bestDue_20 : decode cX7_bestDue 20 = .ok (.aload_n 0, 1) := by decide +kernel
theorem dX7_bestDue_21 : decode cX7_bestDue 21 = .ok (.getfield 7, 3) := by decide +kernel
theorem dX7_bestDue_24 : decode cX7_bestDue 24 = .ok (.bipush 13, 2) := by decide +kernel
theorem dX7_bestDue_26 : decode cX7_bestDue 26 = .ok (.iaload, 1) := by decide +kernel
theorem dX7_bestDue_27 : decode cX7_bestDue 27 = .ok (.istore_n 2, 1) := by decide +kernel
theorem dX7_bestDue_28 : decode cX7_bestDue 28 = .ok (.iconst 1, 1) := by decide +kernel
theorem dX7_bestDue_29 : decode cX7_bestDue 29 = .ok (.istore_n 3, 1) := by decide +kernel
theorem dX7_bestDue_30 : decode cX7_bestDue 30 = .ok (.iload_n 3, 1) := by decide +kernel
theorem dX7_bestDue_31 : decode cX7_bestDue 31 = .ok (.bipush 8, 2) := by decide +kernel
theorem dX7_bestDue_33 : decode cX7_bestDue 33 = .ok (.if_icmp .gt 118, 3) := by decide +kernel
theorem dX7_bestDue_36 : decode cX7_bestDue 36 = .ok (.aload_n 0, 1) := by decide +kernel
theorem dX7_bestDue_37 : decode cX7_bestDue 37 = .ok (.getfield 7, 3) := by decide +kernel
theorem dX7_bestDue_40 : decode cX7_bestDue 40 = .ok (.iconst 4, 1) := by decide +kernel
theorem dX7_bestDue_41 : decode cX7_bestDue 41 = .ok (.iaload, 1) := by decide +kernel
theorem dX7_bestDue_42 : decode cX7_bestDue 42 = .ok (.iconst 2, 1) := by decide +kernel
theorem dX7_bestDue_43 : decode cX7_bestDue 43 = .ok (.if_icmp .ne 12, 3) := by decide +kernel
theorem dX7_bestDue_46 : decode cX7_bestDue 46 = .ok (.iload_n 2, 1) := by decide +kernel
theorem dX7_bestDue_47 : decode cX7_bestDue 47 = .ok (.iload_n 3, 1) := by decide +kernel
theorem dX7_bestDue_48 : decode cX7_bestDue 48 = .ok (.iadd, 1) := by decide +kernel
theorem dX7_bestDue_49 : decode cX7_bestDue 49 = .ok (.bipush 8, 2) := by decide +kernel
theorem dX7_bestDue_51 : decode cX7_bestDue 51 = .ok (.irem, 1) := by decide +kernel
theorem dX7_bestDue_52 : decode cX7_bestDue 52 = .ok (.goto 6, 3) := by decide +kernel
theorem dX7_bestDue_55 : decode cX7_bestDue 55 = .ok (.iload_n 3, 1) := by decide +kernel
theorem dX7_bestDue_56 : decode cX7_bestDue 56 = .ok (.iconst 1, 1) := by decide +kernel
theorem dX7_bestDue_57 : decode cX7_bestDue 57 = .ok (.isub, 1) := by decide +kernel
theorem dX7_bestDue_58 : decode cX7_bestDue 58 = .ok (.istore 4, 2) := by decide +kernel
theorem dX7_bestDue_60 : decode cX7_bestDue 60 = .ok (.iload_n 1, 1) := by decide +kernel
theorem dX7_bestDue_61 : decode cX7_bestDue 61 = .ok (.bipush (-6), 2) := by decide +kernel
theorem dX7_bestDue_63 : decode cX7_bestDue 63 = .ok (.if_icmp .eq 54, 3) := by decide +kernel
theorem dX7_bestDue_66 : decode cX7_bestDue 66 = .ok (.aload_n 0, 1) := by decide +kernel
theorem dX7_bestDue_67 : decode cX7_bestDue 67 = .ok (.getfield 7, 3) := by decide +kernel
theorem dX7_bestDue_70 : decode cX7_bestDue 70 = .ok (.iconst 4, 1) := by decide +kernel
theorem dX7_bestDue_71 : decode cX7_bestDue 71 = .ok (.iaload, 1) := by decide +kernel
theorem dX7_bestDue_72 : decode cX7_bestDue 72 = .ok (.ifCond .ne 17, 3) := by decide +kernel
theorem dX7_bestDue_75 : decode cX7_bestDue 75 = .ok (.aload_n 0, 1) := by decide +kernel
theorem dX7_bestDue_76 : decode cX7_bestDue 76 = .ok (.iload 4, 2) := by decide +kernel
theorem dX7_bestDue_78 : decode cX7_bestDue 78 = .ok (.invokevirtual 67, 3) := by decide +kernel
theorem dX7_bestDue_81 : decode cX7_bestDue 81 = .ok (.aload_n 0, 1) := by decide +kernel
theorem dX7_bestDue_82 : decode cX7_bestDue 82 = .ok (.iload_n 1, 1) := by decide +kernel
theorem dX7_bestDue_83 : decode cX7_bestDue 83 = .ok (.invokevirtual 67, 3) := by decide +kernel
theorem dX7_bestDue_86 : decode cX7_bestDue 86 = .ok (.if_icmp .gt 31, 3) := by decide +kernel
theorem dX7_bestDue_89 : decode cX7_bestDue 89 = .ok (.aload_n 0, 1) := by decide +kernel
theorem dX7_bestDue_90 : decode cX7_bestDue 90 = .ok (.getfield 7, 3) := by decide +kernel
theorem dX7_bestDue_93 : decode cX7_bestDue 93 = .ok (.iconst 4, 1) := by decide +kernel
theorem dX7_bestDue_94 : decode cX7_bestDue 94 = .ok (.iaload, 1) := by decide +kernel
theorem dX7_bestDue_95 : decode cX7_bestDue 95 = .ok (.iconst 1, 1) := by decide +kernel
theorem dX7_bestDue_96 : decode cX7_bestDue 96 = .ok (.if_icmp .ne 25, 3) := by decide +kernel
theorem dX7_bestDue_99 : decode cX7_bestDue 99 = .ok (.aload_n 0, 1) := by decide +kernel
theorem dX7_bestDue_100 : decode cX7_bestDue 100 = .ok (.iload 4, 2) := by decide +kernel
theorem dX7_bestDue_102 : decode cX7_bestDue 102 = .ok (.bipush 9, 2) := by decide +kernel
theorem dX7_bestDue_104 : decode cX7_bestDue 104 = .ok (.invokevirtual 76, 3) := by decide +kernel
theorem dX7_bestDue_107 : decode cX7_bestDue 107 = .ok (.aload_n 0, 1) := by decide +kernel
theorem dX7_bestDue_108 : decode cX7_bestDue 108 = .ok (.iload_n 1, 1) := by decide +kernel
theorem dX7_bestDue_109 : decode cX7_bestDue 109 = .ok (.bipush 9, 2) := by decide +kernel
theorem dX7_bestDue_111 : decode cX7_bestDue 111 = .ok (.invokevirtual 76, 3) := by decide +kernel
theorem dX7_bestDue_114 : decode cX7_bestDue 114 = .ok (.if_icmp .le 7, 3) := by decide +kernel
theorem dX7_bestDue_117 : decode cX7_bestDue 117 = .ok (.iconst 1, 1) := by decide +kernel
theorem dX7_bestDue_118 : decode cX7_bestDue 118 = .ok (.goto 4, 3) := by decide +kernel
theorem dX7_bestDue_121 : decode cX7_bestDue 121 = .ok (.iconst 0, 1) := by decide +kernel
theorem dX7_bestDue_122 : decode cX7_bestDue 122 = .ok (.istore 5, 2) := by decide +kernel
theorem dX7_bestDue_124 : decode cX7_bestDue 124 = .ok (.aload_n 0, 1) := by decide +kernel
theorem dX7_bestDue_125 : decode cX7_bestDue 125 = .ok (.iload 4, 2) := by decide +kernel
theorem dX7_bestDue_127 : decode cX7_bestDue 127 = .ok (.invokevirtual 79, 3) := by decide +kernel
theorem dX7_bestDue_130 : decode cX7_bestDue 130 = .ok (.ifCond .eq 13, 3) := by decide +kernel
theorem dX7_bestDue_133 : decode cX7_bestDue 133 = .ok (.iload 5, 2) := by decide +kernel
theorem dX7_bestDue_135 : decode cX7_bestDue 135 = .ok (.ifCond .eq 8, 3) := by decide +kernel
theorem dX7_bestDue_138 : decode cX7_bestDue 138 = .ok (.iload 4, 2) := by decide +kernel
theorem dX7_bestDue_140 : decode cX7_bestDue 140 = .ok (.goto 4, 3) := by decide +kernel
theorem dX7_bestDue_143 : decode cX7_bestDue 143 = .ok (.iload_n 1, 1) := by decide +kernel
theorem dX7_bestDue_144 : decode cX7_bestDue 144 = .ok (.istore_n 1, 1) := by decide +kernel
theorem dX7_bestDue_145 : decode cX7_bestDue 145 = .ok (.iinc 3 1, 3) := by decide +kernel
theorem dX7_bestDue_148 : decode cX7_bestDue 148 = .ok (.goto (-118), 3) := by decide +kernel
theorem dX7_bestDue_151 : decode cX7_bestDue 151 = .ok (.iload_n 1, 1) := by decide +kernel
theorem dX7_bestDue_152 : decode cX7_bestDue 152 = .ok (.ireturn, 1) := by decide +kernel
theorem dX7_nextSpan_0 : decode cX7_nextSpan 0 = .ok (.aload_n 0, 1) := by decide +kernel
theorem dX7_nextSpan_1 : decode cX7_nextSpan 1 = .ok (.getfield 7, 3) := by decide +kernel
theorem dX7_nextSpan_4 : decode cX7_nextSpan 4 = .ok (.bipush 8, 2) := by decide +kernel
theorem dX7_nextSpan_6 : decode cX7_nextSpan 6 = .ok (.iaload, 1) := by decide +kernel
theorem dX7_nextSpan_7 : decode cX7_nextSpan 7 = .ok (.ifCond .le 13, 3) := by decide +kernel
theorem dX7_nextSpan_10 : decode cX7_nextSpan 10 = .ok (.aload_n 0, 1) := by decide +kernel
theorem dX7_nextSpan_11 : decode cX7_nextSpan 11 = .ok (.getfield 7, 3) := by decide +kernel
theorem dX7_nextSpan_14 : decode cX7_nextSpan 14 = .ok (.bipush 28, 2) := by decide +kernel
theorem dX7_nextSpan_16 : decode cX7_nextSpan 16 = .ok (.iaload, 1) := by decide +kernel
theorem dX7_nextSpan_17 : decode cX7_nextSpan 17 = .ok (.goto 7, 3) := by decide +kernel
theorem dX7_nextSpan_20 : decode cX7_nextSpan 20 = .ok (.aload_n 0, 1) := by decide +kernel
theorem dX7_nextSpan_21 : decode cX7_nextSpan 21 = .ok (.invokevirtual 83, 3) := by decide +kernel
theorem dX7_nextSpan_24 : decode cX7_nextSpan 24 = .ok (.ireturn, 1) := by decide +kernel
theorem dX7_begins_0 : decode cX7_begins 0 = .ok (.aload_n 0, 1) := by decide +kernel
theorem dX7_begins_1 : decode cX7_begins 1 = .ok (.invokevirtual 86, 3) := by decide +kernel
theorem dX7_begins_4 : decode cX7_begins 4 = .ok (.istore_n 1, 1) := by decide +kernel
theorem dX7_begins_5 : decode cX7_begins 5 = .ok (.iload_n 1, 1) := by decide +kernel
theorem dX7_begins_6 : decode cX7_begins 6 = .ok (.bipush (-6), 2) := by decide +kernel
theorem dX7_begins_8 : decode cX7_begins 8 = .ok (.if_icmp .ne 4, 3) := by decide +kernel
theorem dX7_begins_11 : decode cX7_begins 11 = .ok (.return_, 1) := by decide +kernel
theorem dX7_begins_12 : decode cX7_begins 12 = .ok (.aload_n 0, 1) := by decide +kernel
theorem dX7_begins_13 : decode cX7_begins 13 = .ok (.getfield 7, 3) := by decide +kernel
theorem dX7_begins_16 : decode cX7_begins 16 = .ok (.bipush 8, 2) := by decide +kernel
theorem dX7_begins_18 : decode cX7_begins 18 = .ok (.iaload, 1) := by decide +kernel
theorem dX7_begins_19 : decode cX7_begins 19 = .ok (.ifCond .le 8, 3) := by decide +kernel
theorem dX7_begins_22 : decode cX7_begins 22 = .ok (.aload_n 0, 1) := by decide +kernel
theorem dX7_begins_23 : decode cX7_begins 23 = .ok (.iconst 0, 1) := by decide +kernel
theorem dX7_begins_24 : decode cX7_begins 24 = .ok (.invokevirtual 89, 3) := by decide +kernel
theorem dX7_begins_27 : decode cX7_begins 27 = .ok (.aload_n 0, 1) := by decide +kernel
theorem dX7_begins_28 : decode cX7_begins 28 = .ok (.getfield 7, 3) := by decide +kernel
theorem dX7_begins_31 : decode cX7_begins 31 = .ok (.iconst 5, 1) := by decide +kernel
theorem dX7_begins_32 : decode cX7_begins 32 = .ok (.iload_n 1, 1) := by decide +kernel
theorem dX7_begins_33 : decode cX7_begins 33 = .ok (.iastore, 1) := by decide +kernel
theorem dX7_begins_34 : decode cX7_begins 34 = .ok (.aload_n 0, 1) := by decide +kernel
theorem dX7_begins_35 : decode cX7_begins 35 = .ok (.getfield 7, 3) := by decide +kernel
theorem dX7_begins_38 : decode cX7_begins 38 = .ok (.bipush 6, 2) := by decide +kernel
theorem dX7_begins_40 : decode cX7_begins 40 = .ok (.iconst 0, 1) := by decide +kernel
theorem dX7_begins_41 : decode cX7_begins 41 = .ok (.iastore, 1) := by decide +kernel
theorem dX7_begins_42 : decode cX7_begins 42 = .ok (.aload_n 0, 1) := by decide +kernel
theorem dX7_begins_43 : decode cX7_begins 43 = .ok (.getfield 7, 3) := by decide +kernel
theorem dX7_begins_46 : decode cX7_begins 46 = .ok (.bipush 7, 2) := by decide +kernel
theorem dX7_begins_48 : decode cX7_begins 48 = .ok (.aload_n 0, 1) := by decide +kernel
theorem dX7_begins_49 : decode cX7_begins 49 = .ok (.iload_n 1, 1) := by decide +kernel
theorem dX7_begins_50 : decode cX7_begins 50 = .ok (.invokevirtual 93, 3) := by decide +kernel
theorem dX7_begins_53 : decode cX7_begins 53 = .ok (.iastore, 1) := by decide +kernel
theorem dX7_begins_54 : decode cX7_begins 54 = .ok (.aload_n 0, 1) := by decide +kernel
theorem dX7_begins_55 : decode cX7_begins 55 = .ok (.iconst 1, 1) := by decide +kernel
theorem dX7_begins_56 : decode cX7_begins 56 = .ok (.iload_n 1, 1) := by decide +kernel
theorem dX7_begins_57 : decode cX7_begins 57 = .ok (.invokevirtual 96, 3) := by decide +kernel
theorem dX7_begins_60 : decode cX7_begins 60 = .ok (.return_, 1) := by decide +kernel
theorem dX7_stops_0 : decode cX7_stops 0 = .ok (.aload_n 0, 1) := by decide +kernel
theorem dX7_stops_1 : decode cX7_stops 1 = .ok (.getfield 7, 3) := by decide +kernel
theorem dX7_stops_4 : decode cX7_stops 4 = .ok (.iconst 5, 1) := by decide +kernel
theorem dX7_stops_5 : decode cX7_stops 5 = .ok (.bipush (-6), 2) := by decide +kernel
theorem dX7_stops_7 : decode cX7_stops 7 = .ok (.iastore, 1) := by decide +kernel
theorem dX7_stops_8 : decode cX7_stops 8 = .ok (.aload_n 0, 1) := by decide +kernel
theorem dX7_stops_9 : decode cX7_stops 9 = .ok (.getfield 7, 3) := by decide +kernel
theorem dX7_stops_12 : decode cX7_stops 12 = .ok (.bipush 6, 2) := by decide +kernel
theorem dX7_stops_14 : decode cX7_stops 14 = .ok (.iconst 0, 1) := by decide +kernel
theorem dX7_stops_15 : decode cX7_stops 15 = .ok (.iastore, 1) := by decide +kernel
theorem dX7_stops_16 : decode cX7_stops 16 = .ok (.aload_n 0, 1) := by decide +kernel
theorem dX7_stops_17 : decode cX7_stops 17 = .ok (.getfield 7, 3) := by decide +kernel
theorem dX7_stops_20 : decode cX7_stops 20 = .ok (.bipush 7, 2) := by decide +kernel
theorem dX7_stops_22 : decode cX7_stops 22 = .ok (.iconst 0, 1) := by decide +kernel
theorem dX7_stops_23 : decode cX7_stops 23 = .ok (.iastore, 1) := by decide +kernel
theorem dX7_stops_24 : decode cX7_stops 24 = .ok (.return_, 1) := by decide +kernel
theorem dX7_endsCheck_0 : decode cX7_endsCheck 0 = .ok (.aload_n 0, 1) := by decide +kernel
theorem dX7_endsCheck_1 : decode cX7_endsCheck 1 = .ok (.getfield 7, 3) := by decide +kernel
theorem dX7_endsCheck_4 : decode cX7_endsCheck 4 = .ok (.iconst 5, 1) := by decide +kernel
theorem dX7_endsCheck_5 : decode cX7_endsCheck 5 = .ok (.iaload, 1) := by decide +kernel
theorem dX7_endsCheck_6 : decode cX7_endsCheck 6 = .ok (.istore_n 1, 1) := by decide +kernel
theorem dX7_endsCheck_7 : decode cX7_endsCheck 7 = .ok (.aload_n 0, 1) := by decide +kernel
theorem dX7_endsCheck_8 : decode cX7_endsCheck 8 = .ok (.invokevirtual 100, 3) := by decide +kernel
theorem dX7_endsCheck_11 : decode cX7_endsCheck 11 = .ok (.aload_n 0, 1) := by decide +kernel
theorem dX7_endsCheck_12 : decode cX7_endsCheck 12 = .ok (.getfield 7, 3) := by decide +kernel
theorem dX7_endsCheck_15 : decode cX7_endsCheck 15 = .ok (.bipush 20, 2) := by decide +kernel
theorem dX7_endsCheck_17 : decode cX7_endsCheck 17 = .ok (.iload_n 1, 1) := by decide +kernel
theorem dX7_endsCheck_18 : decode cX7_endsCheck 18 = .ok (.iadd, 1) := by decide +kernel
theorem dX7_endsCheck_19 : decode cX7_endsCheck 19 = .ok (.aload_n 0, 1) := by decide +kernel
theorem dX7_endsCheck_20 : decode cX7_endsCheck 20 = .ok (.getfield 7, 3) := by decide +kernel
theorem dX7_endsCheck_23 : decode cX7_endsCheck 23 = .ok (.iconst 0, 1) := by decide +kernel
theorem dX7_endsCheck_24 : decode cX7_endsCheck 24 = .ok (.iaload, 1) := by decide +kernel
theorem dX7_endsCheck_25 : decode cX7_endsCheck 25 = .ok (.iastore, 1) := by decide +kernel
theorem dX7_endsCheck_26 : decode cX7_endsCheck 26 = .ok (.aload_n 0, 1) := by decide +kernel
theorem dX7_endsCheck_27 : decode cX7_endsCheck 27 = .ok (.getfield 7, 3) := by decide +kernel
theorem dX7_endsCheck_30 : decode cX7_endsCheck 30 = .ok (.bipush 13, 2) := by decide +kernel
theorem dX7_endsCheck_32 : decode cX7_endsCheck 32 = .ok (.iload_n 1, 1) := by decide +kernel
theorem dX7_endsCheck_33 : decode cX7_endsCheck 33 = .ok (.iastore, 1) := by decide +kernel
theorem dX7_endsCheck_34 : decode cX7_endsCheck 34 = .ok (.aload_n 0, 1) := by decide +kernel
theorem dX7_endsCheck_35 : decode cX7_endsCheck 35 = .ok (.getfield 7, 3) := by decide +kernel
theorem dX7_endsCheck_38 : decode cX7_endsCheck 38 = .ok (.bipush 9, 2) := by decide +kernel
theorem dX7_endsCheck_40 : decode cX7_endsCheck 40 = .ok (.dup2, 1) := by decide +kernel
theorem dX7_endsCheck_41 : decode cX7_endsCheck 41 = .ok (.iaload, 1) := by decide +kernel
theorem dX7_endsCheck_42 : decode cX7_endsCheck 42 = .ok (.iconst 1, 1) := by decide +kernel
theorem dX7_endsCheck_43 : decode cX7_endsCheck 43 = .ok (.iadd, 1) := by decide +kernel
theorem dX7_endsCheck_44 : decode cX7_endsCheck 44 = .ok (.iastore, 1) := by decide +kernel
theorem dX7_endsCheck_45 : decode cX7_endsCheck 45 = .ok (.aload_n 0, 1) := by decide +kernel
theorem dX7_endsCheck_46 : decode cX7_endsCheck 46 = .ok (.iconst 3, 1) := by decide +kernel
theorem dX7_endsCheck_47 : decode cX7_endsCheck 47 = .ok (.iload_n 1, 1) := by decide +kernel
theorem dX7_endsCheck_48 : decode cX7_endsCheck 48 = .ok (.invokevirtual 96, 3) := by decide +kernel
theorem dX7_endsCheck_51 : decode cX7_endsCheck 51 = .ok (.iconst 0, 1) := by decide +kernel
theorem dX7_endsCheck_52 : decode cX7_endsCheck 52 = .ok (.istore_n 2, 1) := by decide +kernel
theorem dX7_endsCheck_53 : decode cX7_endsCheck 53 = .ok (.aload_n 0, 1) := by decide +kernel
theorem dX7_endsCheck_54 : decode cX7_endsCheck 54 = .ok (.getfield 7, 3) := by decide +kernel
theorem dX7_endsCheck_57 : decode cX7_endsCheck 57 = .ok (.iconst 2, 1) := by decide +kernel
theorem dX7_endsCheck_58 : decode cX7_endsCheck 58 = .ok (.iaload, 1) := by decide +kernel
theorem dX7_endsCheck_59 : decode cX7_endsCheck 59 = .ok (.istore_n 3, 1) := by decide +kernel
theorem dX7_endsCheck_60 : decode cX7_endsCheck 60 = .ok (.iconst 0, 1) := by decide +kernel
theorem dX7_endsCheck_61 : decode cX7_endsCheck 61 = .ok (.istore 4, 2) := by decide +kernel
theorem dX7_endsCheck_63 : decode cX7_endsCheck 63 = .ok (.iload 4, 2) := by decide +kernel
theorem dX7_endsCheck_65 : decode cX7_endsCheck 65 = .ok (.iload_n 3, 1) := by decide +kernel
theorem dX7_endsCheck_66 : decode cX7_endsCheck 66 = .ok (.if_icmp .ge 169, 3) := by decide +kernel
theorem dX7_endsCheck_69 : decode cX7_endsCheck 69 = .ok (.aload_n 0, 1) := by decide +kernel
theorem dX7_endsCheck_70 : decode cX7_endsCheck 70 = .ok (.iload 4, 2) := by decide +kernel
theorem dX7_endsCheck_72 : decode cX7_endsCheck 72 = .ok (.invokevirtual 73, 3) := by decide +kernel
theorem dX7_endsCheck_75 : decode cX7_endsCheck 75 = .ok (.istore 5, 2) := by decide +kernel
theorem dX7_endsCheck_77 : decode cX7_endsCheck 77 = .ok (.aload_n 0, 1) := by decide +kernel
theorem dX7_endsCheck_78 : decode cX7_endsCheck 78 = .ok (.iload 4, 2) := by decide +kernel
theorem dX7_endsCheck_80 : decode cX7_endsCheck 80 = .ok (.invokevirtual 70, 3) := by decide +kernel
theorem dX7_endsCheck_83 : decode cX7_endsCheck 83 = .ok (.istore 6, 2) := by decide +kernel
theorem dX7_endsCheck_85 : decode cX7_endsCheck 85 = .ok (.iload 5, 2) := by decide +kernel
theorem dX7_endsCheck_87 : decode cX7_endsCheck 87 = .ok (.iload_n 1, 1) := by decide +kernel
theorem dX7_endsCheck_88 : decode cX7_endsCheck 88 = .ok (.if_icmp .ne 19, 3) := by decide +kernel
theorem dX7_endsCheck_91 : decode cX7_endsCheck 91 = .ok (.iload 6, 2) := by decide +kernel
theorem dX7_endsCheck_93 : decode cX7_endsCheck 93 = .ok (.aload_n 0, 1) := by decide +kernel
theorem dX7_endsCheck_94 : decode cX7_endsCheck 94 = .ok (.getfield 7, 3) := by decide +kernel
theorem dX7_endsCheck_97 : decode cX7_endsCheck 97 = .ok (.bipush 18, 2) := by decide +kernel
theorem dX7_endsCheck_99 : decode cX7_endsCheck 99 = .ok (.iaload, 1) := by decide +kernel
theorem dX7_endsCheck_100 : decode cX7_endsCheck 100 = .ok (.if_icmp .lt 7, 3) := by decide +kernel
theorem dX7_endsCheck_103 : decode cX7_endsCheck 103 = .ok (.iconst 1, 1) := by decide +kernel
theorem dX7_endsCheck_104 : decode cX7_endsCheck 104 = .ok (.goto 4, 3) := by decide +kernel
theorem dX7_endsCheck_107 : decode cX7_endsCheck 107 = .ok (.iconst 0, 1) := by decide +kernel
theorem dX7_endsCheck_108 : decode cX7_endsCheck 108 = .ok (.istore 7, 2) := by decide +kernel
theorem dX7_endsCheck_110 : decode cX7_endsCheck 110 = .ok (.iload 7, 2) := by decide +kernel
theorem dX7_endsCheck_112 : decode cX7_endsCheck 112 = .ok (.ifCond .eq 16, 3) := by decide +kernel
theorem dX7_endsCheck_115 : decode cX7_endsCheck 115 = .ok (.aload_n 0, 1) := by decide +kernel
theorem dX7_endsCheck_116 : decode cX7_endsCheck 116 = .ok (.getfield 7, 3) := by decide +kernel
theorem dX7_endsCheck_119 : decode cX7_endsCheck 119 = .ok (.iconst 3, 1) := by decide +kernel
theorem dX7_endsCheck_120 : decode cX7_endsCheck 120 = .ok (.iaload, 1) := by decide +kernel
theorem dX7_endsCheck_121 : decode cX7_endsCheck 121 = .ok (.ifCond .le 7, 3) := by decide +kernel
theorem dX7_endsCheck_124 : decode cX7_endsCheck 124 = .ok (.iconst 1, 1) := by decide +kernel
theorem dX7_endsCheck_125 : decode cX7_endsCheck 125 = .ok (.goto 4, 3) := by decide +kernel
theorem dX7_endsCheck_128 : decode cX7_endsCheck 128 = .ok (.iconst 0, 1) := by decide +kernel
theorem dX7_endsCheck_129 : decode cX7_endsCheck 129 = .ok (.istore 8, 2) := by decide +kernel
theorem dX7_endsCheck_131 : decode cX7_endsCheck 131 = .ok (.iload 7, 2) := by decide +kernel
theorem dX7_endsCheck_133 : decode cX7_endsCheck 133 = .ok (.ifCond .eq 18, 3) := by decide +kernel
theorem dX7_endsCheck_136 : decode cX7_endsCheck 136 = .ok (.aload_n 0, 1) := by decide +kernel
theorem dX7_endsCheck_137 : decode cX7_endsCheck 137 = .ok (.iload 8, 2) := by decide +kernel
theorem dX7_endsCheck_139 : decode cX7_endsCheck 139 = .ok (.ifCond .eq 7, 3) := by decide +kernel
theorem dX7_endsCheck_142 : decode cX7_endsCheck 142 = .ok (.iconst 4, 1) := by decide +kernel
theorem dX7_endsCheck_143 : decode cX7_endsCheck 143 = .ok (.goto 4, 3) := by decide +kernel
theorem dX7_endsCheck_146 : decode cX7_endsCheck 146 = .ok (.iconst 5, 1) := by decide +kernel
theorem dX7_endsCheck_147 : decode cX7_endsCheck 147 = .ok (.iload_n 1, 1) := by decide +kernel
theorem dX7_endsCheck_148 : decode cX7_endsCheck 148 = .ok (.invokevirtual 96, 3) := by decide +kernel
theorem dX7_endsCheck_151 : decode cX7_endsCheck 151 = .ok (.iload 8, 2) := by decide +kernel
theorem dX7_endsCheck_153 : decode cX7_endsCheck 153 = .ok (.ifCond .eq 27, 3) := by decide +kernel
theorem dX7_endsCheck_156 : decode cX7_endsCheck 156 = .ok (.aload_n 0, 1) := by decide +kernel
theorem dX7_endsCheck_157 : decode cX7_endsCheck 157 = .ok (.getfield 7, 3) := by decide +kernel
theorem dX7_endsCheck_160 : decode cX7_endsCheck 160 = .ok (.iconst 3, 1) := by decide +kernel
theorem dX7_endsCheck_161 : decode cX7_endsCheck 161 = .ok (.dup2, 1) := by decide +kernel
theorem dX7_endsCheck_162 : decode cX7_endsCheck 162 = .ok (.iaload, 1) := by decide +kernel
theorem dX7_endsCheck_163 : decode cX7_endsCheck 163 = .ok (.iconst 1, 1) := by decide +kernel
theorem dX7_endsCheck_164 : decode cX7_endsCheck 164 = .ok (.isub, 1) := by decide +kernel
theorem dX7_endsCheck_165 : decode cX7_endsCheck 165 = .ok (.iastore, 1) := by decide +kernel
theorem dX7_endsCheck_166 : decode cX7_endsCheck 166 = .ok (.aload_n 0, 1) := by decide +kernel
theorem dX7_endsCheck_167 : decode cX7_endsCheck 167 = .ok (.getfield 7, 3) := by decide +kernel
theorem dX7_endsCheck_170 : decode cX7_endsCheck 170 = .ok (.bipush 11, 2) := by decide +kernel
theorem dX7_endsCheck_172 : decode cX7_endsCheck 172 = .ok (.dup2, 1) := by decide +kernel
theorem dX7_endsCheck_173 : decode cX7_endsCheck 173 = .ok (.iaload, 1) := by decide +kernel
theorem dX7_endsCheck_174 : decode cX7_endsCheck 174 = .ok (.iconst 1, 1) := by decide +kernel
theorem dX7_endsCheck_175 : decode cX7_endsCheck 175 = .ok (.iadd, 1) := by decide +kernel
theorem dX7_endsCheck_176 : decode cX7_endsCheck 176 = .ok (.iastore, 1) := by decide +kernel
theorem dX7_endsCheck_177 : decode cX7_endsCheck 177 = .ok (.goto 52, 3) := by decide +kernel
theorem dX7_endsCheck_180 : decode cX7_endsCheck 180 = .ok (.aload_n 0, 1) := by decide +kernel
theorem dX7_endsCheck_181 : decode cX7_endsCheck 181 = .ok (.getfield 7, 3) := by decide +kernel
theorem dX7_endsCheck_184 : decode cX7_endsCheck 184 = .ok (.bipush 34, 2) := by decide +kernel
theorem dX7_endsCheck_186 : decode cX7_endsCheck 186 = .ok (.iconst 2, 1) := by decide +kernel
theorem dX7_endsCheck_187 : decode cX7_endsCheck 187 = .ok (.iload_n 2, 1) := by decide +kernel
theorem dX7_endsCheck_188 : decode cX7_endsCheck 188 = .ok (.imul, 1) := by decide +kernel
theorem dX7_endsCheck_189 : decode cX7_endsCheck 189 = .ok (.iadd, 1) := by decide +kernel
theorem dX7_endsCheck_190 : decode cX7_endsCheck 190 = .ok (.iload 5, 2) := by decide +kernel
theorem dX7_endsCheck_192 : decode cX7_endsCheck 192 = .ok (.iastore, 1) := by decide +kernel
theorem dX7_endsCheck_193 : decode cX7_endsCheck 193 = .ok (.aload_n 0, 1) := by decide +kernel
theorem dX7_endsCheck_194 : decode cX7_endsCheck 194 = .ok (.getfield 7, 3) := by decide +kernel
theorem dX7_endsCheck_197 : decode cX7_endsCheck 197 = .ok (.bipush 34, 2) := by decide +kernel
theorem dX7_endsCheck_199 : decode cX7_endsCheck 199 = .ok (.iconst 2, 1) := by decide +kernel
theorem dX7_endsCheck_200 : decode cX7_endsCheck 200 = .ok (.iload_n 2, 1) := by decide +kernel
theorem dX7_endsCheck_201 : decode cX7_endsCheck 201 = .ok (.imul, 1) := by decide +kernel
theorem dX7_endsCheck_202 : decode cX7_endsCheck 202 = .ok (.iadd, 1) := by decide +kernel
theorem dX7_endsCheck_203 : decode cX7_endsCheck 203 = .ok (.iconst 1, 1) := by decide +kernel
theorem dX7_endsCheck_204 : decode cX7_endsCheck 204 = .ok (.iadd, 1) := by decide +kernel
theorem dX7_endsCheck_205 : decode cX7_endsCheck 205 = .ok (.iload 5, 2) := by decide +kernel
theorem dX7_endsCheck_207 : decode cX7_endsCheck 207 = .ok (.iload_n 1, 1) := by decide +kernel
theorem dX7_endsCheck_208 : decode cX7_endsCheck 208 = .ok (.if_icmp .ne 15, 3) := by decide +kernel
theorem dX7_endsCheck_211 : decode cX7_endsCheck 211 = .ok (.iload 7, 2) := by decide +kernel
theorem dX7_endsCheck_213 : decode cX7_endsCheck 213 = .ok (.ifCond .ne 10, 3) := by decide +kernel
theorem dX7_endsCheck_216 : decode cX7_endsCheck 216 = .ok (.iload 6, 2) := by decide +kernel
theorem dX7_endsCheck_218 : decode cX7_endsCheck 218 = .ok (.iconst 1, 1) := by decide +kernel
theorem dX7_endsCheck_219 : decode cX7_endsCheck 219 = .ok (.iadd, 1) := by decide +kernel
theorem dX7_endsCheck_220 : decode cX7_endsCheck 220 = .ok (.goto 5, 3) := by decide +kernel
theorem dX7_endsCheck_223 : decode cX7_endsCheck 223 = .ok (.iload 6, 2) := by decide +kernel
theorem dX7_endsCheck_225 : decode cX7_endsCheck 225 = .ok (.iastore, 1) := by decide +kernel
theorem dX7_endsCheck_226 : decode cX7_endsCheck 226 = .ok (.iinc 2 1, 3) := by decide +kernel
theorem dX7_endsCheck_229 : decode cX7_endsCheck 229 = .ok (.iinc 4 1, 3) := by decide +kernel
theorem dX7_endsCheck_232 : decode cX7_endsCheck 232 = .ok (.goto (-169), 3) := by decide +kernel
theorem dX7_endsCheck_235 : decode cX7_endsCheck 235 = .ok (.aload_n 0, 1) := by decide +kernel
theorem dX7_endsCheck_236 : decode cX7_endsCheck 236 = .ok (.getfield 7, 3) := by decide +kernel
theorem dX7_endsCheck_239 : decode cX7_endsCheck 239 = .ok (.iconst 2, 1) := by decide +kernel
theorem dX7_endsCheck_240 : decode cX7_endsCheck 240 = .ok (.iload_n 2, 1) := by decide +kernel
theorem dX7_endsCheck_241 : decode cX7_endsCheck 241 = .ok (.iastore, 1) := by decide +kernel
theorem dX7_endsCheck_242 : decode cX7_endsCheck 242 = .ok (.iload_n 2, 1) := by decide +kernel
theorem dX7_endsCheck_243 : decode cX7_endsCheck 243 = .ok (.istore 4, 2) := by decide +kernel
theorem dX7_endsCheck_245 : decode cX7_endsCheck 245 = .ok (.iload 4, 2) := by decide +kernel
theorem dX7_endsCheck_247 : decode cX7_endsCheck 247 = .ok (.iload_n 3, 1) := by decide +kernel
theorem dX7_endsCheck_248 : decode cX7_endsCheck 248 = .ok (.if_icmp .ge 37, 3) := by decide +kernel
theorem dX7_endsCheck_251 : decode cX7_endsCheck 251 = .ok (.aload_n 0, 1) := by decide +kernel
theorem dX7_endsCheck_252 : decode cX7_endsCheck 252 = .ok (.getfield 7, 3) := by decide +kernel
theorem dX7_endsCheck_255 : decode cX7_endsCheck 255 = .ok (.bipush 34, 2) := by decide +kernel
theorem dX7_endsCheck_257 : decode cX7_endsCheck 257 = .ok (.iconst 2, 1) := by decide +kernel
theorem dX7_endsCheck_258 : decode cX7_endsCheck 258 = .ok (.iload 4, 2) := by decide +kernel
theorem dX7_endsCheck_260 : decode cX7_endsCheck 260 = .ok (.imul, 1) := by decide +kernel
theorem dX7_endsCheck_261 : decode cX7_endsCheck 261 = .ok (.iadd, 1) := by decide +kernel
theorem dX7_endsCheck_262 : decode cX7_endsCheck 262 = .ok (.iconst 0, 1) := by decide +kernel
theorem dX7_endsCheck_263 : decode cX7_endsCheck 263 = .ok (.iastore, 1) := by decide +kernel
theorem dX7_endsCheck_264 : decode cX7_endsCheck 264 = .ok (.aload_n 0, 1) := by decide +kernel
theorem dX7_endsCheck_265 : decode cX7_endsCheck 265 = .ok (.getfield 7, 3) := by decide +kernel
theorem dX7_endsCheck_268 : decode cX7_endsCheck 268 = .ok (.bipush 34, 2) := by decide +kernel
theorem dX7_endsCheck_270 : decode cX7_endsCheck 270 = .ok (.iconst 2, 1) := by decide +kernel
theorem dX7_endsCheck_271 : decode cX7_endsCheck 271 = .ok (.iload 4, 2) := by decide +kernel
theorem dX7_endsCheck_273 : decode cX7_endsCheck 273 = .ok (.imul, 1) := by decide +kernel
theorem dX7_endsCheck_274 : decode cX7_endsCheck 274 = .ok (.iadd, 1) := by decide +kernel
theorem dX7_endsCheck_275 : decode cX7_endsCheck 275 = .ok (.iconst 1, 1) := by decide +kernel
theorem dX7_endsCheck_276 : decode cX7_endsCheck 276 = .ok (.iadd, 1) := by decide +kernel
theorem dX7_endsCheck_277 : decode cX7_endsCheck 277 = .ok (.iconst 0, 1) := by decide +kernel
theorem dX7_endsCheck_278 : decode cX7_endsCheck 278 = .ok (.iastore, 1) := by decide +kernel
theorem dX7_endsCheck_279 : decode cX7_endsCheck 279 = .ok (.iinc 4 1, 3) := by decide +kernel
theorem dX7_endsCheck_282 : decode cX7_endsCheck 282 = .ok (.goto (-37), 3) := by decide +kernel
theorem dX7_endsCheck_285 : decode cX7_endsCheck 285 = .ok (.return_, 1) := by decide +kernel
theorem dX7_passesTick_0 : decode cX7_passesTick 0 = .ok (.aload_n 0, 1) := by decide +kernel
theorem dX7_passesTick_1 : decode cX7_passesTick 1 = .ok (.getfield 7, 3) := by decide +kernel
theorem dX7_passesTick_4 : decode cX7_passesTick 4 = .ok (.iconst 0, 1) := by decide +kernel
theorem dX7_passesTick_5 : decode cX7_passesTick 5 = .ok (.dup2, 1) := by decide +kernel
theorem dX7_passesTick_6 : decode cX7_passesTick 6 = .ok (.iaload, 1) := by decide +kernel
theorem dX7_passesTick_7 : decode cX7_passesTick 7 = .ok (.iconst 1, 1) := by decide +kernel
theorem dX7_passesTick_8 : decode cX7_passesTick 8 = .ok (.iadd, 1) := by decide +kernel
theorem dX7_passesTick_9 : decode cX7_passesTick 9 = .ok (.iastore, 1) := by decide +kernel
theorem dX7_passesTick_10 : decode cX7_passesTick 10 = .ok (.aload_n 0, 1) := by decide +kernel
theorem dX7_passesTick_11 : decode cX7_passesTick 11 = .ok (.getfield 7, 3) := by decide +kernel
theorem dX7_passesTick_14 : decode cX7_passesTick 14 = .ok (.iconst 1, 1) := by decide +kernel
theorem dX7_passesTick_15 : decode cX7_passesTick 15 = .ok (.iaload, 1) := by decide +kernel
theorem dX7_passesTick_16 : decode cX7_passesTick 16 = .ok (.aload_n 0, 1) := by decide +kernel
theorem dX7_passesTick_17 : decode cX7_passesTick 17 = .ok (.getfield 7, 3) := by decide +kernel
theorem dX7_passesTick_20 : decode cX7_passesTick 20 = .ok (.bipush 15, 2) := by decide +kernel
theorem dX7_passesTick_22 : decode cX7_passesTick 22 = .ok (.iaload, 1) := by decide +kernel
theorem dX7_passesTick_23 : decode cX7_passesTick 23 = .ok (.if_icmp .ge 16, 3) := by decide +kernel
theorem dX7_passesTick_26 : decode cX7_passesTick 26 = .ok (.aload_n 0, 1) := by decide +kernel
theorem dX7_passesTick_27 : decode cX7_passesTick 27 = .ok (.getfield 7, 3) := by decide +kernel
theorem dX7_passesTick_30 : decode cX7_passesTick 30 = .ok (.iconst 1, 1) := by decide +kernel
theorem dX7_passesTick_31 : decode cX7_passesTick 31 = .ok (.dup2, 1) := by decide +kernel
theorem dX7_passesTick_32 : decode cX7_passesTick 32 = .ok (.iaload, 1) := by decide +kernel
theorem dX7_passesTick_33 : decode cX7_passesTick 33 = .ok (.iconst 1, 1) := by decide +kernel
theorem dX7_passesTick_34 : decode cX7_passesTick 34 = .ok (.iadd, 1) := by decide +kernel
theorem dX7_passesTick_35 : decode cX7_passesTick 35 = .ok (.iastore, 1) := by decide +kernel
theorem dX7_passesTick_36 : decode cX7_passesTick 36 = .ok (.bipush (-6), 2) := by decide +kernel
theorem dX7_passesTick_38 : decode cX7_passesTick 38 = .ok (.ireturn, 1) := by decide +kernel
theorem dX7_passesTick_39 : decode cX7_passesTick 39 = .ok (.aload_n 0, 1) := by decide +kernel
theorem dX7_passesTick_40 : decode cX7_passesTick 40 = .ok (.getfield 7, 3) := by decide +kernel
theorem dX7_passesTick_43 : decode cX7_passesTick 43 = .ok (.iconst 5, 1) := by decide +kernel
theorem dX7_passesTick_44 : decode cX7_passesTick 44 = .ok (.iaload, 1) := by decide +kernel
theorem dX7_passesTick_45 : decode cX7_passesTick 45 = .ok (.bipush (-6), 2) := by decide +kernel
theorem dX7_passesTick_47 : decode cX7_passesTick 47 = .ok (.if_icmp .ne 7, 3) := by decide +kernel
theorem dX7_passesTick_50 : decode cX7_passesTick 50 = .ok (.aload_n 0, 1) := by decide +kernel
theorem dX7_passesTick_51 : decode cX7_passesTick 51 = .ok (.invokevirtual 103, 3) := by decide +kernel
theorem dX7_passesTick_54 : decode cX7_passesTick 54 = .ok (.aload_n 0, 1) := by decide +kernel
theorem dX7_passesTick_55 : decode cX7_passesTick 55 = .ok (.getfield 7, 3) := by decide +kernel
theorem dX7_passesTick_58 : decode cX7_passesTick 58 = .ok (.iconst 5, 1) := by decide +kernel
theorem dX7_passesTick_59 : decode cX7_passesTick 59 = .ok (.iaload, 1) := by decide +kernel
theorem dX7_passesTick_60 : decode cX7_passesTick 60 = .ok (.istore_n 1, 1) := by decide +kernel
theorem dX7_passesTick_61 : decode cX7_passesTick 61 = .ok (.iload_n 1, 1) := by decide +kernel
theorem dX7_passesTick_62 : decode cX7_passesTick 62 = .ok (.bipush (-6), 2) := by decide +kernel
theorem dX7_passesTick_64 : decode cX7_passesTick 64 = .ok (.if_icmp .ne 6, 3) := by decide +kernel
theorem dX7_passesTick_67 : decode cX7_passesTick 67 = .ok (.bipush (-6), 2) := by decide +kernel
theorem dX7_passesTick_69 : decode cX7_passesTick 69 = .ok (.ireturn, 1) := by decide +kernel
theorem dX7_passesTick_70 : decode cX7_passesTick 70 = .ok (.aload_n 0, 1) := by decide +kernel
theorem dX7_passesTick_71 : decode cX7_passesTick 71 = .ok (.getfield 7, 3) := by decide +kernel
theorem dX7_passesTick_74 : decode cX7_passesTick 74 = .ok (.bipush 6, 2) := by decide +kernel
theorem dX7_passesTick_76 : decode cX7_passesTick 76 = .ok (.dup2, 1) := by decide +kernel
theorem dX7_passesTick_77 : decode cX7_passesTick 77 = .ok (.iaload, 1) := by decide +kernel
theorem dX7_passesTick_78 : decode cX7_passesTick 78 = .ok (.iconst 1, 1) := by decide +kernel
theorem dX7_passesTick_79 : decode cX7_passesTick 79 = .ok (.iadd, 1) := by decide +kernel
theorem dX7_passesTick_80 : decode cX7_passesTick 80 = .ok (.iastore, 1) := by decide +kernel
theorem dX7_passesTick_81 : decode cX7_passesTick 81 = .ok (.aload_n 0, 1) := by decide +kernel
theorem dX7_passesTick_82 : decode cX7_passesTick 82 = .ok (.getfield 7, 3) := by decide +kernel
theorem dX7_passesTick_85 : decode cX7_passesTick 85 = .ok (.bipush 6, 2) := by decide +kernel
theorem dX7_passesTick_87 : decode cX7_passesTick 87 = .ok (.iaload, 1) := by decide +kernel
theorem dX7_passesTick_88 : decode cX7_passesTick 88 = .ok (.aload_n 0, 1) := by decide +kernel
theorem dX7_passesTick_89 : decode cX7_passesTick 89 = .ok (.getfield 7, 3) := by decide +kernel
theorem dX7_passesTick_92 : decode cX7_passesTick 92 = .ok (.bipush 7, 2) := by decide +kernel
theorem dX7_passesTick_94 : decode cX7_passesTick 94 = .ok (.iaload, 1) := by decide +kernel
theorem dX7_passesTick_95 : decode cX7_passesTick 95 = .ok (.if_icmp .ge 6, 3) := by decide +kernel
theorem dX7_passesTick_98 : decode cX7_passesTick 98 = .ok (.bipush (-6), 2) := by decide +kernel
theorem dX7_passesTick_100 : decode cX7_passesTick 100 = .ok (.ireturn, 1) := by decide +kernel
theorem dX7_passesTick_101 : decode cX7_passesTick 101 = .ok (.aload_n 0, 1) := by decide +kernel
theorem dX7_passesTick_102 : decode cX7_passesTick 102 = .ok (.invokevirtual 106, 3) := by decide +kernel
theorem dX7_passesTick_105 : decode cX7_passesTick 105 = .ok (.iload_n 1, 1) := by decide +kernel
theorem dX7_passesTick_106 : decode cX7_passesTick 106 = .ok (.ireturn, 1) := by decide +kernel
theorem dX7_passes_0 : decode cX7_passes 0 = .ok (.iconst 0, 1) := by decide +kernel
theorem dX7_passes_1 : decode cX7_passes 1 = .ok (.istore_n 2, 1) := by decide +kernel
theorem dX7_passes_2 : decode cX7_passes 2 = .ok (.iconst 0, 1) := by decide +kernel
theorem dX7_passes_3 : decode cX7_passes 3 = .ok (.istore_n 3, 1) := by decide +kernel
theorem dX7_passes_4 : decode cX7_passes 4 = .ok (.iload_n 3, 1) := by decide +kernel
theorem dX7_passes_5 : decode cX7_passes 5 = .ok (.iload_n 1, 1) := by decide +kernel
theorem dX7_passes_6 : decode cX7_passes 6 = .ok (.if_icmp .ge 26, 3) := by decide +kernel
theorem dX7_passes_9 : decode cX7_passes 9 = .ok (.iload_n 2, 1) := by decide +kernel
theorem dX7_passes_10 : decode cX7_passes 10 = .ok (.aload_n 0, 1) := by decide +kernel
theorem dX7_passes_11 : decode cX7_passes 11 = .ok (.invokevirtual 109, 3) := by decide +kernel
theorem dX7_passes_14 : decode cX7_passes 14 = .ok (.bipush (-6), 2) := by decide +kernel
theorem dX7_passes_16 : decode cX7_passes 16 = .ok (.if_icmp .ne 7, 3) := by decide +kernel
theorem dX7_passes_19 : decode cX7_passes 19 = .ok (.iconst 0, 1) := by decide +kernel
theorem dX7_passes_20 : decode cX7_passes 20 = .ok (.goto 4, 3) := by decide +kernel
theorem dX7_passes_23 : decode cX7_passes 23 = .ok (.iconst 1, 1) := by decide +kernel
theorem dX7_passes_24 : decode cX7_passes 24 = .ok (.iadd, 1) := by decide +kernel
theorem dX7_passes_25 : decode cX7_passes 25 = .ok (.istore_n 2, 1) := by decide +kernel
theorem dX7_passes_26 : decode cX7_passes 26 = .ok (.iinc 3 1, 3) := by decide +kernel
theorem dX7_passes_29 : decode cX7_passes 29 = .ok (.goto (-25), 3) := by decide +kernel
theorem dX7_passes_32 : decode cX7_passes 32 = .ok (.iload_n 2, 1) := by decide +kernel
theorem dX7_passes_33 : decode cX7_passes 33 = .ok (.ireturn, 1) := by decide +kernel
theorem dX7_isSetting_0 : decode cX7_isSetting 0 = .ok (.iload_n 0, 1) := by decide +kernel
theorem dX7_isSetting_1 : decode cX7_isSetting 1 = .ok (.iconst 0, 1) := by decide +kernel
theorem dX7_isSetting_2 : decode cX7_isSetting 2 = .ok (.iconst 4, 1) := by decide +kernel
theorem dX7_isSetting_3 : decode cX7_isSetting 3 = .ok (.invokestatic 30, 3) := by decide +kernel
theorem dX7_isSetting_6 : decode cX7_isSetting 6 = .ok (.ireturn, 1) := by decide +kernel
theorem dX7_fits_0 : decode cX7_fits 0 = .ok (.iload_n 0, 1) := by decide +kernel
theorem dX7_fits_1 : decode cX7_fits 1 = .ok (.tableswitch 63 0 3 #[31, 39, 47, 55], 31) := by decide +kernel
theorem dX7_fits_32 : decode cX7_fits 32 = .ok (.iload_n 1, 1) := by decide +kernel
theorem dX7_fits_33 : decode cX7_fits 33 = .ok (.iconst 0, 1) := by decide +kernel
theorem dX7_fits_34 : decode cX7_fits 34 = .ok (.bipush 50, 2) := by decide +kernel
theorem dX7_fits_36 : decode cX7_fits 36 = .ok (.invokestatic 30, 3) := by decide +kernel
theorem dX7_fits_39 : decode cX7_fits 39 = .ok (.ireturn, 1) := by decide +kernel
theorem dX7_fits_40 : decode cX7_fits 40 = .ok (.iload_n 1, 1) := by decide +kernel
theorem dX7_fits_41 : decode cX7_fits 41 = .ok (.iconst 1, 1) := by decide +kernel
theorem dX7_fits_42 : decode cX7_fits 42 = .ok (.bipush 40, 2) := by decide +kernel
theorem dX7_fits_44 : decode cX7_fits 44 = .ok (.invokestatic 30, 3) := by decide +kernel
theorem dX7_fits_47 : decode cX7_fits 47 = .ok (.ireturn, 1) := by decide +kernel
theorem dX7_fits_48 : decode cX7_fits 48 = .ok (.iload_n 1, 1) := by decide +kernel
theorem dX7_fits_49 : decode cX7_fits 49 = .ok (.iconst 1, 1) := by decide +kernel
theorem dX7_fits_50 : decode cX7_fits 50 = .ok (.bipush 9, 2) := by decide +kernel
theorem dX7_fits_52 : decode cX7_fits 52 = .ok (.invokestatic 30, 3) := by decide +kernel
theorem dX7_fits_55 : decode cX7_fits 55 = .ok (.ireturn, 1) := by decide +kernel
theorem dX7_fits_56 : decode cX7_fits 56 = .ok (.iload_n 1, 1) := by decide +kernel
theorem dX7_fits_57 : decode cX7_fits 57 = .ok (.iconst 2, 1) := by decide +kernel
theorem dX7_fits_58 : decode cX7_fits 58 = .ok (.bipush 9, 2) := by decide +kernel
theorem dX7_fits_60 : decode cX7_fits 60 = .ok (.invokestatic 30, 3) := by decide +kernel
theorem dX7_fits_63 : decode cX7_fits 63 = .ok (.ireturn, 1) := by decide +kernel
theorem dX7_fits_64 : decode cX7_fits 64 = .ok (.iload_n 1, 1) := by decide +kernel
theorem dX7_fits_65 : decode cX7_fits 65 = .ok (.bipush 50, 2) := by decide +kernel
theorem dX7_fits_67 : decode cX7_fits 67 = .ok (.sipush 2000, 3) := by decide +kernel
theorem dX7_fits_70 : decode cX7_fits 70 = .ok (.invokestatic 30, 3) := by decide +kernel
theorem dX7_fits_73 : decode cX7_fits 73 = .ok (.ireturn, 1) := by decide +kernel
theorem dX7_sets_0 : decode cX7_sets 0 = .ok (.aload_n 0, 1) := by decide +kernel
theorem dX7_sets_1 : decode cX7_sets 1 = .ok (.invokevirtual 112, 3) := by decide +kernel
theorem dX7_sets_4 : decode cX7_sets 4 = .ok (.aload_n 0, 1) := by decide +kernel
theorem dX7_sets_5 : decode cX7_sets 5 = .ok (.getfield 7, 3) := by decide +kernel
theorem dX7_sets_8 : decode cX7_sets 8 = .ok (.iload_n 1, 1) := by decide +kernel
theorem dX7_sets_9 : decode cX7_sets 9 = .ok (.iaload, 1) := by decide +kernel
theorem dX7_sets_10 : decode cX7_sets 10 = .ok (.istore_n 3, 1) := by decide +kernel
theorem dX7_sets_11 : decode cX7_sets 11 = .ok (.aload_n 0, 1) := by decide +kernel
theorem dX7_sets_12 : decode cX7_sets 12 = .ok (.getfield 7, 3) := by decide +kernel
theorem dX7_sets_15 : decode cX7_sets 15 = .ok (.iload_n 1, 1) := by decide +kernel
theorem dX7_sets_16 : decode cX7_sets 16 = .ok (.iload_n 2, 1) := by decide +kernel
theorem dX7_sets_17 : decode cX7_sets 17 = .ok (.iastore, 1) := by decide +kernel
theorem dX7_sets_18 : decode cX7_sets 18 = .ok (.iload_n 3, 1) := by decide +kernel
theorem dX7_sets_19 : decode cX7_sets 19 = .ok (.ireturn, 1) := by decide +kernel
theorem dX7_set_0 : decode cX7_set 0 = .ok (.iload_n 1, 1) := by decide +kernel
theorem dX7_set_1 : decode cX7_set 1 = .ok (.invokestatic 115, 3) := by decide +kernel
theorem dX7_set_4 : decode cX7_set 4 = .ok (.ifCond .ne 5, 3) := by decide +kernel
theorem dX7_set_7 : decode cX7_set 7 = .ok (.iconst (-1), 1) := by decide +kernel
theorem dX7_set_8 : decode cX7_set 8 = .ok (.ireturn, 1) := by decide +kernel
theorem dX7_set_9 : decode cX7_set 9 = .ok (.iload_n 1, 1) := by decide +kernel
theorem dX7_set_10 : decode cX7_set 10 = .ok (.iload_n 2, 1) := by decide +kernel
theorem dX7_set_11 : decode cX7_set 11 = .ok (.invokestatic 118, 3) := by decide +kernel
theorem dX7_set_14 : decode cX7_set 14 = .ok (.ifCond .eq 15, 3) := by decide +kernel
theorem dX7_set_17 : decode cX7_set 17 = .ok (.aload_n 0, 1) := by decide +kernel
theorem dX7_set_18 : decode cX7_set 18 = .ok (.bipush 15, 2) := by decide +kernel
theorem dX7_set_20 : decode cX7_set 20 = .ok (.iload_n 1, 1) := by decide +kernel
theorem dX7_set_21 : decode cX7_set 21 = .ok (.iadd, 1) := by decide +kernel
theorem dX7_set_22 : decode cX7_set 22 = .ok (.iload_n 2, 1) := by decide +kernel
theorem dX7_set_23 : decode cX7_set 23 = .ok (.invokevirtual 122, 3) := by decide +kernel
theorem dX7_set_26 : decode cX7_set 26 = .ok (.goto 5, 3) := by decide +kernel
theorem dX7_set_29 : decode cX7_set 29 = .ok (.bipush (-2), 2) := by decide +kernel
theorem dX7_set_31 : decode cX7_set 31 = .ok (.ireturn, 1) := by decide +kernel
theorem dX7_setWay_0 : decode cX7_setWay 0 = .ok (.iload_n 1, 1) := by decide +kernel
theorem dX7_setWay_1 : decode cX7_setWay 1 = .ok (.iconst 0, 1) := by decide +kernel
theorem dX7_setWay_2 : decode cX7_setWay 2 = .ok (.iconst 2, 1) := by decide +kernel
theorem dX7_setWay_3 : decode cX7_setWay 3 = .ok (.invokestatic 30, 3) := by decide +kernel
theorem dX7_setWay_6 : decode cX7_setWay 6 = .ok (.ifCond .eq 12, 3) := by decide +kernel
theorem dX7_setWay_9 : decode cX7_setWay 9 = .ok (.aload_n 0, 1) := by decide +kernel
theorem dX7_setWay_10 : decode cX7_setWay 10 = .ok (.iconst 4, 1) := by decide +kernel
theorem dX7_setWay_11 : decode cX7_setWay 11 = .ok (.iload_n 1, 1) := by decide +kernel
theorem dX7_setWay_12 : decode cX7_setWay 12 = .ok (.invokevirtual 122, 3) := by decide +kernel
theorem dX7_setWay_15 : decode cX7_setWay 15 = .ok (.goto 5, 3) := by decide +kernel
theorem dX7_setWay_18 : decode cX7_setWay 18 = .ok (.bipush (-2), 2) := by decide +kernel
theorem dX7_setWay_20 : decode cX7_setWay 20 = .ok (.ireturn, 1) := by decide +kernel
theorem dX7_addSpares_0 : decode cX7_addSpares 0 = .ok (.iload_n 1, 1) := by decide +kernel
theorem dX7_addSpares_1 : decode cX7_addSpares 1 = .ok (.iconst 1, 1) := by decide +kernel
theorem dX7_addSpares_2 : decode cX7_addSpares 2 = .ok (.bipush 9, 2) := by decide +kernel
theorem dX7_addSpares_4 : decode cX7_addSpares 4 = .ok (.invokestatic 30, 3) := by decide +kernel
theorem dX7_addSpares_7 : decode cX7_addSpares 7 = .ok (.ifCond .ne 6, 3) := by decide +kernel
theorem dX7_addSpares_10 : decode cX7_addSpares 10 = .ok (.bipush (-2), 2) := by decide +kernel
theorem dX7_addSpares_12 : decode cX7_addSpares 12 = .ok (.ireturn, 1) := by decide +kernel
theorem dX7_addSpares_13 : decode cX7_addSpares 13 = .ok (.aload_n 0, 1) := by decide +kernel
theorem dX7_addSpares_14 : decode cX7_addSpares 14 = .ok (.getfield 7, 3) := by decide +kernel
theorem dX7_addSpares_17 : decode cX7_addSpares 17 = .ok (.iconst 3, 1) := by decide +kernel
theorem dX7_addSpares_18 : decode cX7_addSpares 18 = .ok (.iaload, 1) := by decide +kernel
theorem dX7_addSpares_19 : decode cX7_addSpares 19 = .ok (.iload_n 1, 1) := by decide +kernel
theorem dX7_addSpares_20 : decode cX7_addSpares 20 = .ok (.iadd, 1) := by decide +kernel
theorem dX7_addSpares_21 : decode cX7_addSpares 21 = .ok (.bipush 50, 2) := by decide +kernel
theorem dX7_addSpares_23 : decode cX7_addSpares 23 = .ok (.if_icmp .le 6, 3) := by decide +kernel
theorem dX7_addSpares_26 : decode cX7_addSpares 26 = .ok (.bipush (-4), 2) := by decide +kernel
theorem dX7_addSpares_28 : decode cX7_addSpares 28 = .ok (.ireturn, 1) := by decide +kernel
theorem dX7_addSpares_29 : decode cX7_addSpares 29 = .ok (.aload_n 0, 1) := by decide +kernel
theorem dX7_addSpares_30 : decode cX7_addSpares 30 = .ok (.invokevirtual 112, 3) := by decide +kernel
theorem dX7_addSpares_33 : decode cX7_addSpares 33 = .ok (.aload_n 0, 1) := by decide +kernel
theorem dX7_addSpares_34 : decode cX7_addSpares 34 = .ok (.getfield 7, 3) := by decide +kernel
theorem dX7_addSpares_37 : decode cX7_addSpares 37 = .ok (.iconst 3, 1) := by decide +kernel
theorem dX7_addSpares_38 : decode cX7_addSpares 38 = .ok (.dup2, 1) := by decide +kernel
theorem dX7_addSpares_39 : decode cX7_addSpares 39 = .ok (.iaload, 1) := by decide +kernel
theorem dX7_addSpares_40 : decode cX7_addSpares 40 = .ok (.iload_n 1, 1) := by decide +kernel
theorem dX7_addSpares_41 : decode cX7_addSpares 41 = .ok (.iadd, 1) := by decide +kernel
theorem dX7_addSpares_42 : decode cX7_addSpares 42 = .ok (.iastore, 1) := by decide +kernel
theorem dX7_addSpares_43 : decode cX7_addSpares 43 = .ok (.aload_n 0, 1) := by decide +kernel
theorem dX7_addSpares_44 : decode cX7_addSpares 44 = .ok (.getfield 7, 3) := by decide +kernel
theorem dX7_addSpares_47 : decode cX7_addSpares 47 = .ok (.iconst 3, 1) := by decide +kernel
theorem dX7_addSpares_48 : decode cX7_addSpares 48 = .ok (.iaload, 1) := by decide +kernel
theorem dX7_addSpares_49 : decode cX7_addSpares 49 = .ok (.ireturn, 1) := by decide +kernel
theorem dX7_spotsMany_0 : decode cX7_spotsMany 0 = .ok (.iconst 0, 1) := by decide +kernel
theorem dX7_spotsMany_1 : decode cX7_spotsMany 1 = .ok (.istore_n 2, 1) := by decide +kernel
theorem dX7_spotsMany_2 : decode cX7_spotsMany 2 = .ok (.iconst 0, 1) := by decide +kernel
theorem dX7_spotsMany_3 : decode cX7_spotsMany 3 = .ok (.istore_n 3, 1) := by decide +kernel
theorem dX7_spotsMany_4 : decode cX7_spotsMany 4 = .ok (.iload_n 3, 1) := by decide +kernel
theorem dX7_spotsMany_5 : decode cX7_spotsMany 5 = .ok (.aload_n 0, 1) := by decide +kernel
theorem dX7_spotsMany_6 : decode cX7_spotsMany 6 = .ok (.getfield 7, 3) := by decide +kernel
theorem dX7_spotsMany_9 : decode cX7_spotsMany 9 = .ok (.iconst 2, 1) := by decide +kernel
theorem dX7_spotsMany_10 : decode cX7_spotsMany 10 = .ok (.iaload, 1) := by decide +kernel
theorem dX7_spotsMany_11 : decode cX7_spotsMany 11 = .ok (.if_icmp .ge 26, 3) := by decide +kernel
theorem dX7_spotsMany_14 : decode cX7_spotsMany 14 = .ok (.iload_n 2, 1) := by decide +kernel
theorem dX7_spotsMany_15 : decode cX7_spotsMany 15 = .ok (.aload_n 0, 1) := by decide +kernel
theorem dX7_spotsMany_16 : decode cX7_spotsMany 16 = .ok (.iload_n 3, 1) := by decide +kernel
theorem dX7_spotsMany_17 : decode cX7_spotsMany 17 = .ok (.invokevirtual 73, 3) := by decide +kernel
theorem dX7_spotsMany_20 : decode cX7_spotsMany 20 = .ok (.iload_n 1, 1) := by decide +kernel
theorem dX7_spotsMany_21 : decode cX7_spotsMany 21 = .ok (.if_icmp .ne 7, 3) := by decide +kernel
theorem dX7_spotsMany_24 : decode cX7_spotsMany 24 = .ok (.iconst 1, 1) := by decide +kernel
theorem dX7_spotsMany_25 : decode cX7_spotsMany 25 = .ok (.goto 4, 3) := by decide +kernel
theorem dX7_spotsMany_28 : decode cX7_spotsMany 28 = .ok (.iconst 0, 1) := by decide +kernel
theorem dX7_spotsMany_29 : decode cX7_spotsMany 29 = .ok (.iadd, 1) := by decide +kernel
theorem dX7_spotsMany_30 : decode cX7_spotsMany 30 = .ok (.istore_n 2, 1) := by decide +kernel
theorem dX7_spotsMany_31 : decode cX7_spotsMany 31 = .ok (.iinc 3 1, 3) := by decide +kernel
theorem dX7_spotsMany_34 : decode cX7_spotsMany 34 = .ok (.goto (-30), 3) := by decide +kernel
theorem dX7_spotsMany_37 : decode cX7_spotsMany 37 = .ok (.iload_n 2, 1) := by decide +kernel
theorem dX7_spotsMany_38 : decode cX7_spotsMany 38 = .ok (.ireturn, 1) := by decide +kernel
theorem dX7_whyNotSpot_0 : decode cX7_whyNotSpot 0 = .ok (.iload_n 1, 1) := by decide +kernel
theorem dX7_whyNotSpot_1 : decode cX7_whyNotSpot 1 = .ok (.invokestatic 125, 3) := by decide +kernel
theorem dX7_whyNotSpot_4 : decode cX7_whyNotSpot 4 = .ok (.ifCond .ne 7, 3) := by decide +kernel
theorem dX7_whyNotSpot_7 : decode cX7_whyNotSpot 7 = .ok (.iconst (-1), 1) := by decide +kernel
theorem dX7_whyNotSpot_8 : decode cX7_whyNotSpot 8 = .ok (.goto 35, 3) := by decide +kernel
theorem dX7_whyNotSpot_11 : decode cX7_whyNotSpot 11 = .ok (.iload_n 2, 1) := by decide +kernel
theorem dX7_whyNotSpot_12 : decode cX7_whyNotSpot 12 = .ok (.iconst 1, 1) := by decide +kernel
theorem dX7_whyNotSpot_13 : decode cX7_whyNotSpot 13 = .ok (.bipush 9, 2) := by decide +kernel
theorem dX7_whyNotSpot_15 : decode cX7_whyNotSpot 15 = .ok (.invokestatic 30, 3) := by decide +kernel
theorem dX7_whyNotSpot_18 : decode cX7_whyNotSpot 18 = .ok (.ifCond .ne 8, 3) := by decide +kernel
theorem dX7_whyNotSpot_21 : decode cX7_whyNotSpot 21 = .ok (.bipush (-2), 2) := by decide +kernel
theorem dX7_whyNotSpot_23 : decode cX7_whyNotSpot 23 = .ok (.goto 20, 3) := by decide +kernel
theorem dX7_whyNotSpot_26 : decode cX7_whyNotSpot 26 = .ok (.aload_n 0, 1) := by decide +kernel
theorem dX7_whyNotSpot_27 : decode cX7_whyNotSpot 27 = .ok (.getfield 7, 3) := by decide +kernel
theorem dX7_whyNotSpot_30 : decode cX7_whyNotSpot 30 = .ok (.iconst 2, 1) := by decide +kernel
theorem dX7_whyNotSpot_31 : decode cX7_whyNotSpot 31 = .ok (.iaload, 1) := by decide +kernel
theorem dX7_whyNotSpot_32 : decode cX7_whyNotSpot 32 = .ok (.bipush 20, 2) := by decide +kernel
theorem dX7_whyNotSpot_34 : decode cX7_whyNotSpot 34 = .ok (.if_icmp .ne 8, 3) := by decide +kernel
theorem dX7_whyNotSpot_37 : decode cX7_whyNotSpot 37 = .ok (.bipush (-4), 2) := by decide +kernel
theorem dX7_whyNotSpot_39 : decode cX7_whyNotSpot 39 = .ok (.goto 4, 3) := by decide +kernel
theorem dX7_whyNotSpot_42 : decode cX7_whyNotSpot 42 = .ok (.iconst 0, 1) := by decide +kernel
theorem dX7_whyNotSpot_43 : decode cX7_whyNotSpot 43 = .ok (.ireturn, 1) := by decide +kernel
theorem dX7_adds_0 : decode cX7_adds 0 = .ok (.aload_n 0, 1) := by decide +kernel
theorem dX7_adds_1 : decode cX7_adds 1 = .ok (.getfield 7, 3) := by decide +kernel
theorem dX7_adds_4 : decode cX7_adds 4 = .ok (.bipush 34, 2) := by decide +kernel
theorem dX7_adds_6 : decode cX7_adds 6 = .ok (.iconst 2, 1) := by decide +kernel
theorem dX7_adds_7 : decode cX7_adds 7 = .ok (.aload_n 0, 1) := by decide +kernel
theorem dX7_adds_8 : decode cX7_adds 8 = .ok (.getfield 7, 3) := by decide +kernel
theorem dX7_adds_11 : decode cX7_adds 11 = .ok (.iconst 2, 1) := by decide +kernel
theorem dX7_adds_12 : decode cX7_adds 12 = .ok (.iaload, 1) := by decide +kernel
theorem dX7_adds_13 : decode cX7_adds 13 = .ok (.imul, 1) := by decide +kernel
theorem dX7_adds_14 : decode cX7_adds 14 = .ok (.iadd, 1) := by decide +kernel
theorem dX7_adds_15 : decode cX7_adds 15 = .ok (.iload_n 1, 1) := by decide +kernel
theorem dX7_adds_16 : decode cX7_adds 16 = .ok (.iastore, 1) := by decide +kernel
theorem dX7_adds_17 : decode cX7_adds 17 = .ok (.aload_n 0, 1) := by decide +kernel
theorem dX7_adds_18 : decode cX7_adds 18 = .ok (.getfield 7, 3) := by decide +kernel
theorem dX7_adds_21 : decode cX7_adds 21 = .ok (.bipush 34, 2) := by decide +kernel
theorem dX7_adds_23 : decode cX7_adds 23 = .ok (.iconst 2, 1) := by decide +kernel
theorem dX7_adds_24 : decode cX7_adds 24 = .ok (.aload_n 0, 1) := by decide +kernel
theorem dX7_adds_25 : decode cX7_adds 25 = .ok (.getfield 7, 3) := by decide +kernel
theorem dX7_adds_28 : decode cX7_adds 28 = .ok (.iconst 2, 1) := by decide +kernel
theorem dX7_adds_29 : decode cX7_adds 29 = .ok (.iaload, 1) := by decide +kernel
theorem dX7_adds_30 : decode cX7_adds 30 = .ok (.imul, 1) := by decide +kernel
theorem dX7_adds_31 : decode cX7_adds 31 = .ok (.iadd, 1) := by decide +kernel
theorem dX7_adds_32 : decode cX7_adds 32 = .ok (.iconst 1, 1) := by decide +kernel
theorem dX7_adds_33 : decode cX7_adds 33 = .ok (.iadd, 1) := by decide +kernel
theorem dX7_adds_34 : decode cX7_adds 34 = .ok (.iload_n 2, 1) := by decide +kernel
theorem dX7_adds_35 : decode cX7_adds 35 = .ok (.iastore, 1) := by decide +kernel
theorem dX7_adds_36 : decode cX7_adds 36 = .ok (.aload_n 0, 1) := by decide +kernel
theorem dX7_adds_37 : decode cX7_adds 37 = .ok (.getfield 7, 3) := by decide +kernel
theorem dX7_adds_40 : decode cX7_adds 40 = .ok (.iconst 2, 1) := by decide +kernel
theorem dX7_adds_41 : decode cX7_adds 41 = .ok (.dup2, 1) := by decide +kernel
theorem dX7_adds_42 : decode cX7_adds 42 = .ok (.iaload, 1) := by decide +kernel
theorem dX7_adds_43 : decode cX7_adds 43 = .ok (.iconst 1, 1) := by decide +kernel
theorem dX7_adds_44 : decode cX7_adds 44 = .ok (.iadd, 1) := by decide +kernel
theorem dX7_adds_45 : decode cX7_adds 45 = .ok (.iastore, 1) := by decide +kernel
theorem dX7_adds_46 : decode cX7_adds 46 = .ok (.aload_n 0, 1) := by decide +kernel
theorem dX7_adds_47 : decode cX7_adds 47 = .ok (.iload_n 1, 1) := by decide +kernel
theorem dX7_adds_48 : decode cX7_adds 48 = .ok (.invokevirtual 128, 3) := by decide +kernel
theorem dX7_adds_51 : decode cX7_adds 51 = .ok (.ireturn, 1) := by decide +kernel
theorem dX7_spot_0 : decode cX7_spot 0 = .ok (.aload_n 0, 1) := by decide +kernel
theorem dX7_spot_1 : decode cX7_spot 1 = .ok (.iload_n 1, 1) := by decide +kernel
theorem dX7_spot_2 : decode cX7_spot 2 = .ok (.iload_n 2, 1) := by decide +kernel
theorem dX7_spot_3 : decode cX7_spot 3 = .ok (.invokevirtual 131, 3) := by decide +kernel
theorem dX7_spot_6 : decode cX7_spot 6 = .ok (.istore_n 3, 1) := by decide +kernel
theorem dX7_spot_7 : decode cX7_spot 7 = .ok (.iload_n 3, 1) := by decide +kernel
theorem dX7_spot_8 : decode cX7_spot 8 = .ok (.ifCond .ge 5, 3) := by decide +kernel
theorem dX7_spot_11 : decode cX7_spot 11 = .ok (.iload_n 3, 1) := by decide +kernel
theorem dX7_spot_12 : decode cX7_spot 12 = .ok (.ireturn, 1) := by decide +kernel
theorem dX7_spot_13 : decode cX7_spot 13 = .ok (.aload_n 0, 1) := by decide +kernel
theorem dX7_spot_14 : decode cX7_spot 14 = .ok (.invokevirtual 112, 3) := by decide +kernel
theorem dX7_spot_17 : decode cX7_spot 17 = .ok (.aload_n 0, 1) := by decide +kernel
theorem dX7_spot_18 : decode cX7_spot 18 = .ok (.iload_n 1, 1) := by decide +kernel
theorem dX7_spot_19 : decode cX7_spot 19 = .ok (.iload_n 2, 1) := by decide +kernel
theorem dX7_spot_20 : decode cX7_spot 20 = .ok (.invokevirtual 134, 3) := by decide +kernel
theorem dX7_spot_23 : decode cX7_spot 23 = .ok (.ireturn, 1) := by decide +kernel
theorem dX7_whyNotAsked_0 : decode cX7_whyNotAsked 0 = .ok (.iload_n 1, 1) := by decide +kernel
theorem dX7_whyNotAsked_1 : decode cX7_whyNotAsked 1 = .ok (.invokestatic 125, 3) := by decide +kernel
theorem dX7_whyNotAsked_4 : decode cX7_whyNotAsked 4 = .ok (.ifCond .ne 5, 3) := by decide +kernel
theorem dX7_whyNotAsked_7 : decode cX7_whyNotAsked 7 = .ok (.iconst (-1), 1) := by decide +kernel
theorem dX7_whyNotAsked_8 : decode cX7_whyNotAsked 8 = .ok (.ireturn, 1) := by decide +kernel
theorem dX7_whyNotAsked_9 : decode cX7_whyNotAsked 9 = .ok (.aload_n 0, 1) := by decide +kernel
theorem dX7_whyNotAsked_10 : decode cX7_whyNotAsked 10 = .ok (.iload_n 1, 1) := by decide +kernel
theorem dX7_whyNotAsked_11 : decode cX7_whyNotAsked 11 = .ok (.invokevirtual 137, 3) := by decide +kernel
theorem dX7_whyNotAsked_14 : decode cX7_whyNotAsked 14 = .ok (.bipush (-6), 2) := by decide +kernel
theorem dX7_whyNotAsked_16 : decode cX7_whyNotAsked 16 = .ok (.if_icmp .ne 13, 3) := by decide +kernel
theorem dX7_whyNotAsked_19 : decode cX7_whyNotAsked 19 = .ok (.aload_n 0, 1) := by decide +kernel
theorem dX7_whyNotAsked_20 : decode cX7_whyNotAsked 20 = .ok (.getfield 7, 3) := by decide +kernel
theorem dX7_whyNotAsked_23 : decode cX7_whyNotAsked 23 = .ok (.iconst 5, 1) := by decide +kernel
theorem dX7_whyNotAsked_24 : decode cX7_whyNotAsked 24 = .ok (.iaload, 1) := by decide +kernel
theorem dX7_whyNotAsked_25 : decode cX7_whyNotAsked 25 = .ok (.iload_n 1, 1) := by decide +kernel
theorem dX7_whyNotAsked_26 : decode cX7_whyNotAsked 26 = .ok (.if_icmp .ne 8, 3) := by decide +kernel
theorem dX7_whyNotAsked_29 : decode cX7_whyNotAsked 29 = .ok (.bipush (-3), 2) := by decide +kernel
theorem dX7_whyNotAsked_31 : decode cX7_whyNotAsked 31 = .ok (.goto 21, 3) := by decide +kernel
theorem dX7_whyNotAsked_34 : decode cX7_whyNotAsked 34 = .ok (.aload_n 0, 1) := by decide +kernel
theorem dX7_whyNotAsked_35 : decode cX7_whyNotAsked 35 = .ok (.getfield 7, 3) := by decide +kernel
theorem dX7_whyNotAsked_38 : decode cX7_whyNotAsked 38 = .ok (.bipush 8, 2) := by decide +kernel
theorem dX7_whyNotAsked_40 : decode cX7_whyNotAsked 40 = .ok (.iaload, 1) := by decide +kernel
theorem dX7_whyNotAsked_41 : decode cX7_whyNotAsked 41 = .ok (.bipush 6, 2) := by decide +kernel
theorem dX7_whyNotAsked_43 : decode cX7_whyNotAsked 43 = .ok (.if_icmp .ne 8, 3) := by decide +kernel
theorem dX7_whyNotAsked_46 : decode cX7_whyNotAsked 46 = .ok (.bipush (-4), 2) := by decide +kernel
theorem dX7_whyNotAsked_48 : decode cX7_whyNotAsked 48 = .ok (.goto 4, 3) := by decide +kernel
theorem dX7_whyNotAsked_51 : decode cX7_whyNotAsked 51 = .ok (.iconst 0, 1) := by decide +kernel
theorem dX7_whyNotAsked_52 : decode cX7_whyNotAsked 52 = .ok (.ireturn, 1) := by decide +kernel
theorem dX7_asks_0 : decode cX7_asks 0 = .ok (.aload_n 0, 1) := by decide +kernel
theorem dX7_asks_1 : decode cX7_asks 1 = .ok (.getfield 7, 3) := by decide +kernel
theorem dX7_asks_4 : decode cX7_asks 4 = .ok (.bipush 28, 2) := by decide +kernel
theorem dX7_asks_6 : decode cX7_asks 6 = .ok (.aload_n 0, 1) := by decide +kernel
theorem dX7_asks_7 : decode cX7_asks 7 = .ok (.getfield 7, 3) := by decide +kernel
theorem dX7_asks_10 : decode cX7_asks 10 = .ok (.bipush 8, 2) := by decide +kernel
theorem dX7_asks_12 : decode cX7_asks 12 = .ok (.iaload, 1) := by decide +kernel
theorem dX7_asks_13 : decode cX7_asks 13 = .ok (.iadd, 1) := by decide +kernel
theorem dX7_asks_14 : decode cX7_asks 14 = .ok (.iload_n 1, 1) := by decide +kernel
theorem dX7_asks_15 : decode cX7_asks 15 = .ok (.iastore, 1) := by decide +kernel
theorem dX7_asks_16 : decode cX7_asks 16 = .ok (.aload_n 0, 1) := by decide +kernel
theorem dX7_asks_17 : decode cX7_asks 17 = .ok (.getfield 7, 3) := by decide +kernel
theorem dX7_asks_20 : decode cX7_asks 20 = .ok (.bipush 8, 2) := by decide +kernel
theorem dX7_asks_22 : decode cX7_asks 22 = .ok (.dup2, 1) := by decide +kernel
theorem dX7_asks_23 : decode cX7_asks 23 = .ok (.iaload, 1) := by decide +kernel
theorem dX7_asks_24 : decode cX7_asks 24 = .ok (.iconst 1, 1) := by decide +kernel
theorem dX7_asks_25 : decode cX7_asks 25 = .ok (.iadd, 1) := by decide +kernel
theorem dX7_asks_26 : decode cX7_asks 26 = .ok (.iastore, 1) := by decide +kernel
theorem dX7_asks_27 : decode cX7_asks 27 = .ok (.aload_n 0, 1) := by decide +kernel
theorem dX7_asks_28 : decode cX7_asks 28 = .ok (.getfield 7, 3) := by decide +kernel
theorem dX7_asks_31 : decode cX7_asks 31 = .ok (.bipush 8, 2) := by decide +kernel
theorem dX7_asks_33 : decode cX7_asks 33 = .ok (.iaload, 1) := by decide +kernel
theorem dX7_asks_34 : decode cX7_asks 34 = .ok (.iconst 1, 1) := by decide +kernel
theorem dX7_asks_35 : decode cX7_asks 35 = .ok (.isub, 1) := by decide +kernel
theorem dX7_asks_36 : decode cX7_asks 36 = .ok (.ireturn, 1) := by decide +kernel
theorem dX7_ask_0 : decode cX7_ask 0 = .ok (.aload_n 0, 1) := by decide +kernel
theorem dX7_ask_1 : decode cX7_ask 1 = .ok (.iload_n 1, 1) := by decide +kernel
theorem dX7_ask_2 : decode cX7_ask 2 = .ok (.invokevirtual 140, 3) := by decide +kernel
theorem dX7_ask_5 : decode cX7_ask 5 = .ok (.istore_n 2, 1) := by decide +kernel
theorem dX7_ask_6 : decode cX7_ask 6 = .ok (.iload_n 2, 1) := by decide +kernel
theorem dX7_ask_7 : decode cX7_ask 7 = .ok (.ifCond .ge 5, 3) := by decide +kernel
theorem dX7_ask_10 : decode cX7_ask 10 = .ok (.iload_n 2, 1) := by decide +kernel
theorem dX7_ask_11 : decode cX7_ask 11 = .ok (.ireturn, 1) := by decide +kernel
theorem dX7_ask_12 : decode cX7_ask 12 = .ok (.aload_n 0, 1) := by decide +kernel
theorem dX7_ask_13 : decode cX7_ask 13 = .ok (.invokevirtual 112, 3) := by decide +kernel
theorem dX7_ask_16 : decode cX7_ask 16 = .ok (.aload_n 0, 1) := by decide +kernel
theorem dX7_ask_17 : decode cX7_ask 17 = .ok (.iload_n 1, 1) := by decide +kernel
