theorem dX0_init_0 : decode cX0_init 0 = .ok (.aload_n 0, 1) := by decide +kernel
theorem dX0_init_1 : decode cX0_init 1 = .ok (.invokespecial 3, 3) := by decide +kernel
theorem dX0_init_4 : decode cX0_init 4 = .ok (.aload_n 0, 1) := by decide +kernel
theorem dX0_init_5 : decode cX0_init 5 = .ok (.bipush 6, 2) := by decide +kernel
theorem dX0_init_7 : decode cX0_init 7 = .ok (.newarray .int, 2) := by decide +kernel
theorem dX0_init_9 : decode cX0_init 9 = .ok (.putfield 9, 3) := by decide +kernel
theorem dX0_init_12 : decode cX0_init 12 = .ok (.aload_n 0, 1) := by decide +kernel
theorem dX0_init_13 : decode cX0_init 13 = .ok (.iconst 0, 1) := by decide +kernel
theorem dX0_init_14 : decode cX0_init 14 = .ok (.putfield 15, 3) := by decide +kernel
theorem dX0_init_17 : decode cX0_init 17 = .ok (.return_, 1) := by decide +kernel
theorem dX0_copyFrom_0 : decode cX0_copyFrom 0 = .ok (.aload_n 1, 1) := by decide +kernel
theorem dX0_copyFrom_1 : decode cX0_copyFrom 1 = .ok (.getfield 9, 3) := by decide +kernel
theorem dX0_copyFrom_4 : decode cX0_copyFrom 4 = .ok (.iconst 0, 1) := by decide +kernel
theorem dX0_copyFrom_5 : decode cX0_copyFrom 5 = .ok (.aload_n 0, 1) := by decide +kernel
theorem dX0_copyFrom_6 : decode cX0_copyFrom 6 = .ok (.getfield 9, 3) := by decide +kernel
theorem dX0_copyFrom_9 : decode cX0_copyFrom 9 = .ok (.iconst 0, 1) := by decide +kernel
theorem dX0_copyFrom_10 : decode cX0_copyFrom 10 = .ok (.bipush 6, 2) := by decide +kernel
theorem dX0_copyFrom_12 : decode cX0_copyFrom 12 = .ok (.invokestatic 19, 3) := by decide +kernel
theorem dX0_copyFrom_15 : decode cX0_copyFrom 15 = .ok (.aload_n 0, 1) := by decide +kernel
theorem dX0_copyFrom_16 : decode cX0_copyFrom 16 = .ok (.aload_n 1, 1) := by decide +kernel
theorem dX0_copyFrom_17 : decode cX0_copyFrom 17 = .ok (.getfield 15, 3) := by decide +kernel
theorem dX0_copyFrom_20 : decode cX0_copyFrom 20 = .ok (.putfield 15, 3) := by decide +kernel
theorem dX0_copyFrom_23 : decode cX0_copyFrom 23 = .ok (.return_, 1) := by decide +kernel
theorem dX0_placeOf_0 : decode cX0_placeOf 0 = .ok (.iconst 0, 1) := by decide +kernel
theorem dX0_placeOf_1 : decode cX0_placeOf 1 = .ok (.istore_n 2, 1) := by decide +kernel
theorem dX0_placeOf_2 : decode cX0_placeOf 2 = .ok (.iload_n 2, 1) := by decide +kernel
theorem dX0_placeOf_3 : decode cX0_placeOf 3 = .ok (.aload_n 0, 1) := by decide +kernel
theorem dX0_placeOf_4 : decode cX0_placeOf 4 = .ok (.getfield 15, 3) := by decide +kernel
theorem dX0_placeOf_7 : decode cX0_placeOf 7 = .ok (.if_icmp .ge 21, 3) := by decide +kernel
theorem dX0_placeOf_10 : decode cX0_placeOf 10 = .ok (.aload_n 0, 1) := by decide +kernel
theorem dX0_placeOf_11 : decode cX0_placeOf 11 = .ok (.getfield 9, 3) := by decide +kernel
theorem dX0_placeOf_14 : decode cX0_placeOf 14 = .ok (.iload_n 2, 1) := by decide +kernel
theorem dX0_placeOf_15 : decode cX0_placeOf 15 = .ok (.iaload, 1) := by decide +kernel
theorem dX0_placeOf_16 : decode cX0_placeOf 16 = .ok (.iload_n 1, 1) := by decide +kernel
theorem dX0_placeOf_17 : decode cX0_placeOf 17 = .ok (.if_icmp .ne 5, 3) := by decide +kernel
theorem dX0_placeOf_20 : decode cX0_placeOf 20 = .ok (.iload_n 2, 1) := by decide +kernel
theorem dX0_placeOf_21 : decode cX0_placeOf 21 = .ok (.ireturn, 1) := by decide +kernel
theorem dX0_placeOf_22 : decode cX0_placeOf 22 = .ok (.iinc 2 1, 3) := by decide +kernel
theorem dX0_placeOf_25 : decode cX0_placeOf 25 = .ok (.goto (-23), 3) := by decide +kernel
theorem dX0_placeOf_28 : decode cX0_placeOf 28 = .ok (.bipush (-6), 2) := by decide +kernel
theorem dX0_placeOf_30 : decode cX0_placeOf 30 = .ok (.ireturn, 1) := by decide +kernel
theorem dX0_append_0 : decode cX0_append 0 = .ok (.aload_n 0, 1) := by decide +kernel
theorem dX0_append_1 : decode cX0_append 1 = .ok (.getfield 15, 3) := by decide +kernel
theorem dX0_append_4 : decode cX0_append 4 = .ok (.bipush 6, 2) := by decide +kernel
theorem dX0_append_6 : decode cX0_append 6 = .ok (.if_icmp .lt 5, 3) := by decide +kernel
theorem dX0_append_9 : decode cX0_append 9 = .ok (.iconst 0, 1) := by decide +kernel
theorem dX0_append_10 : decode cX0_append 10 = .ok (.ireturn, 1) := by decide +kernel
theorem dX0_append_11 : decode cX0_append 11 = .ok (.aload_n 0, 1) := by decide +kernel
theorem dX0_append_12 : decode cX0_append 12 = .ok (.getfield 9, 3) := by decide +kernel
theorem dX0_append_15 : decode cX0_append 15 = .ok (.aload_n 0, 1) := by decide +kernel
theorem dX0_append_16 : decode cX0_append 16 = .ok (.getfield 15, 3) := by decide +kernel
theorem dX0_append_19 : decode cX0_append 19 = .ok (.iload_n 1, 1) := by decide +kernel
theorem dX0_append_20 : decode cX0_append 20 = .ok (.iastore, 1) := by decide +kernel
theorem dX0_append_21 : decode cX0_append 21 = .ok (.aload_n 0, 1) := by decide +kernel
theorem dX0_append_22 : decode cX0_append 22 = .ok (.dup, 1) := by decide +kernel
theorem dX0_append_23 : decode cX0_append 23 = .ok (.getfield 15, 3) := by decide +kernel
theorem dX0_append_26 : decode cX0_append 26 = .ok (.iconst 1, 1) := by decide +kernel
theorem dX0_append_27 : decode cX0_append 27 = .ok (.iadd, 1) := by decide +kernel
theorem dX0_append_28 : decode cX0_append 28 = .ok (.putfield 15, 3) := by decide +kernel
theorem dX0_append_31 : decode cX0_append 31 = .ok (.iconst 1, 1) := by decide +kernel
theorem dX0_append_32 : decode cX0_append 32 = .ok (.ireturn, 1) := by decide +kernel
theorem dX0_drop_0 : decode cX0_drop 0 = .ok (.aload_n 0, 1) := by decide +kernel
theorem dX0_drop_1 : decode cX0_drop 1 = .ok (.iload_n 1, 1) := by decide +kernel
theorem dX0_drop_2 : decode cX0_drop 2 = .ok (.invokevirtual 25, 3) := by decide +kernel
theorem dX0_drop_5 : decode cX0_drop 5 = .ok (.istore_n 2, 1) := by decide +kernel
theorem dX0_drop_6 : decode cX0_drop 6 = .ok (.iload_n 2, 1) := by decide +kernel
theorem dX0_drop_7 : decode cX0_drop 7 = .ok (.bipush (-6), 2) := by decide +kernel
theorem dX0_drop_9 : decode cX0_drop 9 = .ok (.if_icmp .ne 5, 3) := by decide +kernel
theorem dX0_drop_12 : decode cX0_drop 12 = .ok (.iconst 0, 1) := by decide +kernel
theorem dX0_drop_13 : decode cX0_drop 13 = .ok (.ireturn, 1) := by decide +kernel
theorem dX0_drop_14 : decode cX0_drop 14 = .ok (.iload_n 2, 1) := by decide +kernel
theorem dX0_drop_15 : decode cX0_drop 15 = .ok (.iconst 1, 1) := by decide +kernel
theorem dX0_drop_16 : decode cX0_drop 16 = .ok (.iadd, 1) := by decide +kernel
theorem dX0_drop_17 : decode cX0_drop 17 = .ok (.istore_n 3, 1) := by decide +kernel
theorem dX0_drop_18 : decode cX0_drop 18 = .ok (.iload_n 3, 1) := by decide +kernel
theorem dX0_drop_19 : decode cX0_drop 19 = .ok (.aload_n 0, 1) := by decide +kernel
theorem dX0_drop_20 : decode cX0_drop 20 = .ok (.getfield 15, 3) := by decide +kernel
theorem dX0_drop_23 : decode cX0_drop 23 = .ok (.if_icmp .ge 23, 3) := by decide +kernel
theorem dX0_drop_26 : decode cX0_drop 26 = .ok (.aload_n 0, 1) := by decide +kernel
theorem dX0_drop_27 : decode cX0_drop 27 = .ok (.getfield 9, 3) := by decide +kernel
theorem dX0_drop_30 : decode cX0_drop 30 = .ok (.iload_n 3, 1) := by decide +kernel
theorem dX0_drop_31 : decode cX0_drop 31 = .ok (.iconst 1, 1) := by decide +kernel
theorem dX0_drop_32 : decode cX0_drop 32 = .ok (.isub, 1) := by decide +kernel
theorem dX0_drop_33 : decode cX0_drop 33 = .ok (.aload_n 0, 1) := by decide +kernel
theorem dX0_drop_34 : decode cX0_drop 34 = .ok (.getfield 9, 3) := by decide +kernel
theorem dX0_drop_37 : decode cX0_drop 37 = .ok (.iload_n 3, 1) := by decide +kernel
theorem dX0_drop_38 : decode cX0_drop 38 = .ok (.iaload, 1) := by decide +kernel
theorem dX0_drop_39 : decode cX0_drop 39 = .ok (.iastore, 1) := by decide +kernel
theorem dX0_drop_40 : decode cX0_drop 40 = .ok (.iinc 3 1, 3) := by decide +kernel
theorem dX0_drop_43 : decode cX0_drop 43 = .ok (.goto (-25), 3) := by decide +kernel
theorem dX0_drop_46 : decode cX0_drop 46 = .ok (.aload_n 0, 1) := by decide +kernel
theorem dX0_drop_47 : decode cX0_drop 47 = .ok (.dup, 1) := by decide +kernel
theorem dX0_drop_48 : decode cX0_drop 48 = .ok (.getfield 15, 3) := by decide +kernel
theorem dX0_drop_51 : decode cX0_drop 51 = .ok (.iconst 1, 1) := by decide +kernel
theorem dX0_drop_52 : decode cX0_drop 52 = .ok (.isub, 1) := by decide +kernel
theorem dX0_drop_53 : decode cX0_drop 53 = .ok (.putfield 15, 3) := by decide +kernel
theorem dX0_drop_56 : decode cX0_drop 56 = .ok (.iconst 1, 1) := by decide +kernel
theorem dX0_drop_57 : decode cX0_drop 57 = .ok (.ireturn, 1) := by decide +kernel
theorem dX1_init_0 : decode cX1_init 0 = .ok (.aload_n 0, 1) := by decide +kernel
theorem dX1_init_1 : decode cX1_init 1 = .ok (.invokespecial 3, 3) := by decide +kernel
theorem dX1_init_4 : decode cX1_init 4 = .ok (.aload_n 0, 1) := by decide +kernel
theorem dX1_init_5 : decode cX1_init 5 = .ok (.iconst 5, 1) := by decide +kernel
theorem dX1_init_6 : decode cX1_init 6 = .ok (.newarray .int, 2) := by decide +kernel
theorem dX1_init_8 : decode cX1_init 8 = .ok (.putfield 9, 3) := by decide +kernel
theorem dX1_init_11 : decode cX1_init 11 = .ok (.aload_n 0, 1) := by decide +kernel
theorem dX1_init_12 : decode cX1_init 12 = .ok (.bipush 8, 2) := by decide +kernel
theorem dX1_init_14 : decode cX1_init 14 = .ok (.newarray .int, 2) := by decide +kernel
theorem dX1_init_16 : decode cX1_init 16 = .ok (.putfield 15, 3) := by decide +kernel
theorem dX1_init_19 : decode cX1_init 19 = .ok (.aload_n 0, 1) := by decide +kernel
theorem dX1_init_20 : decode cX1_init 20 = .ok (.new 18, 3) := by decide +kernel
theorem dX1_init_23 : decode cX1_init 23 = .ok (.dup, 1) := by decide +kernel
theorem dX1_init_24 : decode cX1_init 24 = .ok (.invokespecial 20, 3) := by decide +kernel
theorem dX1_init_27 : decode cX1_init 27 = .ok (.putfield 21, 3) := by decide +kernel
theorem dX1_init_30 : decode cX1_init 30 = .ok (.aload_n 0, 1) := by decide +kernel
theorem dX1_init_31 : decode cX1_init 31 = .ok (.new 25, 3) := by decide +kernel
theorem dX1_init_34 : decode cX1_init 34 = .ok (.dup, 1) := by decide +kernel
theorem dX1_init_35 : decode cX1_init 35 = .ok (.invokespecial 27, 3) := by decide +kernel
theorem dX1_init_38 : decode cX1_init 38 = .ok (.putfield 28, 3) := by decide +kernel
theorem dX1_init_41 : decode cX1_init 41 = .ok (.aload_n 0, 1) := by decide +kernel
theorem dX1_init_42 : decode cX1_init 42 = .ok (.new 32, 3) := by decide +kernel
theorem dX1_init_45 : decode cX1_init 45 = .ok (.dup, 1) := by decide +kernel
theorem dX1_init_46 : decode cX1_init 46 = .ok (.invokespecial 34, 3) := by decide +kernel
theorem dX1_init_49 : decode cX1_init 49 = .ok (.putfield 35, 3) := by decide +kernel
theorem dX1_init_52 : decode cX1_init 52 = .ok (.aload_n 0, 1) := by decide +kernel
theorem dX1_init_53 : decode cX1_init 53 = .ok (.iconst 0, 1) := by decide +kernel
theorem dX1_init_54 : decode cX1_init 54 = .ok (.putfield 39, 3) := by decide +kernel
theorem dX1_init_57 : decode cX1_init 57 = .ok (.aload_n 0, 1) := by decide +kernel
theorem dX1_init_58 : decode cX1_init 58 = .ok (.bipush 6, 2) := by decide +kernel
theorem dX1_init_60 : decode cX1_init 60 = .ok (.putfield 43, 3) := by decide +kernel
theorem dX1_init_63 : decode cX1_init 63 = .ok (.aload_n 0, 1) := by decide +kernel
theorem dX1_init_64 : decode cX1_init 64 = .ok (.iconst 0, 1) := by decide +kernel
theorem dX1_init_65 : decode cX1_init 65 = .ok (.putfield 46, 3) := by decide +kernel
theorem dX1_init_68 : decode cX1_init 68 = .ok (.aload_n 0, 1) := by decide +kernel
theorem dX1_init_69 : decode cX1_init 69 = .ok (.iconst 0, 1) := by decide +kernel
theorem dX1_init_70 : decode cX1_init 70 = .ok (.putfield 49, 3) := by decide +kernel
theorem dX1_init_73 : decode cX1_init 73 = .ok (.aload_n 0, 1) := by decide +kernel
theorem dX1_init_74 : decode cX1_init 74 = .ok (.bipush (-6), 2) := by decide +kernel
theorem dX1_init_76 : decode cX1_init 76 = .ok (.putfield 52, 3) := by decide +kernel
theorem dX1_init_79 : decode cX1_init 79 = .ok (.aload_n 0, 1) := by decide +kernel
theorem dX1_init_80 : decode cX1_init 80 = .ok (.iconst 0, 1) := by decide +kernel
theorem dX1_init_81 : decode cX1_init 81 = .ok (.putfield 55, 3) := by decide +kernel
theorem dX1_init_84 : decode cX1_init 84 = .ok (.aload_n 0, 1) := by decide +kernel
theorem dX1_init_85 : decode cX1_init 85 = .ok (.iconst 0, 1) := by decide +kernel
theorem dX1_init_86 : decode cX1_init 86 = .ok (.putfield 58, 3) := by decide +kernel
theorem dX1_init_89 : decode cX1_init 89 = .ok (.aload_n 0, 1) := by decide +kernel
theorem dX1_init_90 : decode cX1_init 90 = .ok (.iconst 0, 1) := by decide +kernel
theorem dX1_init_91 : decode cX1_init 91 = .ok (.putfield 61, 3) := by decide +kernel
theorem dX1_init_94 : decode cX1_init 94 = .ok (.aload_n 0, 1) := by decide +kernel
theorem dX1_init_95 : decode cX1_init 95 = .ok (.iconst 0, 1) := by decide +kernel
theorem dX1_init_96 : decode cX1_init 96 = .ok (.putfield 64, 3) := by decide +kernel
theorem dX1_init_99 : decode cX1_init 99 = .ok (.aload_n 0, 1) := by decide +kernel
theorem dX1_init_100 : decode cX1_init 100 = .ok (.iconst 0, 1) := by decide +kernel
theorem dX1_init_101 : decode cX1_init 101 = .ok (.putfield 67, 3) := by decide +kernel
theorem dX1_init_104 : decode cX1_init 104 = .ok (.aload_n 0, 1) := by decide +kernel
theorem dX1_init_105 : decode cX1_init 105 = .ok (.iconst 0, 1) := by decide +kernel
theorem dX1_init_106 : decode cX1_init 106 = .ok (.putfield 70, 3) := by decide +kernel
theorem dX1_init_109 : decode cX1_init 109 = .ok (.aload_n 0, 1) := by decide +kernel
theorem dX1_init_110 : decode cX1_init 110 = .ok (.iconst 0, 1) := by decide +kernel
theorem dX1_init_111 : decode cX1_init 111 = .ok (.putfield 73, 3) := by decide +kernel
theorem dX1_init_114 : decode cX1_init 114 = .ok (.getstatic 76, 3) := by decide +kernel
theorem dX1_init_117 : decode cX1_init 117 = .ok (.iconst 0, 1) := by decide +kernel
theorem dX1_init_118 : decode cX1_init 118 = .ok (.aload_n 0, 1) := by decide +kernel
theorem dX1_init_119 : decode cX1_init 119 = .ok (.getfield 9, 3) := by decide +kernel
theorem dX1_init_122 : decode cX1_init 122 = .ok (.iconst 0, 1) := by decide +kernel
theorem dX1_init_123 : decode cX1_init 123 = .ok (.iconst 5, 1) := by decide +kernel
theorem dX1_init_124 : decode cX1_init 124 = .ok (.invokestatic 79, 3) := by decide +kernel
theorem dX1_init_127 : decode cX1_init 127 = .ok (.return_, 1) := by decide +kernel
theorem dX1_copyFrom_0 : decode cX1_copyFrom 0 = .ok (.aload_n 1, 1) := by decide +kernel
theorem dX1_copyFrom_1 : decode cX1_copyFrom 1 = .ok (.getfield 9, 3) := by decide +kernel
theorem dX1_copyFrom_4 : decode cX1_copyFrom 4 = .ok (.iconst 0, 1) := by decide +kernel
theorem dX1_copyFrom_5 : decode cX1_copyFrom 5 = .ok (.aload_n 0, 1) := by decide +kernel
theorem dX1_copyFrom_6 : decode cX1_copyFrom 6 = .ok (.getfield 9, 3) := by decide +kernel
theorem dX1_copyFrom_9 : decode cX1_copyFrom 9 = .ok (.iconst 0, 1) := by decide +kernel
theorem dX1_copyFrom_10 : decode cX1_copyFrom 10 = .ok (.iconst 5, 1) := by decide +kernel
theorem dX1_copyFrom_11 : decode cX1_copyFrom 11 = .ok (.invokestatic 79, 3) := by decide +kernel
theorem dX1_copyFrom_14 : decode cX1_copyFrom 14 = .ok (.aload_n 1, 1) := by decide +kernel
theorem dX1_copyFrom_15 : decode cX1_copyFrom 15 = .ok (.getfield 15, 3) := by decide +kernel
theorem dX1_copyFrom_18 : decode cX1_copyFrom 18 = .ok (.iconst 0, 1) := by decide +kernel
theorem dX1_copyFrom_19 : decode cX1_copyFrom 19 = .ok (.aload_n 0, 1) := by decide +kernel
theorem dX1_copyFrom_20 : decode cX1_copyFrom 20 = .ok (.getfield 15, 3) := by decide +kernel
theorem dX1_copyFrom_23 : decode cX1_copyFrom 23 = .ok (.iconst 0, 1) := by decide +kernel
theorem dX1_copyFrom_24 : decode cX1_copyFrom 24 = .ok (.bipush 8, 2) := by decide +kernel
theorem dX1_copyFrom_26 : decode cX1_copyFrom 26 = .ok (.invokestatic 79, 3) := by decide +kernel
theorem dX1_copyFrom_29 : decode cX1_copyFrom 29 = .ok (.aload_n 0, 1) := by decide +kernel
theorem dX1_copyFrom_30 : decode cX1_copyFrom 30 = .ok (.getfield 21, 3) := by decide +kernel
theorem dX1_copyFrom_33 : decode cX1_copyFrom 33 = .ok (.aload_n 1, 1) := by decide +kernel
theorem dX1_copyFrom_34 : decode cX1_copyFrom 34 = .ok (.getfield 21, 3) := by decide +kernel
theorem dX1_copyFrom_37 : decode cX1_copyFrom 37 = .ok (.invokevirtual 85, 3) := by decide +kernel
theorem dX1_copyFrom_40 : decode cX1_copyFrom 40 = .ok (.aload_n 0, 1) := by decide +kernel
theorem dX1_copyFrom_41 : decode cX1_copyFrom 41 = .ok (.getfield 28, 3) := by decide +kernel
theorem dX1_copyFrom_44 : decode cX1_copyFrom 44 = .ok (.aload_n 1, 1) := by decide +kernel
theorem dX1_copyFrom_45 : decode cX1_copyFrom 45 = .ok (.getfield 28, 3) := by decide +kernel
theorem dX1_copyFrom_48 : decode cX1_copyFrom 48 = .ok (.invokevirtual 89, 3) := by decide +kernel
theorem dX1_copyFrom_51 : decode cX1_copyFrom 51 = .ok (.aload_n 0, 1) := by decide +kernel
theorem dX1_copyFrom_52 : decode cX1_copyFrom 52 = .ok (.getfield 35, 3) := by decide +kernel
theorem dX1_copyFrom_55 : decode cX1_copyFrom 55 = .ok (.aload_n 1, 1) := by decide +kernel
theorem dX1_copyFrom_56 : decode cX1_copyFrom 56 = .ok (.getfield 35, 3) := by decide +kernel
theorem dX1_copyFrom_59 : decode cX1_copyFrom 59 = .ok (.invokevirtual 92, 3) := by decide +kernel
theorem dX1_copyFrom_62 : decode cX1_copyFrom 62 = .ok (.aload_n 0, 1) := by decide +kernel
theorem dX1_copyFrom_63 : decode cX1_copyFrom 63 = .ok (.aload_n 1, 1) := by decide +kernel
theorem dX1_copyFrom_64 : decode cX1_copyFrom 64 = .ok (.getfield 39, 3) := by decide +kernel
theorem dX1_copyFrom_67 : decode cX1_copyFrom 67 = .ok (.putfield 39, 3) := by decide +kernel
theorem dX1_copyFrom_70 : decode cX1_copyFrom 70 = .ok (.aload_n 0, 1) := by decide +kernel
theorem dX1_copyFrom_71 : decode cX1_copyFrom 71 = .ok (.aload_n 1, 1) := by decide +kernel
theorem dX1_copyFrom_72 : decode cX1_copyFrom 72 = .ok (.getfield 43, 3) := by decide +kernel
theorem dX1_copyFrom_75 : decode cX1_copyFrom 75 = .ok (.putfield 43, 3) := by decide +kernel
theorem dX1_copyFrom_78 : decode cX1_copyFrom 78 = .ok (.aload_n 0, 1) := by decide +kernel
theorem dX1_copyFrom_79 : decode cX1_copyFrom 79 = .ok (.aload_n 1, 1) := by decide +kernel
theorem dX1_copyFrom_80 : decode cX1_copyFrom 80 = .ok (.getfield 46, 3) := by decide +kernel
theorem dX1_copyFrom_83 : decode cX1_copyFrom 83 = .ok (.putfield 46, 3) := by decide +kernel
theorem dX1_copyFrom_86 : decode cX1_copyFrom 86 = .ok (.aload_n 0, 1) := by decide +kernel
theorem dX1_copyFrom_87 : decode cX1_copyFrom 87 = .ok (.aload_n 1, 1) := by decide +kernel
theorem dX1_copyFrom_88 : decode cX1_copyFrom 88 = .ok (.getfield 49, 3) := by decide +kernel
theorem dX1_copyFrom_91 : decode cX1_copyFrom 91 = .ok (.putfield 49, 3) := by decide +kernel
theorem dX1_copyFrom_94 : decode cX1_copyFrom 94 = .ok (.aload_n 0, 1) := by decide +kernel
theorem dX1_copyFrom_95 : decode cX1_copyFrom 95 = .ok (.aload_n 1, 1) := by decide +kernel
theorem dX1_copyFrom_96 : decode cX1_copyFrom 96 = .ok (.getfield 52, 3) := by decide +kernel
theorem dX1_copyFrom_99 : decode cX1_copyFrom 99 = .ok (.putfield 52, 3) := by decide +kernel
theorem dX1_copyFrom_102 : decode cX1_copyFrom 102 = .ok (.aload_n 0, 1) := by decide +kernel
theorem dX1_copyFrom_103 : decode cX1_copyFrom 103 = .ok (.aload_n 1, 1) := by decide +kernel
theorem dX1_copyFrom_104 : decode cX1_copyFrom 104 = .ok (.getfield 55, 3) := by decide +kernel
theorem dX1_copyFrom_107 : decode cX1_copyFrom 107 = .ok (.putfield 55, 3) := by decide +kernel
theorem dX1_copyFrom_110 : decode cX1_copyFrom 110 = .ok (.aload_n 0, 1) := by decide +kernel
theorem dX1_copyFrom_111 : decode cX1_copyFrom 111 = .ok (.aload_n 1, 1) := by decide +kernel
theorem dX1_copyFrom_112 : decode cX1_copyFrom 112 = .ok (.getfield 58, 3) := by decide +kernel
theorem dX1_copyFrom_115 : decode cX1_copyFrom 115 = .ok (.putfield 58, 3) := by decide +kernel
theorem dX1_copyFrom_118 : decode cX1_copyFrom 118 = .ok (.aload_n 0, 1) := by decide +kernel
theorem dX1_copyFrom_119 : decode cX1_copyFrom 119 = .ok (.aload_n 1, 1) := by decide +kernel
theorem dX1_copyFrom_120 : decode cX1_copyFrom 120 = .ok (.getfield 61, 3) := by decide +kernel
theorem dX1_copyFrom_123 : decode cX1_copyFrom 123 = .ok (.putfield 61, 3) := by decide +kernel
theorem dX1_copyFrom_126 : decode cX1_copyFrom 126 = .ok (.aload_n 0, 1) := by decide +kernel
theorem dX1_copyFrom_127 : decode cX1_copyFrom 127 = .ok (.aload_n 1, 1) := by decide +kernel
theorem dX1_copyFrom_128 : decode cX1_copyFrom 128 = .ok (.getfield 64, 3) := by decide +kernel
theorem dX1_copyFrom_131 : decode cX1_copyFrom 131 = .ok (.putfield 64, 3) := by decide +kernel
theorem dX1_copyFrom_134 : decode cX1_copyFrom 134 = .ok (.aload_n 0, 1) := by decide +kernel
theorem dX1_copyFrom_135 : decode cX1_copyFrom 135 = .ok (.aload_n 1, 1) := by decide +kernel
theorem dX1_copyFrom_136 : decode cX1_copyFrom 136 = .ok (.getfield 67, 3) := by decide +kernel
theorem dX1_copyFrom_139 : decode cX1_copyFrom 139 = .ok (.putfield 67, 3) := by decide +kernel
theorem dX1_copyFrom_142 : decode cX1_copyFrom 142 = .ok (.aload_n 0, 1) := by decide +kernel
theorem dX1_copyFrom_143 : decode cX1_copyFrom 143 = .ok (.aload_n 1, 1) := by decide +kernel
theorem dX1_copyFrom_144 : decode cX1_copyFrom 144 = .ok (.getfield 70, 3) := by decide +kernel
theorem dX1_copyFrom_147 : decode cX1_copyFrom 147 = .ok (.putfield 70, 3) := by decide +kernel
theorem dX1_copyFrom_150 : decode cX1_copyFrom 150 = .ok (.aload_n 0, 1) := by decide +kernel
theorem dX1_copyFrom_151 : decode cX1_copyFrom 151 = .ok (.aload_n 1, 1) := by decide +kernel
theorem dX1_copyFrom_152 : decode cX1_copyFrom 152 = .ok (.getfield 73, 3) := by decide +kernel
theorem dX1_copyFrom_155 : decode cX1_copyFrom 155 = .ok (.putfield 73, 3) := by decide +kernel
theorem dX1_copyFrom_158 : decode cX1_copyFrom 158 = .ok (.return_, 1) := by decide +kernel
theorem dX1_changeSetting_0 : decode cX1_changeSetting 0 = .ok (.iload_n 1, 1) := by decide +kernel
theorem dX1_changeSetting_1 : decode cX1_changeSetting 1 = .ok (.invokestatic 95, 3) := by decide +kernel
theorem dX1_changeSetting_4 : decode cX1_changeSetting 4 = .ok (.ifCond .ne 5, 3) := by decide +kernel
theorem dX1_changeSetting_7 : decode cX1_changeSetting 7 = .ok (.iconst (-1), 1) := by decide +kernel
theorem dX1_changeSetting_8 : decode cX1_changeSetting 8 = .ok (.ireturn, 1) := by decide +kernel
theorem dX1_changeSetting_9 : decode cX1_changeSetting 9 = .ok (.iload_n 2, 1) := by decide +kernel
theorem dX1_changeSetting_10 : decode cX1_changeSetting 10 = .ok (.getstatic 99, 3) := by decide +kernel
theorem dX1_changeSetting_13 : decode cX1_changeSetting 13 = .ok (.iload_n 1, 1) := by decide +kernel
theorem dX1_changeSetting_14 : decode cX1_changeSetting 14 = .ok (.iaload, 1) := by decide +kernel
theorem dX1_changeSetting_15 : decode cX1_changeSetting 15 = .ok (.if_icmp .lt 12, 3) := by decide +kernel
theorem dX1_changeSetting_18 : decode cX1_changeSetting 18 = .ok (.iload_n 2, 1) := by decide +kernel
theorem dX1_changeSetting_19 : decode cX1_changeSetting 19 = .ok (.getstatic 102, 3) := by decide +kernel
theorem dX1_changeSetting_22 : decode cX1_changeSetting 22 = .ok (.iload_n 1, 1) := by decide +kernel
theorem dX1_changeSetting_23 : decode cX1_changeSetting 23 = .ok (.iaload, 1) := by decide +kernel
theorem dX1_changeSetting_24 : decode cX1_changeSetting 24 = .ok (.if_icmp .le 6, 3) := by decide +kernel
theorem dX1_changeSetting_27 : decode cX1_changeSetting 27 = .ok (.bipush (-2), 2) := by decide +kernel
theorem dX1_changeSetting_29 : decode cX1_changeSetting 29 = .ok (.ireturn, 1) := by decide +kernel
theorem dX1_changeSetting_30 : decode cX1_changeSetting 30 = .ok (.aload_n 0, 1) := by decide +kernel
theorem dX1_changeSetting_31 : decode cX1_changeSetting 31 = .ok (.getfield 9, 3) := by decide +kernel
theorem dX1_changeSetting_34 : decode cX1_changeSetting 34 = .ok (.iload_n 1, 1) := by decide +kernel
theorem dX1_changeSetting_35 : decode cX1_changeSetting 35 = .ok (.iaload, 1) := by decide +kernel
theorem dX1_changeSetting_36 : decode cX1_changeSetting 36 = .ok (.istore_n 3, 1) := by decide +kernel
theorem dX1_changeSetting_37 : decode cX1_changeSetting 37 = .ok (.aload_n 0, 1) := by decide +kernel
theorem dX1_changeSetting_38 : decode cX1_changeSetting 38 = .ok (.getfield 9, 3) := by decide +kernel
theorem dX1_changeSetting_41 : decode cX1_changeSetting 41 = .ok (.iload_n 1, 1) := by decide +kernel
theorem dX1_changeSetting_42 : decode cX1_changeSetting 42 = .ok (.iload_n 2, 1) := by decide +kernel
theorem dX1_changeSetting_43 : decode cX1_changeSetting 43 = .ok (.iastore, 1) := by decide +kernel
theorem dX1_changeSetting_44 : decode cX1_changeSetting 44 = .ok (.iload_n 3, 1) := by decide +kernel
theorem dX1_changeSetting_45 : decode cX1_changeSetting 45 = .ok (.ireturn, 1) := by decide +kernel
theorem dX1_changeWay_0 : decode cX1_changeWay 0 = .ok (.iload_n 1, 1) := by decide +kernel
theorem dX1_changeWay_1 : decode cX1_changeWay 1 = .ok (.ifCond .lt 8, 3) := by decide +kernel
theorem dX1_changeWay_4 : decode cX1_changeWay 4 = .ok (.iload_n 1, 1) := by decide +kernel
theorem dX1_changeWay_5 : decode cX1_changeWay 5 = .ok (.iconst 3, 1) := by decide +kernel
theorem dX1_changeWay_6 : decode cX1_changeWay 6 = .ok (.if_icmp .lt 6, 3) := by decide +kernel
theorem dX1_changeWay_9 : decode cX1_changeWay 9 = .ok (.bipush (-2), 2) := by decide +kernel
theorem dX1_changeWay_11 : decode cX1_changeWay 11 = .ok (.ireturn, 1) := by decide +kernel
theorem dX1_changeWay_12 : decode cX1_changeWay 12 = .ok (.aload_n 0, 1) := by decide +kernel
theorem dX1_changeWay_13 : decode cX1_changeWay 13 = .ok (.getfield 39, 3) := by decide +kernel
theorem dX1_changeWay_16 : decode cX1_changeWay 16 = .ok (.istore_n 2, 1) := by decide +kernel
theorem dX1_changeWay_17 : decode cX1_changeWay 17 = .ok (.aload_n 0, 1) := by decide +kernel
theorem dX1_changeWay_18 : decode cX1_changeWay 18 = .ok (.iload_n 1, 1) := by decide +kernel
theorem dX1_changeWay_19 : decode cX1_changeWay 19 = .ok (.putfield 39, 3) := by decide +kernel
theorem dX1_changeWay_22 : decode cX1_changeWay 22 = .ok (.iload_n 2, 1) := by decide +kernel
theorem dX1_changeWay_23 : decode cX1_changeWay 23 = .ok (.ireturn, 1) := by decide +kernel
theorem dX1_takeSpares_0 : decode cX1_takeSpares 0 = .ok (.iload_n 1, 1) := by decide +kernel
theorem dX1_takeSpares_1 : decode cX1_takeSpares 1 = .ok (.iconst 1, 1) := by decide +kernel
theorem dX1_takeSpares_2 : decode cX1_takeSpares 2 = .ok (.if_icmp .lt 9, 3) := by decide +kernel
theorem dX1_takeSpares_5 : decode cX1_takeSpares 5 = .ok (.iload_n 1, 1) := by decide +kernel
theorem dX1_takeSpares_6 : decode cX1_takeSpares 6 = .ok (.bipush 9, 2) := by decide +kernel
theorem dX1_takeSpares_8 : decode cX1_takeSpares 8 = .ok (.if_icmp .le 6, 3) := by decide +kernel
theorem dX1_takeSpares_11 : decode cX1_takeSpares 11 = .ok (.bipush (-2), 2) := by decide +kernel
theorem dX1_takeSpares_13 : decode cX1_takeSpares 13 = .ok (.ireturn, 1) := by decide +kernel
theorem dX1_takeSpares_14 : decode cX1_takeSpares 14 = .ok (.aload_n 0, 1) := by decide +kernel
theorem dX1_takeSpares_15 : decode cX1_takeSpares 15 = .ok (.getfield 43, 3) := by decide +kernel
theorem dX1_takeSpares_18 : decode cX1_takeSpares 18 = .ok (.iload_n 1, 1) := by decide +kernel
theorem dX1_takeSpares_19 : decode cX1_takeSpares 19 = .ok (.iadd, 1) := by decide +kernel
theorem dX1_takeSpares_20 : decode cX1_takeSpares 20 = .ok (.bipush 50, 2) := by decide +kernel
theorem dX1_takeSpares_22 : decode cX1_takeSpares 22 = .ok (.if_icmp .le 6, 3) := by decide +kernel
theorem dX1_takeSpares_25 : decode cX1_takeSpares 25 = .ok (.bipush (-4), 2) := by decide +kernel
theorem dX1_takeSpares_27 : decode cX1_takeSpares 27 = .ok (.ireturn, 1) := by decide +kernel
theorem dX1_takeSpares_28 : decode cX1_takeSpares 28 = .ok (.aload_n 0, 1) := by decide +kernel
theorem dX1_takeSpares_29 : decode cX1_takeSpares 29 = .ok (.dup, 1) := by decide +kernel
theorem dX1_takeSpares_30 : decode cX1_takeSpares 30 = .ok (.getfield 43, 3) := by decide +kernel
theorem dX1_takeSpares_33 : decode cX1_takeSpares 33 = .ok (.iload_n 1, 1) := by decide +kernel
theorem dX1_takeSpares_34 : decode cX1_takeSpares 34 = .ok (.iadd, 1) := by decide +kernel
theorem dX1_takeSpares_35 : decode cX1_takeSpares 35 = .ok (.putfield 43, 3) := by decide +kernel
theorem dX1_takeSpares_38 : decode cX1_takeSpares 38 = .ok (.aload_n 0, 1) := by decide +kernel
theorem dX1_takeSpares_39 : decode cX1_takeSpares 39 = .ok (.getfield 43, 3) := by decide +kernel
theorem dX1_takeSpares_42 : decode cX1_takeSpares 42 = .ok (.ireturn, 1) := by decide +kernel
theorem dX1_takeSpot_0 : decode cX1_takeSpot 0 = .ok (.iload_n 1, 1) := by decide +kernel
theorem dX1_takeSpot_1 : decode cX1_takeSpot 1 = .ok (.invokestatic 105, 3) := by decide +kernel
theorem dX1_takeSpot_4 : decode cX1_takeSpot 4 = .ok (.ifCond .ne 5, 3) := by decide +kernel
theorem dX1_takeSpot_7 : decode cX1_takeSpot 7 = .ok (.iconst (-1), 1) := by decide +kernel
theorem dX1_takeSpot_8 : decode cX1_takeSpot 8 = .ok (.ireturn, 1) := by decide +kernel
theorem dX1_takeSpot_9 : decode cX1_takeSpot 9 = .ok (.iload_n 2, 1) := by decide +kernel
theorem dX1_takeSpot_10 : decode cX1_takeSpot 10 = .ok (.iconst 1, 1) := by decide +kernel
theorem dX1_takeSpot_11 : decode cX1_takeSpot 11 = .ok (.if_icmp .lt 9, 3) := by decide +kernel
theorem dX1_takeSpot_14 : decode cX1_takeSpot 14 = .ok (.iload_n 2, 1) := by decide +kernel
theorem dX1_takeSpot_15 : decode cX1_takeSpot 15 = .ok (.bipush 9, 2) := by decide +kernel
theorem dX1_takeSpot_17 : decode cX1_takeSpot 17 = .ok (.if_icmp .le 6, 3) := by decide +kernel
theorem dX1_takeSpot_20 : decode cX1_takeSpot 20 = .ok (.bipush (-2), 2) := by decide +kernel
theorem dX1_takeSpot_22 : decode cX1_takeSpot 22 = .ok (.ireturn, 1) := by decide +kernel
theorem dX1_takeSpot_23 : decode cX1_takeSpot 23 = .ok (.aload_n 0, 1) := by decide +kernel
theorem dX1_takeSpot_24 : decode cX1_takeSpot 24 = .ok (.getfield 21, 3) := by decide +kernel
theorem dX1_takeSpot_27 : decode cX1_takeSpot 27 = .ok (.iload_n 1, 1) := by decide +kernel
theorem dX1_takeSpot_28 : decode cX1_takeSpot 28 = .ok (.iload_n 2, 1) := by decide +kernel
theorem dX1_takeSpot_29 : decode cX1_takeSpot 29 = .ok (.invokevirtual 108, 3) := by decide +kernel
theorem dX1_takeSpot_32 : decode cX1_takeSpot 32 = .ok (.ifCond .ne 6, 3) := by decide +kernel
theorem dX1_takeSpot_35 : decode cX1_takeSpot 35 = .ok (.bipush (-4), 2) := by decide +kernel
theorem dX1_takeSpot_37 : decode cX1_takeSpot 37 = .ok (.ireturn, 1) := by decide +kernel
theorem dX1_takeSpot_38 : decode cX1_takeSpot 38 = .ok (.aload_n 0, 1) := by decide +kernel
theorem dX1_takeSpot_39 : decode cX1_takeSpot 39 = .ok (.getfield 21, 3) := by decide +kernel
theorem dX1_takeSpot_42 : decode cX1_takeSpot 42 = .ok (.iload_n 1, 1) := by decide +kernel
theorem dX1_takeSpot_43 : decode cX1_takeSpot 43 = .ok (.invokevirtual 112, 3) := by decide +kernel
theorem dX1_takeSpot_46 : decode cX1_takeSpot 46 = .ok (.ireturn, 1) := by decide +kernel
theorem dX1_askByHand_0 : decode cX1_askByHand 0 = .ok (.iload_n 1, 1) := by decide +kernel
theorem dX1_askByHand_1 : decode cX1_askByHand 1 = .ok (.invokestatic 105, 3) := by decide +kernel
theorem dX1_askByHand_4 : decode cX1_askByHand 4 = .ok (.ifCond .ne 5, 3) := by decide +kernel
theorem dX1_askByHand_7 : decode cX1_askByHand 7 = .ok (.iconst (-1), 1) := by decide +kernel
theorem dX1_askByHand_8 : decode cX1_askByHand 8 = .ok (.ireturn, 1) := by decide +kernel
theorem dX1_askByHand_9 : decode cX1_askByHand 9 = .ok (.aload_n 0, 1) := by decide +kernel
theorem dX1_askByHand_10 : decode cX1_askByHand 10 = .ok (.getfield 28, 3) := by decide +kernel
theorem dX1_askByHand_13 : decode cX1_askByHand 13 = .ok (.iload_n 1, 1) := by decide +kernel
theorem dX1_askByHand_14 : decode cX1_askByHand 14 = .ok (.invokevirtual 116, 3) := by decide +kernel
theorem dX1_askByHand_17 : decode cX1_askByHand 17 = .ok (.bipush (-6), 2) := by decide +kernel
theorem dX1_askByHand_19 : decode cX1_askByHand 19 = .ok (.if_icmp .ne 11, 3) := by decide +kernel
theorem dX1_askByHand_22 : decode cX1_askByHand 22 = .ok (.iload_n 1, 1) := by decide +kernel
theorem dX1_askByHand_23 : decode cX1_askByHand 23 = .ok (.aload_n 0, 1) := by decide +kernel
theorem dX1_askByHand_24 : decode cX1_askByHand 24 = .ok (.getfield 52, 3) := by decide +kernel
theorem dX1_askByHand_27 : decode cX1_askByHand 27 = .ok (.if_icmp .ne 6, 3) := by decide +kernel
theorem dX1_askByHand_30 : decode cX1_askByHand 30 = .ok (.bipush (-3), 2) := by decide +kernel
theorem dX1_askByHand_32 : decode cX1_askByHand 32 = .ok (.ireturn, 1) := by decide +kernel
theorem dX1_askByHand_33 : decode cX1_askByHand 33 = .ok (.aload_n 0, 1) := by decide +kernel
theorem dX1_askByHand_34 : decode cX1_askByHand 34 = .ok (.getfield 28, 3) := by decide +kernel
theorem dX1_askByHand_37 : decode cX1_askByHand 37 = .ok (.iload_n 1, 1) := by decide +kernel
theorem dX1_askByHand_38 : decode cX1_askByHand 38 = .ok (.invokevirtual 119, 3) := by decide +kernel
theorem dX1_askByHand_41 : decode cX1_askByHand 41 = .ok (.ifCond .ne 6, 3) := by decide +kernel
theorem dX1_askByHand_44 : decode cX1_askByHand 44 = .ok (.bipush (-4), 2) := by decide +kernel
theorem dX1_askByHand_46 : decode cX1_askByHand 46 = .ok (.ireturn, 1) := by decide +kernel
theorem dX1_askByHand_47 : decode cX1_askByHand 47 = .ok (.aload_n 0, 1) := by decide +kernel
theorem dX1_askByHand_48 : decode cX1_askByHand 48 = .ok (.getfield 28, 3) := by decide +kernel
theorem dX1_askByHand_51 : decode cX1_askByHand 51 = .ok (.getfield 121, 3) := by decide +kernel
theorem dX1_askByHand_54 : decode cX1_askByHand 54 = .ok (.iconst 1, 1) := by decide +kernel
theorem dX1_askByHand_55 : decode cX1_askByHand 55 = .ok (.isub, 1) := by decide +kernel
theorem dX1_askByHand_56 : decode cX1_askByHand 56 = .ok (.ireturn, 1) := by decide +kernel
theorem dX1_withdraw_0 : decode cX1_withdraw 0 = .ok (.iload_n 1, 1) := by decide +kernel
theorem dX1_withdraw_1 : decode cX1_withdraw 1 = .ok (.invokestatic 105, 3) := by decide +kernel
theorem dX1_withdraw_4 : decode cX1_withdraw 4 = .ok (.ifCond .ne 5, 3) := by decide +kernel
theorem dX1_withdraw_7 : decode cX1_withdraw 7 = .ok (.iconst (-1), 1) := by decide +kernel
theorem dX1_withdraw_8 : decode cX1_withdraw 8 = .ok (.ireturn, 1) := by decide +kernel
theorem dX1_withdraw_9 : decode cX1_withdraw 9 = .ok (.aload_n 0, 1) := by decide +kernel
theorem dX1_withdraw_10 : decode cX1_withdraw 10 = .ok (.getfield 28, 3) := by decide +kernel
theorem dX1_withdraw_13 : decode cX1_withdraw 13 = .ok (.iload_n 1, 1) := by decide +kernel
theorem dX1_withdraw_14 : decode cX1_withdraw 14 = .ok (.invokevirtual 124, 3) := by decide +kernel
theorem dX1_withdraw_17 : decode cX1_withdraw 17 = .ok (.ifCond .ne 6, 3) := by decide +kernel
theorem dX1_withdraw_20 : decode cX1_withdraw 20 = .ok (.bipush (-3), 2) := by decide +kernel
theorem dX1_withdraw_22 : decode cX1_withdraw 22 = .ok (.ireturn, 1) := by decide +kernel
theorem dX1_withdraw_23 : decode cX1_withdraw 23 = .ok (.aload_n 0, 1) := by decide +kernel
theorem dX1_withdraw_24 : decode cX1_withdraw 24 = .ok (.getfield 28, 3) := by decide +kernel
theorem dX1_withdraw_27 : decode cX1_withdraw 27 = .ok (.getfield 121, 3) := by decide +kernel
theorem dX1_withdraw_30 : decode cX1_withdraw 30 = .ok (.ireturn, 1) := by decide +kernel
theorem dX1_hostReads_0 : decode cX1_hostReads 0 = .ok (.iload_n 1, 1) := by decide +kernel
theorem dX1_hostReads_1 : decode cX1_hostReads 1 = .ok (.invokestatic 105, 3) := by decide +kernel
theorem dX1_hostReads_4 : decode cX1_hostReads 4 = .ok (.ifCond .ne 5, 3) := by decide +kernel
theorem dX1_hostReads_7 : decode cX1_hostReads 7 = .ok (.iconst (-1), 1) := by decide +kernel
theorem dX1_hostReads_8 : decode cX1_hostReads 8 = .ok (.ireturn, 1) := by decide +kernel
theorem dX1_hostReads_9 : decode cX1_hostReads 9 = .ok (.iload_n 2, 1) := by decide +kernel
theorem dX1_hostReads_10 : decode cX1_hostReads 10 = .ok (.iconst 1, 1) := by decide +kernel
theorem dX1_hostReads_11 : decode cX1_hostReads 11 = .ok (.if_icmp .lt 10, 3) := by decide +kernel
theorem dX1_hostReads_14 : decode cX1_hostReads 14 = .ok (.iload_n 2, 1) := by decide +kernel
theorem dX1_hostReads_15 : decode cX1_hostReads 15 = .ok (.sipush 200, 3) := by decide +kernel
theorem dX1_hostReads_18 : decode cX1_hostReads 18 = .ok (.if_icmp .le 6, 3) := by decide +kernel
theorem dX1_hostReads_21 : decode cX1_hostReads 21 = .ok (.bipush (-2), 2) := by decide +kernel
theorem dX1_hostReads_23 : decode cX1_hostReads 23 = .ok (.ireturn, 1) := by decide +kernel
theorem dX1_hostReads_24 : decode cX1_hostReads 24 = .ok (.aload_n 0, 1) := by decide +kernel
theorem dX1_hostReads_25 : decode cX1_hostReads 25 = .ok (.getfield 46, 3) := by decide +kernel
theorem dX1_hostReads_28 : decode cX1_hostReads 28 = .ok (.iload_n 2, 1) := by decide +kernel
theorem dX1_hostReads_29 : decode cX1_hostReads 29 = .ok (.iadd, 1) := by decide +kernel
theorem dX1_hostReads_30 : decode cX1_hostReads 30 = .ok (.ldc 127, 2) := by decide +kernel
theorem dX1_hostReads_32 : decode cX1_hostReads 32 = .ok (.if_icmp .le 6, 3) := by decide +kernel
theorem dX1_hostReads_35 : decode cX1_hostReads 35 = .ok (.bipush (-4), 2) := by decide +kernel
theorem dX1_hostReads_37 : decode cX1_hostReads 37 = .ok (.ireturn, 1) := by decide +kernel
theorem dX1_hostReads_38 : decode cX1_hostReads 38 = .ok (.aload_n 0, 1) := by decide +kernel
theorem dX1_hostReads_39 : decode cX1_hostReads 39 = .ok (.iconst 0, 1) := by decide +kernel
theorem dX1_hostReads_40 : decode cX1_hostReads 40 = .ok (.putfield 49, 3) := by decide +kernel
theorem dX1_hostReads_43 : decode cX1_hostReads 43 = .ok (.aload_n 0, 1) := by decide +kernel
theorem dX1_hostReads_44 : decode cX1_hostReads 44 = .ok (.dup, 1) := by decide +kernel
theorem dX1_hostReads_45 : decode cX1_hostReads 45 = .ok (.getfield 46, 3) := by decide +kernel
theorem dX1_hostReads_48 : decode cX1_hostReads 48 = .ok (.iload_n 2, 1) := by decide +kernel
theorem dX1_hostReads_49 : decode cX1_hostReads 49 = .ok (.iadd, 1) := by decide +kernel
theorem dX1_hostReads_50 : decode cX1_hostReads 50 = .ok (.putfield 46, 3) := by decide +kernel
theorem dX1_hostReads_53 : decode cX1_hostReads 53 = .ok (.aload_n 0, 1) := by decide +kernel
theorem dX1_hostReads_54 : decode cX1_hostReads 54 = .ok (.getfield 52, 3) := by decide +kernel
theorem dX1_hostReads_57 : decode cX1_hostReads 57 = .ok (.bipush (-6), 2) := by decide +kernel
theorem dX1_hostReads_59 : decode cX1_hostReads 59 = .ok (.if_icmp .eq 7, 3) := by decide +kernel
theorem dX1_hostReads_62 : decode cX1_hostReads 62 = .ok (.aload_n 0, 1) := by decide +kernel
theorem dX1_hostReads_63 : decode cX1_hostReads 63 = .ok (.invokevirtual 128, 3) := by decide +kernel
theorem dX1_hostReads_66 : decode cX1_hostReads 66 = .ok (.aload_n 0, 1) := by decide +kernel
theorem dX1_hostReads_67 : decode cX1_hostReads 67 = .ok (.getfield 21, 3) := by decide +kernel
theorem dX1_hostReads_70 : decode cX1_hostReads 70 = .ok (.iload_n 1, 1) := by decide +kernel
theorem dX1_hostReads_71 : decode cX1_hostReads 71 = .ok (.aload_n 0, 1) := by decide +kernel
theorem dX1_hostReads_72 : decode cX1_hostReads 72 = .ok (.getfield 9, 3) := by decide +kernel
theorem dX1_hostReads_75 : decode cX1_hostReads 75 = .ok (.iconst 3, 1) := by decide +kernel
theorem dX1_hostReads_76 : decode cX1_hostReads 76 = .ok (.iaload, 1) := by decide +kernel
theorem dX1_hostReads_77 : decode cX1_hostReads 77 = .ok (.invokevirtual 131, 3) := by decide +kernel
theorem dX1_hostReads_80 : decode cX1_hostReads 80 = .ok (.ifCond .ne 5, 3) := by decide +kernel
theorem dX1_hostReads_83 : decode cX1_hostReads 83 = .ok (.iconst 0, 1) := by decide +kernel
theorem dX1_hostReads_84 : decode cX1_hostReads 84 = .ok (.ireturn, 1) := by decide +kernel
theorem dX1_hostReads_85 : decode cX1_hostReads 85 = .ok (.aload_n 0, 1) := by decide +kernel
theorem dX1_hostReads_86 : decode cX1_hostReads 86 = .ok (.dup, 1) := by decide +kernel
theorem dX1_hostReads_87 : decode cX1_hostReads 87 = .ok (.getfield 73, 3) := by decide +kernel
theorem dX1_hostReads_90 : decode cX1_hostReads 90 = .ok (.iconst 1, 1) := by decide +kernel
theorem dX1_hostReads_91 : decode cX1_hostReads 91 = .ok (.iadd, 1) := by decide +kernel
theorem dX1_hostReads_92 : decode cX1_hostReads 92 = .ok (.putfield 73, 3) := by decide +kernel
theorem dX1_hostReads_95 : decode cX1_hostReads 95 = .ok (.aload_n 0, 1) := by decide +kernel
theorem dX1_hostReads_96 : decode cX1_hostReads 96 = .ok (.getfield 35, 3) := by decide +kernel
theorem dX1_hostReads_99 : decode cX1_hostReads 99 = .ok (.aload_n 0, 1) := by decide +kernel
theorem dX1_hostReads_100 : decode cX1_hostReads 100 = .ok (.getfield 46, 3) := by decide +kernel
theorem dX1_hostReads_103 : decode cX1_hostReads 103 = .ok (.bipush 6, 2) := by decide +kernel
theorem dX1_hostReads_105 : decode cX1_hostReads 105 = .ok (.iload_n 1, 1) := by decide +kernel
theorem dX1_hostReads_106 : decode cX1_hostReads 106 = .ok (.invokevirtual 134, 3) := by decide +kernel
theorem dX1_hostReads_109 : decode cX1_hostReads 109 = .ok (.aload_n 0, 1) := by decide +kernel
theorem dX1_hostReads_110 : decode cX1_hostReads 110 = .ok (.iload_n 1, 1) := by decide +kernel
theorem dX1_hostReads_111 : decode cX1_hostReads 111 = .ok (.invokevirtual 137, 3) := by decide +kernel
theorem dX1_hostReads_114 : decode cX1_hostReads 114 = .ok (.pop, 1) := by decide +kernel
theorem dX1_hostReads_115 : decode cX1_hostReads 115 = .ok (.iconst 1, 1) := by decide +kernel
theorem dX1_hostReads_116 : decode cX1_hostReads 116 = .ok (.ireturn, 1) := by decide +kernel
theorem dX1_passQuietTicks_0 : decode cX1_passQuietTicks 0 = .ok (.iload_n 1, 1) := by decide +kernel
theorem dX1_passQuietTicks_1 : decode cX1_passQuietTicks 1 = .ok (.iconst 1, 1) := by decide +kernel
theorem dX1_passQuietTicks_2 : decode cX1_passQuietTicks 2 = .ok (.if_icmp .lt 10, 3) := by decide +kernel
theorem dX1_passQuietTicks_5 : decode cX1_passQuietTicks 5 = .ok (.iload_n 1, 1) := by decide +kernel
theorem dX1_passQuietTicks_6 : decode cX1_passQuietTicks 6 = .ok (.sipush 500, 3) := by decide +kernel
theorem dX1_passQuietTicks_9 : decode cX1_passQuietTicks 9 = .ok (.if_icmp .le 6, 3) := by decide +kernel
theorem dX1_passQuietTicks_12 : decode cX1_passQuietTicks 12 = .ok (.bipush (-2), 2) := by decide +kernel
theorem dX1_passQuietTicks_14 : decode cX1_passQuietTicks 14 = .ok (.ireturn, 1) := by decide +kernel
theorem dX1_passQuietTicks_15 : decode cX1_passQuietTicks 15 = .ok (.aload_n 0, 1) := by decide +kernel
theorem dX1_passQuietTicks_16 : decode cX1_passQuietTicks 16 = .ok (.getfield 46, 3) := by decide +kernel
theorem dX1_passQuietTicks_19 : decode cX1_passQuietTicks 19 = .ok (.iload_n 1, 1) := by decide +kernel
theorem dX1_passQuietTicks_20 : decode cX1_passQuietTicks 20 = .ok (.iadd, 1) := by decide +kernel
theorem dX1_passQuietTicks_21 : decode cX1_passQuietTicks 21 = .ok (.ldc 127, 2) := by decide +kernel
theorem dX1_passQuietTicks_23 : decode cX1_passQuietTicks 23 = .ok (.if_icmp .le 6, 3) := by decide +kernel
theorem dX1_passQuietTicks_26 : decode cX1_passQuietTicks 26 = .ok (.bipush (-4), 2) := by decide +kernel
theorem dX1_passQuietTicks_28 : decode cX1_passQuietTicks 28 = .ok (.ireturn, 1) := by decide +kernel
theorem dX1_passQuietTicks_29 : decode cX1_passQuietTicks 29 = .ok (.aload_n 0, 1) := by decide +kernel
theorem dX1_passQuietTicks_30 : decode cX1_passQuietTicks 30 = .ok (.getfield 64, 3) := by decide +kernel
theorem dX1_passQuietTicks_33 : decode cX1_passQuietTicks 33 = .ok (.istore_n 2, 1) := by decide +kernel
theorem dX1_passQuietTicks_34 : decode cX1_passQuietTicks 34 = .ok (.iconst 0, 1) := by decide +kernel
theorem dX1_passQuietTicks_35 : decode cX1_passQuietTicks 35 = .ok (.istore_n 3, 1) := by decide +kernel
theorem dX1_passQuietTicks_36 : decode cX1_passQuietTicks 36 = .ok (.iload_n 3, 1) := by decide +kernel
theorem dX1_passQuietTicks_37 : decode cX1_passQuietTicks 37 = .ok (.iload_n 1, 1) := by decide +kernel
theorem dX1_passQuietTicks_38 : decode cX1_passQuietTicks 38 = .ok (.if_icmp .ge 14, 3) := by decide +kernel
theorem dX1_passQuietTicks_41 : decode cX1_passQuietTicks 41 = .ok (.aload_n 0, 1) := by decide +kernel
theorem dX1_passQuietTicks_42 : decode cX1_passQuietTicks 42 = .ok (.invokevirtual 140, 3) := by decide +kernel
theorem dX1_passQuietTicks_45 : decode cX1_passQuietTicks 45 = .ok (.pop, 1) := by decide +kernel
theorem dX1_passQuietTicks_46 : decode cX1_passQuietTicks 46 = .ok (.iinc 3 1, 3) := by decide +kernel
theorem dX1_passQuietTicks_49 : decode cX1_passQuietTicks 49 = .ok (.goto (-13), 3) := by decide +kernel
theorem dX1_passQuietTicks_52 : decode cX1_passQuietTicks 52 = .ok (.aload_n 0, 1) := by decide +kernel
theorem dX1_passQuietTicks_53 : decode cX1_passQuietTicks 53 = .ok (.getfield 64, 3) := by decide +kernel
theorem dX1_passQuietTicks_56 : decode cX1_passQuietTicks 56 = .ok (.iload_n 2, 1) := by decide +kernel
theorem dX1_passQuietTicks_57 : decode cX1_passQuietTicks 57 = .ok (.isub, 1) := by decide +kernel
theorem dX1_passQuietTicks_58 : decode cX1_passQuietTicks 58 = .ok (.ireturn, 1) := by decide +kernel
theorem dX1_passQuietTick_0 : decode cX1_passQuietTick 0 = .ok (.aload_n 0, 1) := by decide +kernel
theorem dX1_passQuietTick_1 : decode cX1_passQuietTick 1 = .ok (.dup, 1) := by decide +kernel
theorem dX1_passQuietTick_2 : decode cX1_passQuietTick 2 = .ok (.getfield 46, 3) := by decide +kernel
theorem dX1_passQuietTick_5 : decode cX1_passQuietTick 5 = .ok (.iconst 1, 1) := by decide +kernel
theorem dX1_passQuietTick_6 : decode cX1_passQuietTick 6 = .ok (.iadd, 1) := by decide +kernel
theorem dX1_passQuietTick_7 : decode cX1_passQuietTick 7 = .ok (.putfield 46, 3) := by decide +kernel
theorem dX1_passQuietTick_10 : decode cX1_passQuietTick 10 = .ok (.aload_n 0, 1) := by decide +kernel
theorem dX1_passQuietTick_11 : decode cX1_passQuietTick 11 = .ok (.getfield 49, 3) := by decide +kernel
theorem dX1_passQuietTick_14 : decode cX1_passQuietTick 14 = .ok (.aload_n 0, 1) := by decide +kernel
theorem dX1_passQuietTick_15 : decode cX1_passQuietTick 15 = .ok (.getfield 9, 3) := by decide +kernel
theorem dX1_passQuietTick_18 : decode cX1_passQuietTick 18 = .ok (.iconst 0, 1) := by decide +kernel
theorem dX1_passQuietTick_19 : decode cX1_passQuietTick 19 = .ok (.iaload, 1) := by decide +kernel
theorem dX1_passQuietTick_20 : decode cX1_passQuietTick 20 = .ok (.if_icmp .ge 16, 3) := by decide +kernel
theorem dX1_passQuietTick_23 : decode cX1_passQuietTick 23 = .ok (.aload_n 0, 1) := by decide +kernel
theorem dX1_passQuietTick_24 : decode cX1_passQuietTick 24 = .ok (.dup, 1) := by decide +kernel
theorem dX1_passQuietTick_25 : decode cX1_passQuietTick 25 = .ok (.getfield 49, 3) := by decide +kernel
theorem dX1_passQuietTick_28 : decode cX1_passQuietTick 28 = .ok (.iconst 1, 1) := by decide +kernel
theorem dX1_passQuietTick_29 : decode cX1_passQuietTick 29 = .ok (.iadd, 1) := by decide +kernel
theorem dX1_passQuietTick_30 : decode cX1_passQuietTick 30 = .ok (.putfield 49, 3) := by decide +kernel
theorem dX1_passQuietTick_33 : decode cX1_passQuietTick 33 = .ok (.bipush (-6), 2) := by decide +kernel
theorem dX1_passQuietTick_35 : decode cX1_passQuietTick 35 = .ok (.ireturn, 1) := by decide +kernel
theorem dX1_passQuietTick_36 : decode cX1_passQuietTick 36 = .ok (.aload_n 0, 1) := by decide +kernel
theorem dX1_passQuietTick_37 : decode cX1_passQuietTick 37 = .ok (.getfield 52, 3) := by decide +kernel
theorem dX1_passQuietTick_40 : decode cX1_passQuietTick 40 = .ok (.bipush (-6), 2) := by decide +kernel
theorem dX1_passQuietTick_42 : decode cX1_passQuietTick 42 = .ok (.if_icmp .ne 11, 3) := by decide +kernel
theorem dX1_passQuietTick_45 : decode cX1_passQuietTick 45 = .ok (.aload_n 0, 1) := by decide +kernel
theorem dX1_passQuietTick_46 : decode cX1_passQuietTick 46 = .ok (.aload_n 0, 1) := by decide +kernel
theorem dX1_passQuietTick_47 : decode cX1_passQuietTick 47 = .ok (.invokevirtual 144, 3) := by decide +kernel
theorem dX1_passQuietTick_50 : decode cX1_passQuietTick 50 = .ok (.invokevirtual 147, 3) := by decide +kernel
theorem dX1_passQuietTick_53 : decode cX1_passQuietTick 53 = .ok (.aload_n 0, 1) := by decide +kernel
theorem dX1_passQuietTick_54 : decode cX1_passQuietTick 54 = .ok (.getfield 52, 3) := by decide +kernel
theorem dX1_passQuietTick_57 : decode cX1_passQuietTick 57 = .ok (.bipush (-6), 2) := by decide +kernel
theorem dX1_passQuietTick_59 : decode cX1_passQuietTick 59 = .ok (.if_icmp .ne 6, 3) := by decide +kernel
theorem dX1_passQuietTick_62 : decode cX1_passQuietTick 62 = .ok (.bipush (-6), 2) := by decide +kernel
theorem dX1_passQuietTick_64 : decode cX1_passQuietTick 64 = .ok (.ireturn, 1) := by decide +kernel
theorem dX1_passQuietTick_65 : decode cX1_passQuietTick 65 = .ok (.aload_n 0, 1) := by decide +kernel
theorem dX1_passQuietTick_66 : decode cX1_passQuietTick 66 = .ok (.dup, 1) := by decide +kernel
theorem dX1_passQuietTick_67 : decode cX1_passQuietTick 67 = .ok (.getfield 55, 3) := by decide +kernel
theorem dX1_passQuietTick_70 : decode cX1_passQuietTick 70 = .ok (.iconst 1, 1) := by decide +kernel
theorem dX1_passQuietTick_71 : decode cX1_passQuietTick 71 = .ok (.iadd, 1) := by decide +kernel
theorem dX1_passQuietTick_72 : decode cX1_passQuietTick 72 = .ok (.putfield 55, 3) := by decide +kernel
theorem dX1_passQuietTick_75 : decode cX1_passQuietTick 75 = .ok (.aload_n 0, 1) := by decide +kernel
theorem dX1_passQuietTick_76 : decode cX1_passQuietTick 76 = .ok (.getfield 55, 3) := by decide +kernel
theorem dX1_passQuietTick_79 : decode cX1_passQuietTick 79 = .ok (.aload_n 0, 1) := by decide +kernel
theorem dX1_passQuietTick_80 : decode cX1_passQuietTick 80 = .ok (.getfield 58, 3) := by decide +kernel
theorem dX1_passQuietTick_83 : decode cX1_passQuietTick 83 = .ok (.if_icmp .ge 6, 3) := by decide +kernel
theorem dX1_passQuietTick_86 : decode cX1_passQuietTick 86 = .ok (.bipush (-6), 2) := by decide +kernel
theorem dX1_passQuietTick_88 : decode cX1_passQuietTick 88 = .ok (.ireturn, 1) := by decide +kernel
theorem dX1_passQuietTick_89 : decode cX1_passQuietTick 89 = .ok (.aload_n 0, 1) := by decide +kernel
theorem dX1_passQuietTick_90 : decode cX1_passQuietTick 90 = .ok (.getfield 52, 3) := by decide +kernel
theorem dX1_passQuietTick_93 : decode cX1_passQuietTick 93 = .ok (.istore_n 1, 1) := by decide +kernel
theorem dX1_passQuietTick_94 : decode cX1_passQuietTick 94 = .ok (.aload_n 0, 1) := by decide +kernel
theorem dX1_passQuietTick_95 : decode cX1_passQuietTick 95 = .ok (.iload_n 1, 1) := by decide +kernel
theorem dX1_passQuietTick_96 : decode cX1_passQuietTick 96 = .ok (.invokevirtual 151, 3) := by decide +kernel
theorem dX1_passQuietTick_99 : decode cX1_passQuietTick 99 = .ok (.iload_n 1, 1) := by decide +kernel
theorem dX1_passQuietTick_100 : decode cX1_passQuietTick 100 = .ok (.ireturn, 1) := by decide +kernel
theorem dX1_dropCheck_0 : decode cX1_dropCheck 0 = .ok (.aload_n 0, 1) := by decide +kernel
theorem dX1_dropCheck_1 : decode cX1_dropCheck 1 = .ok (.getfield 52, 3) := by decide +kernel
theorem dX1_dropCheck_4 : decode cX1_dropCheck 4 = .ok (.bipush (-6), 2) := by decide +kernel
theorem dX1_dropCheck_6 : decode cX1_dropCheck 6 = .ok (.if_icmp .ne 6, 3) := by decide +kernel
theorem dX1_dropCheck_9 : decode cX1_dropCheck 9 = .ok (.bipush (-3), 2) := by decide +kernel
theorem dX1_dropCheck_11 : decode cX1_dropCheck 11 = .ok (.ireturn, 1) := by decide +kernel
theorem dX1_dropCheck_12 : decode cX1_dropCheck 12 = .ok (.aload_n 0, 1) := by decide +kernel
theorem dX1_dropCheck_13 : decode cX1_dropCheck 13 = .ok (.getfield 55, 3) := by decide +kernel
theorem dX1_dropCheck_16 : decode cX1_dropCheck 16 = .ok (.istore_n 1, 1) := by decide +kernel
theorem dX1_dropCheck_17 : decode cX1_dropCheck 17 = .ok (.aload_n 0, 1) := by decide +kernel
theorem dX1_dropCheck_18 : decode cX1_dropCheck 18 = .ok (.invokevirtual 154, 3) := by decide +kernel
theorem dX1_dropCheck_21 : decode cX1_dropCheck 21 = .ok (.iload_n 1, 1) := by decide +kernel
theorem dX1_dropCheck_22 : decode cX1_dropCheck 22 = .ok (.ireturn, 1) := by decide +kernel
theorem dX1_chooseSpan_0 : decode cX1_chooseSpan 0 = .ok (.aload_n 0, 1) := by decide +kernel
theorem dX1_chooseSpan_1 : decode cX1_chooseSpan 1 = .ok (.getfield 28, 3) := by decide +kernel
theorem dX1_chooseSpan_4 : decode cX1_chooseSpan 4 = .ok (.getfield 121, 3) := by decide +kernel
theorem dX1_chooseSpan_7 : decode cX1_chooseSpan 7 = .ok (.ifCond .le 13, 3) := by decide +kernel
theorem dX1_chooseSpan_10 : decode cX1_chooseSpan 10 = .ok (.aload_n 0, 1) := by decide +kernel
theorem dX1_chooseSpan_11 : decode cX1_chooseSpan 11 = .ok (.getfield 28, 3) := by decide +kernel
theorem dX1_chooseSpan_14 : decode cX1_chooseSpan 14 = .ok (.getfield 157, 3) := by decide +kernel
theorem dX1_chooseSpan_17 : decode cX1_chooseSpan 17 = .ok (.iconst 0, 1) := by decide +kernel
theorem dX1_chooseSpan_18 : decode cX1_chooseSpan 18 = .ok (.iaload, 1) := by decide +kernel
theorem dX1_chooseSpan_19 : decode cX1_chooseSpan 19 = .ok (.ireturn, 1) := by decide +kernel
theorem dX1_chooseSpan_20 : decode cX1_chooseSpan 20 = .ok (.aload_n 0, 1) := by decide +kernel
theorem dX1_chooseSpan_21 : decode cX1_chooseSpan 21 = .ok (.getfield 39, 3) := by decide +kernel
theorem dX1_chooseSpan_24 : decode cX1_chooseSpan 24 = .ok (.iconst 2, 1) := by decide +kernel
theorem dX1_chooseSpan_25 : decode cX1_chooseSpan 25 = .ok (.if_icmp .ne 10, 3) := by decide +kernel
theorem dX1_chooseSpan_28 : decode cX1_chooseSpan 28 = .ok (.aload_n 0, 1) := by decide +kernel
theorem dX1_chooseSpan_29 : decode cX1_chooseSpan 29 = .ok (.getfield 61, 3) := by decide +kernel
theorem dX1_chooseSpan_32 : decode cX1_chooseSpan 32 = .ok (.goto 4, 3) := by decide +kernel
theorem dX1_chooseSpan_35 : decode cX1_chooseSpan 35 = .ok (.iconst 0, 1) := by decide +kernel
theorem dX1_chooseSpan_36 : decode cX1_chooseSpan 36 = .ok (.istore_n 1, 1) := by decide +kernel
theorem dX1_chooseSpan_37 : decode cX1_chooseSpan 37 = .ok (.bipush (-6), 2) := by decide +kernel
theorem dX1_chooseSpan_39 : decode cX1_chooseSpan 39 = .ok (.istore_n 2, 1) := by decide +kernel
theorem dX1_chooseSpan_40 : decode cX1_chooseSpan 40 = .ok (.iconst (-1), 1) := by decide +kernel
theorem dX1_chooseSpan_41 : decode cX1_chooseSpan 41 = .ok (.istore_n 3, 1) := by decide +kernel
theorem dX1_chooseSpan_42 : decode cX1_chooseSpan 42 = .ok (.iconst 0, 1) := by decide +kernel
theorem dX1_chooseSpan_43 : decode cX1_chooseSpan 43 = .ok (.istore 4, 2) := by decide +kernel
theorem dX1_chooseSpan_45 : decode cX1_chooseSpan 45 = .ok (.iload 4, 2) := by decide +kernel
theorem dX1_chooseSpan_47 : decode cX1_chooseSpan 47 = .ok (.bipush 8, 2) := by decide +kernel
theorem dX1_chooseSpan_49 : decode cX1_chooseSpan 49 = .ok (.if_icmp .ge 47, 3) := by decide +kernel
theorem dX1_chooseSpan_52 : decode cX1_chooseSpan 52 = .ok (.iload_n 1, 1) := by decide +kernel
theorem dX1_chooseSpan_53 : decode cX1_chooseSpan 53 = .ok (.iload 4, 2) := by decide +kernel
theorem dX1_chooseSpan_55 : decode cX1_chooseSpan 55 = .ok (.iadd, 1) := by decide +kernel
theorem dX1_chooseSpan_56 : decode cX1_chooseSpan 56 = .ok (.bipush 8, 2) := by decide +kernel
theorem dX1_chooseSpan_58 : decode cX1_chooseSpan 58 = .ok (.irem, 1) := by decide +kernel
theorem dX1_chooseSpan_59 : decode cX1_chooseSpan 59 = .ok (.istore 5, 2) := by decide +kernel
theorem dX1_chooseSpan_61 : decode cX1_chooseSpan 61 = .ok (.aload_n 0, 1) := by decide +kernel
theorem dX1_chooseSpan_62 : decode cX1_chooseSpan 62 = .ok (.iload 5, 2) := by decide +kernel
theorem dX1_chooseSpan_64 : decode cX1_chooseSpan 64 = .ok (.invokevirtual 160, 3) := by decide +kernel
theorem dX1_chooseSpan_67 : decode cX1_chooseSpan 67 = .ok (.ifCond .eq 23, 3) := by decide +kernel
theorem dX1_chooseSpan_70 : decode cX1_chooseSpan 70 = .ok (.aload_n 0, 1) := by decide +kernel
theorem dX1_chooseSpan_71 : decode cX1_chooseSpan 71 = .ok (.iload 5, 2) := by decide +kernel
theorem dX1_chooseSpan_73 : decode cX1_chooseSpan 73 = .ok (.invokevirtual 163, 3) := by decide +kernel
theorem dX1_chooseSpan_76 : decode cX1_chooseSpan 76 = .ok (.iload_n 3, 1) := by decide +kernel
theorem dX1_chooseSpan_77 : decode cX1_chooseSpan 77 = .ok (.if_icmp .le 13, 3) := by decide +kernel
theorem dX1_chooseSpan_80 : decode cX1_chooseSpan 80 = .ok (.iload 5, 2) := by decide +kernel
theorem dX1_chooseSpan_82 : decode cX1_chooseSpan 82 = .ok (.istore_n 2, 1) := by decide +kernel
theorem dX1_chooseSpan_83 : decode cX1_chooseSpan 83 = .ok (.aload_n 0, 1) := by decide +kernel
theorem dX1_chooseSpan_84 : decode cX1_chooseSpan 84 = .ok (.iload 5, 2) := by decide +kernel
theorem dX1_chooseSpan_86 : decode cX1_chooseSpan 86 = .ok (.invokevirtual 163, 3) := by decide +kernel
theorem dX1_chooseSpan_89 : decode cX1_chooseSpan 89 = .ok (.istore_n 3, 1) := by decide +kernel
theorem dX1_chooseSpan_90 : decode cX1_chooseSpan 90 = .ok (.iinc 4 1, 3) := by decide +kernel
theorem dX1_chooseSpan_93 : decode cX1_chooseSpan 93 = .ok (.goto (-48), 3) := by decide +kernel
theorem dX1_chooseSpan_96 : decode cX1_chooseSpan 96 = .ok (.iload_n 2, 1) := by decide +kernel
theorem dX1_chooseSpan_97 : decode cX1_chooseSpan 97 = .ok (.ireturn, 1) := by decide +kernel
theorem dX1_rankOf_0 : decode cX1_rankOf 0 = .ok (.aload_n 0, 1) := by decide +kernel
theorem dX1_rankOf_1 : decode cX1_rankOf 1 = .ok (.getfield 39, 3) := by decide +kernel
theorem dX1_rankOf_4 : decode cX1_rankOf 4 = .ok (.lookupswitch 45 #[(0, 28), (1, 34)], 28) := by decide +kernel
theorem dX1_rankOf_32 : decode cX1_rankOf 32 = .ok (.aload_n 0, 1) := by decide +kernel
theorem dX1_rankOf_33 : decode cX1_rankOf 33 = .ok (.iload_n 1, 1) := by decide +kernel
theorem dX1_rankOf_34 : decode cX1_rankOf 34 = .ok (.invokevirtual 166, 3) := by decide +kernel
theorem dX1_rankOf_37 : decode cX1_rankOf 37 = .ok (.ireturn, 1) := by decide +kernel
theorem dX1_rankOf_38 : decode cX1_rankOf 38 = .ok (.aload_n 0, 1) := by decide +kernel
theorem dX1_rankOf_39 : decode cX1_rankOf 39 = .ok (.getfield 21, 3) := by decide +kernel
theorem dX1_rankOf_42 : decode cX1_rankOf 42 = .ok (.iload_n 1, 1) := by decide +kernel
theorem dX1_rankOf_43 : decode cX1_rankOf 43 = .ok (.bipush 9, 2) := by decide +kernel
theorem dX1_rankOf_45 : decode cX1_rankOf 45 = .ok (.invokevirtual 169, 3) := by decide +kernel
theorem dX1_rankOf_48 : decode cX1_rankOf 48 = .ok (.ireturn, 1) := by decide +kernel
theorem dX1_rankOf_49 : decode cX1_rankOf 49 = .ok (.iconst 0, 1) := by decide +kernel
theorem dX1_rankOf_50 : decode cX1_rankOf 50 = .ok (.ireturn, 1) := by decide +kernel
theorem dX1_beginCheck_0 : decode cX1_beginCheck 0 = .ok (.iload_n 1, 1) := by decide +kernel
theorem dX1_beginCheck_1 : decode cX1_beginCheck 1 = .ok (.invokestatic 105, 3) := by decide +kernel
theorem dX1_beginCheck_4 : decode cX1_beginCheck 4 = .ok (.ifCond .ne 4, 3) := by decide +kernel
theorem dX1_beginCheck_7 : decode cX1_beginCheck 7 = .ok (.return_, 1) := by decide +kernel
theorem dX1_beginCheck_8 : decode cX1_beginCheck 8 = .ok (.aload_n 0, 1) := by decide +kernel
theorem dX1_beginCheck_9 : decode cX1_beginCheck 9 = .ok (.getfield 28, 3) := by decide +kernel
theorem dX1_beginCheck_12 : decode cX1_beginCheck 12 = .ok (.iload_n 1, 1) := by decide +kernel
theorem dX1_beginCheck_13 : decode cX1_beginCheck 13 = .ok (.invokevirtual 124, 3) := by decide +kernel
theorem dX1_beginCheck_16 : decode cX1_beginCheck 16 = .ok (.pop, 1) := by decide +kernel
theorem dX1_beginCheck_17 : decode cX1_beginCheck 17 = .ok (.aload_n 0, 1) := by decide +kernel
theorem dX1_beginCheck_18 : decode cX1_beginCheck 18 = .ok (.iload_n 1, 1) := by decide +kernel
theorem dX1_beginCheck_19 : decode cX1_beginCheck 19 = .ok (.putfield 52, 3) := by decide +kernel
theorem dX1_beginCheck_22 : decode cX1_beginCheck 22 = .ok (.aload_n 0, 1) := by decide +kernel
theorem dX1_beginCheck_23 : decode cX1_beginCheck 23 = .ok (.iconst 0, 1) := by decide +kernel
theorem dX1_beginCheck_24 : decode cX1_beginCheck 24 = .ok (.putfield 55, 3) := by decide +kernel
theorem dX1_beginCheck_27 : decode cX1_beginCheck 27 = .ok (.aload_n 0, 1) := by decide +kernel
theorem dX1_beginCheck_28 : decode cX1_beginCheck 28 = .ok (.aload_n 0, 1) := by decide +kernel
theorem dX1_beginCheck_29 : decode cX1_beginCheck 29 = .ok (.iload_n 1, 1) := by decide +kernel
theorem dX1_beginCheck_30 : decode cX1_beginCheck 30 = .ok (.invokevirtual 173, 3) := by decide +kernel
theorem dX1_beginCheck_33 : decode cX1_beginCheck 33 = .ok (.putfield 58, 3) := by decide +kernel
theorem dX1_beginCheck_36 : decode cX1_beginCheck 36 = .ok (.aload_n 0, 1) := by decide +kernel
theorem dX1_beginCheck_37 : decode cX1_beginCheck 37 = .ok (.getfield 35, 3) := by decide +kernel
theorem dX1_beginCheck_40 : decode cX1_beginCheck 40 = .ok (.aload_n 0, 1) := by decide +kernel
theorem dX1_beginCheck_41 : decode cX1_beginCheck 41 = .ok (.getfield 46, 3) := by decide +kernel
theorem dX1_beginCheck_44 : decode cX1_beginCheck 44 = .ok (.iconst 1, 1) := by decide +kernel
theorem dX1_beginCheck_45 : decode cX1_beginCheck 45 = .ok (.iload_n 1, 1) := by decide +kernel
theorem dX1_beginCheck_46 : decode cX1_beginCheck 46 = .ok (.invokevirtual 134, 3) := by decide +kernel
theorem dX1_beginCheck_49 : decode cX1_beginCheck 49 = .ok (.return_, 1) := by decide +kernel
theorem dX1_pauseCheck_0 : decode cX1_pauseCheck 0 = .ok (.aload_n 0, 1) := by decide +kernel
theorem dX1_pauseCheck_1 : decode cX1_pauseCheck 1 = .ok (.iconst 0, 1) := by decide +kernel
theorem dX1_pauseCheck_2 : decode cX1_pauseCheck 2 = .ok (.aload_n 0, 1) := by decide +kernel
theorem dX1_pauseCheck_3 : decode cX1_pauseCheck 3 = .ok (.getfield 55, 3) := by decide +kernel
theorem dX1_pauseCheck_6 : decode cX1_pauseCheck 6 = .ok (.iconst 2, 1) := by decide +kernel
theorem dX1_pauseCheck_7 : decode cX1_pauseCheck 7 = .ok (.isub, 1) := by decide +kernel
theorem dX1_pauseCheck_8 : decode cX1_pauseCheck 8 = .ok (.invokestatic 176, 3) := by decide +kernel
theorem dX1_pauseCheck_11 : decode cX1_pauseCheck 11 = .ok (.putfield 55, 3) := by decide +kernel
theorem dX1_pauseCheck_14 : decode cX1_pauseCheck 14 = .ok (.aload_n 0, 1) := by decide +kernel
theorem dX1_pauseCheck_15 : decode cX1_pauseCheck 15 = .ok (.dup, 1) := by decide +kernel
theorem dX1_pauseCheck_16 : decode cX1_pauseCheck 16 = .ok (.getfield 67, 3) := by decide +kernel
theorem dX1_pauseCheck_19 : decode cX1_pauseCheck 19 = .ok (.iconst 1, 1) := by decide +kernel
theorem dX1_pauseCheck_20 : decode cX1_pauseCheck 20 = .ok (.iadd, 1) := by decide +kernel
theorem dX1_pauseCheck_21 : decode cX1_pauseCheck 21 = .ok (.putfield 67, 3) := by decide +kernel
theorem dX1_pauseCheck_24 : decode cX1_pauseCheck 24 = .ok (.aload_n 0, 1) := by decide +kernel
theorem dX1_pauseCheck_25 : decode cX1_pauseCheck 25 = .ok (.getfield 35, 3) := by decide +kernel
theorem dX1_pauseCheck_28 : decode cX1_pauseCheck 28 = .ok (.aload_n 0, 1) := by decide +kernel
theorem dX1_pauseCheck_29 : decode cX1_pauseCheck 29 = .ok (.getfield 46, 3) := by decide +kernel
theorem dX1_pauseCheck_32 : decode cX1_pauseCheck 32 = .ok (.iconst 2, 1) := by decide +kernel
theorem dX1_pauseCheck_33 : decode cX1_pauseCheck 33 = .ok (.aload_n 0, 1) := by decide +kernel
theorem dX1_pauseCheck_34 : decode cX1_pauseCheck 34 = .ok (.getfield 52, 3) := by decide +kernel
theorem dX1_pauseCheck_37 : decode cX1_pauseCheck 37 = .ok (.invokevirtual 134, 3) := by decide +kernel
theorem dX1_pauseCheck_40 : decode cX1_pauseCheck 40 = .ok (.return_, 1) := by decide +kernel
theorem dX1_clearCheck_0 : decode cX1_clearCheck 0 = .ok (.aload_n 0, 1) := by decide +kernel
theorem dX1_clearCheck_1 : decode cX1_clearCheck 1 = .ok (.bipush (-6), 2) := by decide +kernel
theorem dX1_clearCheck_3 : decode cX1_clearCheck 3 = .ok (.putfield 52, 3) := by decide +kernel
theorem dX1_clearCheck_6 : decode cX1_clearCheck 6 = .ok (.aload_n 0, 1) := by decide +kernel
theorem dX1_clearCheck_7 : decode cX1_clearCheck 7 = .ok (.iconst 0, 1) := by decide +kernel
theorem dX1_clearCheck_8 : decode cX1_clearCheck 8 = .ok (.putfield 55, 3) := by decide +kernel
theorem dX1_clearCheck_11 : decode cX1_clearCheck 11 = .ok (.aload_n 0, 1) := by decide +kernel
theorem dX1_clearCheck_12 : decode cX1_clearCheck 12 = .ok (.iconst 0, 1) := by decide +kernel
theorem dX1_clearCheck_13 : decode cX1_clearCheck 13 = .ok (.putfield 58, 3) := by decide +kernel
theorem dX1_clearCheck_16 : decode cX1_clearCheck 16 = .ok (.return_, 1) := by decide +kernel
theorem dX1_endCheck_0 : decode cX1_endCheck 0 = .ok (.iload_n 1, 1) := by decide +kernel
theorem dX1_endCheck_1 : decode cX1_endCheck 1 = .ok (.invokestatic 105, 3) := by decide +kernel
theorem dX1_endCheck_4 : decode cX1_endCheck 4 = .ok (.ifCond .ne 4, 3) := by decide +kernel
theorem dX1_endCheck_7 : decode cX1_endCheck 7 = .ok (.return_, 1) := by decide +kernel
theorem dX1_endCheck_8 : decode cX1_endCheck 8 = .ok (.aload_n 0, 1) := by decide +kernel
theorem dX1_endCheck_9 : decode cX1_endCheck 9 = .ok (.invokevirtual 154, 3) := by decide +kernel
theorem dX1_endCheck_12 : decode cX1_endCheck 12 = .ok (.aload_n 0, 1) := by decide +kernel
theorem dX1_endCheck_13 : decode cX1_endCheck 13 = .ok (.getfield 15, 3) := by decide +kernel
theorem dX1_endCheck_16 : decode cX1_endCheck 16 = .ok (.iload_n 1, 1) := by decide +kernel
theorem dX1_endCheck_17 : decode cX1_endCheck 17 = .ok (.aload_n 0, 1) := by decide +kernel
theorem dX1_endCheck_18 : decode cX1_endCheck 18 = .ok (.getfield 46, 3) := by decide +kernel
theorem dX1_endCheck_21 : decode cX1_endCheck 21 = .ok (.iastore, 1) := by decide +kernel
theorem dX1_endCheck_22 : decode cX1_endCheck 22 = .ok (.aload_n 0, 1) := by decide +kernel
theorem dX1_endCheck_23 : decode cX1_endCheck 23 = .ok (.iload_n 1, 1) := by decide +kernel
theorem dX1_endCheck_24 : decode cX1_endCheck 24 = .ok (.iconst 1, 1) := by decide +kernel
theorem dX1_endCheck_25 : decode cX1_endCheck 25 = .ok (.iadd, 1) := by decide +kernel
theorem dX1_endCheck_26 : decode cX1_endCheck 26 = .ok (.bipush 8, 2) := by decide +kernel
theorem dX1_endCheck_28 : decode cX1_endCheck 28 = .ok (.irem, 1) := by decide +kernel
theorem dX1_endCheck_29 : decode cX1_endCheck 29 = .ok (.putfield 61, 3) := by decide +kernel
theorem dX1_endCheck_32 : decode cX1_endCheck 32 = .ok (.aload_n 0, 1) := by decide +kernel
theorem dX1_endCheck_33 : decode cX1_endCheck 33 = .ok (.dup, 1) := by decide +kernel
theorem dX1_endCheck_34 : decode cX1_endCheck 34 = .ok (.getfield 64, 3) := by decide +kernel
theorem dX1_endCheck_37 : decode cX1_endCheck 37 = .ok (.iconst 1, 1) := by decide +kernel
theorem dX1_endCheck_38 : decode cX1_endCheck 38 = .ok (.iadd, 1) := by decide +kernel
theorem dX1_endCheck_39 : decode cX1_endCheck 39 = .ok (.putfield 64, 3) := by decide +kernel
theorem dX1_endCheck_42 : decode cX1_endCheck 42 = .ok (.aload_n 0, 1) := by decide +kernel
theorem dX1_endCheck_43 : decode cX1_endCheck 43 = .ok (.getfield 35, 3) := by decide +kernel
theorem dX1_endCheck_46 : decode cX1_endCheck 46 = .ok (.aload_n 0, 1) := by decide +kernel
theorem dX1_endCheck_47 : decode cX1_endCheck 47 = .ok (.getfield 46, 3) := by decide +kernel
theorem dX1_endCheck_50 : decode cX1_endCheck 50 = .ok (.iconst 3, 1) := by decide +kernel
theorem dX1_endCheck_51 : decode cX1_endCheck 51 = .ok (.iload_n 1, 1) := by decide +kernel
theorem dX1_endCheck_52 : decode cX1_endCheck 52 = .ok (.invokevirtual 134, 3) := by decide +kernel
theorem dX1_endCheck_55 : decode cX1_endCheck 55 = .ok (.aload_n 0, 1) := by decide +kernel
theorem dX1_endCheck_56 : decode cX1_endCheck 56 = .ok (.getfield 21, 3) := by decide +kernel
theorem dX1_endCheck_59 : decode cX1_endCheck 59 = .ok (.getfield 181, 3) := by decide +kernel
theorem dX1_endCheck_62 : decode cX1_endCheck 62 = .ok (.istore_n 2, 1) := by decide +kernel
theorem dX1_endCheck_63 : decode cX1_endCheck 63 = .ok (.aload_n 0, 1) := by decide +kernel
theorem dX1_endCheck_64 : decode cX1_endCheck 64 = .ok (.getfield 21, 3) := by decide +kernel
theorem dX1_endCheck_67 : decode cX1_endCheck 67 = .ok (.iconst 0, 1) := by decide +kernel
theorem dX1_endCheck_68 : decode cX1_endCheck 68 = .ok (.putfield 181, 3) := by decide +kernel
theorem dX1_endCheck_71 : decode cX1_endCheck 71 = .ok (.iconst 0, 1) := by decide +kernel
theorem dX1_endCheck_72 : decode cX1_endCheck 72 = .ok (.istore_n 3, 1) := by decide +kernel
theorem dX1_endCheck_73 : decode cX1_endCheck 73 = .ok (.iload_n 3, 1) := by decide +kernel
theorem dX1_endCheck_74 : decode cX1_endCheck 74 = .ok (.iload_n 2, 1) := by decide +kernel
theorem dX1_endCheck_75 : decode cX1_endCheck 75 = .ok (.if_icmp .ge 38, 3) := by decide +kernel
theorem dX1_endCheck_78 : decode cX1_endCheck 78 = .ok (.iload_n 3, 1) := by decide +kernel
theorem dX1_endCheck_79 : decode cX1_endCheck 79 = .ok (.bipush 20, 2) := by decide +kernel
theorem dX1_endCheck_81 : decode cX1_endCheck 81 = .ok (.if_icmp .ge 32, 3) := by decide +kernel
theorem dX1_endCheck_84 : decode cX1_endCheck 84 = .ok (.aload_n 0, 1) := by decide +kernel
theorem dX1_endCheck_85 : decode cX1_endCheck 85 = .ok (.iload_n 1, 1) := by decide +kernel
theorem dX1_endCheck_86 : decode cX1_endCheck 86 = .ok (.aload_n 0, 1) := by decide +kernel
theorem dX1_endCheck_87 : decode cX1_endCheck 87 = .ok (.getfield 21, 3) := by decide +kernel
theorem dX1_endCheck_90 : decode cX1_endCheck 90 = .ok (.getfield 182, 3) := by decide +kernel
theorem dX1_endCheck_93 : decode cX1_endCheck 93 = .ok (.iload_n 3, 1) := by decide +kernel
theorem dX1_endCheck_94 : decode cX1_endCheck 94 = .ok (.iaload, 1) := by decide +kernel
theorem dX1_endCheck_95 : decode cX1_endCheck 95 = .ok (.aload_n 0, 1) := by decide +kernel
theorem dX1_endCheck_96 : decode cX1_endCheck 96 = .ok (.getfield 21, 3) := by decide +kernel
theorem dX1_endCheck_99 : decode cX1_endCheck 99 = .ok (.getfield 183, 3) := by decide +kernel
theorem dX1_endCheck_102 : decode cX1_endCheck 102 = .ok (.iload_n 3, 1) := by decide +kernel
theorem dX1_endCheck_103 : decode cX1_endCheck 103 = .ok (.iaload, 1) := by decide +kernel
theorem dX1_endCheck_104 : decode cX1_endCheck 104 = .ok (.invokevirtual 186, 3) := by decide +kernel
theorem dX1_endCheck_107 : decode cX1_endCheck 107 = .ok (.iinc 3 1, 3) := by decide +kernel
theorem dX1_endCheck_110 : decode cX1_endCheck 110 = .ok (.goto (-37), 3) := by decide +kernel
theorem dX1_endCheck_113 : decode cX1_endCheck 113 = .ok (.return_, 1) := by decide +kernel
theorem dX1_lookAtSpot_0 : decode cX1_lookAtSpot 0 = .ok (.iload_n 2, 1) := by decide +kernel
theorem dX1_lookAtSpot_1 : decode cX1_lookAtSpot 1 = .ok (.iload_n 1, 1) := by decide +kernel
theorem dX1_lookAtSpot_2 : decode cX1_lookAtSpot 2 = .ok (.if_icmp .eq 16, 3) := by decide +kernel
theorem dX1_lookAtSpot_5 : decode cX1_lookAtSpot 5 = .ok (.aload_n 0, 1) := by decide +kernel
theorem dX1_lookAtSpot_6 : decode cX1_lookAtSpot 6 = .ok (.getfield 21, 3) := by decide +kernel
theorem dX1_lookAtSpot_9 : decode cX1_lookAtSpot 9 = .ok (.iload_n 2, 1) := by decide +kernel
theorem dX1_lookAtSpot_10 : decode cX1_lookAtSpot 10 = .ok (.iload_n 3, 1) := by decide +kernel
theorem dX1_lookAtSpot_11 : decode cX1_lookAtSpot 11 = .ok (.invokevirtual 108, 3) := by decide +kernel
theorem dX1_lookAtSpot_14 : decode cX1_lookAtSpot 14 = .ok (.pop, 1) := by decide +kernel
theorem dX1_lookAtSpot_15 : decode cX1_lookAtSpot 15 = .ok (.goto 94, 3) := by decide +kernel
theorem dX1_lookAtSpot_18 : decode cX1_lookAtSpot 18 = .ok (.iload_n 3, 1) := by decide +kernel
theorem dX1_lookAtSpot_19 : decode cX1_lookAtSpot 19 = .ok (.aload_n 0, 1) := by decide +kernel
theorem dX1_lookAtSpot_20 : decode cX1_lookAtSpot 20 = .ok (.getfield 9, 3) := by decide +kernel
theorem dX1_lookAtSpot_23 : decode cX1_lookAtSpot 23 = .ok (.iconst 3, 1) := by decide +kernel
theorem dX1_lookAtSpot_24 : decode cX1_lookAtSpot 24 = .ok (.iaload, 1) := by decide +kernel
theorem dX1_lookAtSpot_25 : decode cX1_lookAtSpot 25 = .ok (.if_icmp .ge 18, 3) := by decide +kernel
theorem dX1_lookAtSpot_28 : decode cX1_lookAtSpot 28 = .ok (.aload_n 0, 1) := by decide +kernel
theorem dX1_lookAtSpot_29 : decode cX1_lookAtSpot 29 = .ok (.getfield 21, 3) := by decide +kernel
theorem dX1_lookAtSpot_32 : decode cX1_lookAtSpot 32 = .ok (.iload_n 2, 1) := by decide +kernel
theorem dX1_lookAtSpot_33 : decode cX1_lookAtSpot 33 = .ok (.iload_n 3, 1) := by decide +kernel
theorem dX1_lookAtSpot_34 : decode cX1_lookAtSpot 34 = .ok (.iconst 1, 1) := by decide +kernel
theorem dX1_lookAtSpot_35 : decode cX1_lookAtSpot 35 = .ok (.iadd, 1) := by decide +kernel
theorem dX1_lookAtSpot_36 : decode cX1_lookAtSpot 36 = .ok (.invokevirtual 108, 3) := by decide +kernel
theorem dX1_lookAtSpot_39 : decode cX1_lookAtSpot 39 = .ok (.pop, 1) := by decide +kernel
theorem dX1_lookAtSpot_40 : decode cX1_lookAtSpot 40 = .ok (.goto 69, 3) := by decide +kernel
theorem dX1_lookAtSpot_43 : decode cX1_lookAtSpot 43 = .ok (.aload_n 0, 1) := by decide +kernel
theorem dX1_lookAtSpot_44 : decode cX1_lookAtSpot 44 = .ok (.getfield 43, 3) := by decide +kernel
theorem dX1_lookAtSpot_47 : decode cX1_lookAtSpot 47 = .ok (.ifCond .le 39, 3) := by decide +kernel
theorem dX1_lookAtSpot_50 : decode cX1_lookAtSpot 50 = .ok (.aload_n 0, 1) := by decide +kernel
theorem dX1_lookAtSpot_51 : decode cX1_lookAtSpot 51 = .ok (.dup, 1) := by decide +kernel
theorem dX1_lookAtSpot_52 : decode cX1_lookAtSpot 52 = .ok (.getfield 43, 3) := by decide +kernel
theorem dX1_lookAtSpot_55 : decode cX1_lookAtSpot 55 = .ok (.iconst 1, 1) := by decide +kernel
theorem dX1_lookAtSpot_56 : decode cX1_lookAtSpot 56 = .ok (.isub, 1) := by decide +kernel
theorem dX1_lookAtSpot_57 : decode cX1_lookAtSpot 57 = .ok (.putfield 43, 3) := by decide +kernel
theorem dX1_lookAtSpot_60 : decode cX1_lookAtSpot 60 = .ok (.aload_n 0, 1) := by decide +kernel
theorem dX1_lookAtSpot_61 : decode cX1_lookAtSpot 61 = .ok (.dup, 1) := by decide +kernel
theorem dX1_lookAtSpot_62 : decode cX1_lookAtSpot 62 = .ok (.getfield 70, 3) := by decide +kernel
theorem dX1_lookAtSpot_65 : decode cX1_lookAtSpot 65 = .ok (.iconst 1, 1) := by decide +kernel
theorem dX1_lookAtSpot_66 : decode cX1_lookAtSpot 66 = .ok (.iadd, 1) := by decide +kernel
theorem dX1_lookAtSpot_67 : decode cX1_lookAtSpot 67 = .ok (.putfield 70, 3) := by decide +kernel
theorem dX1_lookAtSpot_70 : decode cX1_lookAtSpot 70 = .ok (.aload_n 0, 1) := by decide +kernel
theorem dX1_lookAtSpot_71 : decode cX1_lookAtSpot 71 = .ok (.getfield 35, 3) := by decide +kernel
theorem dX1_lookAtSpot_74 : decode cX1_lookAtSpot 74 = .ok (.aload_n 0, 1) := by decide +kernel
theorem dX1_lookAtSpot_75 : decode cX1_lookAtSpot 75 = .ok (.getfield 46, 3) := by decide +kernel
theorem dX1_lookAtSpot_78 : decode cX1_lookAtSpot 78 = .ok (.iconst 4, 1) := by decide +kernel
theorem dX1_lookAtSpot_79 : decode cX1_lookAtSpot 79 = .ok (.iload_n 1, 1) := by decide +kernel
theorem dX1_lookAtSpot_80 : decode cX1_lookAtSpot 80 = .ok (.invokevirtual 134, 3) := by decide +kernel
theorem dX1_lookAtSpot_83 : decode cX1_lookAtSpot 83 = .ok (.goto 26, 3) := by decide +kernel
theorem dX1_lookAtSpot_86 : decode cX1_lookAtSpot 86 = .ok (.aload_n 0, 1) := by decide +kernel
theorem dX1_lookAtSpot_87 : decode cX1_lookAtSpot 87 = .ok (.getfield 21, 3) := by decide +kernel
theorem dX1_lookAtSpot_90 : decode cX1_lookAtSpot 90 = .ok (.iload_n 2, 1) := by decide +kernel
theorem dX1_lookAtSpot_91 : decode cX1_lookAtSpot 91 = .ok (.iload_n 3, 1) := by decide +kernel
theorem dX1_lookAtSpot_92 : decode cX1_lookAtSpot 92 = .ok (.invokevirtual 108, 3) := by decide +kernel
theorem dX1_lookAtSpot_95 : decode cX1_lookAtSpot 95 = .ok (.pop, 1) := by decide +kernel
theorem dX1_lookAtSpot_96 : decode cX1_lookAtSpot 96 = .ok (.aload_n 0, 1) := by decide +kernel
theorem dX1_lookAtSpot_97 : decode cX1_lookAtSpot 97 = .ok (.getfield 35, 3) := by decide +kernel
theorem dX1_lookAtSpot_100 : decode cX1_lookAtSpot 100 = .ok (.aload_n 0, 1) := by decide +kernel
theorem dX1_lookAtSpot_101 : decode cX1_lookAtSpot 101 = .ok (.getfield 46, 3) := by decide +kernel
theorem dX1_lookAtSpot_104 : decode cX1_lookAtSpot 104 = .ok (.iconst 5, 1) := by decide +kernel
theorem dX1_lookAtSpot_105 : decode cX1_lookAtSpot 105 = .ok (.iload_n 1, 1) := by decide +kernel
theorem dX1_lookAtSpot_106 : decode cX1_lookAtSpot 106 = .ok (.invokevirtual 134, 3) := by decide +kernel
theorem dX1_lookAtSpot_109 : decode cX1_lookAtSpot 109 = .ok (.return_, 1) := by decide +kernel
theorem dX1_overdueSpans_0 : decode cX1_overdueSpans 0 = .ok (.iconst 0, 1) := by decide +kernel
theorem dX1_overdueSpans_1 : decode cX1_overdueSpans 1 = .ok (.istore_n 1, 1) := by decide +kernel
theorem dX1_overdueSpans_2 : decode cX1_overdueSpans 2 = .ok (.iconst 0, 1) := by decide +kernel
theorem dX1_overdueSpans_3 : decode cX1_overdueSpans 3 = .ok (.istore_n 2, 1) := by decide +kernel
theorem dX1_overdueSpans_4 : decode cX1_overdueSpans 4 = .ok (.iload_n 2, 1) := by decide +kernel
theorem dX1_overdueSpans_5 : decode cX1_overdueSpans 5 = .ok (.bipush 8, 2) := by decide +kernel
theorem dX1_overdueSpans_7 : decode cX1_overdueSpans 7 = .ok (.if_icmp .ge 20, 3) := by decide +kernel
theorem dX1_overdueSpans_10 : decode cX1_overdueSpans 10 = .ok (.aload_n 0, 1) := by decide +kernel
theorem dX1_overdueSpans_11 : decode cX1_overdueSpans 11 = .ok (.iload_n 2, 1) := by decide +kernel
theorem dX1_overdueSpans_12 : decode cX1_overdueSpans 12 = .ok (.invokevirtual 189, 3) := by decide +kernel
theorem dX1_overdueSpans_15 : decode cX1_overdueSpans 15 = .ok (.ifCond .eq 6, 3) := by decide +kernel
theorem dX1_overdueSpans_18 : decode cX1_overdueSpans 18 = .ok (.iinc 1 1, 3) := by decide +kernel
theorem dX1_overdueSpans_21 : decode cX1_overdueSpans 21 = .ok (.iinc 2 1, 3) := by decide +kernel
theorem dX1_overdueSpans_24 : decode cX1_overdueSpans 24 = .ok (.goto (-20), 3) := by decide +kernel
theorem dX1_overdueSpans_27 : decode cX1_overdueSpans 27 = .ok (.iload_n 1, 1) := by decide +kernel
theorem dX1_overdueSpans_28 : decode cX1_overdueSpans 28 = .ok (.ireturn, 1) := by decide +kernel
theorem dX1_ageOf_0 : decode cX1_ageOf 0 = .ok (.iload_n 1, 1) := by decide +kernel
theorem dX1_ageOf_1 : decode cX1_ageOf 1 = .ok (.invokestatic 105, 3) := by decide +kernel
theorem dX1_ageOf_4 : decode cX1_ageOf 4 = .ok (.ifCond .ne 5, 3) := by decide +kernel
theorem dX1_ageOf_7 : decode cX1_ageOf 7 = .ok (.iconst 0, 1) := by decide +kernel
theorem dX1_ageOf_8 : decode cX1_ageOf 8 = .ok (.ireturn, 1) := by decide +kernel
theorem dX1_ageOf_9 : decode cX1_ageOf 9 = .ok (.aload_n 0, 1) := by decide +kernel
theorem dX1_ageOf_10 : decode cX1_ageOf 10 = .ok (.getfield 46, 3) := by decide +kernel
theorem dX1_ageOf_13 : decode cX1_ageOf 13 = .ok (.aload_n 0, 1) := by decide +kernel
theorem dX1_ageOf_14 : decode cX1_ageOf 14 = .ok (.getfield 15, 3) := by decide +kernel
theorem dX1_ageOf_17 : decode cX1_ageOf 17 = .ok (.iload_n 1, 1) := by decide +kernel
theorem dX1_ageOf_18 : decode cX1_ageOf 18 = .ok (.iaload, 1) := by decide +kernel
theorem dX1_ageOf_19 : decode cX1_ageOf 19 = .ok (.isub, 1) := by decide +kernel
theorem dX1_ageOf_20 : decode cX1_ageOf 20 = .ok (.ireturn, 1) := by decide +kernel
theorem dX1_isOverdue_0 : decode cX1_isOverdue 0 = .ok (.aload_n 0, 1) := by decide +kernel
theorem dX1_isOverdue_1 : decode cX1_isOverdue 1 = .ok (.iload_n 1, 1) := by decide +kernel
theorem dX1_isOverdue_2 : decode cX1_isOverdue 2 = .ok (.invokevirtual 166, 3) := by decide +kernel
theorem dX1_isOverdue_5 : decode cX1_isOverdue 5 = .ok (.aload_n 0, 1) := by decide +kernel
theorem dX1_isOverdue_6 : decode cX1_isOverdue 6 = .ok (.getfield 9, 3) := by decide +kernel
theorem dX1_isOverdue_9 : decode cX1_isOverdue 9 = .ok (.iconst 4, 1) := by decide +kernel
theorem dX1_isOverdue_10 : decode cX1_isOverdue 10 = .ok (.iaload, 1) := by decide +kernel
theorem dX1_isOverdue_11 : decode cX1_isOverdue 11 = .ok (.if_icmp .le 7, 3) := by decide +kernel
theorem dX1_isOverdue_14 : decode cX1_isOverdue 14 = .ok (.iconst 1, 1) := by decide +kernel
theorem dX1_isOverdue_15 : decode cX1_isOverdue 15 = .ok (.goto 4, 3) := by decide +kernel
theorem dX1_isOverdue_18 : decode cX1_isOverdue 18 = .ok (.iconst 0, 1) := by decide +kernel
theorem dX1_isOverdue_19 : decode cX1_isOverdue 19 = .ok (.ireturn, 1) := by decide +kernel
theorem dX1_isDue_0 : decode cX1_isDue 0 = .ok (.aload_n 0, 1) := by decide +kernel
theorem dX1_isDue_1 : decode cX1_isDue 1 = .ok (.iload_n 1, 1) := by decide +kernel
theorem dX1_isDue_2 : decode cX1_isDue 2 = .ok (.invokevirtual 166, 3) := by decide +kernel
theorem dX1_isDue_5 : decode cX1_isDue 5 = .ok (.aload_n 0, 1) := by decide +kernel
theorem dX1_isDue_6 : decode cX1_isDue 6 = .ok (.getfield 9, 3) := by decide +kernel
theorem dX1_isDue_9 : decode cX1_isDue 9 = .ok (.iconst 4, 1) := by decide +kernel
theorem dX1_isDue_10 : decode cX1_isDue 10 = .ok (.iaload, 1) := by decide +kernel
theorem dX1_isDue_11 : decode cX1_isDue 11 = .ok (.iconst 2, 1) := by decide +kernel
theorem dX1_isDue_12 : decode cX1_isDue 12 = .ok (.idiv, 1) := by decide +kernel
theorem dX1_isDue_13 : decode cX1_isDue 13 = .ok (.if_icmp .lt 7, 3) := by decide +kernel
theorem dX1_isDue_16 : decode cX1_isDue 16 = .ok (.iconst 1, 1) := by decide +kernel
theorem dX1_isDue_17 : decode cX1_isDue 17 = .ok (.goto 4, 3) := by decide +kernel
theorem dX1_isDue_20 : decode cX1_isDue 20 = .ok (.iconst 0, 1) := by decide +kernel
theorem dX1_isDue_21 : decode cX1_isDue 21 = .ok (.ireturn, 1) := by decide +kernel
theorem dX1_ticksOfCheck_0 : decode cX1_ticksOfCheck 0 = .ok (.aload_n 0, 1) := by decide +kernel
theorem dX1_ticksOfCheck_1 : decode cX1_ticksOfCheck 1 = .ok (.getfield 9, 3) := by decide +kernel
theorem dX1_ticksOfCheck_4 : decode cX1_ticksOfCheck 4 = .ok (.iconst 1, 1) := by decide +kernel
theorem dX1_ticksOfCheck_5 : decode cX1_ticksOfCheck 5 = .ok (.iaload, 1) := by decide +kernel
theorem dX1_ticksOfCheck_6 : decode cX1_ticksOfCheck 6 = .ok (.aload_n 0, 1) := by decide +kernel
theorem dX1_ticksOfCheck_7 : decode cX1_ticksOfCheck 7 = .ok (.getfield 9, 3) := by decide +kernel
theorem dX1_ticksOfCheck_10 : decode cX1_ticksOfCheck 10 = .ok (.iconst 2, 1) := by decide +kernel
theorem dX1_ticksOfCheck_11 : decode cX1_ticksOfCheck 11 = .ok (.iaload, 1) := by decide +kernel
theorem dX1_ticksOfCheck_12 : decode cX1_ticksOfCheck 12 = .ok (.aload_n 0, 1) := by decide +kernel
theorem dX1_ticksOfCheck_13 : decode cX1_ticksOfCheck 13 = .ok (.getfield 21, 3) := by decide +kernel
theorem dX1_ticksOfCheck_16 : decode cX1_ticksOfCheck 16 = .ok (.iload_n 1, 1) := by decide +kernel
theorem dX1_ticksOfCheck_17 : decode cX1_ticksOfCheck 17 = .ok (.aload_n 0, 1) := by decide +kernel
theorem dX1_ticksOfCheck_18 : decode cX1_ticksOfCheck 18 = .ok (.getfield 9, 3) := by decide +kernel
theorem dX1_ticksOfCheck_21 : decode cX1_ticksOfCheck 21 = .ok (.iconst 3, 1) := by decide +kernel
theorem dX1_ticksOfCheck_22 : decode cX1_ticksOfCheck 22 = .ok (.iaload, 1) := by decide +kernel
theorem dX1_ticksOfCheck_23 : decode cX1_ticksOfCheck 23 = .ok (.invokevirtual 169, 3) := by decide +kernel
theorem dX1_ticksOfCheck_26 : decode cX1_ticksOfCheck 26 = .ok (.imul, 1) := by decide +kernel
theorem dX1_ticksOfCheck_27 : decode cX1_ticksOfCheck 27 = .ok (.iadd, 1) := by decide +kernel
theorem dX1_ticksOfCheck_28 : decode cX1_ticksOfCheck 28 = .ok (.ireturn, 1) := by decide +kernel
theorem dX1_numberOfDisk_0 : decode cX1_numberOfDisk 0 = .ok (.iload_n 1, 1) := by decide +kernel
theorem dX1_numberOfDisk_1 : decode cX1_numberOfDisk 1 = .ok (.tableswitch 129 0 11 #[63, 68, 73, 81, 86, 91, 96, 101, 106, 114, 119, 124], 63) := by decide +kernel
theorem dX1_numberOfDisk_64 : decode cX1_numberOfDisk 64 = .ok (.aload_n 0, 1) := by decide +kernel
theorem dX1_numberOfDisk_65 : decode cX1_numberOfDisk 65 = .ok (.getfield 46, 3) := by decide +kernel
theorem dX1_numberOfDisk_68 : decode cX1_numberOfDisk 68 = .ok (.ireturn, 1) := by decide +kernel
theorem dX1_numberOfDisk_69 : decode cX1_numberOfDisk 69 = .ok (.aload_n 0, 1) := by decide +kernel
theorem dX1_numberOfDisk_70 : decode cX1_numberOfDisk 70 = .ok (.getfield 49, 3) := by decide +kernel
theorem dX1_numberOfDisk_73 : decode cX1_numberOfDisk 73 = .ok (.ireturn, 1) := by decide +kernel
theorem dX1_numberOfDisk_74 : decode cX1_numberOfDisk 74 = .ok (.aload_n 0, 1) := by decide +kernel
theorem dX1_numberOfDisk_75 : decode cX1_numberOfDisk 75 = .ok (.getfield 21, 3) := by decide +kernel
theorem dX1_numberOfDisk_78 : decode cX1_numberOfDisk 78 = .ok (.getfield 181, 3) := by decide +kernel
theorem dX1_numberOfDisk_81 : decode cX1_numberOfDisk 81 = .ok (.ireturn, 1) := by decide +kernel
theorem dX1_numberOfDisk_82 : decode cX1_numberOfDisk 82 = .ok (.aload_n 0, 1) := by decide +kernel
theorem dX1_numberOfDisk_83 : decode cX1_numberOfDisk 83 = .ok (.getfield 43, 3) := by decide +kernel
theorem dX1_numberOfDisk_86 : decode cX1_numberOfDisk 86 = .ok (.ireturn, 1) := by decide +kernel
theorem dX1_numberOfDisk_87 : decode cX1_numberOfDisk 87 = .ok (.aload_n 0, 1) := by decide +kernel
theorem dX1_numberOfDisk_88 : decode cX1_numberOfDisk 88 = .ok (.getfield 39, 3) := by decide +kernel
theorem dX1_numberOfDisk_91 : decode cX1_numberOfDisk 91 = .ok (.ireturn, 1) := by decide +kernel
theorem dX1_numberOfDisk_92 : decode cX1_numberOfDisk 92 = .ok (.aload_n 0, 1) := by decide +kernel
theorem dX1_numberOfDisk_93 : decode cX1_numberOfDisk 93 = .ok (.getfield 52, 3) := by decide +kernel
theorem dX1_numberOfDisk_96 : decode cX1_numberOfDisk 96 = .ok (.ireturn, 1) := by decide +kernel
theorem dX1_numberOfDisk_97 : decode cX1_numberOfDisk 97 = .ok (.aload_n 0, 1) := by decide +kernel
theorem dX1_numberOfDisk_98 : decode cX1_numberOfDisk 98 = .ok (.getfield 55, 3) := by decide +kernel
theorem dX1_numberOfDisk_101 : decode cX1_numberOfDisk 101 = .ok (.ireturn, 1) := by decide +kernel
theorem dX1_numberOfDisk_102 : decode cX1_numberOfDisk 102 = .ok (.aload_n 0, 1) := by decide +kernel
theorem dX1_numberOfDisk_103 : decode cX1_numberOfDisk 103 = .ok (.getfield 58, 3) := by decide +kernel
theorem dX1_numberOfDisk_106 : decode cX1_numberOfDisk 106 = .ok (.ireturn, 1) := by decide +kernel
theorem dX1_numberOfDisk_107 : decode cX1_numberOfDisk 107 = .ok (.aload_n 0, 1) := by decide +kernel
theorem dX1_numberOfDisk_108 : decode cX1_numberOfDisk 108 = .ok (.getfield 28, 3) := by decide +kernel
theorem dX1_numberOfDisk_111 : decode cX1_numberOfDisk 111 = .ok (.getfield 121, 3) := by decide +kernel
theorem dX1_numberOfDisk_114 : decode cX1_numberOfDisk 114 = .ok (.ireturn, 1) := by decide +kernel
theorem dX1_numberOfDisk_115 : decode cX1_numberOfDisk 115 = .ok (.aload_n 0, 1) := by decide +kernel
theorem dX1_numberOfDisk_116 : decode cX1_numberOfDisk 116 = .ok (.getfield 64, 3) := by decide +kernel
theorem dX1_numberOfDisk_119 : decode cX1_numberOfDisk 119 = .ok (.ireturn, 1) := by decide +kernel
theorem dX1_numberOfDisk_120 : decode cX1_numberOfDisk 120 = .ok (.aload_n 0, 1) := by decide +kernel
theorem dX1_numberOfDisk_121 : decode cX1_numberOfDisk 121 = .ok (.getfield 67, 3) := by decide +kernel
theorem dX1_numberOfDisk_124 : decode cX1_numberOfDisk 124 = .ok (.ireturn, 1) := by decide +kernel
theorem dX1_numberOfDisk_125 : decode cX1_numberOfDisk 125 = .ok (.aload_n 0, 1) := by decide +kernel
theorem dX1_numberOfDisk_126 : decode cX1_numberOfDisk 126 = .ok (.getfield 70, 3) := by decide +kernel
theorem dX1_numberOfDisk_129 : decode cX1_numberOfDisk 129 = .ok (.ireturn, 1) := by decide +kernel
theorem dX1_numberOfDisk_130 : decode cX1_numberOfDisk 130 = .ok (.aload_n 0, 1) := by decide +kernel
theorem dX1_numberOfDisk_131 : decode cX1_numberOfDisk 131 = .ok (.getfield 73, 3) := by decide +kernel
theorem dX1_numberOfDisk_134 : decode cX1_numberOfDisk 134 = .ok (.ireturn, 1) := by decide +kernel
theorem dX1_numberOfSpan_0 : decode cX1_numberOfSpan 0 = .ok (.iload_n 1, 1) := by decide +kernel
theorem dX1_numberOfSpan_1 : decode cX1_numberOfSpan 1 = .ok (.invokestatic 105, 3) := by decide +kernel
theorem dX1_numberOfSpan_4 : decode cX1_numberOfSpan 4 = .ok (.ifCond .ne 5, 3) := by decide +kernel
theorem dX1_numberOfSpan_7 : decode cX1_numberOfSpan 7 = .ok (.iconst (-1), 1) := by decide +kernel
theorem dX1_numberOfSpan_8 : decode cX1_numberOfSpan 8 = .ok (.ireturn, 1) := by decide +kernel
theorem dX1_numberOfSpan_9 : decode cX1_numberOfSpan 9 = .ok (.iload_n 2, 1) := by decide +kernel
theorem dX1_numberOfSpan_10 : decode cX1_numberOfSpan 10 = .ok (.tableswitch 103 0 5 #[38, 45, 51, 60, 71, 97], 38) := by decide +kernel
theorem dX1_numberOfSpan_48 : decode cX1_numberOfSpan 48 = .ok (.aload_n 0, 1) := by decide +kernel
theorem dX1_numberOfSpan_49 : decode cX1_numberOfSpan 49 = .ok (.getfield 15, 3) := by decide +kernel
theorem dX1_numberOfSpan_52 : decode cX1_numberOfSpan 52 = .ok (.iload_n 1, 1) := by decide +kernel
theorem dX1_numberOfSpan_53 : decode cX1_numberOfSpan 53 = .ok (.iaload, 1) := by decide +kernel
theorem dX1_numberOfSpan_54 : decode cX1_numberOfSpan 54 = .ok (.ireturn, 1) := by decide +kernel
theorem dX1_numberOfSpan_55 : decode cX1_numberOfSpan 55 = .ok (.aload_n 0, 1) := by decide +kernel
theorem dX1_numberOfSpan_56 : decode cX1_numberOfSpan 56 = .ok (.iload_n 1, 1) := by decide +kernel
theorem dX1_numberOfSpan_57 : decode cX1_numberOfSpan 57 = .ok (.invokevirtual 166, 3) := by decide +kernel
theorem dX1_numberOfSpan_60 : decode cX1_numberOfSpan 60 = .ok (.ireturn, 1) := by decide +kernel
theorem dX1_numberOfSpan_61 : decode cX1_numberOfSpan 61 = .ok (.aload_n 0, 1) := by decide +kernel
theorem dX1_numberOfSpan_62 : decode cX1_numberOfSpan 62 = .ok (.getfield 21, 3) := by decide +kernel
theorem dX1_numberOfSpan_65 : decode cX1_numberOfSpan 65 = .ok (.iload_n 1, 1) := by decide +kernel
theorem dX1_numberOfSpan_66 : decode cX1_numberOfSpan 66 = .ok (.invokevirtual 112, 3) := by decide +kernel
theorem dX1_numberOfSpan_69 : decode cX1_numberOfSpan 69 = .ok (.ireturn, 1) := by decide +kernel
theorem dX1_numberOfSpan_70 : decode cX1_numberOfSpan 70 = .ok (.aload_n 0, 1) := by decide +kernel
theorem dX1_numberOfSpan_71 : decode cX1_numberOfSpan 71 = .ok (.getfield 21, 3) := by decide +kernel
theorem dX1_numberOfSpan_74 : decode cX1_numberOfSpan 74 = .ok (.iload_n 1, 1) := by decide +kernel
theorem dX1_numberOfSpan_75 : decode cX1_numberOfSpan 75 = .ok (.bipush 9, 2) := by decide +kernel
theorem dX1_numberOfSpan_77 : decode cX1_numberOfSpan 77 = .ok (.invokevirtual 169, 3) := by decide +kernel
theorem dX1_numberOfSpan_80 : decode cX1_numberOfSpan 80 = .ok (.ireturn, 1) := by decide +kernel
theorem dX1_numberOfSpan_81 : decode cX1_numberOfSpan 81 = .ok (.aload_n 0, 1) := by decide +kernel
theorem dX1_numberOfSpan_82 : decode cX1_numberOfSpan 82 = .ok (.iload_n 1, 1) := by decide +kernel
theorem dX1_numberOfSpan_83 : decode cX1_numberOfSpan 83 = .ok (.invokevirtual 189, 3) := by decide +kernel
theorem dX1_numberOfSpan_86 : decode cX1_numberOfSpan 86 = .ok (.ifCond .eq 7, 3) := by decide +kernel
theorem dX1_numberOfSpan_89 : decode cX1_numberOfSpan 89 = .ok (.iconst 2, 1) := by decide +kernel
theorem dX1_numberOfSpan_90 : decode cX1_numberOfSpan 90 = .ok (.goto 16, 3) := by decide +kernel
theorem dX1_numberOfSpan_93 : decode cX1_numberOfSpan 93 = .ok (.aload_n 0, 1) := by decide +kernel
theorem dX1_numberOfSpan_94 : decode cX1_numberOfSpan 94 = .ok (.iload_n 1, 1) := by decide +kernel
theorem dX1_numberOfSpan_95 : decode cX1_numberOfSpan 95 = .ok (.invokevirtual 160, 3) := by decide +kernel
theorem dX1_numberOfSpan_98 : decode cX1_numberOfSpan 98 = .ok (.ifCond .eq 7, 3) := by decide +kernel
theorem dX1_numberOfSpan_101 : decode cX1_numberOfSpan 101 = .ok (.iconst 1, 1) := by decide +kernel
theorem dX1_numberOfSpan_102 : decode cX1_numberOfSpan 102 = .ok (.goto 4, 3) := by decide +kernel
theorem dX1_numberOfSpan_105 : decode cX1_numberOfSpan 105 = .ok (.iconst 0, 1) := by decide +kernel
theorem dX1_numberOfSpan_106 : decode cX1_numberOfSpan 106 = .ok (.ireturn, 1) := by decide +kernel
theorem dX1_numberOfSpan_107 : decode cX1_numberOfSpan 107 = .ok (.aload_n 0, 1) := by decide +kernel
theorem dX1_numberOfSpan_108 : decode cX1_numberOfSpan 108 = .ok (.iload_n 1, 1) := by decide +kernel
theorem dX1_numberOfSpan_109 : decode cX1_numberOfSpan 109 = .ok (.invokevirtual 173, 3) := by decide +kernel
theorem dX1_numberOfSpan_112 : decode cX1_numberOfSpan 112 = .ok (.ireturn, 1) := by decide +kernel
theorem dX1_numberOfSpan_113 : decode cX1_numberOfSpan 113 = .ok (.aload_n 0, 1) := by decide +kernel
theorem dX1_numberOfSpan_114 : decode cX1_numberOfSpan 114 = .ok (.getfield 28, 3) := by decide +kernel
theorem dX1_numberOfSpan_117 : decode cX1_numberOfSpan 117 = .ok (.iload_n 1, 1) := by decide +kernel
theorem dX1_numberOfSpan_118 : decode cX1_numberOfSpan 118 = .ok (.invokevirtual 116, 3) := by decide +kernel
theorem dX1_numberOfSpan_121 : decode cX1_numberOfSpan 121 = .ok (.ireturn, 1) := by decide +kernel
theorem dX2_init_0 : decode cX2_init 0 = .ok (.aload_n 0, 1) := by decide +kernel
theorem dX2_init_1 : decode cX2_init 1 = .ok (.invokespecial 3, 3) := by decide +kernel
theorem dX2_init_4 : decode cX2_init 4 = .ok (.aload_n 0, 1) := by decide +kernel
theorem dX2_init_5 : decode cX2_init 5 = .ok (.bipush 7, 2) := by decide +kernel
theorem dX2_init_7 : decode cX2_init 7 = .ok (.anewarray 9, 3) := by decide +kernel
theorem dX2_init_10 : decode cX2_init 10 = .ok (.putfield 11, 3) := by decide +kernel
theorem dX2_init_13 : decode cX2_init 13 = .ok (.aload_n 0, 1) := by decide +kernel
theorem dX2_init_14 : decode cX2_init 14 = .ok (.iconst 0, 1) := by decide +kernel
theorem dX2_init_15 : decode cX2_init 15 = .ok (.putfield 17, 3) := by decide +kernel
theorem dX2_init_18 : decode cX2_init 18 = .ok (.iconst 0, 1) := by decide +kernel
theorem dX2_init_19 : decode cX2_init 19 = .ok (.istore_n 1, 1) := by decide +kernel
theorem dX2_init_20 : decode cX2_init 20 = .ok (.iload_n 1, 1) := by decide +kernel
theorem dX2_init_21 : decode cX2_init 21 = .ok (.aload_n 0, 1) := by decide +kernel
theorem dX2_init_22 : decode cX2_init 22 = .ok (.getfield 11, 3) := by decide +kernel
theorem dX2_init_25 : decode cX2_init 25 = .ok (.arraylength, 1) := by decide +kernel
theorem dX2_init_26 : decode cX2_init 26 = .ok (.if_icmp .ge 22, 3) := by decide +kernel
theorem dX2_init_29 : decode cX2_init 29 = .ok (.aload_n 0, 1) := by decide +kernel
theorem dX2_init_30 : decode cX2_init 30 = .ok (.getfield 11, 3) := by decide +kernel
theorem dX2_init_33 : decode cX2_init 33 = .ok (.iload_n 1, 1) := by decide +kernel
theorem dX2_init_34 : decode cX2_init 34 = .ok (.new 9, 3) := by decide +kernel
theorem dX2_init_37 : decode cX2_init 37 = .ok (.dup, 1) := by decide +kernel
theorem dX2_init_38 : decode cX2_init 38 = .ok (.invokespecial 21, 3) := by decide +kernel
theorem dX2_init_41 : decode cX2_init 41 = .ok (.aastore, 1) := by decide +kernel
theorem dX2_init_42 : decode cX2_init 42 = .ok (.iinc 1 1, 3) := by decide +kernel
theorem dX2_init_45 : decode cX2_init 45 = .ok (.goto (-25), 3) := by decide +kernel
theorem dX2_init_48 : decode cX2_init 48 = .ok (.return_, 1) := by decide +kernel
theorem dX2_draft_0 : decode cX2_draft 0 = .ok (.aload_n 0, 1) := by decide +kernel
theorem dX2_draft_1 : decode cX2_draft 1 = .ok (.aload_n 0, 1) := by decide +kernel
theorem dX2_draft_2 : decode cX2_draft 2 = .ok (.getfield 17, 3) := by decide +kernel
theorem dX2_draft_5 : decode cX2_draft 5 = .ok (.invokevirtual 22, 3) := by decide +kernel
theorem dX2_draft_8 : decode cX2_draft 8 = .ok (.astore_n 2, 1) := by decide +kernel
theorem dX2_draft_9 : decode cX2_draft 9 = .ok (.aload_n 2, 1) := by decide +kernel
theorem dX2_draft_10 : decode cX2_draft 10 = .ok (.ifnull 8, 3) := by decide +kernel
theorem dX2_draft_13 : decode cX2_draft 13 = .ok (.aload_n 2, 1) := by decide +kernel
theorem dX2_draft_14 : decode cX2_draft 14 = .ok (.aload_n 1, 1) := by decide +kernel
theorem dX2_draft_15 : decode cX2_draft 15 = .ok (.invokevirtual 26, 3) := by decide +kernel
theorem dX2_draft_18 : decode cX2_draft 18 = .ok (.return_, 1) := by decide +kernel
theorem dX2_keep_0 : decode cX2_keep 0 = .ok (.iload_n 1, 1) := by decide +kernel
theorem dX2_keep_1 : decode cX2_keep 1 = .ok (.ifCond .ge 5, 3) := by decide +kernel
theorem dX2_keep_4 : decode cX2_keep 4 = .ok (.iload_n 1, 1) := by decide +kernel
theorem dX2_keep_5 : decode cX2_keep 5 = .ok (.ireturn, 1) := by decide +kernel
theorem dX2_keep_6 : decode cX2_keep 6 = .ok (.aload_n 0, 1) := by decide +kernel
theorem dX2_keep_7 : decode cX2_keep 7 = .ok (.getfield 17, 3) := by decide +kernel
theorem dX2_keep_10 : decode cX2_keep 10 = .ok (.bipush 6, 2) := by decide +kernel
theorem dX2_keep_12 : decode cX2_keep 12 = .ok (.if_icmp .ge 16, 3) := by decide +kernel
theorem dX2_keep_15 : decode cX2_keep 15 = .ok (.aload_n 0, 1) := by decide +kernel
theorem dX2_keep_16 : decode cX2_keep 16 = .ok (.dup, 1) := by decide +kernel
theorem dX2_keep_17 : decode cX2_keep 17 = .ok (.getfield 17, 3) := by decide +kernel
theorem dX2_keep_20 : decode cX2_keep 20 = .ok (.iconst 1, 1) := by decide +kernel
theorem dX2_keep_21 : decode cX2_keep 21 = .ok (.iadd, 1) := by decide +kernel
theorem dX2_keep_22 : decode cX2_keep 22 = .ok (.putfield 17, 3) := by decide +kernel
theorem dX2_keep_25 : decode cX2_keep 25 = .ok (.goto 7, 3) := by decide +kernel
theorem dX2_keep_28 : decode cX2_keep 28 = .ok (.aload_n 0, 1) := by decide +kernel
theorem dX2_keep_29 : decode cX2_keep 29 = .ok (.invokevirtual 30, 3) := by decide +kernel
theorem dX2_keep_32 : decode cX2_keep 32 = .ok (.iload_n 1, 1) := by decide +kernel
theorem dX2_keep_33 : decode cX2_keep 33 = .ok (.ireturn, 1) := by decide +kernel
theorem dX2_discardOldest_0 : decode cX2_discardOldest 0 = .ok (.aload_n 0, 1) := by decide +kernel
theorem dX2_discardOldest_1 : decode cX2_discardOldest 1 = .ok (.getfield 11, 3) := by decide +kernel
theorem dX2_discardOldest_4 : decode cX2_discardOldest 4 = .ok (.iconst 0, 1) := by decide +kernel
theorem dX2_discardOldest_5 : decode cX2_discardOldest 5 = .ok (.aaload, 1) := by decide +kernel
theorem dX2_discardOldest_6 : decode cX2_discardOldest 6 = .ok (.astore_n 1, 1) := by decide +kernel
theorem dX2_discardOldest_7 : decode cX2_discardOldest 7 = .ok (.iconst 1, 1) := by decide +kernel
theorem dX2_discardOldest_8 : decode cX2_discardOldest 8 = .ok (.istore_n 2, 1) := by decide +kernel
theorem dX2_discardOldest_9 : decode cX2_discardOldest 9 = .ok (.iload_n 2, 1) := by decide +kernel
theorem dX2_discardOldest_10 : decode cX2_discardOldest 10 = .ok (.aload_n 0, 1) := by decide +kernel
theorem dX2_discardOldest_11 : decode cX2_discardOldest 11 = .ok (.getfield 11, 3) := by decide +kernel
theorem dX2_discardOldest_14 : decode cX2_discardOldest 14 = .ok (.arraylength, 1) := by decide +kernel
theorem dX2_discardOldest_15 : decode cX2_discardOldest 15 = .ok (.if_icmp .ge 23, 3) := by decide +kernel
theorem dX2_discardOldest_18 : decode cX2_discardOldest 18 = .ok (.aload_n 0, 1) := by decide +kernel
theorem dX2_discardOldest_19 : decode cX2_discardOldest 19 = .ok (.getfield 11, 3) := by decide +kernel
theorem dX2_discardOldest_22 : decode cX2_discardOldest 22 = .ok (.iload_n 2, 1) := by decide +kernel
theorem dX2_discardOldest_23 : decode cX2_discardOldest 23 = .ok (.iconst 1, 1) := by decide +kernel
theorem dX2_discardOldest_24 : decode cX2_discardOldest 24 = .ok (.isub, 1) := by decide +kernel
theorem dX2_discardOldest_25 : decode cX2_discardOldest 25 = .ok (.aload_n 0, 1) := by decide +kernel
theorem dX2_discardOldest_26 : decode cX2_discardOldest 26 = .ok (.getfield 11, 3) := by decide +kernel
theorem dX2_discardOldest_29 : decode cX2_discardOldest 29 = .ok (.iload_n 2, 1) := by decide +kernel
theorem dX2_discardOldest_30 : decode cX2_discardOldest 30 = .ok (.aaload, 1) := by decide +kernel
theorem dX2_discardOldest_31 : decode cX2_discardOldest 31 = .ok (.aastore, 1) := by decide +kernel
theorem dX2_discardOldest_32 : decode cX2_discardOldest 32 = .ok (.iinc 2 1, 3) := by decide +kernel
theorem dX2_discardOldest_35 : decode cX2_discardOldest 35 = .ok (.goto (-26), 3) := by decide +kernel
theorem dX2_discardOldest_38 : decode cX2_discardOldest 38 = .ok (.aload_n 0, 1) := by decide +kernel
theorem dX2_discardOldest_39 : decode cX2_discardOldest 39 = .ok (.getfield 11, 3) := by decide +kernel
theorem dX2_discardOldest_42 : decode cX2_discardOldest 42 = .ok (.aload_n 0, 1) := by decide +kernel
theorem dX2_discardOldest_43 : decode cX2_discardOldest 43 = .ok (.getfield 11, 3) := by decide +kernel
theorem dX2_discardOldest_46 : decode cX2_discardOldest 46 = .ok (.arraylength, 1) := by decide +kernel
theorem dX2_discardOldest_47 : decode cX2_discardOldest 47 = .ok (.iconst 1, 1) := by decide +kernel
theorem dX2_discardOldest_48 : decode cX2_discardOldest 48 = .ok (.isub, 1) := by decide +kernel
theorem dX2_discardOldest_49 : decode cX2_discardOldest 49 = .ok (.aload_n 1, 1) := by decide +kernel
theorem dX2_discardOldest_50 : decode cX2_discardOldest 50 = .ok (.aastore, 1) := by decide +kernel
theorem dX2_discardOldest_51 : decode cX2_discardOldest 51 = .ok (.return_, 1) := by decide +kernel
theorem dX2_rowAt_0 : decode cX2_rowAt 0 = .ok (.iload_n 1, 1) := by decide +kernel
theorem dX2_rowAt_1 : decode cX2_rowAt 1 = .ok (.ifCond .lt 21, 3) := by decide +kernel
theorem dX2_rowAt_4 : decode cX2_rowAt 4 = .ok (.iload_n 1, 1) := by decide +kernel
theorem dX2_rowAt_5 : decode cX2_rowAt 5 = .ok (.aload_n 0, 1) := by decide +kernel
theorem dX2_rowAt_6 : decode cX2_rowAt 6 = .ok (.getfield 11, 3) := by decide +kernel
theorem dX2_rowAt_9 : decode cX2_rowAt 9 = .ok (.arraylength, 1) := by decide +kernel
theorem dX2_rowAt_10 : decode cX2_rowAt 10 = .ok (.if_icmp .ge 12, 3) := by decide +kernel
theorem dX2_rowAt_13 : decode cX2_rowAt 13 = .ok (.aload_n 0, 1) := by decide +kernel
theorem dX2_rowAt_14 : decode cX2_rowAt 14 = .ok (.getfield 11, 3) := by decide +kernel
theorem dX2_rowAt_17 : decode cX2_rowAt 17 = .ok (.iload_n 1, 1) := by decide +kernel
theorem dX2_rowAt_18 : decode cX2_rowAt 18 = .ok (.aaload, 1) := by decide +kernel
theorem dX2_rowAt_19 : decode cX2_rowAt 19 = .ok (.goto 4, 3) := by decide +kernel
theorem dX2_rowAt_22 : decode cX2_rowAt 22 = .ok (.aconst_null, 1) := by decide +kernel
theorem dX2_rowAt_23 : decode cX2_rowAt 23 = .ok (.areturn, 1) := by decide +kernel
theorem dX3_init_0 : decode cX3_init 0 = .ok (.aload_n 0, 1) := by decide +kernel
theorem dX3_init_1 : decode cX3_init 1 = .ok (.invokespecial 3, 3) := by decide +kernel
theorem dX3_init_4 : decode cX3_init 4 = .ok (.aload_n 0, 1) := by decide +kernel
theorem dX3_init_5 : decode cX3_init 5 = .ok (.bipush 10, 2) := by decide +kernel
theorem dX3_init_7 : decode cX3_init 7 = .ok (.newarray .int, 2) := by decide +kernel
theorem dX3_init_9 : decode cX3_init 9 = .ok (.putfield 9, 3) := by decide +kernel
theorem dX3_init_12 : decode cX3_init 12 = .ok (.aload_n 0, 1) := by decide +kernel
theorem dX3_init_13 : decode cX3_init 13 = .ok (.bipush 10, 2) := by decide +kernel
theorem dX3_init_15 : decode cX3_init 15 = .ok (.newarray .int, 2) := by decide +kernel
theorem dX3_init_17 : decode cX3_init 17 = .ok (.putfield 15, 3) := by decide +kernel
theorem dX3_init_20 : decode cX3_init 20 = .ok (.aload_n 0, 1) := by decide +kernel
theorem dX3_init_21 : decode cX3_init 21 = .ok (.bipush 10, 2) := by decide +kernel
theorem dX3_init_23 : decode cX3_init 23 = .ok (.newarray .int, 2) := by decide +kernel
theorem dX3_init_25 : decode cX3_init 25 = .ok (.putfield 18, 3) := by decide +kernel
theorem dX3_init_28 : decode cX3_init 28 = .ok (.aload_n 0, 1) := by decide +kernel
theorem dX3_init_29 : decode cX3_init 29 = .ok (.iconst 0, 1) := by decide +kernel
theorem dX3_init_30 : decode cX3_init 30 = .ok (.putfield 21, 3) := by decide +kernel
theorem dX3_init_33 : decode cX3_init 33 = .ok (.aload_n 0, 1) := by decide +kernel
theorem dX3_init_34 : decode cX3_init 34 = .ok (.iconst 0, 1) := by decide +kernel
theorem dX3_init_35 : decode cX3_init 35 = .ok (.putfield 25, 3) := by decide +kernel
theorem dX3_init_38 : decode cX3_init 38 = .ok (.return_, 1) := by decide +kernel
theorem dX3_copyFrom_0 : decode cX3_copyFrom 0 = .ok (.aload_n 1, 1) := by decide +kernel
theorem dX3_copyFrom_1 : decode cX3_copyFrom 1 = .ok (.getfield 9, 3) := by decide +kernel
theorem dX3_copyFrom_4 : decode cX3_copyFrom 4 = .ok (.iconst 0, 1) := by decide +kernel
theorem dX3_copyFrom_5 : decode cX3_copyFrom 5 = .ok (.aload_n 0, 1) := by decide +kernel
theorem dX3_copyFrom_6 : decode cX3_copyFrom 6 = .ok (.getfield 9, 3) := by decide +kernel
theorem dX3_copyFrom_9 : decode cX3_copyFrom 9 = .ok (.iconst 0, 1) := by decide +kernel
theorem dX3_copyFrom_10 : decode cX3_copyFrom 10 = .ok (.bipush 10, 2) := by decide +kernel
theorem dX3_copyFrom_12 : decode cX3_copyFrom 12 = .ok (.invokestatic 28, 3) := by decide +kernel
theorem dX3_copyFrom_15 : decode cX3_copyFrom 15 = .ok (.aload_n 1, 1) := by decide +kernel
theorem dX3_copyFrom_16 : decode cX3_copyFrom 16 = .ok (.getfield 15, 3) := by decide +kernel
theorem dX3_copyFrom_19 : decode cX3_copyFrom 19 = .ok (.iconst 0, 1) := by decide +kernel
theorem dX3_copyFrom_20 : decode cX3_copyFrom 20 = .ok (.aload_n 0, 1) := by decide +kernel
theorem dX3_copyFrom_21 : decode cX3_copyFrom 21 = .ok (.getfield 15, 3) := by decide +kernel
theorem dX3_copyFrom_24 : decode cX3_copyFrom 24 = .ok (.iconst 0, 1) := by decide +kernel
theorem dX3_copyFrom_25 : decode cX3_copyFrom 25 = .ok (.bipush 10, 2) := by decide +kernel
theorem dX3_copyFrom_27 : decode cX3_copyFrom 27 = .ok (.invokestatic 28, 3) := by decide +kernel
theorem dX3_copyFrom_30 : decode cX3_copyFrom 30 = .ok (.aload_n 1, 1) := by decide +kernel
theorem dX3_copyFrom_31 : decode cX3_copyFrom 31 = .ok (.getfield 18, 3) := by decide +kernel
theorem dX3_copyFrom_34 : decode cX3_copyFrom 34 = .ok (.iconst 0, 1) := by decide +kernel
theorem dX3_copyFrom_35 : decode cX3_copyFrom 35 = .ok (.aload_n 0, 1) := by decide +kernel
theorem dX3_copyFrom_36 : decode cX3_copyFrom 36 = .ok (.getfield 18, 3) := by decide +kernel
theorem dX3_copyFrom_39 : decode cX3_copyFrom 39 = .ok (.iconst 0, 1) := by decide +kernel
theorem dX3_copyFrom_40 : decode cX3_copyFrom 40 = .ok (.bipush 10, 2) := by decide +kernel
theorem dX3_copyFrom_42 : decode cX3_copyFrom 42 = .ok (.invokestatic 28, 3) := by decide +kernel
theorem dX3_copyFrom_45 : decode cX3_copyFrom 45 = .ok (.aload_n 0, 1) := by decide +kernel
theorem dX3_copyFrom_46 : decode cX3_copyFrom 46 = .ok (.aload_n 1, 1) := by decide +kernel
theorem dX3_copyFrom_47 : decode cX3_copyFrom 47 = .ok (.getfield 21, 3) := by decide +kernel
theorem dX3_copyFrom_50 : decode cX3_copyFrom 50 = .ok (.putfield 21, 3) := by decide +kernel
theorem dX3_copyFrom_53 : decode cX3_copyFrom 53 = .ok (.aload_n 0, 1) := by decide +kernel
theorem dX3_copyFrom_54 : decode cX3_copyFrom 54 = .ok (.aload_n 1, 1) := by decide +kernel
theorem dX3_copyFrom_55 : decode cX3_copyFrom 55 = .ok (.getfield 25, 3) := by decide +kernel
theorem dX3_copyFrom_58 : decode cX3_copyFrom 58 = .ok (.putfield 25, 3) := by decide +kernel
theorem dX3_copyFrom_61 : decode cX3_copyFrom 61 = .ok (.return_, 1) := by decide +kernel
theorem dX3_append_0 : decode cX3_append 0 = .ok (.aload_n 0, 1) := by decide +kernel
theorem dX3_append_1 : decode cX3_append 1 = .ok (.getfield 21, 3) := by decide +kernel
theorem dX3_append_4 : decode cX3_append 4 = .ok (.bipush 10, 2) := by decide +kernel
theorem dX3_append_6 : decode cX3_append 6 = .ok (.if_icmp .lt 8, 3) := by decide +kernel
theorem dX3_append_9 : decode cX3_append 9 = .ok (.aload_n 0, 1) := by decide +kernel
theorem dX3_append_10 : decode cX3_append 10 = .ok (.iconst 0, 1) := by decide +kernel
theorem dX3_append_11 : decode cX3_append 11 = .ok (.putfield 21, 3) := by decide +kernel
theorem dX3_append_14 : decode cX3_append 14 = .ok (.aload_n 0, 1) := by decide +kernel
theorem dX3_append_15 : decode cX3_append 15 = .ok (.getfield 9, 3) := by decide +kernel
theorem dX3_append_18 : decode cX3_append 18 = .ok (.aload_n 0, 1) := by decide +kernel
theorem dX3_append_19 : decode cX3_append 19 = .ok (.getfield 21, 3) := by decide +kernel
theorem dX3_append_22 : decode cX3_append 22 = .ok (.iload_n 1, 1) := by decide +kernel
theorem dX3_append_23 : decode cX3_append 23 = .ok (.iastore, 1) := by decide +kernel
theorem dX3_append_24 : decode cX3_append 24 = .ok (.aload_n 0, 1) := by decide +kernel
theorem dX3_append_25 : decode cX3_append 25 = .ok (.getfield 15, 3) := by decide +kernel
theorem dX3_append_28 : decode cX3_append 28 = .ok (.aload_n 0, 1) := by decide +kernel
theorem dX3_append_29 : decode cX3_append 29 = .ok (.getfield 21, 3) := by decide +kernel
theorem dX3_append_32 : decode cX3_append 32 = .ok (.iload_n 2, 1) := by decide +kernel
theorem dX3_append_33 : decode cX3_append 33 = .ok (.iastore, 1) := by decide +kernel
theorem dX3_append_34 : decode cX3_append 34 = .ok (.aload_n 0, 1) := by decide +kernel
theorem dX3_append_35 : decode cX3_append 35 = .ok (.getfield 18, 3) := by decide +kernel
theorem dX3_append_38 : decode cX3_append 38 = .ok (.aload_n 0, 1) := by decide +kernel
theorem dX3_append_39 : decode cX3_append 39 = .ok (.getfield 21, 3) := by decide +kernel
theorem dX3_append_42 : decode cX3_append 42 = .ok (.iload_n 3, 1) := by decide +kernel
theorem dX3_append_43 : decode cX3_append 43 = .ok (.iastore, 1) := by decide +kernel
theorem dX3_append_44 : decode cX3_append 44 = .ok (.aload_n 0, 1) := by decide +kernel
theorem dX3_append_45 : decode cX3_append 45 = .ok (.dup, 1) := by decide +kernel
theorem dX3_append_46 : decode cX3_append 46 = .ok (.getfield 21, 3) := by decide +kernel
theorem dX3_append_49 : decode cX3_append 49 = .ok (.iconst 1, 1) := by decide +kernel
theorem dX3_append_50 : decode cX3_append 50 = .ok (.iadd, 1) := by decide +kernel
theorem dX3_append_51 : decode cX3_append 51 = .ok (.putfield 21, 3) := by decide +kernel
theorem dX3_append_54 : decode cX3_append 54 = .ok (.aload_n 0, 1) := by decide +kernel
theorem dX3_append_55 : decode cX3_append 55 = .ok (.getfield 25, 3) := by decide +kernel
theorem dX3_append_58 : decode cX3_append 58 = .ok (.bipush 10, 2) := by decide +kernel
theorem dX3_append_60 : decode cX3_append 60 = .ok (.if_icmp .ge 13, 3) := by decide +kernel
theorem dX3_append_63 : decode cX3_append 63 = .ok (.aload_n 0, 1) := by decide +kernel
theorem dX3_append_64 : decode cX3_append 64 = .ok (.dup, 1) := by decide +kernel
theorem dX3_append_65 : decode cX3_append 65 = .ok (.getfield 25, 3) := by decide +kernel
theorem dX3_append_68 : decode cX3_append 68 = .ok (.iconst 1, 1) := by decide +kernel
theorem dX3_append_69 : decode cX3_append 69 = .ok (.iadd, 1) := by decide +kernel
theorem dX3_append_70 : decode cX3_append 70 = .ok (.putfield 25, 3) := by decide +kernel
theorem dX3_append_73 : decode cX3_append 73 = .ok (.return_, 1) := by decide +kernel
theorem dX3_has_0 : decode cX3_has 0 = .ok (.iload_n 1, 1) := by decide +kernel
theorem dX3_has_1 : decode cX3_has 1 = .ok (.ifCond .lt 15, 3) := by decide +kernel
theorem dX3_has_4 : decode cX3_has 4 = .ok (.iload_n 1, 1) := by decide +kernel
theorem dX3_has_5 : decode cX3_has 5 = .ok (.aload_n 0, 1) := by decide +kernel
theorem dX3_has_6 : decode cX3_has 6 = .ok (.getfield 25, 3) := by decide +kernel
theorem dX3_has_9 : decode cX3_has 9 = .ok (.if_icmp .ge 7, 3) := by decide +kernel
theorem dX3_has_12 : decode cX3_has 12 = .ok (.iconst 1, 1) := by decide +kernel
theorem dX3_has_13 : decode cX3_has 13 = .ok (.goto 4, 3) := by decide +kernel
theorem dX3_has_16 : decode cX3_has 16 = .ok (.iconst 0, 1) := by decide +kernel
theorem dX3_has_17 : decode cX3_has 17 = .ok (.ireturn, 1) := by decide +kernel
theorem dX3_tickAt_0 : decode cX3_tickAt 0 = .ok (.aload_n 0, 1) := by decide +kernel
theorem dX3_tickAt_1 : decode cX3_tickAt 1 = .ok (.getfield 9, 3) := by decide +kernel
theorem dX3_tickAt_4 : decode cX3_tickAt 4 = .ok (.aload_n 0, 1) := by decide +kernel
theorem dX3_tickAt_5 : decode cX3_tickAt 5 = .ok (.iload_n 1, 1) := by decide +kernel
theorem dX3_tickAt_6 : decode cX3_tickAt 6 = .ok (.invokevirtual 34, 3) := by decide +kernel
theorem dX3_tickAt_9 : decode cX3_tickAt 9 = .ok (.iaload, 1) := by decide +kernel
theorem dX3_tickAt_10 : decode cX3_tickAt 10 = .ok (.ireturn, 1) := by decide +kernel
theorem dX3_kindAt_0 : decode cX3_kindAt 0 = .ok (.aload_n 0, 1) := by decide +kernel
theorem dX3_kindAt_1 : decode cX3_kindAt 1 = .ok (.getfield 15, 3) := by decide +kernel
theorem dX3_kindAt_4 : decode cX3_kindAt 4 = .ok (.aload_n 0, 1) := by decide +kernel
theorem dX3_kindAt_5 : decode cX3_kindAt 5 = .ok (.iload_n 1, 1) := by decide +kernel
theorem dX3_kindAt_6 : decode cX3_kindAt 6 = .ok (.invokevirtual 34, 3) := by decide +kernel
theorem dX3_kindAt_9 : decode cX3_kindAt 9 = .ok (.iaload, 1) := by decide +kernel
theorem dX3_kindAt_10 : decode cX3_kindAt 10 = .ok (.ireturn, 1) := by decide +kernel
theorem dX3_spanAt_0 : decode cX3_spanAt 0 = .ok (.aload_n 0, 1) := by decide +kernel
theorem dX3_spanAt_1 : decode cX3_spanAt 1 = .ok (.getfield 18, 3) := by decide +kernel
theorem dX3_spanAt_4 : decode cX3_spanAt 4 = .ok (.aload_n 0, 1) := by decide +kernel
theorem dX3_spanAt_5 : decode cX3_spanAt 5 = .ok (.iload_n 1, 1) := by decide +kernel
theorem dX3_spanAt_6 : decode cX3_spanAt 6 = .ok (.invokevirtual 34, 3) := by decide +kernel
theorem dX3_spanAt_9 : decode cX3_spanAt 9 = .ok (.iaload, 1) := by decide +kernel
theorem dX3_spanAt_10 : decode cX3_spanAt 10 = .ok (.ireturn, 1) := by decide +kernel
theorem dX3_placeOf_0 : decode cX3_placeOf 0 = .ok (.aload_n 0, 1) := by decide +kernel
theorem dX3_placeOf_1 : decode cX3_placeOf 1 = .ok (.getfield 21, 3) := by decide +kernel
theorem dX3_placeOf_4 : decode cX3_placeOf 4 = .ok (.aload_n 0, 1) := by decide +kernel
theorem dX3_placeOf_5 : decode cX3_placeOf 5 = .ok (.getfield 25, 3) := by decide +kernel
theorem dX3_placeOf_8 : decode cX3_placeOf 8 = .ok (.isub, 1) := by decide +kernel
theorem dX3_placeOf_9 : decode cX3_placeOf 9 = .ok (.iload_n 1, 1) := by decide +kernel
theorem dX3_placeOf_10 : decode cX3_placeOf 10 = .ok (.iadd, 1) := by decide +kernel
theorem dX3_placeOf_11 : decode cX3_placeOf 11 = .ok (.bipush 10, 2) := by decide +kernel
theorem dX3_placeOf_13 : decode cX3_placeOf 13 = .ok (.invokestatic 38, 3) := by decide +kernel
theorem dX3_placeOf_16 : decode cX3_placeOf 16 = .ok (.ireturn, 1) := by decide +kernel
theorem dX4_init_0 : decode cX4_init 0 = .ok (.aload_n 0, 1) := by decide +kernel
theorem dX4_init_1 : decode cX4_init 1 = .ok (.invokespecial 3, 3) := by decide +kernel
theorem dX4_init_4 : decode cX4_init 4 = .ok (.aload_n 0, 1) := by decide +kernel
theorem dX4_init_5 : decode cX4_init 5 = .ok (.bipush 80, 2) := by decide +kernel
theorem dX4_init_7 : decode cX4_init 7 = .ok (.newarray .char, 2) := by decide +kernel
theorem dX4_init_9 : decode cX4_init 9 = .ok (.putfield 9, 3) := by decide +kernel
theorem dX4_init_12 : decode cX4_init 12 = .ok (.aload_n 0, 1) := by decide +kernel
theorem dX4_init_13 : decode cX4_init 13 = .ok (.iconst 0, 1) := by decide +kernel
theorem dX4_init_14 : decode cX4_init 14 = .ok (.putfield 15, 3) := by decide +kernel
theorem dX4_init_17 : decode cX4_init 17 = .ok (.aload_n 0, 1) := by decide +kernel
theorem dX4_init_18 : decode cX4_init 18 = .ok (.iconst 0, 1) := by decide +kernel
theorem dX4_init_19 : decode cX4_init 19 = .ok (.putfield 19, 3) := by decide +kernel
theorem dX4_init_22 : decode cX4_init 22 = .ok (.aload_n 0, 1) := by decide +kernel
theorem dX4_init_23 : decode cX4_init 23 = .ok (.bipush 16, 2) := by decide +kernel
theorem dX4_init_25 : decode cX4_init 25 = .ok (.newarray .int, 2) := by decide +kernel
theorem dX4_init_27 : decode cX4_init 27 = .ok (.putfield 22, 3) := by decide +kernel
theorem dX4_init_30 : decode cX4_init 30 = .ok (.aload_n 0, 1) := by decide +kernel
theorem dX4_init_31 : decode cX4_init 31 = .ok (.bipush 16, 2) := by decide +kernel
theorem dX4_init_33 : decode cX4_init 33 = .ok (.newarray .int, 2) := by decide +kernel
theorem dX4_init_35 : decode cX4_init 35 = .ok (.putfield 26, 3) := by decide +kernel
theorem dX4_init_38 : decode cX4_init 38 = .ok (.aload_n 0, 1) := by decide +kernel
theorem dX4_init_39 : decode cX4_init 39 = .ok (.bipush 16, 2) := by decide +kernel
theorem dX4_init_41 : decode cX4_init 41 = .ok (.newarray .int, 2) := by decide +kernel
theorem dX4_init_43 : decode cX4_init 43 = .ok (.putfield 29, 3) := by decide +kernel
theorem dX4_init_46 : decode cX4_init 46 = .ok (.aload_n 0, 1) := by decide +kernel
theorem dX4_init_47 : decode cX4_init 47 = .ok (.iconst 0, 1) := by decide +kernel
theorem dX4_init_48 : decode cX4_init 48 = .ok (.putfield 32, 3) := by decide +kernel
theorem dX4_init_51 : decode cX4_init 51 = .ok (.aload_n 0, 1) := by decide +kernel
theorem dX4_init_52 : decode cX4_init 52 = .ok (.iconst 0, 1) := by decide +kernel
theorem dX4_init_53 : decode cX4_init 53 = .ok (.putfield 35, 3) := by decide +kernel
theorem dX4_init_56 : decode cX4_init 56 = .ok (.return_, 1) := by decide +kernel
theorem dX5_init_0 : decode cX5_init 0 = .ok (.aload_n 0, 1) := by decide +kernel
theorem dX5_init_1 : decode cX5_init 1 = .ok (.invokespecial 3, 3) := by decide +kernel
theorem dX5_init_4 : decode cX5_init 4 = .ok (.aload_n 0, 1) := by decide +kernel
theorem dX5_init_5 : decode cX5_init 5 = .ok (.bipush 20, 2) := by decide +kernel
theorem dX5_init_7 : decode cX5_init 7 = .ok (.newarray .int, 2) := by decide +kernel
theorem dX5_init_9 : decode cX5_init 9 = .ok (.putfield 9, 3) := by decide +kernel
theorem dX5_init_12 : decode cX5_init 12 = .ok (.aload_n 0, 1) := by decide +kernel
theorem dX5_init_13 : decode cX5_init 13 = .ok (.bipush 20, 2) := by decide +kernel
theorem dX5_init_15 : decode cX5_init 15 = .ok (.newarray .int, 2) := by decide +kernel
theorem dX5_init_17 : decode cX5_init 17 = .ok (.putfield 15, 3) := by decide +kernel
theorem dX5_init_20 : decode cX5_init 20 = .ok (.aload_n 0, 1) := by decide +kernel
theorem dX5_init_21 : decode cX5_init 21 = .ok (.iconst 0, 1) := by decide +kernel
theorem dX5_init_22 : decode cX5_init 22 = .ok (.putfield 18, 3) := by decide +kernel
theorem dX5_init_25 : decode cX5_init 25 = .ok (.return_, 1) := by decide +kernel
theorem dX5_copyFrom_0 : decode cX5_copyFrom 0 = .ok (.aload_n 1, 1) := by decide +kernel
theorem dX5_copyFrom_1 : decode cX5_copyFrom 1 = .ok (.getfield 9, 3) := by decide +kernel
theorem dX5_copyFrom_4 : decode cX5_copyFrom 4 = .ok (.iconst 0, 1) := by decide +kernel
theorem dX5_copyFrom_5 : decode cX5_copyFrom 5 = .ok (.aload_n 0, 1) := by decide +kernel
theorem dX5_copyFrom_6 : decode cX5_copyFrom 6 = .ok (.getfield 9, 3) := by decide +kernel
theorem dX5_copyFrom_9 : decode cX5_copyFrom 9 = .ok (.iconst 0, 1) := by decide +kernel
theorem dX5_copyFrom_10 : decode cX5_copyFrom 10 = .ok (.bipush 20, 2) := by decide +kernel
theorem dX5_copyFrom_12 : decode cX5_copyFrom 12 = .ok (.invokestatic 22, 3) := by decide +kernel
theorem dX5_copyFrom_15 : decode cX5_copyFrom 15 = .ok (.aload_n 1, 1) := by decide +kernel
theorem dX5_copyFrom_16 : decode cX5_copyFrom 16 = .ok (.getfield 15, 3) := by decide +kernel
theorem dX5_copyFrom_19 : decode cX5_copyFrom 19 = .ok (.iconst 0, 1) := by decide +kernel
theorem dX5_copyFrom_20 : decode cX5_copyFrom 20 = .ok (.aload_n 0, 1) := by decide +kernel
theorem dX5_copyFrom_21 : decode cX5_copyFrom 21 = .ok (.getfield 15, 3) := by decide +kernel
theorem dX5_copyFrom_24 : decode cX5_copyFrom 24 = .ok (.iconst 0, 1) := by decide +kernel
theorem dX5_copyFrom_25 : decode cX5_copyFrom 25 = .ok (.bipush 20, 2) := by decide +kernel
theorem dX5_copyFrom_27 : decode cX5_copyFrom 27 = .ok (.invokestatic 22, 3) := by decide +kernel
theorem dX5_copyFrom_30 : decode cX5_copyFrom 30 = .ok (.aload_n 0, 1) := by decide +kernel
theorem dX5_copyFrom_31 : decode cX5_copyFrom 31 = .ok (.aload_n 1, 1) := by decide +kernel
theorem dX5_copyFrom_32 : decode cX5_copyFrom 32 = .ok (.getfield 18, 3) := by decide +kernel
theorem dX5_copyFrom_35 : decode cX5_copyFrom 35 = .ok (.putfield 18, 3) := by decide +kernel
theorem dX5_copyFrom_38 : decode cX5_copyFrom 38 = .ok (.return_, 1) := by decide +kernel
theorem dX5_append_0 : decode cX5_append 0 = .ok (.aload_n 0, 1) := by decide +kernel
theorem dX5_append_1 : decode cX5_append 1 = .ok (.getfield 18, 3) := by decide +kernel
theorem dX5_append_4 : decode cX5_append 4 = .ok (.bipush 20, 2) := by decide +kernel
theorem dX5_append_6 : decode cX5_append 6 = .ok (.if_icmp .lt 5, 3) := by decide +kernel
theorem dX5_append_9 : decode cX5_append 9 = .ok (.iconst 0, 1) := by decide +kernel
theorem dX5_append_10 : decode cX5_append 10 = .ok (.ireturn, 1) := by decide +kernel
theorem dX5_append_11 : decode cX5_append 11 = .ok (.aload_n 0, 1) := by decide +kernel
theorem dX5_append_12 : decode cX5_append 12 = .ok (.getfield 9, 3) := by decide +kernel
theorem dX5_append_15 : decode cX5_append 15 = .ok (.aload_n 0, 1) := by decide +kernel
theorem dX5_append_16 : decode cX5_append 16 = .ok (.getfield 18, 3) := by decide +kernel
theorem dX5_append_19 : decode cX5_append 19 = .ok (.iload_n 1, 1) := by decide +kernel
theorem dX5_append_20 : decode cX5_append 20 = .ok (.iastore, 1) := by decide +kernel
theorem dX5_append_21 : decode cX5_append 21 = .ok (.aload_n 0, 1) := by decide +kernel
theorem dX5_append_22 : decode cX5_append 22 = .ok (.getfield 15, 3) := by decide +kernel
theorem dX5_append_25 : decode cX5_append 25 = .ok (.aload_n 0, 1) := by decide +kernel
theorem dX5_append_26 : decode cX5_append 26 = .ok (.getfield 18, 3) := by decide +kernel
theorem dX5_append_29 : decode cX5_append 29 = .ok (.iload_n 2, 1) := by decide +kernel
theorem dX5_append_30 : decode cX5_append 30 = .ok (.iastore, 1) := by decide +kernel
theorem dX5_append_31 : decode cX5_append 31 = .ok (.aload_n 0, 1) := by decide +kernel
theorem dX5_append_32 : decode cX5_append 32 = .ok (.dup, 1) := by decide +kernel
theorem dX5_append_33 : decode cX5_append 33 = .ok (.getfield 18, 3) := by decide +kernel
theorem dX5_append_36 : decode cX5_append 36 = .ok (.iconst 1, 1) := by decide +kernel
theorem dX5_append_37 : decode cX5_append 37 = .ok (.iadd, 1) := by decide +kernel
theorem dX5_append_38 : decode cX5_append 38 = .ok (.putfield 18, 3) := by decide +kernel
theorem dX5_append_41 : decode cX5_append 41 = .ok (.iconst 1, 1) := by decide +kernel
theorem dX5_append_42 : decode cX5_append 42 = .ok (.ireturn, 1) := by decide +kernel
theorem dX5_sizeOf_0 : decode cX5_sizeOf 0 = .ok (.iconst 0, 1) := by decide +kernel
theorem dX5_sizeOf_1 : decode cX5_sizeOf 1 = .ok (.istore_n 2, 1) := by decide +kernel
theorem dX5_sizeOf_2 : decode cX5_sizeOf 2 = .ok (.iconst 0, 1) := by decide +kernel
theorem dX5_sizeOf_3 : decode cX5_sizeOf 3 = .ok (.istore_n 3, 1) := by decide +kernel
theorem dX5_sizeOf_4 : decode cX5_sizeOf 4 = .ok (.iload_n 3, 1) := by decide +kernel
theorem dX5_sizeOf_5 : decode cX5_sizeOf 5 = .ok (.aload_n 0, 1) := by decide +kernel
theorem dX5_sizeOf_6 : decode cX5_sizeOf 6 = .ok (.getfield 18, 3) := by decide +kernel
theorem dX5_sizeOf_9 : decode cX5_sizeOf 9 = .ok (.if_icmp .ge 22, 3) := by decide +kernel
theorem dX5_sizeOf_12 : decode cX5_sizeOf 12 = .ok (.aload_n 0, 1) := by decide +kernel
theorem dX5_sizeOf_13 : decode cX5_sizeOf 13 = .ok (.getfield 9, 3) := by decide +kernel
theorem dX5_sizeOf_16 : decode cX5_sizeOf 16 = .ok (.iload_n 3, 1) := by decide +kernel
theorem dX5_sizeOf_17 : decode cX5_sizeOf 17 = .ok (.iaload, 1) := by decide +kernel
theorem dX5_sizeOf_18 : decode cX5_sizeOf 18 = .ok (.iload_n 1, 1) := by decide +kernel
theorem dX5_sizeOf_19 : decode cX5_sizeOf 19 = .ok (.if_icmp .ne 6, 3) := by decide +kernel
theorem dX5_sizeOf_22 : decode cX5_sizeOf 22 = .ok (.iinc 2 1, 3) := by decide +kernel
theorem dX5_sizeOf_25 : decode cX5_sizeOf 25 = .ok (.iinc 3 1, 3) := by decide +kernel
theorem dX5_sizeOf_28 : decode cX5_sizeOf 28 = .ok (.goto (-24), 3) := by decide +kernel
theorem dX5_sizeOf_31 : decode cX5_sizeOf 31 = .ok (.iload_n 2, 1) := by decide +kernel
theorem dX5_sizeOf_32 : decode cX5_sizeOf 32 = .ok (.ireturn, 1) := by decide +kernel
theorem dX5_sumOf_0 : decode cX5_sumOf 0 = .ok (.iconst 0, 1) := by decide +kernel
theorem dX5_sumOf_1 : decode cX5_sumOf 1 = .ok (.istore_n 3, 1) := by decide +kernel
theorem dX5_sumOf_2 : decode cX5_sumOf 2 = .ok (.iconst 0, 1) := by decide +kernel
theorem dX5_sumOf_3 : decode cX5_sumOf 3 = .ok (.istore 4, 2) := by decide +kernel
theorem dX5_sumOf_5 : decode cX5_sumOf 5 = .ok (.iload 4, 2) := by decide +kernel
theorem dX5_sumOf_7 : decode cX5_sumOf 7 = .ok (.aload_n 0, 1) := by decide +kernel
theorem dX5_sumOf_8 : decode cX5_sumOf 8 = .ok (.getfield 18, 3) := by decide +kernel
theorem dX5_sumOf_11 : decode cX5_sumOf 11 = .ok (.if_icmp .ge 34, 3) := by decide +kernel
theorem dX5_sumOf_14 : decode cX5_sumOf 14 = .ok (.aload_n 0, 1) := by decide +kernel
theorem dX5_sumOf_15 : decode cX5_sumOf 15 = .ok (.getfield 9, 3) := by decide +kernel
theorem dX5_sumOf_18 : decode cX5_sumOf 18 = .ok (.iload 4, 2) := by decide +kernel
theorem dX5_sumOf_20 : decode cX5_sumOf 20 = .ok (.iaload, 1) := by decide +kernel
theorem dX5_sumOf_21 : decode cX5_sumOf 21 = .ok (.iload_n 1, 1) := by decide +kernel
theorem dX5_sumOf_22 : decode cX5_sumOf 22 = .ok (.if_icmp .ne 17, 3) := by decide +kernel
theorem dX5_sumOf_25 : decode cX5_sumOf 25 = .ok (.iload_n 3, 1) := by decide +kernel
theorem dX5_sumOf_26 : decode cX5_sumOf 26 = .ok (.aload_n 0, 1) := by decide +kernel
theorem dX5_sumOf_27 : decode cX5_sumOf 27 = .ok (.getfield 15, 3) := by decide +kernel
theorem dX5_sumOf_30 : decode cX5_sumOf 30 = .ok (.iload 4, 2) := by decide +kernel
theorem dX5_sumOf_32 : decode cX5_sumOf 32 = .ok (.iaload, 1) := by decide +kernel
theorem dX5_sumOf_33 : decode cX5_sumOf 33 = .ok (.iload_n 2, 1) := by decide +kernel
theorem dX5_sumOf_34 : decode cX5_sumOf 34 = .ok (.invokestatic 28, 3) := by decide +kernel
theorem dX5_sumOf_37 : decode cX5_sumOf 37 = .ok (.iadd, 1) := by decide +kernel
theorem dX5_sumOf_38 : decode cX5_sumOf 38 = .ok (.istore_n 3, 1) := by decide +kernel
theorem dX5_sumOf_39 : decode cX5_sumOf 39 = .ok (.iinc 4 1, 3) := by decide +kernel
theorem dX5_sumOf_42 : decode cX5_sumOf 42 = .ok (.goto (-37), 3) := by decide +kernel
theorem dX5_sumOf_45 : decode cX5_sumOf 45 = .ok (.iload_n 3, 1) := by decide +kernel
theorem dX5_sumOf_46 : decode cX5_sumOf 46 = .ok (.ireturn, 1) := by decide +kernel
theorem dX5_triesAt_0 : decode cX5_triesAt 0 = .ok (.iconst 0, 1) := by decide +kernel
theorem dX5_triesAt_1 : decode cX5_triesAt 1 = .ok (.istore_n 3, 1) := by decide +kernel
theorem dX5_triesAt_2 : decode cX5_triesAt 2 = .ok (.iconst 0, 1) := by decide +kernel
theorem dX5_triesAt_3 : decode cX5_triesAt 3 = .ok (.istore 4, 2) := by decide +kernel
theorem dX5_triesAt_5 : decode cX5_triesAt 5 = .ok (.iload 4, 2) := by decide +kernel
theorem dX5_triesAt_7 : decode cX5_triesAt 7 = .ok (.aload_n 0, 1) := by decide +kernel
theorem dX5_triesAt_8 : decode cX5_triesAt 8 = .ok (.getfield 18, 3) := by decide +kernel
theorem dX5_triesAt_11 : decode cX5_triesAt 11 = .ok (.if_icmp .ge 36, 3) := by decide +kernel
theorem dX5_triesAt_14 : decode cX5_triesAt 14 = .ok (.aload_n 0, 1) := by decide +kernel
theorem dX5_triesAt_15 : decode cX5_triesAt 15 = .ok (.getfield 9, 3) := by decide +kernel
theorem dX5_triesAt_18 : decode cX5_triesAt 18 = .ok (.iload 4, 2) := by decide +kernel
theorem dX5_triesAt_20 : decode cX5_triesAt 20 = .ok (.iaload, 1) := by decide +kernel
theorem dX5_triesAt_21 : decode cX5_triesAt 21 = .ok (.iload_n 1, 1) := by decide +kernel
theorem dX5_triesAt_22 : decode cX5_triesAt 22 = .ok (.if_icmp .ne 19, 3) := by decide +kernel
theorem dX5_triesAt_25 : decode cX5_triesAt 25 = .ok (.iload_n 3, 1) := by decide +kernel
theorem dX5_triesAt_26 : decode cX5_triesAt 26 = .ok (.iload_n 2, 1) := by decide +kernel
theorem dX5_triesAt_27 : decode cX5_triesAt 27 = .ok (.if_icmp .ne 11, 3) := by decide +kernel
theorem dX5_triesAt_30 : decode cX5_triesAt 30 = .ok (.aload_n 0, 1) := by decide +kernel
theorem dX5_triesAt_31 : decode cX5_triesAt 31 = .ok (.getfield 15, 3) := by decide +kernel
theorem dX5_triesAt_34 : decode cX5_triesAt 34 = .ok (.iload 4, 2) := by decide +kernel
theorem dX5_triesAt_36 : decode cX5_triesAt 36 = .ok (.iaload, 1) := by decide +kernel
theorem dX5_triesAt_37 : decode cX5_triesAt 37 = .ok (.ireturn, 1) := by decide +kernel
theorem dX5_triesAt_38 : decode cX5_triesAt 38 = .ok (.iinc 3 1, 3) := by decide +kernel
theorem dX5_triesAt_41 : decode cX5_triesAt 41 = .ok (.iinc 4 1, 3) := by decide +kernel
theorem dX5_triesAt_44 : decode cX5_triesAt 44 = .ok (.goto (-39), 3) := by decide +kernel
theorem dX5_triesAt_47 : decode cX5_triesAt 47 = .ok (.iconst (-1), 1) := by decide +kernel
theorem dX5_triesAt_48 : decode cX5_triesAt 48 = .ok (.ireturn, 1) := by decide +kernel
theorem dX5_hasWeak_0 : decode cX5_hasWeak 0 = .ok (.iconst 0, 1) := by decide +kernel
theorem dX5_hasWeak_1 : decode cX5_hasWeak 1 = .ok (.istore_n 3, 1) := by decide +kernel
theorem dX5_hasWeak_2 : decode cX5_hasWeak 2 = .ok (.iload_n 3, 1) := by decide +kernel
theorem dX5_hasWeak_3 : decode cX5_hasWeak 3 = .ok (.aload_n 0, 1) := by decide +kernel
theorem dX5_hasWeak_4 : decode cX5_hasWeak 4 = .ok (.getfield 18, 3) := by decide +kernel
theorem dX5_hasWeak_7 : decode cX5_hasWeak 7 = .ok (.if_icmp .ge 31, 3) := by decide +kernel
theorem dX5_hasWeak_10 : decode cX5_hasWeak 10 = .ok (.aload_n 0, 1) := by decide +kernel
theorem dX5_hasWeak_11 : decode cX5_hasWeak 11 = .ok (.getfield 9, 3) := by decide +kernel
theorem dX5_hasWeak_14 : decode cX5_hasWeak 14 = .ok (.iload_n 3, 1) := by decide +kernel
theorem dX5_hasWeak_15 : decode cX5_hasWeak 15 = .ok (.iaload, 1) := by decide +kernel
theorem dX5_hasWeak_16 : decode cX5_hasWeak 16 = .ok (.iload_n 1, 1) := by decide +kernel
theorem dX5_hasWeak_17 : decode cX5_hasWeak 17 = .ok (.if_icmp .ne 15, 3) := by decide +kernel
theorem dX5_hasWeak_20 : decode cX5_hasWeak 20 = .ok (.aload_n 0, 1) := by decide +kernel
theorem dX5_hasWeak_21 : decode cX5_hasWeak 21 = .ok (.getfield 15, 3) := by decide +kernel
theorem dX5_hasWeak_24 : decode cX5_hasWeak 24 = .ok (.iload_n 3, 1) := by decide +kernel
theorem dX5_hasWeak_25 : decode cX5_hasWeak 25 = .ok (.iaload, 1) := by decide +kernel
theorem dX5_hasWeak_26 : decode cX5_hasWeak 26 = .ok (.iload_n 2, 1) := by decide +kernel
theorem dX5_hasWeak_27 : decode cX5_hasWeak 27 = .ok (.if_icmp .lt 5, 3) := by decide +kernel
theorem dX5_hasWeak_30 : decode cX5_hasWeak 30 = .ok (.iconst 1, 1) := by decide +kernel
theorem dX5_hasWeak_31 : decode cX5_hasWeak 31 = .ok (.ireturn, 1) := by decide +kernel
theorem dX5_hasWeak_32 : decode cX5_hasWeak 32 = .ok (.iinc 3 1, 3) := by decide +kernel
theorem dX5_hasWeak_35 : decode cX5_hasWeak 35 = .ok (.goto (-33), 3) := by decide +kernel
theorem dX5_hasWeak_38 : decode cX5_hasWeak 38 = .ok (.iconst 0, 1) := by decide +kernel
theorem dX5_hasWeak_39 : decode cX5_hasWeak 39 = .ok (.ireturn, 1) := by decide +kernel
