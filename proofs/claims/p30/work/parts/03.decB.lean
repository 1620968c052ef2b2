theorem dX6_init_0 : decode cX6_init 0 = .ok (.aload_n 0, 1) := by decide +kernel
theorem dX6_init_1 : decode cX6_init 1 = .ok (.invokespecial 1, 3) := by decide +kernel
theorem dX6_init_4 : decode cX6_init 4 = .ok (.aload_n 0, 1) := by decide +kernel
theorem dX6_init_5 : decode cX6_init 5 = .ok (.new 7, 3) := by decide +kernel
theorem dX6_init_8 : decode cX6_init 8 = .ok (.dup, 1) := by decide +kernel
theorem dX6_init_9 : decode cX6_init 9 = .ok (.invokespecial 9, 3) := by decide +kernel
theorem dX6_init_12 : decode cX6_init 12 = .ok (.putfield 10, 3) := by decide +kernel
theorem dX6_init_15 : decode cX6_init 15 = .ok (.aload_n 0, 1) := by decide +kernel
theorem dX6_init_16 : decode cX6_init 16 = .ok (.new 7, 3) := by decide +kernel
theorem dX6_init_19 : decode cX6_init 19 = .ok (.dup, 1) := by decide +kernel
theorem dX6_init_20 : decode cX6_init 20 = .ok (.invokespecial 9, 3) := by decide +kernel
theorem dX6_init_23 : decode cX6_init 23 = .ok (.putfield 16, 3) := by decide +kernel
theorem dX6_init_26 : decode cX6_init 26 = .ok (.aload_n 0, 1) := by decide +kernel
theorem dX6_init_27 : decode cX6_init 27 = .ok (.new 19, 3) := by decide +kernel
theorem dX6_init_30 : decode cX6_init 30 = .ok (.dup, 1) := by decide +kernel
theorem dX6_init_31 : decode cX6_init 31 = .ok (.invokespecial 21, 3) := by decide +kernel
theorem dX6_init_34 : decode cX6_init 34 = .ok (.putfield 22, 3) := by decide +kernel
theorem dX6_init_37 : decode cX6_init 37 = .ok (.aload_n 0, 1) := by decide +kernel
theorem dX6_init_38 : decode cX6_init 38 = .ok (.new 26, 3) := by decide +kernel
theorem dX6_init_41 : decode cX6_init 41 = .ok (.dup, 1) := by decide +kernel
theorem dX6_init_42 : decode cX6_init 42 = .ok (.invokespecial 28, 3) := by decide +kernel
theorem dX6_init_45 : decode cX6_init 45 = .ok (.putfield 29, 3) := by decide +kernel
theorem dX6_init_48 : decode cX6_init 48 = .ok (.aload_n 0, 1) := by decide +kernel
theorem dX6_init_49 : decode cX6_init 49 = .ok (.new 33, 3) := by decide +kernel
theorem dX6_init_52 : decode cX6_init 52 = .ok (.dup, 1) := by decide +kernel
theorem dX6_init_53 : decode cX6_init 53 = .ok (.invokespecial 35, 3) := by decide +kernel
theorem dX6_init_56 : decode cX6_init 56 = .ok (.putfield 36, 3) := by decide +kernel
theorem dX6_init_59 : decode cX6_init 59 = .ok (.return_, 1) := by decide +kernel
theorem dX6_set_0 : decode cX6_set 0 = .ok (.aload_n 0, 1) := by decide +kernel
theorem dX6_set_1 : decode cX6_set 1 = .ok (.getfield 22, 3) := by decide +kernel
theorem dX6_set_4 : decode cX6_set 4 = .ok (.aload_n 0, 1) := by decide +kernel
theorem dX6_set_5 : decode cX6_set 5 = .ok (.getfield 10, 3) := by decide +kernel
theorem dX6_set_8 : decode cX6_set 8 = .ok (.invokevirtual 40, 3) := by decide +kernel
theorem dX6_set_11 : decode cX6_set 11 = .ok (.aload_n 0, 1) := by decide +kernel
theorem dX6_set_12 : decode cX6_set 12 = .ok (.getfield 22, 3) := by decide +kernel
theorem dX6_set_15 : decode cX6_set 15 = .ok (.aload_n 0, 1) := by decide +kernel
theorem dX6_set_16 : decode cX6_set 16 = .ok (.getfield 10, 3) := by decide +kernel
theorem dX6_set_19 : decode cX6_set 19 = .ok (.iload_n 1, 1) := by decide +kernel
theorem dX6_set_20 : decode cX6_set 20 = .ok (.iload_n 2, 1) := by decide +kernel
theorem dX6_set_21 : decode cX6_set 21 = .ok (.invokevirtual 44, 3) := by decide +kernel
theorem dX6_set_24 : decode cX6_set 24 = .ok (.invokevirtual 48, 3) := by decide +kernel
theorem dX6_set_27 : decode cX6_set 27 = .ok (.ireturn, 1) := by decide +kernel
theorem dX6_setWay_0 : decode cX6_setWay 0 = .ok (.aload_n 0, 1) := by decide +kernel
theorem dX6_setWay_1 : decode cX6_setWay 1 = .ok (.getfield 22, 3) := by decide +kernel
theorem dX6_setWay_4 : decode cX6_setWay 4 = .ok (.aload_n 0, 1) := by decide +kernel
theorem dX6_setWay_5 : decode cX6_setWay 5 = .ok (.getfield 10, 3) := by decide +kernel
theorem dX6_setWay_8 : decode cX6_setWay 8 = .ok (.invokevirtual 40, 3) := by decide +kernel
theorem dX6_setWay_11 : decode cX6_setWay 11 = .ok (.aload_n 0, 1) := by decide +kernel
theorem dX6_setWay_12 : decode cX6_setWay 12 = .ok (.getfield 22, 3) := by decide +kernel
theorem dX6_setWay_15 : decode cX6_setWay 15 = .ok (.aload_n 0, 1) := by decide +kernel
theorem dX6_setWay_16 : decode cX6_setWay 16 = .ok (.getfield 10, 3) := by decide +kernel
theorem dX6_setWay_19 : decode cX6_setWay 19 = .ok (.iload_n 1, 1) := by decide +kernel
theorem dX6_setWay_20 : decode cX6_setWay 20 = .ok (.invokevirtual 52, 3) := by decide +kernel
theorem dX6_setWay_23 : decode cX6_setWay 23 = .ok (.invokevirtual 48, 3) := by decide +kernel
theorem dX6_setWay_26 : decode cX6_setWay 26 = .ok (.ireturn, 1) := by decide +kernel
theorem dX6_addSpares_0 : decode cX6_addSpares 0 = .ok (.aload_n 0, 1) := by decide +kernel
theorem dX6_addSpares_1 : decode cX6_addSpares 1 = .ok (.getfield 22, 3) := by decide +kernel
theorem dX6_addSpares_4 : decode cX6_addSpares 4 = .ok (.aload_n 0, 1) := by decide +kernel
theorem dX6_addSpares_5 : decode cX6_addSpares 5 = .ok (.getfield 10, 3) := by decide +kernel
theorem dX6_addSpares_8 : decode cX6_addSpares 8 = .ok (.invokevirtual 40, 3) := by decide +kernel
theorem dX6_addSpares_11 : decode cX6_addSpares 11 = .ok (.aload_n 0, 1) := by decide +kernel
theorem dX6_addSpares_12 : decode cX6_addSpares 12 = .ok (.getfield 22, 3) := by decide +kernel
theorem dX6_addSpares_15 : decode cX6_addSpares 15 = .ok (.aload_n 0, 1) := by decide +kernel
theorem dX6_addSpares_16 : decode cX6_addSpares 16 = .ok (.getfield 10, 3) := by decide +kernel
theorem dX6_addSpares_19 : decode cX6_addSpares 19 = .ok (.iload_n 1, 1) := by decide +kernel
theorem dX6_addSpares_20 : decode cX6_addSpares 20 = .ok (.invokevirtual 55, 3) := by decide +kernel
theorem dX6_addSpares_23 : decode cX6_addSpares 23 = .ok (.invokevirtual 48, 3) := by decide +kernel
theorem dX6_addSpares_26 : decode cX6_addSpares 26 = .ok (.ireturn, 1) := by decide +kernel
theorem dX6_spot_0 : decode cX6_spot 0 = .ok (.aload_n 0, 1) := by decide +kernel
theorem dX6_spot_1 : decode cX6_spot 1 = .ok (.getfield 22, 3) := by decide +kernel
theorem dX6_spot_4 : decode cX6_spot 4 = .ok (.aload_n 0, 1) := by decide +kernel
theorem dX6_spot_5 : decode cX6_spot 5 = .ok (.getfield 10, 3) := by decide +kernel
theorem dX6_spot_8 : decode cX6_spot 8 = .ok (.invokevirtual 40, 3) := by decide +kernel
theorem dX6_spot_11 : decode cX6_spot 11 = .ok (.aload_n 0, 1) := by decide +kernel
theorem dX6_spot_12 : decode cX6_spot 12 = .ok (.getfield 22, 3) := by decide +kernel
theorem dX6_spot_15 : decode cX6_spot 15 = .ok (.aload_n 0, 1) := by decide +kernel
theorem dX6_spot_16 : decode cX6_spot 16 = .ok (.getfield 10, 3) := by decide +kernel
theorem dX6_spot_19 : decode cX6_spot 19 = .ok (.iload_n 1, 1) := by decide +kernel
theorem dX6_spot_20 : decode cX6_spot 20 = .ok (.iload_n 2, 1) := by decide +kernel
theorem dX6_spot_21 : decode cX6_spot 21 = .ok (.invokevirtual 58, 3) := by decide +kernel
theorem dX6_spot_24 : decode cX6_spot 24 = .ok (.invokevirtual 48, 3) := by decide +kernel
theorem dX6_spot_27 : decode cX6_spot 27 = .ok (.ireturn, 1) := by decide +kernel
theorem dX6_ask_0 : decode cX6_ask 0 = .ok (.aload_n 0, 1) := by decide +kernel
theorem dX6_ask_1 : decode cX6_ask 1 = .ok (.getfield 22, 3) := by decide +kernel
theorem dX6_ask_4 : decode cX6_ask 4 = .ok (.aload_n 0, 1) := by decide +kernel
theorem dX6_ask_5 : decode cX6_ask 5 = .ok (.getfield 10, 3) := by decide +kernel
theorem dX6_ask_8 : decode cX6_ask 8 = .ok (.invokevirtual 40, 3) := by decide +kernel
theorem dX6_ask_11 : decode cX6_ask 11 = .ok (.aload_n 0, 1) := by decide +kernel
theorem dX6_ask_12 : decode cX6_ask 12 = .ok (.getfield 22, 3) := by decide +kernel
theorem dX6_ask_15 : decode cX6_ask 15 = .ok (.aload_n 0, 1) := by decide +kernel
theorem dX6_ask_16 : decode cX6_ask 16 = .ok (.getfield 10, 3) := by decide +kernel
theorem dX6_ask_19 : decode cX6_ask 19 = .ok (.iload_n 1, 1) := by decide +kernel
theorem dX6_ask_20 : decode cX6_ask 20 = .ok (.invokevirtual 61, 3) := by decide +kernel
theorem dX6_ask_23 : decode cX6_ask 23 = .ok (.invokevirtual 48, 3) := by decide +kernel
theorem dX6_ask_26 : decode cX6_ask 26 = .ok (.ireturn, 1) := by decide +kernel
theorem dX6_unask_0 : decode cX6_unask 0 = .ok (.aload_n 0, 1) := by decide +kernel
theorem dX6_unask_1 : decode cX6_unask 1 = .ok (.getfield 22, 3) := by decide +kernel
theorem dX6_unask_4 : decode cX6_unask 4 = .ok (.aload_n 0, 1) := by decide +kernel
theorem dX6_unask_5 : decode cX6_unask 5 = .ok (.getfield 10, 3) := by decide +kernel
theorem dX6_unask_8 : decode cX6_unask 8 = .ok (.invokevirtual 40, 3) := by decide +kernel
theorem dX6_unask_11 : decode cX6_unask 11 = .ok (.aload_n 0, 1) := by decide +kernel
theorem dX6_unask_12 : decode cX6_unask 12 = .ok (.getfield 22, 3) := by decide +kernel
theorem dX6_unask_15 : decode cX6_unask 15 = .ok (.aload_n 0, 1) := by decide +kernel
theorem dX6_unask_16 : decode cX6_unask 16 = .ok (.getfield 10, 3) := by decide +kernel
theorem dX6_unask_19 : decode cX6_unask 19 = .ok (.iload_n 1, 1) := by decide +kernel
theorem dX6_unask_20 : decode cX6_unask 20 = .ok (.invokevirtual 64, 3) := by decide +kernel
theorem dX6_unask_23 : decode cX6_unask 23 = .ok (.invokevirtual 48, 3) := by decide +kernel
theorem dX6_unask_26 : decode cX6_unask 26 = .ok (.ireturn, 1) := by decide +kernel
theorem dX6_read_0 : decode cX6_read 0 = .ok (.aload_n 0, 1) := by decide +kernel
theorem dX6_read_1 : decode cX6_read 1 = .ok (.getfield 22, 3) := by decide +kernel
theorem dX6_read_4 : decode cX6_read 4 = .ok (.aload_n 0, 1) := by decide +kernel
theorem dX6_read_5 : decode cX6_read 5 = .ok (.getfield 10, 3) := by decide +kernel
theorem dX6_read_8 : decode cX6_read 8 = .ok (.invokevirtual 40, 3) := by decide +kernel
theorem dX6_read_11 : decode cX6_read 11 = .ok (.aload_n 0, 1) := by decide +kernel
theorem dX6_read_12 : decode cX6_read 12 = .ok (.getfield 22, 3) := by decide +kernel
theorem dX6_read_15 : decode cX6_read 15 = .ok (.aload_n 0, 1) := by decide +kernel
theorem dX6_read_16 : decode cX6_read 16 = .ok (.getfield 10, 3) := by decide +kernel
theorem dX6_read_19 : decode cX6_read 19 = .ok (.iload_n 1, 1) := by decide +kernel
theorem dX6_read_20 : decode cX6_read 20 = .ok (.iload_n 2, 1) := by decide +kernel
theorem dX6_read_21 : decode cX6_read 21 = .ok (.invokevirtual 67, 3) := by decide +kernel
theorem dX6_read_24 : decode cX6_read 24 = .ok (.invokevirtual 48, 3) := by decide +kernel
theorem dX6_read_27 : decode cX6_read 27 = .ok (.ireturn, 1) := by decide +kernel
theorem dX6_quiet_0 : decode cX6_quiet 0 = .ok (.aload_n 0, 1) := by decide +kernel
theorem dX6_quiet_1 : decode cX6_quiet 1 = .ok (.getfield 22, 3) := by decide +kernel
theorem dX6_quiet_4 : decode cX6_quiet 4 = .ok (.aload_n 0, 1) := by decide +kernel
theorem dX6_quiet_5 : decode cX6_quiet 5 = .ok (.getfield 10, 3) := by decide +kernel
theorem dX6_quiet_8 : decode cX6_quiet 8 = .ok (.invokevirtual 40, 3) := by decide +kernel
theorem dX6_quiet_11 : decode cX6_quiet 11 = .ok (.aload_n 0, 1) := by decide +kernel
theorem dX6_quiet_12 : decode cX6_quiet 12 = .ok (.getfield 22, 3) := by decide +kernel
theorem dX6_quiet_15 : decode cX6_quiet 15 = .ok (.aload_n 0, 1) := by decide +kernel
theorem dX6_quiet_16 : decode cX6_quiet 16 = .ok (.getfield 10, 3) := by decide +kernel
theorem dX6_quiet_19 : decode cX6_quiet 19 = .ok (.iload_n 1, 1) := by decide +kernel
theorem dX6_quiet_20 : decode cX6_quiet 20 = .ok (.invokevirtual 70, 3) := by decide +kernel
theorem dX6_quiet_23 : decode cX6_quiet 23 = .ok (.invokevirtual 48, 3) := by decide +kernel
theorem dX6_quiet_26 : decode cX6_quiet 26 = .ok (.ireturn, 1) := by decide +kernel
theorem dX6_giveUp_0 : decode cX6_giveUp 0 = .ok (.aload_n 0, 1) := by decide +kernel
theorem dX6_giveUp_1 : decode cX6_giveUp 1 = .ok (.getfield 22, 3) := by decide +kernel
theorem dX6_giveUp_4 : decode cX6_giveUp 4 = .ok (.aload_n 0, 1) := by decide +kernel
theorem dX6_giveUp_5 : decode cX6_giveUp 5 = .ok (.getfield 10, 3) := by decide +kernel
theorem dX6_giveUp_8 : decode cX6_giveUp 8 = .ok (.invokevirtual 40, 3) := by decide +kernel
theorem dX6_giveUp_11 : decode cX6_giveUp 11 = .ok (.aload_n 0, 1) := by decide +kernel
theorem dX6_giveUp_12 : decode cX6_giveUp 12 = .ok (.getfield 22, 3) := by decide +kernel
theorem dX6_giveUp_15 : decode cX6_giveUp 15 = .ok (.aload_n 0, 1) := by decide +kernel
theorem dX6_giveUp_16 : decode cX6_giveUp 16 = .ok (.getfield 10, 3) := by decide +kernel
theorem dX6_giveUp_19 : decode cX6_giveUp 19 = .ok (.invokevirtual 73, 3) := by decide +kernel
theorem dX6_giveUp_22 : decode cX6_giveUp 22 = .ok (.invokevirtual 48, 3) := by decide +kernel
theorem dX6_giveUp_25 : decode cX6_giveUp 25 = .ok (.ireturn, 1) := by decide +kernel
theorem dX6_count_0 : decode cX6_count 0 = .ok (.iload_n 1, 1) := by decide +kernel
theorem dX6_count_1 : decode cX6_count 1 = .ok (.ifCond .lt 9, 3) := by decide +kernel
theorem dX6_count_4 : decode cX6_count 4 = .ok (.iload_n 1, 1) := by decide +kernel
theorem dX6_count_5 : decode cX6_count 5 = .ok (.bipush 13, 2) := by decide +kernel
theorem dX6_count_7 : decode cX6_count 7 = .ok (.if_icmp .lt 6, 3) := by decide +kernel
theorem dX6_count_10 : decode cX6_count 10 = .ok (.bipush (-2), 2) := by decide +kernel
theorem dX6_count_12 : decode cX6_count 12 = .ok (.ireturn, 1) := by decide +kernel
theorem dX6_count_13 : decode cX6_count 13 = .ok (.aload_n 0, 1) := by decide +kernel
theorem dX6_count_14 : decode cX6_count 14 = .ok (.getfield 10, 3) := by decide +kernel
theorem dX6_count_17 : decode cX6_count 17 = .ok (.iload_n 1, 1) := by decide +kernel
theorem dX6_count_18 : decode cX6_count 18 = .ok (.invokevirtual 77, 3) := by decide +kernel
theorem dX6_count_21 : decode cX6_count 21 = .ok (.ireturn, 1) := by decide +kernel
theorem dX6_setting_0 : decode cX6_setting 0 = .ok (.iload_n 1, 1) := by decide +kernel
theorem dX6_setting_1 : decode cX6_setting 1 = .ok (.invokestatic 80, 3) := by decide +kernel
theorem dX6_setting_4 : decode cX6_setting 4 = .ok (.ifCond .ne 5, 3) := by decide +kernel
theorem dX6_setting_7 : decode cX6_setting 7 = .ok (.iconst (-1), 1) := by decide +kernel
theorem dX6_setting_8 : decode cX6_setting 8 = .ok (.ireturn, 1) := by decide +kernel
theorem dX6_setting_9 : decode cX6_setting 9 = .ok (.aload_n 0, 1) := by decide +kernel
theorem dX6_setting_10 : decode cX6_setting 10 = .ok (.getfield 10, 3) := by decide +kernel
theorem dX6_setting_13 : decode cX6_setting 13 = .ok (.getfield 84, 3) := by decide +kernel
theorem dX6_setting_16 : decode cX6_setting 16 = .ok (.iload_n 1, 1) := by decide +kernel
theorem dX6_setting_17 : decode cX6_setting 17 = .ok (.iaload, 1) := by decide +kernel
theorem dX6_setting_18 : decode cX6_setting 18 = .ok (.ireturn, 1) := by decide +kernel
theorem dX6_span_0 : decode cX6_span 0 = .ok (.iload_n 1, 1) := by decide +kernel
theorem dX6_span_1 : decode cX6_span 1 = .ok (.invokestatic 88, 3) := by decide +kernel
theorem dX6_span_4 : decode cX6_span 4 = .ok (.ifCond .ne 5, 3) := by decide +kernel
theorem dX6_span_7 : decode cX6_span 7 = .ok (.iconst (-1), 1) := by decide +kernel
theorem dX6_span_8 : decode cX6_span 8 = .ok (.ireturn, 1) := by decide +kernel
theorem dX6_span_9 : decode cX6_span 9 = .ok (.iload_n 2, 1) := by decide +kernel
theorem dX6_span_10 : decode cX6_span 10 = .ok (.ifCond .lt 9, 3) := by decide +kernel
theorem dX6_span_13 : decode cX6_span 13 = .ok (.iload_n 2, 1) := by decide +kernel
theorem dX6_span_14 : decode cX6_span 14 = .ok (.bipush 7, 2) := by decide +kernel
theorem dX6_span_16 : decode cX6_span 16 = .ok (.if_icmp .lt 6, 3) := by decide +kernel
theorem dX6_span_19 : decode cX6_span 19 = .ok (.bipush (-2), 2) := by decide +kernel
theorem dX6_span_21 : decode cX6_span 21 = .ok (.ireturn, 1) := by decide +kernel
theorem dX6_span_22 : decode cX6_span 22 = .ok (.aload_n 0, 1) := by decide +kernel
theorem dX6_span_23 : decode cX6_span 23 = .ok (.getfield 10, 3) := by decide +kernel
theorem dX6_span_26 : decode cX6_span 26 = .ok (.iload_n 1, 1) := by decide +kernel
theorem dX6_span_27 : decode cX6_span 27 = .ok (.iload_n 2, 1) := by decide +kernel
theorem dX6_span_28 : decode cX6_span 28 = .ok (.invokevirtual 91, 3) := by decide +kernel
theorem dX6_span_31 : decode cX6_span 31 = .ok (.ireturn, 1) := by decide +kernel
theorem dX6_tries_0 : decode cX6_tries 0 = .ok (.iload_n 1, 1) := by decide +kernel
theorem dX6_tries_1 : decode cX6_tries 1 = .ok (.invokestatic 88, 3) := by decide +kernel
theorem dX6_tries_4 : decode cX6_tries 4 = .ok (.ifCond .ne 5, 3) := by decide +kernel
theorem dX6_tries_7 : decode cX6_tries 7 = .ok (.iconst (-1), 1) := by decide +kernel
theorem dX6_tries_8 : decode cX6_tries 8 = .ok (.ireturn, 1) := by decide +kernel
theorem dX6_tries_9 : decode cX6_tries 9 = .ok (.aload_n 0, 1) := by decide +kernel
theorem dX6_tries_10 : decode cX6_tries 10 = .ok (.getfield 10, 3) := by decide +kernel
theorem dX6_tries_13 : decode cX6_tries 13 = .ok (.getfield 94, 3) := by decide +kernel
theorem dX6_tries_16 : decode cX6_tries 16 = .ok (.iload_n 1, 1) := by decide +kernel
theorem dX6_tries_17 : decode cX6_tries 17 = .ok (.iload_n 2, 1) := by decide +kernel
theorem dX6_tries_18 : decode cX6_tries 18 = .ok (.invokevirtual 98, 3) := by decide +kernel
theorem dX6_tries_21 : decode cX6_tries 21 = .ok (.ireturn, 1) := by decide +kernel
theorem dX6_entries_0 : decode cX6_entries 0 = .ok (.aload_n 0, 1) := by decide +kernel
theorem dX6_entries_1 : decode cX6_entries 1 = .ok (.getfield 10, 3) := by decide +kernel
theorem dX6_entries_4 : decode cX6_entries 4 = .ok (.getfield 103, 3) := by decide +kernel
theorem dX6_entries_7 : decode cX6_entries 7 = .ok (.getfield 107, 3) := by decide +kernel
theorem dX6_entries_10 : decode cX6_entries 10 = .ok (.ireturn, 1) := by decide +kernel
theorem dX6_entry_0 : decode cX6_entry 0 = .ok (.aload_n 0, 1) := by decide +kernel
theorem dX6_entry_1 : decode cX6_entry 1 = .ok (.getfield 10, 3) := by decide +kernel
theorem dX6_entry_4 : decode cX6_entry 4 = .ok (.getfield 103, 3) := by decide +kernel
theorem dX6_entry_7 : decode cX6_entry 7 = .ok (.iload_n 1, 1) := by decide +kernel
theorem dX6_entry_8 : decode cX6_entry 8 = .ok (.invokevirtual 113, 3) := by decide +kernel
theorem dX6_entry_11 : decode cX6_entry 11 = .ok (.ifCond .ne 5, 3) := by decide +kernel
theorem dX6_entry_14 : decode cX6_entry 14 = .ok (.iconst (-1), 1) := by decide +kernel
theorem dX6_entry_15 : decode cX6_entry 15 = .ok (.ireturn, 1) := by decide +kernel
theorem dX6_entry_16 : decode cX6_entry 16 = .ok (.iload_n 2, 1) := by decide +kernel
theorem dX6_entry_17 : decode cX6_entry 17 = .ok (.ifCond .lt 8, 3) := by decide +kernel
theorem dX6_entry_20 : decode cX6_entry 20 = .ok (.iload_n 2, 1) := by decide +kernel
theorem dX6_entry_21 : decode cX6_entry 21 = .ok (.iconst 4, 1) := by decide +kernel
theorem dX6_entry_22 : decode cX6_entry 22 = .ok (.if_icmp .lt 6, 3) := by decide +kernel
theorem dX6_entry_25 : decode cX6_entry 25 = .ok (.bipush (-2), 2) := by decide +kernel
theorem dX6_entry_27 : decode cX6_entry 27 = .ok (.ireturn, 1) := by decide +kernel
theorem dX6_entry_28 : decode cX6_entry 28 = .ok (.iload_n 2, 1) := by decide +kernel
theorem dX6_entry_29 : decode cX6_entry 29 = .ok (.tableswitch 63 0 2 #[27, 39, 51], 27) := by decide +kernel
theorem dX6_entry_56 : decode cX6_entry 56 = .ok (.aload_n 0, 1) := by decide +kernel
theorem dX6_entry_57 : decode cX6_entry 57 = .ok (.getfield 10, 3) := by decide +kernel
theorem dX6_entry_60 : decode cX6_entry 60 = .ok (.getfield 103, 3) := by decide +kernel
theorem dX6_entry_63 : decode cX6_entry 63 = .ok (.iload_n 1, 1) := by decide +kernel
theorem dX6_entry_64 : decode cX6_entry 64 = .ok (.invokevirtual 116, 3) := by decide +kernel
theorem dX6_entry_67 : decode cX6_entry 67 = .ok (.ireturn, 1) := by decide +kernel
theorem dX6_entry_68 : decode cX6_entry 68 = .ok (.aload_n 0, 1) := by decide +kernel
theorem dX6_entry_69 : decode cX6_entry 69 = .ok (.getfield 10, 3) := by decide +kernel
theorem dX6_entry_72 : decode cX6_entry 72 = .ok (.getfield 103, 3) := by decide +kernel
theorem dX6_entry_75 : decode cX6_entry 75 = .ok (.iload_n 1, 1) := by decide +kernel
theorem dX6_entry_76 : decode cX6_entry 76 = .ok (.invokevirtual 119, 3) := by decide +kernel
theorem dX6_entry_79 : decode cX6_entry 79 = .ok (.ireturn, 1) := by decide +kernel
theorem dX6_entry_80 : decode cX6_entry 80 = .ok (.aload_n 0, 1) := by decide +kernel
theorem dX6_entry_81 : decode cX6_entry 81 = .ok (.getfield 10, 3) := by decide +kernel
theorem dX6_entry_84 : decode cX6_entry 84 = .ok (.getfield 103, 3) := by decide +kernel
theorem dX6_entry_87 : decode cX6_entry 87 = .ok (.iload_n 1, 1) := by decide +kernel
theorem dX6_entry_88 : decode cX6_entry 88 = .ok (.invokevirtual 122, 3) := by decide +kernel
theorem dX6_entry_91 : decode cX6_entry 91 = .ok (.ireturn, 1) := by decide +kernel
theorem dX6_entry_92 : decode cX6_entry 92 = .ok (.aload_n 0, 1) := by decide +kernel
theorem dX6_entry_93 : decode cX6_entry 93 = .ok (.iload_n 1, 1) := by decide +kernel
theorem dX6_entry_94 : decode cX6_entry 94 = .ok (.invokevirtual 125, 3) := by decide +kernel
theorem dX6_entry_97 : decode cX6_entry 97 = .ok (.aload_n 0, 1) := by decide +kernel
theorem dX6_entry_98 : decode cX6_entry 98 = .ok (.getfield 36, 3) := by decide +kernel
theorem dX6_entry_101 : decode cX6_entry 101 = .ok (.invokevirtual 129, 3) := by decide +kernel
theorem dX6_entry_104 : decode cX6_entry 104 = .ok (.ireturn, 1) := by decide +kernel
theorem dX6_lineAt_0 : decode cX6_lineAt 0 = .ok (.aload_n 0, 1) := by decide +kernel
theorem dX6_lineAt_1 : decode cX6_lineAt 1 = .ok (.getfield 10, 3) := by decide +kernel
theorem dX6_lineAt_4 : decode cX6_lineAt 4 = .ok (.getfield 103, 3) := by decide +kernel
theorem dX6_lineAt_7 : decode cX6_lineAt 7 = .ok (.iload_n 1, 1) := by decide +kernel
theorem dX6_lineAt_8 : decode cX6_lineAt 8 = .ok (.invokevirtual 113, 3) := by decide +kernel
theorem dX6_lineAt_11 : decode cX6_lineAt 11 = .ok (.ifCond .ne 5, 3) := by decide +kernel
theorem dX6_lineAt_14 : decode cX6_lineAt 14 = .ok (.iconst (-1), 1) := by decide +kernel
theorem dX6_lineAt_15 : decode cX6_lineAt 15 = .ok (.ireturn, 1) := by decide +kernel
theorem dX6_lineAt_16 : decode cX6_lineAt 16 = .ok (.aload_n 0, 1) := by decide +kernel
theorem dX6_lineAt_17 : decode cX6_lineAt 17 = .ok (.iload_n 1, 1) := by decide +kernel
theorem dX6_lineAt_18 : decode cX6_lineAt 18 = .ok (.invokevirtual 125, 3) := by decide +kernel
theorem dX6_lineAt_21 : decode cX6_lineAt 21 = .ok (.iload_n 2, 1) := by decide +kernel
theorem dX6_lineAt_22 : decode cX6_lineAt 22 = .ok (.ifCond .lt 14, 3) := by decide +kernel
theorem dX6_lineAt_25 : decode cX6_lineAt 25 = .ok (.iload_n 2, 1) := by decide +kernel
theorem dX6_lineAt_26 : decode cX6_lineAt 26 = .ok (.aload_n 0, 1) := by decide +kernel
theorem dX6_lineAt_27 : decode cX6_lineAt 27 = .ok (.getfield 36, 3) := by decide +kernel
theorem dX6_lineAt_30 : decode cX6_lineAt 30 = .ok (.invokevirtual 129, 3) := by decide +kernel
theorem dX6_lineAt_33 : decode cX6_lineAt 33 = .ok (.if_icmp .lt 5, 3) := by decide +kernel
theorem dX6_lineAt_36 : decode cX6_lineAt 36 = .ok (.iconst (-1), 1) := by decide +kernel
theorem dX6_lineAt_37 : decode cX6_lineAt 37 = .ok (.ireturn, 1) := by decide +kernel
theorem dX6_lineAt_38 : decode cX6_lineAt 38 = .ok (.aload_n 0, 1) := by decide +kernel
theorem dX6_lineAt_39 : decode cX6_lineAt 39 = .ok (.getfield 36, 3) := by decide +kernel
theorem dX6_lineAt_42 : decode cX6_lineAt 42 = .ok (.iload_n 2, 1) := by decide +kernel
theorem dX6_lineAt_43 : decode cX6_lineAt 43 = .ok (.invokevirtual 132, 3) := by decide +kernel
theorem dX6_lineAt_46 : decode cX6_lineAt 46 = .ok (.ireturn, 1) := by decide +kernel
theorem dX6_overdue_0 : decode cX6_overdue 0 = .ok (.aload_n 0, 1) := by decide +kernel
theorem dX6_overdue_1 : decode cX6_overdue 1 = .ok (.getfield 10, 3) := by decide +kernel
theorem dX6_overdue_4 : decode cX6_overdue 4 = .ok (.invokevirtual 136, 3) := by decide +kernel
theorem dX6_overdue_7 : decode cX6_overdue 7 = .ok (.ireturn, 1) := by decide +kernel
theorem dX6_nextCheck_0 : decode cX6_nextCheck 0 = .ok (.aload_n 0, 1) := by decide +kernel
theorem dX6_nextCheck_1 : decode cX6_nextCheck 1 = .ok (.getfield 10, 3) := by decide +kernel
theorem dX6_nextCheck_4 : decode cX6_nextCheck 4 = .ok (.invokevirtual 139, 3) := by decide +kernel
theorem dX6_nextCheck_7 : decode cX6_nextCheck 7 = .ok (.ireturn, 1) := by decide +kernel
theorem dX6_checkedIn_0 : decode cX6_checkedIn 0 = .ok (.iload_n 1, 1) := by decide +kernel
theorem dX6_checkedIn_1 : decode cX6_checkedIn 1 = .ok (.invokestatic 88, 3) := by decide +kernel
theorem dX6_checkedIn_4 : decode cX6_checkedIn 4 = .ok (.ifCond .ne 5, 3) := by decide +kernel
theorem dX6_checkedIn_7 : decode cX6_checkedIn 7 = .ok (.iconst (-1), 1) := by decide +kernel
theorem dX6_checkedIn_8 : decode cX6_checkedIn 8 = .ok (.ireturn, 1) := by decide +kernel
theorem dX6_checkedIn_9 : decode cX6_checkedIn 9 = .ok (.aload_n 0, 1) := by decide +kernel
theorem dX6_checkedIn_10 : decode cX6_checkedIn 10 = .ok (.getfield 16, 3) := by decide +kernel
theorem dX6_checkedIn_13 : decode cX6_checkedIn 13 = .ok (.aload_n 0, 1) := by decide +kernel
theorem dX6_checkedIn_14 : decode cX6_checkedIn 14 = .ok (.getfield 10, 3) := by decide +kernel
theorem dX6_checkedIn_17 : decode cX6_checkedIn 17 = .ok (.invokevirtual 142, 3) := by decide +kernel
theorem dX6_checkedIn_20 : decode cX6_checkedIn 20 = .ok (.iconst 1, 1) := by decide +kernel
theorem dX6_checkedIn_21 : decode cX6_checkedIn 21 = .ok (.istore_n 2, 1) := by decide +kernel
theorem dX6_checkedIn_22 : decode cX6_checkedIn 22 = .ok (.iload_n 2, 1) := by decide +kernel
theorem dX6_checkedIn_23 : decode cX6_checkedIn 23 = .ok (.sipush 3000, 3) := by decide +kernel
theorem dX6_checkedIn_26 : decode cX6_checkedIn 26 = .ok (.if_icmp .gt 22, 3) := by decide +kernel
theorem dX6_checkedIn_29 : decode cX6_checkedIn 29 = .ok (.aload_n 0, 1) := by decide +kernel
theorem dX6_checkedIn_30 : decode cX6_checkedIn 30 = .ok (.getfield 16, 3) := by decide +kernel
theorem dX6_checkedIn_33 : decode cX6_checkedIn 33 = .ok (.invokevirtual 145, 3) := by decide +kernel
theorem dX6_checkedIn_36 : decode cX6_checkedIn 36 = .ok (.iload_n 1, 1) := by decide +kernel
theorem dX6_checkedIn_37 : decode cX6_checkedIn 37 = .ok (.if_icmp .ne 5, 3) := by decide +kernel
theorem dX6_checkedIn_40 : decode cX6_checkedIn 40 = .ok (.iload_n 2, 1) := by decide +kernel
theorem dX6_checkedIn_41 : decode cX6_checkedIn 41 = .ok (.ireturn, 1) := by decide +kernel
theorem dX6_checkedIn_42 : decode cX6_checkedIn 42 = .ok (.iinc 2 1, 3) := by decide +kernel
theorem dX6_checkedIn_45 : decode cX6_checkedIn 45 = .ok (.goto (-23), 3) := by decide +kernel
theorem dX6_checkedIn_48 : decode cX6_checkedIn 48 = .ok (.bipush (-6), 2) := by decide +kernel
theorem dX6_checkedIn_50 : decode cX6_checkedIn 50 = .ok (.ireturn, 1) := by decide +kernel
theorem dX6_ifQuiet_0 : decode cX6_ifQuiet 0 = .ok (.iload_n 1, 1) := by decide +kernel
theorem dX6_ifQuiet_1 : decode cX6_ifQuiet 1 = .ok (.ifCond .lt 10, 3) := by decide +kernel
theorem dX6_ifQuiet_4 : decode cX6_ifQuiet 4 = .ok (.iload_n 1, 1) := by decide +kernel
theorem dX6_ifQuiet_5 : decode cX6_ifQuiet 5 = .ok (.sipush 3000, 3) := by decide +kernel
theorem dX6_ifQuiet_8 : decode cX6_ifQuiet 8 = .ok (.if_icmp .le 6, 3) := by decide +kernel
theorem dX6_ifQuiet_11 : decode cX6_ifQuiet 11 = .ok (.bipush (-2), 2) := by decide +kernel
theorem dX6_ifQuiet_13 : decode cX6_ifQuiet 13 = .ok (.ireturn, 1) := by decide +kernel
theorem dX6_ifQuiet_14 : decode cX6_ifQuiet 14 = .ok (.aload_n 0, 1) := by decide +kernel
theorem dX6_ifQuiet_15 : decode cX6_ifQuiet 15 = .ok (.iload_n 1, 1) := by decide +kernel
theorem dX6_ifQuiet_16 : decode cX6_ifQuiet 16 = .ok (.aload_n 0, 1) := by decide +kernel
theorem dX6_ifQuiet_17 : decode cX6_ifQuiet 17 = .ok (.getfield 10, 3) := by decide +kernel
theorem dX6_ifQuiet_20 : decode cX6_ifQuiet 20 = .ok (.getfield 148, 3) := by decide +kernel
theorem dX6_ifQuiet_23 : decode cX6_ifQuiet 23 = .ok (.invokevirtual 151, 3) := by decide +kernel
theorem dX6_ifQuiet_26 : decode cX6_ifQuiet 26 = .ok (.ireturn, 1) := by decide +kernel
theorem dX6_bestWay_0 : decode cX6_bestWay 0 = .ok (.iload_n 1, 1) := by decide +kernel
theorem dX6_bestWay_1 : decode cX6_bestWay 1 = .ok (.ifCond .lt 10, 3) := by decide +kernel
theorem dX6_bestWay_4 : decode cX6_bestWay 4 = .ok (.iload_n 1, 1) := by decide +kernel
theorem dX6_bestWay_5 : decode cX6_bestWay 5 = .ok (.sipush 3000, 3) := by decide +kernel
theorem dX6_bestWay_8 : decode cX6_bestWay 8 = .ok (.if_icmp .le 6, 3) := by decide +kernel
theorem dX6_bestWay_11 : decode cX6_bestWay 11 = .ok (.bipush (-2), 2) := by decide +kernel
theorem dX6_bestWay_13 : decode cX6_bestWay 13 = .ok (.ireturn, 1) := by decide +kernel
theorem dX6_bestWay_14 : decode cX6_bestWay 14 = .ok (.iconst 0, 1) := by decide +kernel
theorem dX6_bestWay_15 : decode cX6_bestWay 15 = .ok (.istore_n 2, 1) := by decide +kernel
theorem dX6_bestWay_16 : decode cX6_bestWay 16 = .ok (.aload_n 0, 1) := by decide +kernel
theorem dX6_bestWay_17 : decode cX6_bestWay 17 = .ok (.iload_n 1, 1) := by decide +kernel
theorem dX6_bestWay_18 : decode cX6_bestWay 18 = .ok (.iload_n 2, 1) := by decide +kernel
theorem dX6_bestWay_19 : decode cX6_bestWay 19 = .ok (.invokevirtual 151, 3) := by decide +kernel
theorem dX6_bestWay_22 : decode cX6_bestWay 22 = .ok (.istore_n 3, 1) := by decide +kernel
theorem dX6_bestWay_23 : decode cX6_bestWay 23 = .ok (.iconst 1, 1) := by decide +kernel
theorem dX6_bestWay_24 : decode cX6_bestWay 24 = .ok (.istore 4, 2) := by decide +kernel
theorem dX6_bestWay_26 : decode cX6_bestWay 26 = .ok (.iload 4, 2) := by decide +kernel
theorem dX6_bestWay_28 : decode cX6_bestWay 28 = .ok (.iconst 3, 1) := by decide +kernel
theorem dX6_bestWay_29 : decode cX6_bestWay 29 = .ok (.if_icmp .ge 30, 3) := by decide +kernel
theorem dX6_bestWay_32 : decode cX6_bestWay 32 = .ok (.aload_n 0, 1) := by decide +kernel
theorem dX6_bestWay_33 : decode cX6_bestWay 33 = .ok (.iload_n 1, 1) := by decide +kernel
theorem dX6_bestWay_34 : decode cX6_bestWay 34 = .ok (.iload 4, 2) := by decide +kernel
theorem dX6_bestWay_36 : decode cX6_bestWay 36 = .ok (.invokevirtual 151, 3) := by decide +kernel
theorem dX6_bestWay_39 : decode cX6_bestWay 39 = .ok (.istore 5, 2) := by decide +kernel
theorem dX6_bestWay_41 : decode cX6_bestWay 41 = .ok (.iload 5, 2) := by decide +kernel
theorem dX6_bestWay_43 : decode cX6_bestWay 43 = .ok (.iload_n 3, 1) := by decide +kernel
theorem dX6_bestWay_44 : decode cX6_bestWay 44 = .ok (.if_icmp .ge 9, 3) := by decide +kernel
theorem dX6_bestWay_47 : decode cX6_bestWay 47 = .ok (.iload 5, 2) := by decide +kernel
theorem dX6_bestWay_49 : decode cX6_bestWay 49 = .ok (.istore_n 3, 1) := by decide +kernel
theorem dX6_bestWay_50 : decode cX6_bestWay 50 = .ok (.iload 4, 2) := by decide +kernel
theorem dX6_bestWay_52 : decode cX6_bestWay 52 = .ok (.istore_n 2, 1) := by decide +kernel
theorem dX6_bestWay_53 : decode cX6_bestWay 53 = .ok (.iinc 4 1, 3) := by decide +kernel
theorem dX6_bestWay_56 : decode cX6_bestWay 56 = .ok (.goto (-30), 3) := by decide +kernel
theorem dX6_bestWay_59 : decode cX6_bestWay 59 = .ok (.iload_n 2, 1) := by decide +kernel
theorem dX6_bestWay_60 : decode cX6_bestWay 60 = .ok (.ireturn, 1) := by decide +kernel
theorem dX6_writeLine_0 : decode cX6_writeLine 0 = .ok (.aload_n 0, 1) := by decide +kernel
theorem dX6_writeLine_1 : decode cX6_writeLine 1 = .ok (.getfield 36, 3) := by decide +kernel
theorem dX6_writeLine_4 : decode cX6_writeLine 4 = .ok (.iconst 0, 1) := by decide +kernel
theorem dX6_writeLine_5 : decode cX6_writeLine 5 = .ok (.invokevirtual 208, 3) := by decide +kernel
theorem dX6_writeLine_8 : decode cX6_writeLine 8 = .ok (.aload_n 0, 1) := by decide +kernel
theorem dX6_writeLine_9 : decode cX6_writeLine 9 = .ok (.getfield 36, 3) := by decide +kernel
theorem dX6_writeLine_12 : decode cX6_writeLine 12 = .ok (.aload_n 0, 1) := by decide +kernel
theorem dX6_writeLine_13 : decode cX6_writeLine 13 = .ok (.getfield 10, 3) := by decide +kernel
theorem dX6_writeLine_16 : decode cX6_writeLine 16 = .ok (.getfield 103, 3) := by decide +kernel
theorem dX6_writeLine_19 : decode cX6_writeLine 19 = .ok (.iload_n 1, 1) := by decide +kernel
theorem dX6_writeLine_20 : decode cX6_writeLine 20 = .ok (.invokevirtual 116, 3) := by decide +kernel
theorem dX6_writeLine_23 : decode cX6_writeLine 23 = .ok (.invokevirtual 211, 3) := by decide +kernel
theorem dX6_writeLine_26 : decode cX6_writeLine 26 = .ok (.pop, 1) := by decide +kernel
theorem dX6_writeLine_27 : decode cX6_writeLine 27 = .ok (.aload_n 0, 1) := by decide +kernel
theorem dX6_writeLine_28 : decode cX6_writeLine 28 = .ok (.getfield 36, 3) := by decide +kernel
theorem dX6_writeLine_31 : decode cX6_writeLine 31 = .ok (.bipush 32, 2) := by decide +kernel
theorem dX6_writeLine_33 : decode cX6_writeLine 33 = .ok (.invokevirtual 214, 3) := by decide +kernel
theorem dX6_writeLine_36 : decode cX6_writeLine 36 = .ok (.pop, 1) := by decide +kernel
theorem dX6_writeLine_37 : decode cX6_writeLine 37 = .ok (.aload_n 0, 1) := by decide +kernel
theorem dX6_writeLine_38 : decode cX6_writeLine 38 = .ok (.getfield 36, 3) := by decide +kernel
theorem dX6_writeLine_41 : decode cX6_writeLine 41 = .ok (.aload_n 0, 1) := by decide +kernel
theorem dX6_writeLine_42 : decode cX6_writeLine 42 = .ok (.getfield 10, 3) := by decide +kernel
theorem dX6_writeLine_45 : decode cX6_writeLine 45 = .ok (.getfield 103, 3) := by decide +kernel
theorem dX6_writeLine_48 : decode cX6_writeLine 48 = .ok (.iload_n 1, 1) := by decide +kernel
theorem dX6_writeLine_49 : decode cX6_writeLine 49 = .ok (.invokevirtual 119, 3) := by decide +kernel
theorem dX6_writeLine_52 : decode cX6_writeLine 52 = .ok (.invokestatic 217, 3) := by decide +kernel
theorem dX6_writeLine_55 : decode cX6_writeLine 55 = .ok (.invokevirtual 221, 3) := by decide +kernel
theorem dX6_writeLine_58 : decode cX6_writeLine 58 = .ok (.pop, 1) := by decide +kernel
theorem dX6_writeLine_59 : decode cX6_writeLine 59 = .ok (.aload_n 0, 1) := by decide +kernel
theorem dX6_writeLine_60 : decode cX6_writeLine 60 = .ok (.getfield 36, 3) := by decide +kernel
theorem dX6_writeLine_63 : decode cX6_writeLine 63 = .ok (.bipush 32, 2) := by decide +kernel
theorem dX6_writeLine_65 : decode cX6_writeLine 65 = .ok (.invokevirtual 214, 3) := by decide +kernel
theorem dX6_writeLine_68 : decode cX6_writeLine 68 = .ok (.pop, 1) := by decide +kernel
theorem dX6_writeLine_69 : decode cX6_writeLine 69 = .ok (.aload_n 0, 1) := by decide +kernel
theorem dX6_writeLine_70 : decode cX6_writeLine 70 = .ok (.getfield 36, 3) := by decide +kernel
theorem dX6_writeLine_73 : decode cX6_writeLine 73 = .ok (.aload_n 0, 1) := by decide +kernel
theorem dX6_writeLine_74 : decode cX6_writeLine 74 = .ok (.getfield 10, 3) := by decide +kernel
theorem dX6_writeLine_77 : decode cX6_writeLine 77 = .ok (.getfield 103, 3) := by decide +kernel
theorem dX6_writeLine_80 : decode cX6_writeLine 80 = .ok (.iload_n 1, 1) := by decide +kernel
theorem dX6_writeLine_81 : decode cX6_writeLine 81 = .ok (.invokevirtual 122, 3) := by decide +kernel
theorem dX6_writeLine_84 : decode cX6_writeLine 84 = .ok (.invokevirtual 211, 3) := by decide +kernel
theorem dX6_writeLine_87 : decode cX6_writeLine 87 = .ok (.pop, 1) := by decide +kernel
theorem dX6_writeLine_88 : decode cX6_writeLine 88 = .ok (.return_, 1) := by decide +kernel
theorem dX6_overdueAfter_0 : decode cX6_overdueAfter 0 = .ok (.aload_n 0, 1) := by decide +kernel
theorem dX6_overdueAfter_1 : decode cX6_overdueAfter 1 = .ok (.getfield 16, 3) := by decide +kernel
theorem dX6_overdueAfter_4 : decode cX6_overdueAfter 4 = .ok (.aload_n 0, 1) := by decide +kernel
theorem dX6_overdueAfter_5 : decode cX6_overdueAfter 5 = .ok (.getfield 10, 3) := by decide +kernel
theorem dX6_overdueAfter_8 : decode cX6_overdueAfter 8 = .ok (.invokevirtual 142, 3) := by decide +kernel
theorem dX6_overdueAfter_11 : decode cX6_overdueAfter 11 = .ok (.aload_n 0, 1) := by decide +kernel
theorem dX6_overdueAfter_12 : decode cX6_overdueAfter 12 = .ok (.getfield 16, 3) := by decide +kernel
theorem dX6_overdueAfter_15 : decode cX6_overdueAfter 15 = .ok (.iload_n 2, 1) := by decide +kernel
theorem dX6_overdueAfter_16 : decode cX6_overdueAfter 16 = .ok (.putfield 148, 3) := by decide +kernel
theorem dX6_overdueAfter_19 : decode cX6_overdueAfter 19 = .ok (.iconst 0, 1) := by decide +kernel
theorem dX6_overdueAfter_20 : decode cX6_overdueAfter 20 = .ok (.istore_n 3, 1) := by decide +kernel
theorem dX6_overdueAfter_21 : decode cX6_overdueAfter 21 = .ok (.iload_n 3, 1) := by decide +kernel
theorem dX6_overdueAfter_22 : decode cX6_overdueAfter 22 = .ok (.iload_n 1, 1) := by decide +kernel
theorem dX6_overdueAfter_23 : decode cX6_overdueAfter 23 = .ok (.if_icmp .ge 17, 3) := by decide +kernel
theorem dX6_overdueAfter_26 : decode cX6_overdueAfter 26 = .ok (.aload_n 0, 1) := by decide +kernel
theorem dX6_overdueAfter_27 : decode cX6_overdueAfter 27 = .ok (.getfield 16, 3) := by decide +kernel
theorem dX6_overdueAfter_30 : decode cX6_overdueAfter 30 = .ok (.invokevirtual 145, 3) := by decide +kernel
theorem dX6_overdueAfter_33 : decode cX6_overdueAfter 33 = .ok (.pop, 1) := by decide +kernel
theorem dX6_overdueAfter_34 : decode cX6_overdueAfter 34 = .ok (.iinc 3 1, 3) := by decide +kernel
theorem dX6_overdueAfter_37 : decode cX6_overdueAfter 37 = .ok (.goto (-16), 3) := by decide +kernel
theorem dX6_overdueAfter_40 : decode cX6_overdueAfter 40 = .ok (.aload_n 0, 1) := by decide +kernel
theorem dX6_overdueAfter_41 : decode cX6_overdueAfter 41 = .ok (.getfield 16, 3) := by decide +kernel
theorem dX6_overdueAfter_44 : decode cX6_overdueAfter 44 = .ok (.invokevirtual 136, 3) := by decide +kernel
theorem dX6_overdueAfter_47 : decode cX6_overdueAfter 47 = .ok (.ireturn, 1) := by decide +kernel
theorem dX6_isSpan_0 : decode cX6_isSpan 0 = .ok (.iload_n 0, 1) := by decide +kernel
theorem dX6_isSpan_1 : decode cX6_isSpan 1 = .ok (.ifCond .lt 13, 3) := by decide +kernel
theorem dX6_isSpan_4 : decode cX6_isSpan 4 = .ok (.iload_n 0, 1) := by decide +kernel
theorem dX6_isSpan_5 : decode cX6_isSpan 5 = .ok (.bipush 8, 2) := by decide +kernel
theorem dX6_isSpan_7 : decode cX6_isSpan 7 = .ok (.if_icmp .ge 7, 3) := by decide +kernel
theorem dX6_isSpan_10 : decode cX6_isSpan 10 = .ok (.iconst 1, 1) := by decide +kernel
theorem dX6_isSpan_11 : decode cX6_isSpan 11 = .ok (.goto 4, 3) := by decide +kernel
theorem dX6_isSpan_14 : decode cX6_isSpan 14 = .ok (.iconst 0, 1) := by decide +kernel
theorem dX6_isSpan_15 : decode cX6_isSpan 15 = .ok (.ireturn, 1) := by decide +kernel
theorem dX6_isSetting_0 : decode cX6_isSetting 0 = .ok (.iload_n 0, 1) := by decide +kernel
theorem dX6_isSetting_1 : decode cX6_isSetting 1 = .ok (.ifCond .lt 12, 3) := by decide +kernel
theorem dX6_isSetting_4 : decode cX6_isSetting 4 = .ok (.iload_n 0, 1) := by decide +kernel
theorem dX6_isSetting_5 : decode cX6_isSetting 5 = .ok (.iconst 5, 1) := by decide +kernel
theorem dX6_isSetting_6 : decode cX6_isSetting 6 = .ok (.if_icmp .ge 7, 3) := by decide +kernel
theorem dX6_isSetting_9 : decode cX6_isSetting 9 = .ok (.iconst 1, 1) := by decide +kernel
theorem dX6_isSetting_10 : decode cX6_isSetting 10 = .ok (.goto 4, 3) := by decide +kernel
theorem dX6_isSetting_13 : decode cX6_isSetting 13 = .ok (.iconst 0, 1) := by decide +kernel
theorem dX6_isSetting_14 : decode cX6_isSetting 14 = .ok (.ireturn, 1) := by decide +kernel
theorem dX6_wordOf_0 : decode cX6_wordOf 0 = .ok (.iload_n 0, 1) := by decide +kernel
theorem dX6_wordOf_1 : decode cX6_wordOf 1 = .ok (.tableswitch 50 1 5 #[35, 38, 41, 44, 47], 35) := by decide +kernel
theorem dX6_wordOf_36 : decode cX6_wordOf 36 = .ok (.ldc 233, 2) := by decide +kernel
theorem dX6_wordOf_38 : decode cX6_wordOf 38 = .ok (.areturn, 1) := by decide +kernel
theorem dX6_wordOf_39 : decode cX6_wordOf 39 = .ok (.ldc 235, 2) := by decide +kernel
theorem dX6_wordOf_41 : decode cX6_wordOf 41 = .ok (.areturn, 1) := by decide +kernel
theorem dX6_wordOf_42 : decode cX6_wordOf 42 = .ok (.ldc 237, 2) := by decide +kernel
theorem dX6_wordOf_44 : decode cX6_wordOf 44 = .ok (.areturn, 1) := by decide +kernel
theorem dX6_wordOf_45 : decode cX6_wordOf 45 = .ok (.ldc 239, 2) := by decide +kernel
theorem dX6_wordOf_47 : decode cX6_wordOf 47 = .ok (.areturn, 1) := by decide +kernel
theorem dX6_wordOf_48 : decode cX6_wordOf 48 = .ok (.ldc 241, 2) := by decide +kernel
theorem dX6_wordOf_50 : decode cX6_wordOf 50 = .ok (.areturn, 1) := by decide +kernel
theorem dX6_wordOf_51 : decode cX6_wordOf 51 = .ok (.ldc 243, 2) := by decide +kernel
theorem dX6_wordOf_53 : decode cX6_wordOf 53 = .ok (.areturn, 1) := by decide +kernel
