theorem dX6_init_0 : decode cX6_init 0 = .ok (.aload_n 0, 1) := by decide +kernel
theorem dX6_init_1 : decode cX6_init 1 = .ok (.invokespecial 1, 3) := by decide +kernel
theorem dX6_init_4 : decode cX6_init 4 = .ok (.aload_n 0, 1) := by decide +kernel
theorem dX6_init_5 : decode cX6_init 5 = .ok (.new 7, 3) := by decide +kernel
theorem dX6_init_8 : decode cX6_init 8 = .ok (.dup, 1) := by decide +kernel
theorem dX6_init_9 : decode cX6_init 9 = .ok (.invokespecial 9, 3) := by decide +kernel
theorem dX6_init_12 : decode cX6_init 12 = .ok (.putfield 10, 3) := by decide +kernel
theorem dX6_init_15 : decode cX6_init 15 = .ok (.aload_n 0, 1) := by decide +kernel
theorem dX6_init_16 : decode cX6_init 16 = .ok (.new 7, 3) := by decide +kernel
theorem dX6_init_19 : decode cX6_init 19 = .ok (.dup, 1) := by decide +kernel
theorem dX6_init_20 : decode cX6_init 20 = .ok (.invokespecial 9, 3) := by decide +kernel
theorem dX6_init_23 : decode cX6_init 23 = .ok (.putfield 16, 3) := by decide +kernel
theorem dX6_init_26 : decode cX6_init 26 = .ok (.aload_n 0, 1) := by decide +kernel
theorem dX6_init_27 : decode cX6_init 27 = .ok (.new 19, 3) := by decide +kernel
theorem dX6_init_30 : decode cX6_init 30 = .ok (.dup, 1) := by decide +kernel
theorem dX6_init_31 : decode cX6_init 31 = .ok (.invokespecial 21, 3) := by decide +kernel
theorem dX6_init_34 : decode cX6_init 34 = .ok (.putfield 22, 3) := by decide +kernel
theorem dX6_init_37 : decode cX6_init 37 = .ok (.aload_n 0, 1) := by decide +kernel
theorem dX6_init_38 : decode cX6_init 38 = .ok (.new 26, 3) := by decide +kernel
theorem dX6_init_41 : decode cX6_init 41 = .ok (.dup, 1) := by decide +kernel
theorem dX6_init_42 : decode cX6_init 42 = .ok (.invokespecial 28, 3) := by decide +kernel
theorem dX6_init_45 : decode cX6_init 45 = .ok (.putfield 29, 3) := by decide +kernel
theorem dX6_init_48 : decode cX6_init 48 = .ok (.aload_n 0, 1) := by decide +kernel
theorem dX6_init_49 : decode cX6_init 49 = .ok (.new 33, 3) := by decide +kernel
theorem dX6_init_52 : decode cX6_init 52 = .ok (.dup, 1) := by decide +kernel
theorem dX6_init_53 : decode cX6_init 53 = .ok (.invokespecial 35, 3) := by decide +kernel
theorem dX6_init_56 : decode cX6_init 56 = .ok (.putfield 36, 3) := by decide +kernel
theorem dX6_init_59 : decode cX6_init 59 = .ok (.return_, 1) := by decide +kernel
theorem dX6_set_0 : decode cX6_set 0 = .ok (.aload_n 0, 1) := by decide +kernel
theorem dX6_set_1 : decode cX6_set 1 = .ok (.getfield 22, 3) := by decide +kernel
theorem dX6_set_4 : decode cX6_set 4 = .ok (.aload_n 0, 1) := by decide +kernel
theorem dX6_set_5 : decode cX6_set 5 = .ok (.getfield 10, 3) := by decide +kernel
theorem dX6_set_8 : decode cX6_set 8 = .ok (.invokevirtual 40, 3) := by decide +kernel
theorem dX6_set_11 : decode cX6_set 11 = .ok (.aload_n 0, 1) := by decide +kernel
theorem dX6_set_12 : decode cX6_set 12 = .ok (.getfield 22, 3) := by decide +kernel
theorem dX6_set_15 : decode cX6_set 15 = .ok (.aload_n 0, 1) := by decide +kernel
theorem dX6_set_16 : decode cX6_set 16 = .ok (.getfield 10, 3) := by decide +kernel
theorem dX6_set_19 : decode cX6_set 19 = .ok (.iload_n 1, 1) := by decide +kernel
theorem dX6_set_20 : decode cX6_set 20 = .ok (.iload_n 2, 1) := by decide +kernel
theorem dX6_set_21 : decode cX6_set 21 = .ok (.invokevirtual 44, 3) := by decide +kernel
theorem dX6_set_24 : decode cX6_set 24 = .ok (.invokevirtual 48, 3) := by decide +kernel
theorem dX6_set_27 : decode cX6_set 27 = .ok (.ireturn, 1) := by decide +kernel
theorem dX6_setWay_0 : decode cX6_setWay 0 = .ok (.aload_n 0, 1) := by decide +kernel
theorem dX6_setWay_1 : decode cX6_setWay 1 = .ok (.getfield 22, 3) := by decide +kernel
theorem dX6_setWay_4 : decode cX6_setWay 4 = .ok (.aload_n 0, 1) := by decide +kernel
theorem dX6_setWay_5 : decode cX6_setWay 5 = .ok (.getfield 10, 3) := by decide +kernel
theorem dX6_setWay_8 : decode cX6_setWay 8 = .ok (.invokevirtual 40, 3) := by decide +kernel
theorem dX6_setWay_11 : decode cX6_setWay 11 = .ok (.aload_n 0, 1) := by decide +kernel
theorem dX6_setWay_12 : decode cX6_setWay 12 = .ok (.getfield 22, 3) := by decide +kernel
theorem dX6_setWay_15 : decode cX6_setWay 15 = .ok (.aload_n 0, 1) := by decide +kernel
theorem dX6_setWay_16 : decode cX6_setWay 16 = .ok (.getfield 10, 3) := by decide +kernel
theorem dX6_setWay_19 : decode cX6_setWay 19 = .ok (.iload_n 1, 1) := by decide +kernel
theorem dX6_setWay_20 : decode cX6_setWay 20 = .ok (.invokevirtual 52, 3) := by decide +kernel
theorem dX6_setWay_23 : decode cX6_setWay 23 = .ok (.invokevirtual 48, 3) := by decide +kernel
theorem dX6_setWay_26 : decode cX6_setWay 26 = .ok (.ireturn, 1) := by decide +kernel
theorem dX6_addSpares_0 : decode cX6_addSpares 0 = .ok (.aload_n 0, 1) := by decide +kernel
theorem dX6_addSpares_1 : decode cX6_addSpares 1 = .ok (.getfield 22, 3) := by decide +kernel
theorem dX6_addSpares_4 : decode cX6_addSpares 4 = .ok (.aload_n 0, 1) := by decide +kernel
theorem dX6_addSpares_5 : decode cX6_addSpares 5 = .ok (.getfield 10, 3) := by decide +kernel
theorem dX6_addSpares_8 : decode cX6_addSpares 8 = .ok (.invokevirtual 40, 3) := by decide +kernel
theorem dX6_addSpares_11 : decode cX6_addSpares 11 = .ok (.aload_n 0, 1) := by decide +kernel
theorem dX6_addSpares_12 : decode cX6_addSpares 12 = .ok (.getfield 22, 3) := by decide +kernel
theorem dX6_addSpares_15 : decode cX6_addSpares 15 = .ok (.aload_n 0, 1) := by decide +kernel
theorem dX6_addSpares_16 : decode cX6_addSpares 16 = .ok (.getfield 10, 3) := by decide +kernel
theorem dX6_addSpares_19 : decode cX6_addSpares 19 = .ok (.iload_n 1, 1) := by decide +kernel
theorem dX6_addSpares_20 : decode cX6_addSpares 20 = .ok (.invokevirtual 55, 3) := by decide +kernel
theorem dX6_addSpares_23 : decode cX6_addSpares 23 = .ok (.invokevirtual 48, 3) := by decide +kernel
theorem dX6_addSpares_26 : decode cX6_addSpares 26 = .ok (.ireturn, 1) := by decide +kernel
theorem dX6_spot_0 : decode cX6_spot 0 = .ok (.aload_n 0, 1) := by decide +kernel
theorem dX6_spot_1 : decode cX6_spot 1 = .ok (.getfield 22, 3) := by decide +kernel
theorem dX6_spot_4 : decode cX6_spot 4 = .ok (.aload_n 0, 1) := by decide +kernel
theorem dX6_spot_5 : decode cX6_spot 5 = .ok (.getfield 10, 3) := by decide +kernel
theorem dX6_spot_8 : decode cX6_spot 8 = .ok (.invokevirtual 40, 3) := by decide +kernel
theorem dX6_spot_11 : decode cX6_spot 11 = .ok (.aload_n 0, 1) := by decide +kernel
theorem dX6_spot_12 : decode cX6_spot 12 = .ok (.getfield 22, 3) := by decide +kernel
theorem dX6_spot_15 : decode cX6_spot 15 = .ok (.aload_n 0, 1) := by decide +kernel
theorem dX6_spot_16 : decode cX6_spot 16 = .ok (.getfield 10, 3) := by decide +kernel
theorem dX6_spot_19 : decode cX6_spot 19 = .ok (.iload_n 1, 1) := by decide +kernel
theorem dX6_spot_20 : decode cX6_spot 20 = .ok (.iload_n 2, 1) := by decide +kernel
theorem dX6_spot_21 : decode cX6_spot 21 = .ok (.invokevirtual 58, 3) := by decide +kernel
theorem dX6_spot_24 : decode cX6_spot 24 = .ok (.invokevirtual 48, 3) := by decide +kernel
theorem dX6_spot_27 : decode cX6_spot 27 = .ok (.ireturn, 1) := by decide +kernel
theorem dX6_ask_0 : decode cX6_ask 0 = .ok (.aload_n 0, 1) := by decide +kernel
theorem dX6_ask_1 : decode cX6_ask 1 = .ok (.getfield 22, 3) := by decide +kernel
theorem dX6_ask_4 : decode cX6_ask 4 = .ok (.aload_n 0, 1) := by decide +kernel
theorem dX6_ask_5 : decode cX6_ask 5 = .ok (.getfield 10, 3) := by decide +kernel
theorem dX6_ask_8 : decode cX6_ask 8 = .ok (.invokevirtual 40, 3) := by decide +kernel
theorem dX6_ask_11 : decode cX6_ask 11 = .ok (.aload_n 0, 1) := by decide +kernel
theorem dX6_ask_12 : decode cX6_ask 12 = .ok (.getfield 22, 3) := by decide +kernel
theorem dX6_ask_15 : decode cX6_ask 15 = .ok (.aload_n 0, 1) := by decide +kernel
theorem dX6_ask_16 : decode cX6_ask 16 = .ok (.getfield 10, 3) := by decide +kernel
theorem dX6_ask_19 : decode cX6_ask 19 = .ok (.iload_n 1, 1) := by decide +kernel
theorem dX6_ask_20 : decode cX6_ask 20 = .ok (.invokevirtual 61, 3) := by decide +kernel
theorem dX6_ask_23 : decode cX6_ask 23 = .ok (.invokevirtual 48, 3) := by decide +kernel
theorem dX6_ask_26 : decode cX6_ask 26 = .ok (.ireturn, 1) := by decide +kernel
theorem dX6_unask_0 : decode cX6_unask 0 = .ok (.aload_n 0, 1) := by decide +kernel
theorem dX6_unask_1 : decode cX6_unask 1 = .ok (.getfield 22, 3) := by decide +kernel
theorem dX6_unask_4 : decode cX6_unask 4 = .ok (.aload_n 0, 1) := by decide +kernel
theorem dX6_unask_5 : decode cX6_unask 5 = .ok (.getfield 10, 3) := by decide +kernel
theorem dX6_unask_8 : decode cX6_unask 8 = .ok (.invokevirtual 40, 3) := by decide +kernel
theorem dX6_unask_11 : decode cX6_unask 11 = .ok (.aload_n 0, 1) := by decide +kernel
theorem dX6_unask_12 : decode cX6_unask 12 = .ok (.getfield 22, 3) := by decide +kernel
theorem dX6_unask_15 : decode cX6_unask 15 = .ok (.aload_n 0, 1) := by decide +kernel
theorem dX6_unask_16 : decode cX6_unask 16 = .ok (.getfield 10, 3) := by decide +kernel
theorem dX6_unask_19 : decode cX6_unask 19 = .ok (.iload_n 1, 1) := by decide +kernel
theorem dX6_unask_20 : decode cX6_unask 20 = .ok (.invokevirtual 64, 3) := by decide +kernel
theorem dX6_unask_23 : decode cX6_unask 23 = .ok (.invokevirtual 48, 3) := by decide +kernel
theorem dX6_unask_26 : decode cX6_unask 26 = .ok (.ireturn, 1) := by decide +kernel
theorem dX6_read_0 : decode cX6_read 0 = .ok (.aload_n 0, 1) := by decide +kernel
theorem dX6_read_1 : decode cX6_read 1 = .ok (.getfield 22, 3) := by decide +kernel
theorem dX6_read_4 : decode cX6_read 4 = .ok (.aload_n 0, 1) := by decide +kernel
theorem dX6_read_5 : decode cX6_read 5 = .ok (.getfield 10, 3) := by decide +kernel
theorem dX6_read_8 : decode cX6_read 8 = .ok (.invokevirtual 40, 3) := by decide +kernel
theorem dX6_read_11 : decode cX6_read 11 = .ok (.aload_n 0, 1) := by decide +kernel
theorem dX6_read_12 : decode cX6_read 12 = .ok (.getfield 22, 3) := by decide +kernel
theorem dX6_read_15 : decode cX6_read 15 = .ok (.aload_n 0, 1) := by decide +kernel
theorem dX6_read_16 : decode cX6_read 16 = .ok (.getfield 10, 3) := by decide +kernel
theorem dX6_read_19 : decode cX6_read 19 = .ok (.iload_n 1, 1) := by decide +kernel
theorem dX6_read_20 : decode cX6_read 20 = .ok (.iload_n 2, 1) := by decide +kernel
theorem dX6_read_21 : decode cX6_read 21 = .ok (.invokevirtual 67, 3) := by decide +kernel
theorem dX6_read_24 : decode cX6_read 24 = .ok (.invokevirtual 48, 3) := by decide +kernel
theorem dX6_read_27 : decode cX6_read 27 = .ok (.ireturn, 1) := by decide +kernel
theorem dX6_quiet_0 : decode cX6_quiet 0 = .ok (.aload_n 0, 1) := by decide +kernel
theorem dX6_quiet_1 : decode cX6_quiet 1 = .ok (.getfield 22, 3) := by decide +kernel
theorem dX6_quiet_4 : decode cX6_quiet 4 = .ok (.aload_n 0, 1) := by decide +kernel
theorem dX6_quiet_5 : decode cX6_quiet 5 = .ok (.getfield 10, 3) := by decide +kernel
theorem dX6_quiet_8 : decode cX6_quiet 8 = .ok (.invokevirtual 40, 3) := by decide +kernel
theorem dX6_quiet_11 : decode cX6_quiet 11 = .ok (.aload_n 0, 1) := by decide +kernel
theorem dX6_quiet_12 : decode cX6_quiet 12 = .ok (.getfield 22, 3) := by decide +kernel
theorem dX6_quiet_15 : decode cX6_quiet 15 = .ok (.aload_n 0, 1) := by decide +kernel
theorem dX6_quiet_16 : decode cX6_quiet 16 = .ok (.getfield 10, 3) := by decide +kernel
theorem dX6_quiet_19 : decode cX6_quiet 19 = .ok (.iload_n 1, 1) := by decide +kernel
theorem dX6_quiet_20 : decode cX6_quiet 20 = .ok (.invokevirtual 70, 3) := by decide +kernel
theorem dX6_quiet_23 : decode cX6_quiet 23 = .ok (.invokevirtual 48, 3) := by decide +kernel
theorem dX6_quiet_26 : decode cX6_quiet 26 = .ok (.ireturn, 1) := by decide +kernel
theorem dX6_giveUp_0 : decode cX6_giveUp 0 = .ok (.aload_n 0, 1) := by decide +kernel
theorem dX6_giveUp_1 : decode cX6_giveUp 1 = .ok (.getfield 22, 3) := by decide +kernel
theorem dX6_giveUp_4 : decode cX6_giveUp 4 = .ok (.aload_n 0, 1) := by decide +kernel
theorem dX6_giveUp_5 : decode cX6_giveUp 5 = .ok (.getfield 10, 3) := by decide +kernel
theorem dX6_giveUp_8 : decode cX6_giveUp 8 = .ok (.invokevirtual 40, 3) := by decide +kernel
theorem dX6_giveUp_11 : decode cX6_giveUp 11 = .ok (.aload_n 0, 1) := by decide +kernel
theorem dX6_giveUp_12 : decode cX6_giveUp 12 = .ok (.getfield 22, 3) := by decide +kernel
theorem dX6_giveUp_15 : decode cX6_giveUp 15 = .ok (.aload_n 0, 1) := by decide +kernel
theorem dX6_giveUp_16 : decode cX6_giveUp 16 = .ok (.getfield 10, 3) := by decide +kernel
theorem dX6_giveUp_19 : decode cX6_giveUp 19 = .ok (.invokevirtual 73, 3) := by decide +kernel
theorem dX6_giveUp_22 : decode cX6_giveUp 22 = .ok (.invokevirtual 48, 3) := by decide +kernel
theorem dX6_giveUp_25 : decode cX6_giveUp 25 = .ok (.ireturn, 1) := by decide +kernel
theorem dX6_count_0 : decode cX6_count 0 = .ok (.iload_n 1, 1) := by decide +kernel
theorem dX6_count_1 : decode cX6_count 1 = .ok (.ifCond .lt 9, 3) := by decide +kernel
theorem dX6_count_4 : decode cX6_count 4 = .ok (.iload_n 1, 1) := by decide +kernel
theorem dX6_count_5 : decode cX6_count 5 = .ok (.bipush 13, 2) := by decide +kernel
theorem dX6_count_7 : decode cX6_count 7 = .ok (.if_icmp .lt 6, 3) := by decide +kernel
theorem dX6_count_10 : decode cX6_count 10 = .ok (.bipush (-2), 2) := by decide +kernel
theorem dX6_count_12 : decode cX6_count 12 = .ok (.ireturn, 1) := by decide +kernel
theorem dX6_count_13 : decode cX6_count 13 = .ok (.aload_n 0, 1) := by decide +kernel
theorem dX6_count_14 : decode cX6_count 14 = .ok (.getfield 10, 3) := by decide +kernel
theorem dX6_count_17 : decode cX6_count 17 = .ok (.iload_n 1, 1) := by decide +kernel
theorem dX6_count_18 : decode cX6_count 18 = .ok (.invokevirtual 77, 3) := by decide +kernel
theorem dX6_count_21 : decode cX6_count 21 = .ok (.ireturn, 1) := by decide +kernel
theorem dX6_setting_0 : decode cX6_setting 0 = .ok (.iload_n 1, 1) := by decide +kernel
theorem dX6_setting_1 : decode cX6_setting 1 = .ok (.invokestatic 80, 3) := by decide +kernel
theorem dX6_setting_4 : decode cX6_setting 4 = .ok (.ifCond .ne 5, 3) := by decide +kernel
theorem dX6_setting_7 : decode cX6_setting 7 = .ok (.iconst (-1), 1) := by decide +kernel
theorem dX6_setting_8 : decode cX6_setting 8 = .ok (.ireturn, 1) := by decide +kernel
theorem dX6_setting_9 : decode cX6_setting 9 = .ok (.aload_n 0, 1) := by decide +kernel
theorem dX6_setting_10 : decode cX6_setting 10 = .ok (.getfield 10, 3) := by decide +kernel
theorem dX6_setting_13 : decode cX6_setting 13 = .ok (.getfield 84, 3) := by decide +kernel
theorem dX6_setting_16 : decode cX6_setting 16 = .ok (.iload_n 1, 1) := by decide +kernel
theorem dX6_setting_17 : decode cX6_setting 17 = .ok (.iaload, 1) := by decide +kernel
theorem dX6_setting_18 : decode cX6_setting 18 = .ok (.ireturn, 1) := by decide +kernel
theorem dX6_span_0 : decode cX6_span 0 = .ok (.iload_n 1, 1) := by decide +kernel
theorem dX6_span_1 : decode cX6_span 1 = .ok (.invokestatic 88, 3) := by decide +kernel
theorem dX6_span_4 : decode cX6_span 4 = .ok (.ifCond .ne 5, 3) := by decide +kernel
theorem dX6_span_7 : decode cX6_span 7 = .ok (.iconst (-1), 1) := by decide +kernel
theorem dX6_span_8 : decode cX6_span 8 = .ok (.ireturn, 1) := by decide +kernel
theorem dX6_span_9 : decode cX6_span 9 = .ok (.iload_n 2, 1) := by decide +kernel
theorem dX6_span_10 : decode cX6_span 10 = .ok (.ifCond .lt 9, 3) := by decide +kernel
theorem dX6_span_13 : decode cX6_span 13 = .ok (.iload_n 2, 1) := by decide +kernel
theorem dX6_span_14 : decode cX6_span 14 = .ok (.bipush 7, 2) := by decide +kernel
theorem dX6_span_16 : decode cX6_span 16 = .ok (.if_icmp .lt 6, 3) := by decide +kernel
theorem dX6_span_19 : decode cX6_span 19 = .ok (.bipush (-2), 2) := by decide +kernel
theorem dX6_span_21 : decode cX6_span 21 = .ok (.ireturn, 1) := by decide +kernel
theorem dX6_span_22 : decode cX6_span 22 = .ok (.aload_n 0, 1) := by decide +kernel
theorem dX6_span_23 : decode cX6_span 23 = .ok (.getfield 10, 3) := by decide +kernel
theorem dX6_span_26 : decode cX6_span 26 = .ok (.iload_n 1, 1) := by decide +kernel
theorem dX6_span_27 : decode cX6_span 27 = .ok (.iload_n 2, 1) := by decide +kernel
theorem dX6_span_28 : decode cX6_span 28 = .ok (.invokevirtual 91, 3) := by decide +kernel
theorem dX6_span_31 : decode cX6_span 31 = .ok (.ireturn, 1) := by decide +kernel
theorem dX6_tries_0 : decode cX6_tries 0 = .ok (.iload_n 1, 1) := by decide +kernel
theorem dX6_tries_1 : decode cX6_tries 1 = .ok (.invokestatic 88, 3) := by decide +kernel
theorem dX6_tries_4 : decode cX6_tries 4 = .ok (.ifCond .ne 5, 3) := by decide +kernel
theorem dX6_tries_7 : decode cX6_tries 7 = .ok (.iconst (-1), 1) := by decide +kernel
theorem dX6_tries_8 : decode cX6_tries 8 = .ok (.ireturn, 1) := by decide +kernel
theorem dX6_tries_9 : decode cX6_tries 9 = .ok (.aload_n 0, 1) := by decide +kernel
theorem dX6_tries_10 : decode cX6_tries 10 = .ok (.getfield 10, 3) := by decide +kernel
theorem dX6_tries_13 : decode cX6_tries 13 = .ok (.getfield 94, 3) := by decide +kernel
theorem dX6_tries_16 : decode cX6_tries 16 = .ok (.iload_n 1, 1) := by decide +kernel
theorem dX6_tries_17 : decode cX6_tries 17 = .ok (.iload_n 2, 1) := by decide +kernel
theorem dX6_tries_18 : decode cX6_tries 18 = .ok (.invokevirtual 98, 3) := by decide +kernel
theorem dX6_tries_21 : decode cX6_tries 21 = .ok (.ireturn, 1) := by decide +kernel
theorem dX6_entries_0 : decode cX6_entries 0 = .ok (.aload_n 0, 1) := by decide +kernel
theorem dX6_entries_1 : decode cX6_entries 1 = .ok (.getfield 10, 3) := by decide +kernel
theorem dX6_entries_4 : decode cX6_entries 4 = .ok (.getfield 103, 3) := by decide +kernel
theorem dX6_entries_7 : decode cX6_entries 7 = .ok (.getfield 107, 3) := by decide +kernel
theorem dX6_entries_10 : decode cX6_entries 10 = .ok (.ireturn, 1) := by decide +kernel
theorem dX6_entry_0 : decode cX6_entry 0 = .ok (.aload_n 0, 1) := by decide +kernel
theorem dX6_entry_1 : decode cX6_entry 1 = .ok (.getfield 10, 3) := by decide +kernel
theorem dX6_entry_4 : decode cX6_entry 4 = .ok (.getfield 103, 3) := by decide +kernel
theorem dX6_entry_7 : decode cX6_entry 7 = .ok (.iload_n 1, 1) := by decide +kernel
theorem dX6_entry_8 : decode cX6_entry 8 = .ok (.invokevirtual 113, 3) := by decide +kernel
theorem dX6_entry_11 : decode cX6_entry 11 = .ok (.ifCond .ne 5, 3) := by decide +kernel
theorem dX6_entry_14 : decode cX6_entry 14 = .ok (.iconst (-1), 1) := by decide +kernel
theorem dX6_entry_15 : decode cX6_entry 15 = .ok (.ireturn, 1) := by decide +kernel
theorem dX6_entry_16 : decode cX6_entry 16 = .ok (.iload_n 2, 1) := by decide +kernel
theorem dX6_entry_17 : decode cX6_entry 17 = .ok (.ifCond .lt 8, 3) := by decide +kernel
theorem dX6_entry_20 : decode cX6_entry 20 = .ok (.iload_n 2, 1) := by decide +kernel
theorem dX6_entry_21 : decode cX6_entry 21 = .ok (.iconst 4, 1) := by decide +kernel
theorem dX6_entry_22 : decode cX6_entry 22 = .ok (.if_icmp .lt 6, 3) := by decide +kernel
theorem dX6_entry_25 : decode cX6_entry 25 = .ok (.bipush (-2), 2) := by decide +kernel
theorem dX6_entry_27 : decode cX6_entry 27 = .ok (.ireturn, 1) := by decide +kernel
theorem dX6_entry_28 : decode cX6_entry 28 = .ok (.iload_n 2, 1) := by decide +kernel
theorem dX6_entry_29 : decode cX6_entry 29 = .ok (.tableswitch 63 0 2 #[27, 39, 51], 27) := by decide +kernel
theorem dX6_entry_56 : decode cX6_entry 56 = .ok (.aload_n 0, 1) := by decide +kernel
theorem dX6_entry_57 : decode cX6_entry 57 = .ok (.getfield 10, 3) := by decide +kernel
theorem dX6_entry_60 : decode cX6_entry 60 = .ok (.getfield 103, 3) := by decide +kernel
theorem dX6_entry_63 : decode cX6_entry 63 = .ok (.iload_n 1, 1) := by decide +kernel
theorem dX6_entry_64 : decode cX6_entry 64 = .ok (.invokevirtual 116, 3) := by decide +kernel
theorem dX6_entry_67 : decode cX6_entry 67 = .ok (.ireturn, 1) := by decide +kernel
theorem dX6_entry_68 : decode cX6_entry 68 = .ok (.aload_n 0, 1) := by decide +kernel
theorem dX6_entry_69 : decode cX6_entry 69 = .ok (.getfield 10, 3) := by decide +kernel
theorem dX6_entry_72 : decode cX6_entry 72 = .ok (.getfield 103, 3) := by decide +kernel
theorem dX6_entry_75 : decode cX6_entry 75 = .ok (.iload_n 1, 1) := by decide +kernel
theorem dX6_entry_76 : decode cX6_entry 76 = .ok (.invokevirtual 119, 3) := by decide +kernel
theorem dX6_entry_79 : decode cX6_entry 79 = .ok (.ireturn, 1) := by decide +kernel
theorem dX6_entry_80 : decode cX6_entry 80 = .ok (.aload_n 0, 1) := by decide +kernel
theorem dX6_entry_81 : decode cX6_entry 81 = .ok (.getfield 10, 3) := by decide +kernel
theorem dX6_entry_84 : decode cX6_entry 84 = .ok (.getfield 103, 3) := by decide +kernel
theorem dX6_entry_87 : decode cX6_entry 87 = .ok (.iload_n 1, 1) := by decide +kernel
theorem dX6_entry_88 : decode cX6_entry 88 = .ok (.invokevirtual 122, 3) := by decide +kernel
theorem dX6_entry_91 : decode cX6_entry 91 = .ok (.ireturn, 1) := by decide +kernel
theorem dX6_entry_92 : decode cX6_entry 92 = .ok (.aload_n 0, 1) := by decide +kernel
theorem dX6_entry_93 : decode cX6_entry 93 = .ok (.iload_n 1, 1) := by decide +kernel
theorem dX6_entry_94 : decode cX6_entry 94 = .ok (.invokevirtual 125, 3) := by decide +kernel
theorem dX6_entry_97 : decode cX6_entry 97 = .ok (.aload_n 0, 1) := by decide +kernel
theorem dX6_entry_98 : decode cX6_entry 98 = .ok (.getfield 36, 3) := by decide +kernel
theorem dX6_entry_101 : decode cX6_entry 101 = .ok (.invokevirtual 129, 3) := by decide +kernel
theorem dX6_entry_104 : decode cX6_entry 104 = .ok (.ireturn, 1) := by decide +kernel
theorem dX6_lineAt_0 : decode cX6_lineAt 0 = .ok (.aload_n 0, 1) := by decide +kernel
theorem dX6_lineAt_1 : decode cX6_lineAt 1 = .ok (.getfield 10, 3) := by decide +kernel
theorem dX6_lineAt_4 : decode cX6_lineAt 4 = .ok (.getfield 103, 3) := by decide +kernel
theorem dX6_lineAt_7 : decode cX6_lineAt 7 = .ok (.iload_n 1, 1) := by decide +kernel
theorem dX6_lineAt_8 : decode cX6_lineAt 8 = .ok (.invokevirtual 113, 3) := by decide +kernel
theorem dX6_lineAt_11 : decode cX6_lineAt 11 = .ok (.ifCond .ne 5, 3) := by decide +kernel
theorem dX6_lineAt_14 : decode cX6_lineAt 14 = .ok (.iconst (-1), 1) := by decide +kernel
theorem dX6_lineAt_15 : decode cX6_lineAt 15 = .ok (.ireturn, 1) := by decide +kernel
theorem dX6_lineAt_16 : decode cX6_lineAt 16 = .ok (.aload_n 0, 1) := by decide +kernel
theorem dX6_lineAt_17 : decode cX6_lineAt 17 = .ok (.iload_n 1, 1) := by decide +kernel
theorem dX6_lineAt_18 : decode cX6_lineAt 18 = .ok (.invokevirtual 125, 3) := by decide +kernel
theorem dX6_lineAt_21 : decode cX6_lineAt 21 = .ok (.iload_n 2, 1) := by decide +kernel
theorem dX6_lineAt_22 : decode cX6_lineAt 22 = .ok (.ifCond .lt 14, 3) := by decide +kernel
theorem dX6_lineAt_25 : decode cX6_lineAt 25 = .ok (.iload_n 2, 1) := by decide +kernel
theorem dX6_lineAt_26 : decode cX6_lineAt 26 = .ok (.aload_n 0, 1) := by decide +kernel
theorem dX6_lineAt_27 : decode cX6_lineAt 27 = .ok (.getfield 36, 3) := by decide +kernel
theorem dX6_lineAt_30 : decode cX6_lineAt 30 = .ok (.invokevirtual 129, 3) := by decide +kernel
theorem dX6_lineAt_33 : decode cX6_lineAt 33 = .ok (.if_icmp .lt 5, 3) := by decide +kernel
theorem dX6_lineAt_36 : decode cX6_lineAt 36 = .ok (.iconst (-1), 1) := by decide +kernel
theorem dX6_lineAt_37 : decode cX6_lineAt 37 = .ok (.ireturn, 1) := by decide +kernel
theorem dX6_lineAt_38 : decode cX6_lineAt 38 = .ok (.aload_n 0, 1) := by decide +kernel
theorem dX6_lineAt_39 : decode cX6_lineAt 39 = .ok (.getfield 36, 3) := by decide +kernel
theorem dX6_lineAt_42 : decode cX6_lineAt 42 = .ok (.iload_n 2, 1) := by decide +kernel
theorem dX6_lineAt_43 : decode cX6_lineAt 43 = .ok (.invokevirtual 132, 3) := by decide +kernel
theorem dX6_lineAt_46 : decode cX6_lineAt 46 = .ok (.ireturn, 1) := by decide +kernel
theorem dX6_overdue_0 : decode cX6_overdue 0 = .ok (.aload_n 0, 1) := by decide +kernel
theorem dX6_overdue_1 : decode cX6_overdue 1 = .ok (.getfield 10, 3) := by decide +kernel
theorem dX6_overdue_4 : decode cX6_overdue 4 = .ok (.invokevirtual 136, 3) := by decide +kernel
theorem dX6_overdue_7 : decode cX6_overdue 7 = .ok (.ireturn, 1) := by decide +kernel
theorem dX6_nextCheck_0 : decode cX6_nextCheck 0 = .ok (.aload_n 0, 1) := by decide +kernel
theorem dX6_nextCheck_1 : decode cX6_nextCheck 1 = .ok (.getfield 10, 3) := by decide +kernel
theorem dX6_nextCheck_4 : decode cX6_nextCheck 4 = .ok (.invokevirtual 139, 3) := by decide +kernel
theorem dX6_nextCheck_7 : decode cX6_nextCheck 7 = .ok (.ireturn, 1) := by decide +kernel
theorem dX6_checkedIn_0 : decode cX6_checkedIn 0 = .ok (.iload_n 1, 1) := by decide +kernel
theorem dX6_checkedIn_1 : decode cX6_checkedIn 1 = .ok (.invokestatic 88, 3) := by decide +kernel
theorem dX6_checkedIn_4 : decode cX6_checkedIn 4 = .ok (.ifCond .ne 5, 3) := by decide +kernel
theorem dX6_checkedIn_7 : decode cX6_checkedIn 7 = .ok (.iconst (-1), 1) := by decide +kernel
theorem dX6_checkedIn_8 : decode cX6_checkedIn 8 = .ok (.ireturn, 1) := by decide +kernel
theorem dX6_checkedIn_9 : decode cX6_checkedIn 9 = .ok (.aload_n 0, 1) := by decide +kernel
theorem dX6_checkedIn_10 : decode cX6_checkedIn 10 = .ok (.getfield 16, 3) := by decide +kernel
theorem dX6_checkedIn_13 : decode cX6_checkedIn 13 = .ok (.aload_n 0, 1) := by decide +kernel
theorem dX6_checkedIn_14 : decode cX6_checkedIn 14 = .ok (.getfield 10, 3) := by decide +kernel
theorem dX6_checkedIn_17 : decode cX6_checkedIn 17 = .ok (.invokevirtual 142, 3) := by decide +kernel
theorem dX6_checkedIn_20 : decode cX6_checkedIn 20 = .ok (.iconst 1, 1) := by decide +kernel
theorem dX6_checkedIn_21 : decode cX6_checkedIn 21 = .ok (.istore_n 2, 1) := by decide +kernel
theorem dX6_checkedIn_22 : decode cX6_checkedIn 22 = .ok (.iload_n 2, 1) := by decide +kernel
theorem dX6_checkedIn_23 : decode cX6_checkedIn 23 = .ok (.sipush 3000, 3) := by decide +kernel
theorem dX6_checkedIn_26 : decode cX6_checkedIn 26 = .ok (.if_icmp .gt 22, 3) := by decide +kernel
theorem dX6_checkedIn_29 : decode cX6_checkedIn 29 = .ok (.aload_n 0, 1) := by decide +kernel
theorem dX6_checkedIn_30 : decode cX6_checkedIn 30 = .ok (.getfield 16, 3) := by decide +kernel
theorem dX6_checkedIn_33 : decode cX6_checkedIn 33 = .ok (.invokevirtual 145, 3) := by decide +kernel
theorem dX6_checkedIn_36 : decode cX6_checkedIn 36 = .ok (.iload_n 1, 1) := by decide +kernel
theorem dX6_checkedIn_37 : decode cX6_checkedIn 37 = .ok (.if_icmp .ne 5, 3) := by decide +kernel
theorem dX6_checkedIn_40 : decode cX6_checkedIn 40 = .ok (.iload_n 2, 1) := by decide +kernel
theorem dX6_checkedIn_41 : decode cX6_checkedIn 41 = .ok (.ireturn, 1) := by decide +kernel
theorem dX6_checkedIn_42 : decode cX6_checkedIn 42 = .ok (.iinc 2 1, 3) := by decide +kernel
theorem dX6_checkedIn_45 : decode cX6_checkedIn 45 = .ok (.goto (-23), 3) := by decide +kernel
theorem dX6_checkedIn_48 : decode cX6_checkedIn 48 = .ok (.bipush (-6), 2) := by decide +kernel
theorem dX6_checkedIn_50 : decode cX6_checkedIn 50 = .ok (.ireturn, 1) := by decide +kernel
theorem dX6_ifQuiet_0 : decode cX6_ifQuiet 0 = .ok (.iload_n 1, 1) := by decide +kernel
theorem dX6_ifQuiet_1 : decode cX6_ifQuiet 1 = .ok (.ifCond .lt 10, 3) := by decide +kernel
theorem dX6_ifQuiet_4 : decode cX6_ifQuiet 4 = .ok (.iload_n 1, 1) := by decide +kernel
theorem dX6_ifQuiet_5 : decode cX6_ifQuiet 5 = .ok (.sipush 3000, 3) := by decide +kernel
theorem dX6_ifQuiet_8 : decode cX6_ifQuiet 8 = .ok (.if_icmp .le 6, 3) := by decide +kernel
theorem dX6_ifQuiet_11 : decode cX6_ifQuiet 11 = .ok (.bipush (-2), 2) := by decide +kernel
theorem dX6_ifQuiet_13 : decode cX6_ifQuiet 13 = .ok (.ireturn, 1) := by decide +kernel
theorem dX6_ifQuiet_14 : decode cX6_ifQuiet 14 = .ok (.aload_n 0, 1) := by decide +kernel
theorem dX6_ifQuiet_15 : decode cX6_ifQuiet 15 = .ok (.iload_n 1, 1) := by decide +kernel
theorem dX6_ifQuiet_16 : decode cX6_ifQuiet 16 = .ok (.aload_n 0, 1) := by decide +kernel
theorem dX6_ifQuiet_17 : decode cX6_ifQuiet 17 = .ok (.getfield 10, 3) := by decide +kernel
theorem dX6_ifQuiet_20 : decode cX6_ifQuiet 20 = .ok (.getfield 148, 3) := by decide +kernel
theorem dX6_ifQuiet_23 : decode cX6_ifQuiet 23 = .ok (.invokevirtual 151, 3) := by decide +kernel
theorem dX6_ifQuiet_26 : decode cX6_ifQuiet 26 = .ok (.ireturn, 1) := by decide +kernel
theorem dX6_bestWay_0 : decode cX6_bestWay 0 = .ok (.iload_n 1, 1) := by decide +kernel
theorem dX6_bestWay_1 : decode cX6_bestWay 1 = .ok (.ifCond .lt 10, 3) := by decide +kernel
theorem dX6_bestWay_4 : decode cX6_bestWay 4 = .ok (.iload_n 1, 1) := by decide +kernel
theorem dX6_bestWay_5 : decode cX6_bestWay 5 = .ok (.sipush 3000, 3) := by decide +kernel
theorem dX6_bestWay_8 : decode cX6_bestWay 8 = .ok (.if_icmp .le 6, 3) := by decide +kernel
theorem dX6_bestWay_11 : decode cX6_bestWay 11 = .ok (.bipush (-2), 2) := by decide +kernel
theorem dX6_bestWay_13 : decode cX6_bestWay 13 = .ok (.ireturn, 1) := by decide +kernel
theorem dX6_bestWay_14 : decode cX6_bestWay 14 = .ok (.iconst 0, 1) := by decide +kernel
theorem dX6_bestWay_15 : decode cX6_bestWay 15 = .ok (.istore_n 2, 1) := by decide +kernel
theorem dX6_bestWay_16 : decode cX6_bestWay 16 = .ok (.aload_n 0, 1) := by decide +kernel
theorem dX6_bestWay_17 : decode cX6_bestWay 17 = .ok (.iload_n 1, 1) := by decide +kernel
theorem dX6_bestWay_18 : decode cX6_bestWay 18 = .ok (.iload_n 2, 1) := by decide +kernel
theorem dX6_bestWay_19 : decode cX6_bestWay 19 = .ok (.invokevirtual 151, 3) := by decide +kernel
theorem dX6_bestWay_22 : decode cX6_bestWay 22 = .ok (.istore_n 3, 1) := by decide +kernel
theorem dX6_bestWay_23 : decode cX6_bestWay 23 = .ok (.iconst 1, 1) := by decide +kernel
theorem dX6_bestWay_24 : decode cX6_bestWay 24 = .ok (.istore 4, 2) := by decide +kernel
theorem dX6_bestWay_26 : decode cX6_bestWay 26 = .ok (.iload 4, 2) := by decide +kernel
theorem dX6_bestWay_28 : decode cX6_bestWay 28 = .ok (.iconst 3, 1) := by decide +kernel
theorem dX6_bestWay_29 : decode cX6_bestWay 29 = .ok (.if_icmp .ge 30, 3) := by decide +kernel
theorem dX6_bestWay_32 : decode cX6_bestWay 32 = .ok (.aload_n 0, 1) := by decide +kernel
theorem dX6_bestWay_33 : decode cX6_bestWay 33 = .ok (.iload_n 1, 1) := by decide +kernel
theorem dX6_bestWay_34 : decode cX6_bestWay 34 = .ok (.iload 4, 2) := by decide +kernel
theorem dX6_bestWay_36 : decode cX6_bestWay 36 = .ok (.invokevirtual 151, 3) := by decide +kernel
theorem dX6_bestWay_39 : decode cX6_bestWay 39 = .ok (.istore 5, 2) := by decide +kernel
theorem dX6_bestWay_41 : decode cX6_bestWay 41 = .ok (.iload 5, 2) := by decide +kernel
theorem dX6_bestWay_43 : decode cX6_bestWay 43 = .ok (.iload_n 3, 1) := by decide +kernel
theorem dX6_bestWay_44 : decode cX6_bestWay 44 = .ok (.if_icmp .ge 9, 3) := by decide +kernel
theorem dX6_bestWay_47 : decode cX6_bestWay 47 = .ok (.iload 5, 2) := by decide +kernel
theorem dX6_bestWay_49 : decode cX6_bestWay 49 = .ok (.istore_n 3, 1) := by decide +kernel
theorem dX6_bestWay_50 : decode cX6_bestWay 50 = .ok (.iload 4, 2) := by decide +kernel
theorem dX6_bestWay_52 : decode cX6_bestWay 52 = .ok (.istore_n 2, 1) := by decide +kernel
theorem dX6_bestWay_53 : decode cX6_bestWay 53 = .ok (.iinc 4 1, 3) := by decide +kernel
theorem dX6_bestWay_56 : decode cX6_bestWay 56 = .ok (.goto (-30), 3) := by decide +kernel
theorem dX6_bestWay_59 : decode cX6_bestWay 59 = .ok (.iload_n 2, 1) := by decide +kernel
theorem dX6_bestWay_60 : decode cX6_bestWay 60 = .ok (.ireturn, 1) := by decide +kernel
theorem dX6_type_0 : decode cX6_type 0 = .ok (.aload_n 0, 1) := by decide +kernel
theorem dX6_type_1 : decode cX6_type 1 = .ok (.getfield 29, 3) := by decide +kernel
theorem dX6_type_4 : decode cX6_type 4 = .ok (.iload_n 1, 1) := by decide +kernel
theorem dX6_type_5 : decode cX6_type 5 = .ok (.invokevirtual 154, 3) := by decide +kernel
theorem dX6_type_8 : decode cX6_type 8 = .ok (.ireturn, 1) := by decide +kernel
theorem dX6_clearText_0 : decode cX6_clearText 0 = .ok (.aload_n 0, 1) := by decide +kernel
theorem dX6_clearText_1 : decode cX6_clearText 1 = .ok (.getfield 29, 3) := by decide +kernel
theorem dX6_clearText_4 : decode cX6_clearText 4 = .ok (.invokevirtual 157, 3) := by decide +kernel
theorem dX6_clearText_7 : decode cX6_clearText 7 = .ok (.ireturn, 1) := by decide +kernel
theorem dX6_syntaxError_0 : decode cX6_syntaxError 0 = .ok (.aload_n 0, 1) := by decide +kernel
theorem dX6_syntaxError_1 : decode cX6_syntaxError 1 = .ok (.getfield 29, 3) := by decide +kernel
theorem dX6_syntaxError_4 : decode cX6_syntaxError 4 = .ok (.invokevirtual 160, 3) := by decide +kernel
theorem dX6_syntaxError_7 : decode cX6_syntaxError 7 = .ok (.ireturn, 1) := by decide +kernel
theorem dX6_carryOut_0 : decode cX6_carryOut 0 = .ok (.aload_n 0, 1) := by decide +kernel
theorem dX6_carryOut_1 : decode cX6_carryOut 1 = .ok (.getfield 29, 3) := by decide +kernel
theorem dX6_carryOut_4 : decode cX6_carryOut 4 = .ok (.invokevirtual 160, 3) := by decide +kernel
theorem dX6_carryOut_7 : decode cX6_carryOut 7 = .ok (.bipush (-6), 2) := by decide +kernel
theorem dX6_carryOut_9 : decode cX6_carryOut 9 = .ok (.if_icmp .eq 6, 3) := by decide +kernel
theorem dX6_carryOut_12 : decode cX6_carryOut 12 = .ok (.bipush (-5), 2) := by decide +kernel
theorem dX6_carryOut_14 : decode cX6_carryOut 14 = .ok (.ireturn, 1) := by decide +kernel
theorem dX6_carryOut_15 : decode cX6_carryOut 15 = .ok (.aload_n 0, 1) := by decide +kernel
theorem dX6_carryOut_16 : decode cX6_carryOut 16 = .ok (.getfield 22, 3) := by decide +kernel
theorem dX6_carryOut_19 : decode cX6_carryOut 19 = .ok (.aload_n 0, 1) := by decide +kernel
theorem dX6_carryOut_20 : decode cX6_carryOut 20 = .ok (.getfield 10, 3) := by decide +kernel
theorem dX6_carryOut_23 : decode cX6_carryOut 23 = .ok (.invokevirtual 40, 3) := by decide +kernel
theorem dX6_carryOut_26 : decode cX6_carryOut 26 = .ok (.aload_n 0, 1) := by decide +kernel
theorem dX6_carryOut_27 : decode cX6_carryOut 27 = .ok (.getfield 29, 3) := by decide +kernel
theorem dX6_carryOut_30 : decode cX6_carryOut 30 = .ok (.getfield 163, 3) := by decide +kernel
theorem dX6_carryOut_33 : decode cX6_carryOut 33 = .ok (.istore_n 1, 1) := by decide +kernel
theorem dX6_carryOut_34 : decode cX6_carryOut 34 = .ok (.iconst 0, 1) := by decide +kernel
theorem dX6_carryOut_35 : decode cX6_carryOut 35 = .ok (.istore_n 2, 1) := by decide +kernel
theorem dX6_carryOut_36 : decode cX6_carryOut 36 = .ok (.iload_n 2, 1) := by decide +kernel
theorem dX6_carryOut_37 : decode cX6_carryOut 37 = .ok (.iload_n 1, 1) := by decide +kernel
theorem dX6_carryOut_38 : decode cX6_carryOut 38 = .ok (.if_icmp .ge 17, 3) := by decide +kernel
theorem dX6_carryOut_41 : decode cX6_carryOut 41 = .ok (.aload_n 0, 1) := by decide +kernel
theorem dX6_carryOut_42 : decode cX6_carryOut 42 = .ok (.iload_n 2, 1) := by decide +kernel
theorem dX6_carryOut_43 : decode cX6_carryOut 43 = .ok (.invokevirtual 166, 3) := by decide +kernel
theorem dX6_carryOut_46 : decode cX6_carryOut 46 = .ok (.ifCond .lt 9, 3) := by decide +kernel
theorem dX6_carryOut_49 : decode cX6_carryOut 49 = .ok (.iinc 2 1, 3) := by decide +kernel
theorem dX6_carryOut_52 : decode cX6_carryOut 52 = .ok (.goto (-16), 3) := by decide +kernel
theorem dX6_carryOut_55 : decode cX6_carryOut 55 = .ok (.aload_n 0, 1) := by decide +kernel
theorem dX6_carryOut_56 : decode cX6_carryOut 56 = .ok (.getfield 29, 3) := by decide +kernel
theorem dX6_carryOut_59 : decode cX6_carryOut 59 = .ok (.invokevirtual 157, 3) := by decide +kernel
theorem dX6_carryOut_62 : decode cX6_carryOut 62 = .ok (.pop, 1) := by decide +kernel
theorem dX6_carryOut_63 : decode cX6_carryOut 63 = .ok (.aload_n 0, 1) := by decide +kernel
theorem dX6_carryOut_64 : decode cX6_carryOut 64 = .ok (.getfield 22, 3) := by decide +kernel
theorem dX6_carryOut_67 : decode cX6_carryOut 67 = .ok (.iload_n 2, 1) := by decide +kernel
theorem dX6_carryOut_68 : decode cX6_carryOut 68 = .ok (.invokevirtual 48, 3) := by decide +kernel
theorem dX6_carryOut_71 : decode cX6_carryOut 71 = .ok (.ireturn, 1) := by decide +kernel
theorem dX6_undo_0 : decode cX6_undo 0 = .ok (.aload_n 0, 1) := by decide +kernel
theorem dX6_undo_1 : decode cX6_undo 1 = .ok (.getfield 22, 3) := by decide +kernel
theorem dX6_undo_4 : decode cX6_undo 4 = .ok (.aload_n 0, 1) := by decide +kernel
theorem dX6_undo_5 : decode cX6_undo 5 = .ok (.getfield 10, 3) := by decide +kernel
theorem dX6_undo_8 : decode cX6_undo 8 = .ok (.invokevirtual 169, 3) := by decide +kernel
theorem dX6_undo_11 : decode cX6_undo 11 = .ok (.ireturn, 1) := by decide +kernel
theorem dX6_digest_0 : decode cX6_digest 0 = .ok (.ldc2_w 173, 3) := by decide +kernel
theorem dX6_digest_3 : decode cX6_digest 3 = .ok (.lstore_n 1, 1) := by decide +kernel
theorem dX6_digest_4 : decode cX6_digest 4 = .ok (.iconst 0, 1) := by decide +kernel
theorem dX6_digest_5 : decode cX6_digest 5 = .ok (.istore_n 3, 1) := by decide +kernel
theorem dX6_digest_6 : decode cX6_digest 6 = .ok (.iload_n 3, 1) := by decide +kernel
theorem dX6_digest_7 : decode cX6_digest 7 = .ok (.bipush 13, 2) := by decide +kernel
theorem dX6_digest_9 : decode cX6_digest 9 = .ok (.if_icmp .ge 22, 3) := by decide +kernel
theorem dX6_digest_12 : decode cX6_digest 12 = .ok (.ldc2_w 175, 3) := by decide +kernel
theorem dX6_digest_15 : decode cX6_digest 15 = .ok (.lload_n 1, 1) := by decide +kernel
theorem dX6_digest_16 : decode cX6_digest 16 = .ok (.lmul, 1) := by decide +kernel
theorem dX6_digest_17 : decode cX6_digest 17 = .ok (.aload_n 0, 1) := by decide +kernel
theorem dX6_digest_18 : decode cX6_digest 18 = .ok (.iload_n 3, 1) := by decide +kernel
theorem dX6_digest_19 : decode cX6_digest 19 = .ok (.invokevirtual 177, 3) := by decide +kernel
theorem dX6_digest_22 : decode cX6_digest 22 = .ok (.i2l, 1) := by decide +kernel
theorem dX6_digest_23 : decode cX6_digest 23 = .ok (.ladd, 1) := by decide +kernel
theorem dX6_digest_24 : decode cX6_digest 24 = .ok (.lstore_n 1, 1) := by decide +kernel
theorem dX6_digest_25 : decode cX6_digest 25 = .ok (.iinc 3 1, 3) := by decide +kernel
theorem dX6_digest_28 : decode cX6_digest 28 = .ok (.goto (-22), 3) := by decide +kernel
theorem dX6_digest_31 : decode cX6_digest 31 = .ok (.iconst 0, 1) := by decide +kernel
theorem dX6_digest_32 : decode cX6_digest 32 = .ok (.istore_n 3, 1) := by decide +kernel
theorem dX6_digest_33 : decode cX6_digest 33 = .ok (.iload_n 3, 1) := by decide +kernel
theorem dX6_digest_34 : decode cX6_digest 34 = .ok (.iconst 5, 1) := by decide +kernel
theorem dX6_digest_35 : decode cX6_digest 35 = .ok (.if_icmp .ge 22, 3) := by decide +kernel
theorem dX6_digest_38 : decode cX6_digest 38 = .ok (.ldc2_w 175, 3) := by decide +kernel
theorem dX6_digest_41 : decode cX6_digest 41 = .ok (.lload_n 1, 1) := by decide +kernel
theorem dX6_digest_42 : decode cX6_digest 42 = .ok (.lmul, 1) := by decide +kernel
theorem dX6_digest_43 : decode cX6_digest 43 = .ok (.aload_n 0, 1) := by decide +kernel
theorem dX6_digest_44 : decode cX6_digest 44 = .ok (.iload_n 3, 1) := by decide +kernel
theorem dX6_digest_45 : decode cX6_digest 45 = .ok (.invokevirtual 180, 3) := by decide +kernel
theorem dX6_digest_48 : decode cX6_digest 48 = .ok (.i2l, 1) := by decide +kernel
theorem dX6_digest_49 : decode cX6_digest 49 = .ok (.ladd, 1) := by decide +kernel
theorem dX6_digest_50 : decode cX6_digest 50 = .ok (.lstore_n 1, 1) := by decide +kernel
theorem dX6_digest_51 : decode cX6_digest 51 = .ok (.iinc 3 1, 3) := by decide +kernel
theorem dX6_digest_54 : decode cX6_digest 54 = .ok (.goto (-21), 3) := by decide +kernel
theorem dX6_digest_57 : decode cX6_digest 57 = .ok (.iconst 0, 1) := by decide +kernel
theorem dX6_digest_58 : decode cX6_digest 58 = .ok (.istore_n 3, 1) := by decide +kernel
theorem dX6_digest_59 : decode cX6_digest 59 = .ok (.iload_n 3, 1) := by decide +kernel
theorem dX6_digest_60 : decode cX6_digest 60 = .ok (.bipush 8, 2) := by decide +kernel
theorem dX6_digest_62 : decode cX6_digest 62 = .ok (.if_icmp .ge 16, 3) := by decide +kernel
theorem dX6_digest_65 : decode cX6_digest 65 = .ok (.aload_n 0, 1) := by decide +kernel
theorem dX6_digest_66 : decode cX6_digest 66 = .ok (.lload_n 1, 1) := by decide +kernel
theorem dX6_digest_67 : decode cX6_digest 67 = .ok (.iload_n 3, 1) := by decide +kernel
theorem dX6_digest_68 : decode cX6_digest 68 = .ok (.invokevirtual 183, 3) := by decide +kernel
theorem dX6_digest_71 : decode cX6_digest 71 = .ok (.lstore_n 1, 1) := by decide +kernel
theorem dX6_digest_72 : decode cX6_digest 72 = .ok (.iinc 3 1, 3) := by decide +kernel
theorem dX6_digest_75 : decode cX6_digest 75 = .ok (.goto (-16), 3) := by decide +kernel
theorem dX6_digest_78 : decode cX6_digest 78 = .ok (.ldc2_w 175, 3) := by decide +kernel
theorem dX6_digest_81 : decode cX6_digest 81 = .ok (.lload_n 1, 1) := by decide +kernel
theorem dX6_digest_82 : decode cX6_digest 82 = .ok (.lmul, 1) := by decide +kernel
theorem dX6_digest_83 : decode cX6_digest 83 = .ok (.aload_n 0, 1) := by decide +kernel
theorem dX6_digest_84 : decode cX6_digest 84 = .ok (.invokevirtual 187, 3) := by decide +kernel
theorem dX6_digest_87 : decode cX6_digest 87 = .ok (.i2l, 1) := by decide +kernel
theorem dX6_digest_88 : decode cX6_digest 88 = .ok (.ladd, 1) := by decide +kernel
theorem dX6_digest_89 : decode cX6_digest 89 = .ok (.lstore_n 1, 1) := by decide +kernel
theorem dX6_digest_90 : decode cX6_digest 90 = .ok (.iconst 0, 1) := by decide +kernel
theorem dX6_digest_91 : decode cX6_digest 91 = .ok (.istore_n 3, 1) := by decide +kernel
theorem dX6_digest_92 : decode cX6_digest 92 = .ok (.iload_n 3, 1) := by decide +kernel
theorem dX6_digest_93 : decode cX6_digest 93 = .ok (.aload_n 0, 1) := by decide +kernel
theorem dX6_digest_94 : decode cX6_digest 94 = .ok (.getfield 10, 3) := by decide +kernel
theorem dX6_digest_97 : decode cX6_digest 97 = .ok (.getfield 103, 3) := by decide +kernel
theorem dX6_digest_100 : decode cX6_digest 100 = .ok (.getfield 107, 3) := by decide +kernel
theorem dX6_digest_103 : decode cX6_digest 103 = .ok (.if_icmp .ge 16, 3) := by decide +kernel
theorem dX6_digest_106 : decode cX6_digest 106 = .ok (.aload_n 0, 1) := by decide +kernel
theorem dX6_digest_107 : decode cX6_digest 107 = .ok (.lload_n 1, 1) := by decide +kernel
theorem dX6_digest_108 : decode cX6_digest 108 = .ok (.iload_n 3, 1) := by decide +kernel
theorem dX6_digest_109 : decode cX6_digest 109 = .ok (.invokevirtual 190, 3) := by decide +kernel
theorem dX6_digest_112 : decode cX6_digest 112 = .ok (.lstore_n 1, 1) := by decide +kernel
theorem dX6_digest_113 : decode cX6_digest 113 = .ok (.iinc 3 1, 3) := by decide +kernel
theorem dX6_digest_116 : decode cX6_digest 116 = .ok (.goto (-24), 3) := by decide +kernel
theorem dX6_digest_119 : decode cX6_digest 119 = .ok (.ldc2_w 175, 3) := by decide +kernel
theorem dX6_digest_122 : decode cX6_digest 122 = .ok (.lload_n 1, 1) := by decide +kernel
theorem dX6_digest_123 : decode cX6_digest 123 = .ok (.lmul, 1) := by decide +kernel
theorem dX6_digest_124 : decode cX6_digest 124 = .ok (.aload_n 0, 1) := by decide +kernel
theorem dX6_digest_125 : decode cX6_digest 125 = .ok (.invokevirtual 193, 3) := by decide +kernel
theorem dX6_digest_128 : decode cX6_digest 128 = .ok (.i2l, 1) := by decide +kernel
theorem dX6_digest_129 : decode cX6_digest 129 = .ok (.ladd, 1) := by decide +kernel
theorem dX6_digest_130 : decode cX6_digest 130 = .ok (.lstore_n 1, 1) := by decide +kernel
theorem dX6_digest_131 : decode cX6_digest 131 = .ok (.ldc2_w 175, 3) := by decide +kernel
theorem dX6_digest_134 : decode cX6_digest 134 = .ok (.lload_n 1, 1) := by decide +kernel
theorem dX6_digest_135 : decode cX6_digest 135 = .ok (.lmul, 1) := by decide +kernel
theorem dX6_digest_136 : decode cX6_digest 136 = .ok (.aload_n 0, 1) := by decide +kernel
theorem dX6_digest_137 : decode cX6_digest 137 = .ok (.invokevirtual 196, 3) := by decide +kernel
theorem dX6_digest_140 : decode cX6_digest 140 = .ok (.i2l, 1) := by decide +kernel
theorem dX6_digest_141 : decode cX6_digest 141 = .ok (.ladd, 1) := by decide +kernel
theorem dX6_digest_142 : decode cX6_digest 142 = .ok (.lreturn, 1) := by decide +kernel
theorem dX6_hashSpan_0 : decode cX6_hashSpan 0 = .ok (.lload_n 1, 1) := by decide +kernel
theorem dX6_hashSpan_1 : decode cX6_hashSpan 1 = .ok (.lstore 4, 2) := by decide +kernel
theorem dX6_hashSpan_3 : decode cX6_hashSpan 3 = .ok (.iconst 0, 1) := by decide +kernel
theorem dX6_hashSpan_4 : decode cX6_hashSpan 4 = .ok (.istore 6, 2) := by decide +kernel
theorem dX6_hashSpan_6 : decode cX6_hashSpan 6 = .ok (.iload 6, 2) := by decide +kernel
theorem dX6_hashSpan_8 : decode cX6_hashSpan 8 = .ok (.bipush 7, 2) := by decide +kernel
theorem dX6_hashSpan_10 : decode cX6_hashSpan 10 = .ok (.if_icmp .ge 26, 3) := by decide +kernel
theorem dX6_hashSpan_13 : decode cX6_hashSpan 13 = .ok (.ldc2_w 175, 3) := by decide +kernel
theorem dX6_hashSpan_16 : decode cX6_hashSpan 16 = .ok (.lload 4, 2) := by decide +kernel
theorem dX6_hashSpan_18 : decode cX6_hashSpan 18 = .ok (.lmul, 1) := by decide +kernel
theorem dX6_hashSpan_19 : decode cX6_hashSpan 19 = .ok (.aload_n 0, 1) := by decide +kernel
theorem dX6_hashSpan_20 : decode cX6_hashSpan 20 = .ok (.iload_n 3, 1) := by decide +kernel
theorem dX6_hashSpan_21 : decode cX6_hashSpan 21 = .ok (.iload 6, 2) := by decide +kernel
theorem dX6_hashSpan_23 : decode cX6_hashSpan 23 = .ok (.invokevirtual 199, 3) := by decide +kernel
theorem dX6_hashSpan_26 : decode cX6_hashSpan 26 = .ok (.i2l, 1) := by decide +kernel
theorem dX6_hashSpan_27 : decode cX6_hashSpan 27 = .ok (.ladd, 1) := by decide +kernel
theorem dX6_hashSpan_28 : decode cX6_hashSpan 28 = .ok (.lstore 4, 2) := by decide +kernel
theorem dX6_hashSpan_30 : decode cX6_hashSpan 30 = .ok (.iinc 6 1, 3) := by decide +kernel
theorem dX6_hashSpan_33 : decode cX6_hashSpan 33 = .ok (.goto (-27), 3) := by decide +kernel
theorem dX6_hashSpan_36 : decode cX6_hashSpan 36 = .ok (.aload_n 0, 1) := by decide +kernel
theorem dX6_hashSpan_37 : decode cX6_hashSpan 37 = .ok (.getfield 10, 3) := by decide +kernel
theorem dX6_hashSpan_40 : decode cX6_hashSpan 40 = .ok (.getfield 94, 3) := by decide +kernel
theorem dX6_hashSpan_43 : decode cX6_hashSpan 43 = .ok (.iload_n 3, 1) := by decide +kernel
theorem dX6_hashSpan_44 : decode cX6_hashSpan 44 = .ok (.invokevirtual 202, 3) := by decide +kernel
theorem dX6_hashSpan_47 : decode cX6_hashSpan 47 = .ok (.istore 6, 2) := by decide +kernel
theorem dX6_hashSpan_49 : decode cX6_hashSpan 49 = .ok (.iconst 0, 1) := by decide +kernel
theorem dX6_hashSpan_50 : decode cX6_hashSpan 50 = .ok (.istore 7, 2) := by decide +kernel
theorem dX6_hashSpan_52 : decode cX6_hashSpan 52 = .ok (.iload 7, 2) := by decide +kernel
theorem dX6_hashSpan_54 : decode cX6_hashSpan 54 = .ok (.iload 6, 2) := by decide +kernel
theorem dX6_hashSpan_56 : decode cX6_hashSpan 56 = .ok (.if_icmp .ge 26, 3) := by decide +kernel
theorem dX6_hashSpan_59 : decode cX6_hashSpan 59 = .ok (.ldc2_w 175, 3) := by decide +kernel
theorem dX6_hashSpan_62 : decode cX6_hashSpan 62 = .ok (.lload 4, 2) := by decide +kernel
theorem dX6_hashSpan_64 : decode cX6_hashSpan 64 = .ok (.lmul, 1) := by decide +kernel
theorem dX6_hashSpan_65 : decode cX6_hashSpan 65 = .ok (.aload_n 0, 1) := by decide +kernel
theorem dX6_hashSpan_66 : decode cX6_hashSpan 66 = .ok (.iload_n 3, 1) := by decide +kernel
theorem dX6_hashSpan_67 : decode cX6_hashSpan 67 = .ok (.iload 7, 2) := by decide +kernel
theorem dX6_hashSpan_69 : decode cX6_hashSpan 69 = .ok (.invokevirtual 205, 3) := by decide +kernel
theorem dX6_hashSpan_72 : decode cX6_hashSpan 72 = .ok (.i2l, 1) := by decide +kernel
theorem dX6_hashSpan_73 : decode cX6_hashSpan 73 = .ok (.ladd, 1) := by decide +kernel
theorem dX6_hashSpan_74 : decode cX6_hashSpan 74 = .ok (.lstore 4, 2) := by decide +kernel
theorem dX6_hashSpan_76 : decode cX6_hashSpan 76 = .ok (.iinc 7 1, 3) := by decide +kernel
theorem dX6_hashSpan_79 : decode cX6_hashSpan 79 = .ok (.goto (-27), 3) := by decide +kernel
theorem dX6_hashSpan_82 : decode cX6_hashSpan 82 = .ok (.lload 4, 2) := by decide +kernel
theorem dX6_hashSpan_84 : decode cX6_hashSpan 84 = .ok (.lreturn, 1) := by decide +kernel
theorem dX6_hashEntry_0 : decode cX6_hashEntry 0 = .ok (.ldc2_w 175, 3) := by decide +kernel
theorem dX6_hashEntry_3 : decode cX6_hashEntry 3 = .ok (.lload_n 1, 1) := by decide +kernel
theorem dX6_hashEntry_4 : decode cX6_hashEntry 4 = .ok (.lmul, 1) := by decide +kernel
theorem dX6_hashEntry_5 : decode cX6_hashEntry 5 = .ok (.aload_n 0, 1) := by decide +kernel
theorem dX6_hashEntry_6 : decode cX6_hashEntry 6 = .ok (.getfield 10, 3) := by decide +kernel
theorem dX6_hashEntry_9 : decode cX6_hashEntry 9 = .ok (.getfield 103, 3) := by decide +kernel
theorem dX6_hashEntry_12 : decode cX6_hashEntry 12 = .ok (.iload_n 3, 1) := by decide +kernel
theorem dX6_hashEntry_13 : decode cX6_hashEntry 13 = .ok (.invokevirtual 116, 3) := by decide +kernel
theorem dX6_hashEntry_16 : decode cX6_hashEntry 16 = .ok (.i2l, 1) := by decide +kernel
theorem dX6_hashEntry_17 : decode cX6_hashEntry 17 = .ok (.ladd, 1) := by decide +kernel
theorem dX6_hashEntry_18 : decode cX6_hashEntry 18 = .ok (.lstore 4, 2) := by decide +kernel
theorem dX6_hashEntry_20 : decode cX6_hashEntry 20 = .ok (.ldc2_w 175, 3) := by decide +kernel
theorem dX6_hashEntry_23 : decode cX6_hashEntry 23 = .ok (.lload 4, 2) := by decide +kernel
theorem dX6_hashEntry_25 : decode cX6_hashEntry 25 = .ok (.lmul, 1) := by decide +kernel
theorem dX6_hashEntry_26 : decode cX6_hashEntry 26 = .ok (.aload_n 0, 1) := by decide +kernel
theorem dX6_hashEntry_27 : decode cX6_hashEntry 27 = .ok (.getfield 10, 3) := by decide +kernel
theorem dX6_hashEntry_30 : decode cX6_hashEntry 30 = .ok (.getfield 103, 3) := by decide +kernel
theorem dX6_hashEntry_33 : decode cX6_hashEntry 33 = .ok (.iload_n 3, 1) := by decide +kernel
theorem dX6_hashEntry_34 : decode cX6_hashEntry 34 = .ok (.invokevirtual 119, 3) := by decide +kernel
theorem dX6_hashEntry_37 : decode cX6_hashEntry 37 = .ok (.i2l, 1) := by decide +kernel
theorem dX6_hashEntry_38 : decode cX6_hashEntry 38 = .ok (.ladd, 1) := by decide +kernel
theorem dX6_hashEntry_39 : decode cX6_hashEntry 39 = .ok (.lstore 4, 2) := by decide +kernel
theorem dX6_hashEntry_41 : decode cX6_hashEntry 41 = .ok (.ldc2_w 175, 3) := by decide +kernel
theorem dX6_hashEntry_44 : decode cX6_hashEntry 44 = .ok (.lload 4, 2) := by decide +kernel
theorem dX6_hashEntry_46 : decode cX6_hashEntry 46 = .ok (.lmul, 1) := by decide +kernel
theorem dX6_hashEntry_47 : decode cX6_hashEntry 47 = .ok (.aload_n 0, 1) := by decide +kernel
theorem dX6_hashEntry_48 : decode cX6_hashEntry 48 = .ok (.getfield 10, 3) := by decide +kernel
theorem dX6_hashEntry_51 : decode cX6_hashEntry 51 = .ok (.getfield 103, 3) := by decide +kernel
theorem dX6_hashEntry_54 : decode cX6_hashEntry 54 = .ok (.iload_n 3, 1) := by decide +kernel
theorem dX6_hashEntry_55 : decode cX6_hashEntry 55 = .ok (.invokevirtual 122, 3) := by decide +kernel
theorem dX6_hashEntry_58 : decode cX6_hashEntry 58 = .ok (.i2l, 1) := by decide +kernel
theorem dX6_hashEntry_59 : decode cX6_hashEntry 59 = .ok (.ladd, 1) := by decide +kernel
theorem dX6_hashEntry_60 : decode cX6_hashEntry 60 = .ok (.lstore 4, 2) := by decide +kernel
theorem dX6_hashEntry_62 : decode cX6_hashEntry 62 = .ok (.aload_n 0, 1) := by decide +kernel
theorem dX6_hashEntry_63 : decode cX6_hashEntry 63 = .ok (.iload_n 3, 1) := by decide +kernel
theorem dX6_hashEntry_64 : decode cX6_hashEntry 64 = .ok (.invokevirtual 125, 3) := by decide +kernel
theorem dX6_hashEntry_67 : decode cX6_hashEntry 67 = .ok (.iconst 0, 1) := by decide +kernel
theorem dX6_hashEntry_68 : decode cX6_hashEntry 68 = .ok (.istore 6, 2) := by decide +kernel
theorem dX6_hashEntry_70 : decode cX6_hashEntry 70 = .ok (.iload 6, 2) := by decide +kernel
theorem dX6_hashEntry_72 : decode cX6_hashEntry 72 = .ok (.aload_n 0, 1) := by decide +kernel
theorem dX6_hashEntry_73 : decode cX6_hashEntry 73 = .ok (.getfield 36, 3) := by decide +kernel
theorem dX6_hashEntry_76 : decode cX6_hashEntry 76 = .ok (.invokevirtual 129, 3) := by decide +kernel
theorem dX6_hashEntry_79 : decode cX6_hashEntry 79 = .ok (.if_icmp .ge 28, 3) := by decide +kernel
theorem dX6_hashEntry_82 : decode cX6_hashEntry 82 = .ok (.ldc2_w 175, 3) := by decide +kernel
theorem dX6_hashEntry_85 : decode cX6_hashEntry 85 = .ok (.lload 4, 2) := by decide +kernel
theorem dX6_hashEntry_87 : decode cX6_hashEntry 87 = .ok (.lmul, 1) := by decide +kernel
theorem dX6_hashEntry_88 : decode cX6_hashEntry 88 = .ok (.aload_n 0, 1) := by decide +kernel
theorem dX6_hashEntry_89 : decode cX6_hashEntry 89 = .ok (.getfield 36, 3) := by decide +kernel
theorem dX6_hashEntry_92 : decode cX6_hashEntry 92 = .ok (.iload 6, 2) := by decide +kernel
theorem dX6_hashEntry_94 : decode cX6_hashEntry 94 = .ok (.invokevirtual 132, 3) := by decide +kernel
theorem dX6_hashEntry_97 : decode cX6_hashEntry 97 = .ok (.i2l, 1) := by decide +kernel
theorem dX6_hashEntry_98 : decode cX6_hashEntry 98 = .ok (.ladd, 1) := by decide +kernel
theorem dX6_hashEntry_99 : decode cX6_hashEntry 99 = .ok (.lstore 4, 2) := by decide +kernel
theorem dX6_hashEntry_101 : decode cX6_hashEntry 101 = .ok (.iinc 6 1, 3) := by decide +kernel
theorem dX6_hashEntry_104 : decode cX6_hashEntry 104 = .ok (.goto (-34), 3) := by decide +kernel
theorem dX6_hashEntry_107 : decode cX6_hashEntry 107 = .ok (.lload 4, 2) := by decide +kernel
theorem dX6_hashEntry_109 : decode cX6_hashEntry 109 = .ok (.lreturn, 1) := by decide +kernel
theorem dX6_writeLine_0 : decode cX6_writeLine 0 = .ok (.aload_n 0, 1) := by decide +kernel
theorem dX6_writeLine_1 : decode cX6_writeLine 1 = .ok (.getfield 36, 3) := by decide +kernel
theorem dX6_writeLine_4 : decode cX6_writeLine 4 = .ok (.iconst 0, 1) := by decide +kernel
theorem dX6_writeLine_5 : decode cX6_writeLine 5 = .ok (.invokevirtual 208, 3) := by decide +kernel
theorem dX6_writeLine_8 : decode cX6_writeLine 8 = .ok (.aload_n 0, 1) := by decide +kernel
theorem dX6_writeLine_9 : decode cX6_writeLine 9 = .ok (.getfield 36, 3) := by decide +kernel
theorem dX6_writeLine_12 : decode cX6_writeLine 12 = .ok (.aload_n 0, 1) := by decide +kernel
theorem dX6_writeLine_13 : decode cX6_writeLine 13 = .ok (.getfield 10, 3) := by decide +kernel
theorem dX6_writeLine_16 : decode cX6_writeLine 16 = .ok (.getfield 103, 3) := by decide +kernel
theorem dX6_writeLine_19 : decode cX6_writeLine 19 = .ok (.iload_n 1, 1) := by decide +kernel
theorem dX6_writeLine_20 : decode cX6_writeLine 20 = .ok (.invokevirtual 116, 3) := by decide +kernel
theorem dX6_writeLine_23 : decode cX6_writeLine 23 = .ok (.invokevirtual 211, 3) := by decide +kernel
theorem dX6_writeLine_26 : decode cX6_writeLine 26 = .ok (.pop, 1) := by decide +kernel
theorem dX6_writeLine_27 : decode cX6_writeLine 27 = .ok (.aload_n 0, 1) := by decide +kernel
theorem dX6_writeLine_28 : decode cX6_writeLine 28 = .ok (.getfield 36, 3) := by decide +kernel
theorem dX6_writeLine_31 : decode cX6_writeLine 31 = .ok (.bipush 32, 2) := by decide +kernel
theorem dX6_writeLine_33 : decode cX6_writeLine 33 = .ok (.invokevirtual 214, 3) := by decide +kernel
theorem dX6_writeLine_36 : decode cX6_writeLine 36 = .ok (.pop, 1) := by decide +kernel
theorem dX6_writeLine_37 : decode cX6_writeLine 37 = .ok (.aload_n 0, 1) := by decide +kernel
theorem dX6_writeLine_38 : decode cX6_writeLine 38 = .ok (.getfield 36, 3) := by decide +kernel
theorem dX6_writeLine_41 : decode cX6_writeLine 41 = .ok (.aload_n 0, 1) := by decide +kernel
theorem dX6_writeLine_42 : decode cX6_writeLine 42 = .ok (.getfield 10, 3) := by decide +kernel
theorem dX6_writeLine_45 : decode cX6_writeLine 45 = .ok (.getfield 103, 3) := by decide +kernel
theorem dX6_writeLine_48 : decode cX6_writeLine 48 = .ok (.iload_n 1, 1) := by decide +kernel
theorem dX6_writeLine_49 : decode cX6_writeLine 49 = .ok (.invokevirtual 119, 3) := by decide +kernel
theorem dX6_writeLine_52 : decode cX6_writeLine 52 = .ok (.invokestatic 217, 3) := by decide +kernel
theorem dX6_writeLine_55 : decode cX6_writeLine 55 = .ok (.invokevirtual 221, 3) := by decide +kernel
theorem dX6_writeLine_58 : decode cX6_writeLine 58 = .ok (.pop, 1) := by decide +kernel
theorem dX6_writeLine_59 : decode cX6_writeLine 59 = .ok (.aload_n 0, 1) := by decide +kernel
theorem dX6_writeLine_60 : decode cX6_writeLine 60 = .ok (.getfield 36, 3) := by decide +kernel
theorem dX6_writeLine_63 : decode cX6_writeLine 63 = .ok (.bipush 32, 2) := by decide +kernel
theorem dX6_writeLine_65 : decode cX6_writeLine 65 = .ok (.invokevirtual 214, 3) := by decide +kernel
theorem dX6_writeLine_68 : decode cX6_writeLine 68 = .ok (.pop, 1) := by decide +kernel
theorem dX6_writeLine_69 : decode cX6_writeLine 69 = .ok (.aload_n 0, 1) := by decide +kernel
theorem dX6_writeLine_70 : decode cX6_writeLine 70 = .ok (.getfield 36, 3) := by decide +kernel
theorem dX6_writeLine_73 : decode cX6_writeLine 73 = .ok (.aload_n 0, 1) := by decide +kernel
theorem dX6_writeLine_74 : decode cX6_writeLine 74 = .ok (.getfield 10, 3) := by decide +kernel
theorem dX6_writeLine_77 : decode cX6_writeLine 77 = .ok (.getfield 103, 3) := by decide +kernel
theorem dX6_writeLine_80 : decode cX6_writeLine 80 = .ok (.iload_n 1, 1) := by decide +kernel
theorem dX6_writeLine_81 : decode cX6_writeLine 81 = .ok (.invokevirtual 122, 3) := by decide +kernel
theorem dX6_writeLine_84 : decode cX6_writeLine 84 = .ok (.invokevirtual 211, 3) := by decide +kernel
theorem dX6_writeLine_87 : decode cX6_writeLine 87 = .ok (.pop, 1) := by decide +kernel
theorem dX6_writeLine_88 : decode cX6_writeLine 88 = .ok (.return_, 1) := by decide +kernel
theorem dX6_overdueAfter_0 : decode cX6_overdueAfter 0 = .ok (.aload_n 0, 1) := by decide +kernel
theorem dX6_overdueAfter_1 : decode cX6_overdueAfter 1 = .ok (.getfield 16, 3) := by decide +kernel
theorem dX6_overdueAfter_4 : decode cX6_overdueAfter 4 = .ok (.aload_n 0, 1) := by decide +kernel
theorem dX6_overdueAfter_5 : decode cX6_overdueAfter 5 = .ok (.getfield 10, 3) := by decide +kernel
theorem dX6_overdueAfter_8 : decode cX6_overdueAfter 8 = .ok (.invokevirtual 142, 3) := by decide +kernel
theorem dX6_overdueAfter_11 : decode cX6_overdueAfter 11 = .ok (.aload_n 0, 1) := by decide +kernel
theorem dX6_overdueAfter_12 : decode cX6_overdueAfter 12 = .ok (.getfield 16, 3) := by decide +kernel
theorem dX6_overdueAfter_15 : decode cX6_overdueAfter 15 = .ok (.iload_n 2, 1) := by decide +kernel
theorem dX6_overdueAfter_16 : decode cX6_overdueAfter 16 = .ok (.putfield 148, 3) := by decide +kernel
theorem dX6_overdueAfter_19 : decode cX6_overdueAfter 19 = .ok (.iconst 0, 1) := by decide +kernel
theorem dX6_overdueAfter_20 : decode cX6_overdueAfter 20 = .ok (.istore_n 3, 1) := by decide +kernel
theorem dX6_overdueAfter_21 : decode cX6_overdueAfter 21 = .ok (.iload_n 3, 1) := by decide +kernel
theorem dX6_overdueAfter_22 : decode cX6_overdueAfter 22 = .ok (.iload_n 1, 1) := by decide +kernel
theorem dX6_overdueAfter_23 : decode cX6_overdueAfter 23 = .ok (.if_icmp .ge 17, 3) := by decide +kernel
theorem dX6_overdueAfter_26 : decode cX6_overdueAfter 26 = .ok (.aload_n 0, 1) := by decide +kernel
theorem dX6_overdueAfter_27 : decode cX6_overdueAfter 27 = .ok (.getfield 16, 3) := by decide +kernel
theorem dX6_overdueAfter_30 : decode cX6_overdueAfter 30 = .ok (.invokevirtual 145, 3) := by decide +kernel
theorem dX6_overdueAfter_33 : decode cX6_overdueAfter 33 = .ok (.pop, 1) := by decide +kernel
theorem dX6_overdueAfter_34 : decode cX6_overdueAfter 34 = .ok (.iinc 3 1, 3) := by decide +kernel
theorem dX6_overdueAfter_37 : decode cX6_overdueAfter 37 = .ok (.goto (-16), 3) := by decide +kernel
theorem dX6_overdueAfter_40 : decode cX6_overdueAfter 40 = .ok (.aload_n 0, 1) := by decide +kernel
theorem dX6_overdueAfter_41 : decode cX6_overdueAfter 41 = .ok (.getfield 16, 3) := by decide +kernel
theorem dX6_overdueAfter_44 : decode cX6_overdueAfter 44 = .ok (.invokevirtual 136, 3) := by decide +kernel
theorem dX6_overdueAfter_47 : decode cX6_overdueAfter 47 = .ok (.ireturn, 1) := by decide +kernel
theorem dX6_doCommand_0 : decode cX6_doCommand 0 = .ok (.iload_n 1, 1) := by decide +kernel
theorem dX6_doCommand_1 : decode cX6_doCommand 1 = .ok (.ifCond .lt 9, 3) := by decide +kernel
theorem dX6_doCommand_4 : decode cX6_doCommand 4 = .ok (.iload_n 1, 1) := by decide +kernel
theorem dX6_doCommand_5 : decode cX6_doCommand 5 = .ok (.bipush 16, 2) := by decide +kernel
theorem dX6_doCommand_7 : decode cX6_doCommand 7 = .ok (.if_icmp .lt 5, 3) := by decide +kernel
theorem dX6_doCommand_10 : decode cX6_doCommand 10 = .ok (.iconst (-1), 1) := by decide +kernel
theorem dX6_doCommand_11 : decode cX6_doCommand 11 = .ok (.ireturn, 1) := by decide +kernel
theorem dX6_doCommand_12 : decode cX6_doCommand 12 = .ok (.aload_n 0, 1) := by decide +kernel
theorem dX6_doCommand_13 : decode cX6_doCommand 13 = .ok (.getfield 29, 3) := by decide +kernel
theorem dX6_doCommand_16 : decode cX6_doCommand 16 = .ok (.getfield 224, 3) := by decide +kernel
theorem dX6_doCommand_19 : decode cX6_doCommand 19 = .ok (.iload_n 1, 1) := by decide +kernel
theorem dX6_doCommand_20 : decode cX6_doCommand 20 = .ok (.iaload, 1) := by decide +kernel
theorem dX6_doCommand_21 : decode cX6_doCommand 21 = .ok (.istore_n 2, 1) := by decide +kernel
theorem dX6_doCommand_22 : decode cX6_doCommand 22 = .ok (.aload_n 0, 1) := by decide +kernel
theorem dX6_doCommand_23 : decode cX6_doCommand 23 = .ok (.getfield 29, 3) := by decide +kernel
theorem dX6_doCommand_26 : decode cX6_doCommand 26 = .ok (.getfield 227, 3) := by decide +kernel
theorem dX6_doCommand_29 : decode cX6_doCommand 29 = .ok (.iload_n 1, 1) := by decide +kernel
theorem dX6_doCommand_30 : decode cX6_doCommand 30 = .ok (.iaload, 1) := by decide +kernel
theorem dX6_doCommand_31 : decode cX6_doCommand 31 = .ok (.istore_n 3, 1) := by decide +kernel
theorem dX6_doCommand_32 : decode cX6_doCommand 32 = .ok (.aload_n 0, 1) := by decide +kernel
theorem dX6_doCommand_33 : decode cX6_doCommand 33 = .ok (.getfield 29, 3) := by decide +kernel
theorem dX6_doCommand_36 : decode cX6_doCommand 36 = .ok (.getfield 230, 3) := by decide +kernel
theorem dX6_doCommand_39 : decode cX6_doCommand 39 = .ok (.iload_n 1, 1) := by decide +kernel
theorem dX6_doCommand_40 : decode cX6_doCommand 40 = .ok (.iaload, 1) := by decide +kernel
theorem dX6_doCommand_41 : decode cX6_doCommand 41 = .ok (.tableswitch 69 1 4 #[31, 41, 50, 59], 31) := by decide +kernel
theorem dX6_doCommand_72 : decode cX6_doCommand 72 = .ok (.aload_n 0, 1) := by decide +kernel
theorem dX6_doCommand_73 : decode cX6_doCommand 73 = .ok (.getfield 10, 3) := by decide +kernel
theorem dX6_doCommand_76 : decode cX6_doCommand 76 = .ok (.iload_n 2, 1) := by decide +kernel
theorem dX6_doCommand_77 : decode cX6_doCommand 77 = .ok (.iload_n 3, 1) := by decide +kernel
theorem dX6_doCommand_78 : decode cX6_doCommand 78 = .ok (.invokevirtual 67, 3) := by decide +kernel
theorem dX6_doCommand_81 : decode cX6_doCommand 81 = .ok (.ireturn, 1) := by decide +kernel
theorem dX6_doCommand_82 : decode cX6_doCommand 82 = .ok (.aload_n 0, 1) := by decide +kernel
theorem dX6_doCommand_83 : decode cX6_doCommand 83 = .ok (.getfield 10, 3) := by decide +kernel
theorem dX6_doCommand_86 : decode cX6_doCommand 86 = .ok (.iload_n 2, 1) := by decide +kernel
theorem dX6_doCommand_87 : decode cX6_doCommand 87 = .ok (.invokevirtual 70, 3) := by decide +kernel
theorem dX6_doCommand_90 : decode cX6_doCommand 90 = .ok (.ireturn, 1) := by decide +kernel
theorem dX6_doCommand_91 : decode cX6_doCommand 91 = .ok (.aload_n 0, 1) := by decide +kernel
theorem dX6_doCommand_92 : decode cX6_doCommand 92 = .ok (.getfield 10, 3) := by decide +kernel
theorem dX6_doCommand_95 : decode cX6_doCommand 95 = .ok (.iload_n 2, 1) := by decide +kernel
theorem dX6_doCommand_96 : decode cX6_doCommand 96 = .ok (.invokevirtual 61, 3) := by decide +kernel
theorem dX6_doCommand_99 : decode cX6_doCommand 99 = .ok (.ireturn, 1) := by decide +kernel
theorem dX6_doCommand_100 : decode cX6_doCommand 100 = .ok (.aload_n 0, 1) := by decide +kernel
theorem dX6_doCommand_101 : decode cX6_doCommand 101 = .ok (.getfield 10, 3) := by decide +kernel
theorem dX6_doCommand_104 : decode cX6_doCommand 104 = .ok (.iload_n 2, 1) := by decide +kernel
theorem dX6_doCommand_105 : decode cX6_doCommand 105 = .ok (.iload_n 3, 1) := by decide +kernel
theorem dX6_doCommand_106 : decode cX6_doCommand 106 = .ok (.invokevirtual 58, 3) := by decide +kernel
theorem dX6_doCommand_109 : decode cX6_doCommand 109 = .ok (.ireturn, 1) := by decide +kernel
theorem dX6_doCommand_110 : decode cX6_doCommand 110 = .ok (.aload_n 0, 1) := by decide +kernel
theorem dX6_doCommand_111 : decode cX6_doCommand 111 = .ok (.getfield 10, 3) := by decide +kernel
theorem dX6_doCommand_114 : decode cX6_doCommand 114 = .ok (.iload_n 2, 1) := by decide +kernel
theorem dX6_doCommand_115 : decode cX6_doCommand 115 = .ok (.invokevirtual 52, 3) := by decide +kernel
theorem dX6_doCommand_118 : decode cX6_doCommand 118 = .ok (.ireturn, 1) := by decide +kernel
theorem dX6_isSpan_0 : decode cX6_isSpan 0 = .ok (.iload_n 0, 1) := by decide +kernel
theorem dX6_isSpan_1 : decode cX6_isSpan 1 = .ok (.ifCond .lt 13, 3) := by decide +kernel
theorem dX6_isSpan_4 : decode cX6_isSpan 4 = .ok (.iload_n 0, 1) := by decide +kernel
theorem dX6_isSpan_5 : decode cX6_isSpan 5 = .ok (.bipush 8, 2) := by decide +kernel
theorem dX6_isSpan_7 : decode cX6_isSpan 7 = .ok (.if_icmp .ge 7, 3) := by decide +kernel
theorem dX6_isSpan_10 : decode cX6_isSpan 10 = .ok (.iconst 1, 1) := by decide +kernel
theorem dX6_isSpan_11 : decode cX6_isSpan 11 = .ok (.goto 4, 3) := by decide +kernel
theorem dX6_isSpan_14 : decode cX6_isSpan 14 = .ok (.iconst 0, 1) := by decide +kernel
theorem dX6_isSpan_15 : decode cX6_isSpan 15 = .ok (.ireturn, 1) := by decide +kernel
theorem dX6_isSetting_0 : decode cX6_isSetting 0 = .ok (.iload_n 0, 1) := by decide +kernel
theorem dX6_isSetting_1 : decode cX6_isSetting 1 = .ok (.ifCond .lt 12, 3) := by decide +kernel
theorem dX6_isSetting_4 : decode cX6_isSetting 4 = .ok (.iload_n 0, 1) := by decide +kernel
theorem dX6_isSetting_5 : decode cX6_isSetting 5 = .ok (.iconst 5, 1) := by decide +kernel
theorem dX6_isSetting_6 : decode cX6_isSetting 6 = .ok (.if_icmp .ge 7, 3) := by decide +kernel
theorem dX6_isSetting_9 : decode cX6_isSetting 9 = .ok (.iconst 1, 1) := by decide +kernel
theorem dX6_isSetting_10 : decode cX6_isSetting 10 = .ok (.goto 4, 3) := by decide +kernel
theorem dX6_isSetting_13 : decode cX6_isSetting 13 = .ok (.iconst 0, 1) := by decide +kernel
theorem dX6_isSetting_14 : decode cX6_isSetting 14 = .ok (.ireturn, 1) := by decide +kernel
theorem dX6_wordOf_0 : decode cX6_wordOf 0 = .ok (.iload_n 0, 1) := by decide +kernel
theorem dX6_wordOf_1 : decode cX6_wordOf 1 = .ok (.tableswitch 50 1 5 #[35, 38, 41, 44, 47], 35) := by decide +kernel
theorem dX6_wordOf_36 : decode cX6_wordOf 36 = .ok (.ldc 233, 2) := by decide +kernel
theorem dX6_wordOf_38 : decode cX6_wordOf 38 = .ok (.areturn, 1) := by decide +kernel
theorem dX6_wordOf_39 : decode cX6_wordOf 39 = .ok (.ldc 235, 2) := by decide +kernel
theorem dX6_wordOf_41 : decode cX6_wordOf 41 = .ok (.areturn, 1) := by decide +kernel
theorem dX6_wordOf_42 : decode cX6_wordOf 42 = .ok (.ldc 237, 2) := by decide +kernel
theorem dX6_wordOf_44 : decode cX6_wordOf 44 = .ok (.areturn, 1) := by decide +kernel
theorem dX6_wordOf_45 : decode cX6_wordOf 45 = .ok (.ldc 239, 2) := by decide +kernel
theorem dX6_wordOf_47 : decode cX6_wordOf 47 = .ok (.areturn, 1) := by decide +kernel
theorem dX6_wordOf_48 : decode cX6_wordOf 48 = .ok (.ldc 241, 2) := by decide +kernel
theorem dX6_wordOf_50 : decode cX6_wordOf 50 = .ok (.areturn, 1) := by decide +kernel
theorem dX6_wordOf_51 : decode cX6_wordOf 51 = .ok (.ldc 243, 2) := by decide +kernel
theorem dX6_wordOf_53 : decode cX6_wordOf 53 = .ok (.areturn, 1) := by decide +kernel
