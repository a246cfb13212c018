theorem dX4_report_12 : decode cX4_report 12 = .ok (.getfield 9, 3) := by decide +kernel
theorem dX4_report_15 : decode cX4_report 15 = .ok (.iconst 0, 1) := by decide +kernel
theorem dX4_report_16 : decode cX4_report 16 = .ok (.iaload, 1) := by decide +kernel
theorem dX4_report_17 : decode cX4_report 17 = .ok (.putfield 37, 3) := by decide +kernel
theorem dX4_report_20 : decode cX4_report 20 = .ok (.aload_n 0, 1) := by decide +kernel
theorem dX4_report_21 : decode cX4_report 21 = .ok (.getfield 9, 3) := by decide +kernel
theorem dX4_report_24 : decode cX4_report 24 = .ok (.iconst 3, 1) := by decide +kernel
theorem dX4_report_25 : decode cX4_report 25 = .ok (.dup2, 1) := by decide +kernel
theorem dX4_report_26 : decode cX4_report 26 = .ok (.iaload, 1) := by decide +kernel
theorem dX4_report_27 : decode cX4_report 27 = .ok (.iconst 1, 1) := by decide +kernel
theorem dX4_report_28 : decode cX4_report 28 = .ok (.iadd, 1) := by decide +kernel
theorem dX4_report_29 : decode cX4_report 29 = .ok (.iastore, 1) := by decide +kernel
theorem dX4_report_30 : decode cX4_report 30 = .ok (.aload_n 0, 1) := by decide +kernel
theorem dX4_report_31 : decode cX4_report 31 = .ok (.iconst 5, 1) := by decide +kernel
theorem dX4_report_32 : decode cX4_report 32 = .ok (.aload_n 0, 1) := by decide +kernel
theorem dX4_report_33 : decode cX4_report 33 = .ok (.getfield 9, 3) := by decide +kernel
theorem dX4_report_36 : decode cX4_report 36 = .ok (.iconst 1, 1) := by decide +kernel
theorem dX4_report_37 : decode cX4_report 37 = .ok (.iaload, 1) := by decide +kernel
theorem dX4_report_38 : decode cX4_report 38 = .ok (.iconst (-1), 1) := by decide +kernel
theorem dX4_report_39 : decode cX4_report 39 = .ok (.invokevirtual 40, 3) := by decide +kernel
theorem dX4_report_42 : decode cX4_report 42 = .ok (.return_, 1) := by decide +kernel
theorem dX4_fact_0 : decode cX4_fact 0 = .ok (.aload_n 0, 1) := by decide +kernel
theorem dX4_fact_1 : decode cX4_fact 1 = .ok (.getfield 9, 3) := by decide +kernel
theorem dX4_fact_4 : decode cX4_fact 4 = .ok (.iload_n 1, 1) := by decide +kernel
theorem dX4_fact_5 : decode cX4_fact 5 = .ok (.invokestatic 44, 3) := by decide +kernel
theorem dX4_fact_8 : decode cX4_fact 8 = .ok (.ireturn, 1) := by decide +kernel
theorem dX4_innermost_0 : decode cX4_innermost 0 = .ok (.aload_n 0, 1) := by decide +kernel
theorem dX4_innermost_1 : decode cX4_innermost 1 = .ok (.getfield 37, 3) := by decide +kernel
theorem dX4_innermost_4 : decode cX4_innermost 4 = .ok (.ireturn, 1) := by decide +kernel
theorem dX4_tick_0 : decode cX4_tick 0 = .ok (.aload_n 0, 1) := by decide +kernel
theorem dX4_tick_1 : decode cX4_tick 1 = .ok (.getfield 9, 3) := by decide +kernel
theorem dX4_tick_4 : decode cX4_tick 4 = .ok (.iconst 4, 1) := by decide +kernel
theorem dX4_tick_5 : decode cX4_tick 5 = .ok (.iaload, 1) := by decide +kernel
theorem dX4_tick_6 : decode cX4_tick 6 = .ok (.bipush 40, 2) := by decide +kernel
theorem dX4_tick_8 : decode cX4_tick 8 = .ok (.if_icmp .lt 5, 3) := by decide +kernel
theorem dX4_tick_11 : decode cX4_tick 11 = .ok (.iconst 0, 1) := by decide +kernel
theorem dX4_tick_12 : decode cX4_tick 12 = .ok (.ireturn, 1) := by decide +kernel
theorem dX4_tick_13 : decode cX4_tick 13 = .ok (.aload_n 0, 1) := by decide +kernel
theorem dX4_tick_14 : decode cX4_tick 14 = .ok (.getfield 9, 3) := by decide +kernel
theorem dX4_tick_17 : decode cX4_tick 17 = .ok (.iconst 4, 1) := by decide +kernel
theorem dX4_tick_18 : decode cX4_tick 18 = .ok (.dup2, 1) := by decide +kernel
theorem dX4_tick_19 : decode cX4_tick 19 = .ok (.iaload, 1) := by decide +kernel
theorem dX4_tick_20 : decode cX4_tick 20 = .ok (.iconst 1, 1) := by decide +kernel
theorem dX4_tick_21 : decode cX4_tick 21 = .ok (.iadd, 1) := by decide +kernel
theorem dX4_tick_22 : decode cX4_tick 22 = .ok (.iastore, 1) := by decide +kernel
theorem dX4_tick_23 : decode cX4_tick 23 = .ok (.iconst 1, 1) := by decide +kernel
theorem dX4_tick_24 : decode cX4_tick 24 = .ok (.ireturn, 1) := by decide +kernel
theorem dX4_doorOpened_0 : decode cX4_doorOpened 0 = .ok (.aload_n 0, 1) := by decide +kernel
theorem dX4_doorOpened_1 : decode cX4_doorOpened 1 = .ok (.dup, 1) := by decide +kernel
theorem dX4_doorOpened_2 : decode cX4_doorOpened 2 = .ok (.getfield 31, 3) := by decide +kernel
theorem dX4_doorOpened_5 : decode cX4_doorOpened 5 = .ok (.iconst 1, 1) := by decide +kernel
theorem dX4_doorOpened_6 : decode cX4_doorOpened 6 = .ok (.iadd, 1) := by decide +kernel
theorem dX4_doorOpened_7 : decode cX4_doorOpened 7 = .ok (.putfield 31, 3) := by decide +kernel
theorem dX4_doorOpened_10 : decode cX4_doorOpened 10 = .ok (.aload_n 0, 1) := by decide +kernel
theorem dX4_doorOpened_11 : decode cX4_doorOpened 11 = .ok (.getfield 9, 3) := by decide +kernel
theorem dX4_doorOpened_14 : decode cX4_doorOpened 14 = .ok (.bipush 6, 2) := by decide +kernel
theorem dX4_doorOpened_16 : decode cX4_doorOpened 16 = .ok (.aload_n 0, 1) := by decide +kernel
theorem dX4_doorOpened_17 : decode cX4_doorOpened 17 = .ok (.getfield 9, 3) := by decide +kernel
theorem dX4_doorOpened_20 : decode cX4_doorOpened 20 = .ok (.bipush 6, 2) := by decide +kernel
theorem dX4_doorOpened_22 : decode cX4_doorOpened 22 = .ok (.iaload, 1) := by decide +kernel
theorem dX4_doorOpened_23 : decode cX4_doorOpened 23 = .ok (.aload_n 0, 1) := by decide +kernel
theorem dX4_doorOpened_24 : decode cX4_doorOpened 24 = .ok (.getfield 31, 3) := by decide +kernel
theorem dX4_doorOpened_27 : decode cX4_doorOpened 27 = .ok (.invokestatic 48, 3) := by decide +kernel
theorem dX4_doorOpened_30 : decode cX4_doorOpened 30 = .ok (.iastore, 1) := by decide +kernel
theorem dX4_doorOpened_31 : decode cX4_doorOpened 31 = .ok (.aload_n 0, 1) := by decide +kernel
theorem dX4_doorOpened_32 : decode cX4_doorOpened 32 = .ok (.bipush 10, 2) := by decide +kernel
theorem dX4_doorOpened_34 : decode cX4_doorOpened 34 = .ok (.iload_n 1, 1) := by decide +kernel
theorem dX4_doorOpened_35 : decode cX4_doorOpened 35 = .ok (.iadd, 1) := by decide +kernel
theorem dX4_doorOpened_36 : decode cX4_doorOpened 36 = .ok (.invokevirtual 54, 3) := by decide +kernel
theorem dX4_doorOpened_39 : decode cX4_doorOpened 39 = .ok (.return_, 1) := by decide +kernel
theorem dX4_doorShut_0 : decode cX4_doorShut 0 = .ok (.aload_n 0, 1) := by decide +kernel
theorem dX4_doorShut_1 : decode cX4_doorShut 1 = .ok (.dup, 1) := by decide +kernel
theorem dX4_doorShut_2 : decode cX4_doorShut 2 = .ok (.getfield 31, 3) := by decide +kernel
theorem dX4_doorShut_5 : decode cX4_doorShut 5 = .ok (.iconst 1, 1) := by decide +kernel
theorem dX4_doorShut_6 : decode cX4_doorShut 6 = .ok (.isub, 1) := by decide +kernel
theorem dX4_doorShut_7 : decode cX4_doorShut 7 = .ok (.putfield 31, 3) := by decide +kernel
theorem dX4_doorShut_10 : decode cX4_doorShut 10 = .ok (.aload_n 0, 1) := by decide +kernel
theorem dX4_doorShut_11 : decode cX4_doorShut 11 = .ok (.bipush 20, 2) := by decide +kernel
theorem dX4_doorShut_13 : decode cX4_doorShut 13 = .ok (.iload_n 1, 1) := by decide +kernel
theorem dX4_doorShut_14 : decode cX4_doorShut 14 = .ok (.iadd, 1) := by decide +kernel
theorem dX4_doorShut_15 : decode cX4_doorShut 15 = .ok (.invokevirtual 54, 3) := by decide +kernel
theorem dX4_doorShut_18 : decode cX4_doorShut 18 = .ok (.return_, 1) := by decide +kernel
theorem dX4_doorsOpen_0 : decode cX4_doorsOpen 0 = .ok (.aload_n 0, 1) := by decide +kernel
theorem dX4_doorsOpen_1 : decode cX4_doorsOpen 1 = .ok (.getfield 31, 3) := by decide +kernel
theorem dX4_doorsOpen_4 : decode cX4_doorsOpen 4 = .ok (.ireturn, 1) := by decide +kernel
theorem dX4_write_0 : decode cX4_write 0 = .ok (.aload_n 0, 1) := by decide +kernel
theorem dX4_write_1 : decode cX4_write 1 = .ok (.getfield 27, 3) := by decide +kernel
theorem dX4_write_4 : decode cX4_write 4 = .ok (.sipush 150, 3) := by decide +kernel
theorem dX4_write_7 : decode cX4_write 7 = .ok (.if_icmp .ge 23, 3) := by decide +kernel
theorem dX4_write_10 : decode cX4_write 10 = .ok (.aload_n 0, 1) := by decide +kernel
theorem dX4_write_11 : decode cX4_write 11 = .ok (.getfield 15, 3) := by decide +kernel
theorem dX4_write_14 : decode cX4_write 14 = .ok (.aload_n 0, 1) := by decide +kernel
theorem dX4_write_15 : decode cX4_write 15 = .ok (.getfield 27, 3) := by decide +kernel
theorem dX4_write_18 : decode cX4_write 18 = .ok (.iload_n 1, 1) := by decide +kernel
theorem dX4_write_19 : decode cX4_write 19 = .ok (.iastore, 1) := by decide +kernel
theorem dX4_write_20 : decode cX4_write 20 = .ok (.aload_n 0, 1) := by decide +kernel
theorem dX4_write_21 : decode cX4_write 21 = .ok (.dup, 1) := by decide +kernel
theorem dX4_write_22 : decode cX4_write 22 = .ok (.getfield 27, 3) := by decide +kernel
theorem dX4_write_25 : decode cX4_write 25 = .ok (.iconst 1, 1) := by decide +kernel
theorem dX4_write_26 : decode cX4_write 26 = .ok (.iadd, 1) := by decide +kernel
theorem dX4_write_27 : decode cX4_write 27 = .ok (.putfield 27, 3) := by decide +kernel
theorem dX4_write_30 : decode cX4_write 30 = .ok (.return_, 1) := by decide +kernel
theorem dX4_written_0 : decode cX4_written 0 = .ok (.aload_n 0, 1) := by decide +kernel
theorem dX4_written_1 : decode cX4_written 1 = .ok (.getfield 27, 3) := by decide +kernel
theorem dX4_written_4 : decode cX4_written 4 = .ok (.ireturn, 1) := by decide +kernel
theorem dX4_entry_0 : decode cX4_entry 0 = .ok (.aload_n 0, 1) := by decide +kernel
theorem dX4_entry_1 : decode cX4_entry 1 = .ok (.getfield 15, 3) := by decide +kernel
theorem dX4_entry_4 : decode cX4_entry 4 = .ok (.iload_n 1, 1) := by decide +kernel
theorem dX4_entry_5 : decode cX4_entry 5 = .ok (.invokestatic 44, 3) := by decide +kernel
theorem dX4_entry_8 : decode cX4_entry 8 = .ok (.ireturn, 1) := by decide +kernel
theorem dX4_close_0 : decode cX4_close 0 = .ok (.aload_n 0, 1) := by decide +kernel
theorem dX4_close_1 : decode cX4_close 1 = .ok (.getfield 9, 3) := by decide +kernel
theorem dX4_close_4 : decode cX4_close 4 = .ok (.iconst 5, 1) := by decide +kernel
theorem dX4_close_5 : decode cX4_close 5 = .ok (.iload_n 1, 1) := by decide +kernel
theorem dX4_close_6 : decode cX4_close 6 = .ok (.iastore, 1) := by decide +kernel
theorem dX4_close_7 : decode cX4_close 7 = .ok (.return_, 1) := by decide +kernel
theorem dX5_init_0 : decode cX5_init 0 = .ok (.aload_n 0, 1) := by decide +kernel
theorem dX5_init_1 : decode cX5_init 1 = .ok (.invokespecial 3, 3) := by decide +kernel
theorem dX5_init_4 : decode cX5_init 4 = .ok (.aload_n 0, 1) := by decide +kernel
theorem dX5_init_5 : decode cX5_init 5 = .ok (.new 9, 3) := by decide +kernel
theorem dX5_init_8 : decode cX5_init 8 = .ok (.dup, 1) := by decide +kernel
theorem dX5_init_9 : decode cX5_init 9 = .ok (.invokespecial 11, 3) := by decide +kernel
theorem dX5_init_12 : decode cX5_init 12 = .ok (.putfield 12, 3) := by decide +kernel
theorem dX5_init_15 : decode cX5_init 15 = .ok (.aload_n 0, 1) := by decide +kernel
theorem dX5_init_16 : decode cX5_init 16 = .ok (.new 9, 3) := by decide +kernel
theorem dX5_init_19 : decode cX5_init 19 = .ok (.dup, 1) := by decide +kernel
theorem dX5_init_20 : decode cX5_init 20 = .ok (.invokespecial 11, 3) := by decide +kernel
theorem dX5_init_23 : decode cX5_init 23 = .ok (.putfield 16, 3) := by decide +kernel
theorem dX5_init_26 : decode cX5_init 26 = .ok (.aload_n 0, 1) := by decide +kernel
theorem dX5_init_27 : decode cX5_init 27 = .ok (.new 19, 3) := by decide +kernel
theorem dX5_init_30 : decode cX5_init 30 = .ok (.dup, 1) := by decide +kernel
theorem dX5_init_31 : decode cX5_init 31 = .ok (.invokespecial 21, 3) := by decide +kernel
theorem dX5_init_34 : decode cX5_init 34 = .ok (.putfield 22, 3) := by decide +kernel
theorem dX5_init_37 : decode cX5_init 37 = .ok (.aload_n 0, 1) := by decide +kernel
theorem dX5_init_38 : decode cX5_init 38 = .ok (.new 26, 3) := by decide +kernel
theorem dX5_init_41 : decode cX5_init 41 = .ok (.dup, 1) := by decide +kernel
theorem dX5_init_42 : decode cX5_init 42 = .ok (.invokespecial 28, 3) := by decide +kernel
theorem dX5_init_45 : decode cX5_init 45 = .ok (.putfield 29, 3) := by decide +kernel
theorem dX5_init_48 : decode cX5_init 48 = .ok (.aload_n 0, 1) := by decide +kernel
theorem dX5_init_49 : decode cX5_init 49 = .ok (.new 33, 3) := by decide +kernel
theorem dX5_init_52 : decode cX5_init 52 = .ok (.dup, 1) := by decide +kernel
theorem dX5_init_53 : decode cX5_init 53 = .ok (.invokespecial 35, 3) := by decide +kernel
theorem dX5_init_56 : decode cX5_init 56 = .ok (.putfield 36, 3) := by decide +kernel
theorem dX5_init_59 : decode cX5_init 59 = .ok (.aload_n 0, 1) := by decide +kernel
theorem dX5_init_60 : decode cX5_init 60 = .ok (.new 33, 3) := by decide +kernel
theorem dX5_init_63 : decode cX5_init 63 = .ok (.dup, 1) := by decide +kernel
theorem dX5_init_64 : decode cX5_init 64 = .ok (.invokespecial 35, 3) := by decide +kernel
theorem dX5_init_67 : decode cX5_init 67 = .ok (.putfield 40, 3) := by decide +kernel
theorem dX5_init_70 : decode cX5_init 70 = .ok (.aload_n 0, 1) := by decide +kernel
theorem dX5_init_71 : decode cX5_init 71 = .ok (.new 43, 3) := by decide +kernel
theorem dX5_init_74 : decode cX5_init 74 = .ok (.dup, 1) := by decide +kernel
theorem dX5_init_75 : decode cX5_init 75 = .ok (.aload_n 0, 1) := by decide +kernel
theorem dX5_init_76 : decode cX5_init 76 = .ok (.getfield 29, 3) := by decide +kernel
theorem dX5_init_79 : decode cX5_init 79 = .ok (.aload_n 0, 1) := by decide +kernel
theorem dX5_init_80 : decode cX5_init 80 = .ok (.getfield 12, 3) := by decide +kernel
theorem dX5_init_83 : decode cX5_init 83 = .ok (.aload_n 0, 1) := by decide +kernel
theorem dX5_init_84 : decode cX5_init 84 = .ok (.getfield 36, 3) := by decide +kernel
theorem dX5_init_87 : decode cX5_init 87 = .ok (.invokespecial 45, 3) := by decide +kernel
theorem dX5_init_90 : decode cX5_init 90 = .ok (.putfield 48, 3) := by decide +kernel
theorem dX5_init_93 : decode cX5_init 93 = .ok (.return_, 1) := by decide +kernel
theorem dX5_sets_0 : decode cX5_sets 0 = .ok (.iload_n 1, 1) := by decide +kernel
theorem dX5_sets_1 : decode cX5_sets 1 = .ok (.invokestatic 52, 3) := by decide +kernel
theorem dX5_sets_4 : decode cX5_sets 4 = .ok (.ifCond .eq 27, 3) := by decide +kernel
theorem dX5_sets_7 : decode cX5_sets 7 = .ok (.iload_n 2, 1) := by decide +kernel
theorem dX5_sets_8 : decode cX5_sets 8 = .ok (.iconst 0, 1) := by decide +kernel
theorem dX5_sets_9 : decode cX5_sets 9 = .ok (.iconst 3, 1) := by decide +kernel
theorem dX5_sets_10 : decode cX5_sets 10 = .ok (.invokestatic 56, 3) := by decide +kernel
theorem dX5_sets_13 : decode cX5_sets 13 = .ok (.ifCond .eq 18, 3) := by decide +kernel
theorem dX5_sets_16 : decode cX5_sets 16 = .ok (.iload_n 3, 1) := by decide +kernel
theorem dX5_sets_17 : decode cX5_sets 17 = .ok (.iconst 0, 1) := by decide +kernel
theorem dX5_sets_18 : decode cX5_sets 18 = .ok (.getstatic 60, 3) := by decide +kernel
theorem dX5_sets_21 : decode cX5_sets 21 = .ok (.iload_n 2, 1) := by decide +kernel
theorem dX5_sets_22 : decode cX5_sets 22 = .ok (.invokestatic 64, 3) := by decide +kernel
theorem dX5_sets_25 : decode cX5_sets 25 = .ok (.invokestatic 56, 3) := by decide +kernel
theorem dX5_sets_28 : decode cX5_sets 28 = .ok (.ifCond .ne 10, 3) := by decide +kernel
theorem dX5_sets_31 : decode cX5_sets 31 = .ok (.aload_n 0, 1) := by decide +kernel
theorem dX5_sets_32 : decode cX5_sets 32 = .ok (.bipush (-2), 2) := by decide +kernel
theorem dX5_sets_34 : decode cX5_sets 34 = .ok (.invokevirtual 68, 3) := by decide +kernel
theorem dX5_sets_37 : decode cX5_sets 37 = .ok (.ireturn, 1) := by decide +kernel
theorem dX5_sets_38 : decode cX5_sets 38 = .ok (.aload_n 0, 1) := by decide +kernel
theorem dX5_sets_39 : decode cX5_sets 39 = .ok (.getfield 12, 3) := by decide +kernel
theorem dX5_sets_42 : decode cX5_sets 42 = .ok (.iload_n 1, 1) := by decide +kernel
theorem dX5_sets_43 : decode cX5_sets 43 = .ok (.iload_n 2, 1) := by decide +kernel
theorem dX5_sets_44 : decode cX5_sets 44 = .ok (.invokevirtual 72, 3) := by decide +kernel
theorem dX5_sets_47 : decode cX5_sets 47 = .ok (.istore 4, 2) := by decide +kernel
theorem dX5_sets_49 : decode cX5_sets 49 = .ok (.aload_n 0, 1) := by decide +kernel
theorem dX5_sets_50 : decode cX5_sets 50 = .ok (.getfield 22, 3) := by decide +kernel
theorem dX5_sets_53 : decode cX5_sets 53 = .ok (.aload_n 0, 1) := by decide +kernel
theorem dX5_sets_54 : decode cX5_sets 54 = .ok (.getfield 12, 3) := by decide +kernel
theorem dX5_sets_57 : decode cX5_sets 57 = .ok (.invokevirtual 76, 3) := by decide +kernel
theorem dX5_sets_60 : decode cX5_sets 60 = .ok (.aload_n 0, 1) := by decide +kernel
theorem dX5_sets_61 : decode cX5_sets 61 = .ok (.getfield 12, 3) := by decide +kernel
theorem dX5_sets_64 : decode cX5_sets 64 = .ok (.iload_n 1, 1) := by decide +kernel
theorem dX5_sets_65 : decode cX5_sets 65 = .ok (.iload_n 2, 1) := by decide +kernel
theorem dX5_sets_66 : decode cX5_sets 66 = .ok (.iload_n 3, 1) := by decide +kernel
theorem dX5_sets_67 : decode cX5_sets 67 = .ok (.invokevirtual 80, 3) := by decide +kernel
theorem dX5_sets_70 : decode cX5_sets 70 = .ok (.iload 4, 2) := by decide +kernel
theorem dX5_sets_72 : decode cX5_sets 72 = .ok (.ireturn, 1) := by decide +kernel
theorem dX5_of_0 : decode cX5_of 0 = .ok (.iload_n 1, 1) := by decide +kernel
theorem dX5_of_1 : decode cX5_of 1 = .ok (.invokestatic 52, 3) := by decide +kernel
theorem dX5_of_4 : decode cX5_of 4 = .ok (.ifCond .eq 13, 3) := by decide +kernel
theorem dX5_of_7 : decode cX5_of 7 = .ok (.iload_n 2, 1) := by decide +kernel
theorem dX5_of_8 : decode cX5_of 8 = .ok (.iconst 0, 1) := by decide +kernel
theorem dX5_of_9 : decode cX5_of 9 = .ok (.bipush 7, 2) := by decide +kernel
theorem dX5_of_11 : decode cX5_of 11 = .ok (.invokestatic 56, 3) := by decide +kernel
theorem dX5_of_14 : decode cX5_of 14 = .ok (.ifCond .ne 10, 3) := by decide +kernel
theorem dX5_of_17 : decode cX5_of 17 = .ok (.aload_n 0, 1) := by decide +kernel
theorem dX5_of_18 : decode cX5_of 18 = .ok (.bipush (-2), 2) := by decide +kernel
theorem dX5_of_20 : decode cX5_of 20 = .ok (.invokevirtual 68, 3) := by decide +kernel
theorem dX5_of_23 : decode cX5_of 23 = .ok (.ireturn, 1) := by decide +kernel
theorem dX5_of_24 : decode cX5_of 24 = .ok (.iload_n 2, 1) := by decide +kernel
theorem dX5_of_25 : decode cX5_of 25 = .ok (.bipush 7, 2) := by decide +kernel
theorem dX5_of_27 : decode cX5_of 27 = .ok (.if_icmp .ne 14, 3) := by decide +kernel
theorem dX5_of_30 : decode cX5_of 30 = .ok (.aload_n 0, 1) := by decide +kernel
theorem dX5_of_31 : decode cX5_of 31 = .ok (.getfield 12, 3) := by decide +kernel
theorem dX5_of_34 : decode cX5_of 34 = .ok (.iload_n 1, 1) := by decide +kernel
theorem dX5_of_35 : decode cX5_of 35 = .ok (.invokevirtual 84, 3) := by decide +kernel
theorem dX5_of_38 : decode cX5_of 38 = .ok (.goto 12, 3) := by decide +kernel
theorem dX5_of_41 : decode cX5_of 41 = .ok (.aload_n 0, 1) := by decide +kernel
theorem dX5_of_42 : decode cX5_of 42 = .ok (.getfield 12, 3) := by decide +kernel
theorem dX5_of_45 : decode cX5_of 45 = .ok (.iload_n 1, 1) := by decide +kernel
theorem dX5_of_46 : decode cX5_of 46 = .ok (.iload_n 2, 1) := by decide +kernel
theorem dX5_of_47 : decode cX5_of 47 = .ok (.invokevirtual 72, 3) := by decide +kernel
theorem dX5_of_50 : decode cX5_of 50 = .ok (.ireturn, 1) := by decide +kernel
theorem dX5_keys_0 : decode cX5_keys 0 = .ok (.iload_n 1, 1) := by decide +kernel
theorem dX5_keys_1 : decode cX5_keys 1 = .ok (.iconst 0, 1) := by decide +kernel
theorem dX5_keys_2 : decode cX5_keys 2 = .ok (.bipush 14, 2) := by decide +kernel
theorem dX5_keys_4 : decode cX5_keys 4 = .ok (.invokestatic 56, 3) := by decide +kernel
theorem dX5_keys_7 : decode cX5_keys 7 = .ok (.ifCond .eq 9, 3) := by decide +kernel
theorem dX5_keys_10 : decode cX5_keys 10 = .ok (.iload_n 1, 1) := by decide +kernel
theorem dX5_keys_11 : decode cX5_keys 11 = .ok (.iconst 1, 1) := by decide +kernel
theorem dX5_keys_12 : decode cX5_keys 12 = .ok (.iand, 1) := by decide +kernel
theorem dX5_keys_13 : decode cX5_keys 13 = .ok (.ifCond .eq 10, 3) := by decide +kernel
theorem dX5_keys_16 : decode cX5_keys 16 = .ok (.aload_n 0, 1) := by decide +kernel
theorem dX5_keys_17 : decode cX5_keys 17 = .ok (.bipush (-2), 2) := by decide +kernel
theorem dX5_keys_19 : decode cX5_keys 19 = .ok (.invokevirtual 68, 3) := by decide +kernel
theorem dX5_keys_22 : decode cX5_keys 22 = .ok (.ireturn, 1) := by decide +kernel
theorem dX5_keys_23 : decode cX5_keys 23 = .ok (.aload_n 0, 1) := by decide +kernel
theorem dX5_keys_24 : decode cX5_keys 24 = .ok (.getfield 12, 3) := by decide +kernel
theorem dX5_keys_27 : decode cX5_keys 27 = .ok (.invokevirtual 87, 3) := by decide +kernel
theorem dX5_keys_30 : decode cX5_keys 30 = .ok (.istore_n 2, 1) := by decide +kernel
theorem dX5_keys_31 : decode cX5_keys 31 = .ok (.aload_n 0, 1) := by decide +kernel
theorem dX5_keys_32 : decode cX5_keys 32 = .ok (.getfield 22, 3) := by decide +kernel
theorem dX5_keys_35 : decode cX5_keys 35 = .ok (.aload_n 0, 1) := by decide +kernel
theorem dX5_keys_36 : decode cX5_keys 36 = .ok (.getfield 12, 3) := by decide +kernel
theorem dX5_keys_39 : decode cX5_keys 39 = .ok (.invokevirtual 76, 3) := by decide +kernel
theorem dX5_keys_42 : decode cX5_keys 42 = .ok (.aload_n 0, 1) := by decide +kernel
theorem dX5_keys_43 : decode cX5_keys 43 = .ok (.getfield 12, 3) := by decide +kernel
theorem dX5_keys_46 : decode cX5_keys 46 = .ok (.iload_n 1, 1) := by decide +kernel
theorem dX5_keys_47 : decode cX5_keys 47 = .ok (.invokevirtual 91, 3) := by decide +kernel
theorem dX5_keys_50 : decode cX5_keys 50 = .ok (.iload_n 2, 1) := by decide +kernel
theorem dX5_keys_51 : decode cX5_keys 51 = .ok (.ireturn, 1) := by decide +kernel
theorem dX5_dusk_0 : decode cX5_dusk 0 = .ok (.aload_n 0, 1) := by decide +kernel
theorem dX5_dusk_1 : decode cX5_dusk 1 = .ok (.getfield 12, 3) := by decide +kernel
theorem dX5_dusk_4 : decode cX5_dusk 4 = .ok (.iconst 4, 1) := by decide +kernel
theorem dX5_dusk_5 : decode cX5_dusk 5 = .ok (.invokevirtual 95, 3) := by decide +kernel
theorem dX5_dusk_8 : decode cX5_dusk 8 = .ok (.istore_n 1, 1) := by decide +kernel
theorem dX5_dusk_9 : decode cX5_dusk 9 = .ok (.aload_n 0, 1) := by decide +kernel
theorem dX5_dusk_10 : decode cX5_dusk 10 = .ok (.getfield 22, 3) := by decide +kernel
theorem dX5_dusk_13 : decode cX5_dusk 13 = .ok (.aload_n 0, 1) := by decide +kernel
theorem dX5_dusk_14 : decode cX5_dusk 14 = .ok (.getfield 12, 3) := by decide +kernel
theorem dX5_dusk_17 : decode cX5_dusk 17 = .ok (.invokevirtual 76, 3) := by decide +kernel
theorem dX5_dusk_20 : decode cX5_dusk 20 = .ok (.aload_n 0, 1) := by decide +kernel
theorem dX5_dusk_21 : decode cX5_dusk 21 = .ok (.getfield 12, 3) := by decide +kernel
theorem dX5_dusk_24 : decode cX5_dusk 24 = .ok (.invokevirtual 98, 3) := by decide +kernel
theorem dX5_dusk_27 : decode cX5_dusk 27 = .ok (.iload_n 1, 1) := by decide +kernel
theorem dX5_dusk_28 : decode cX5_dusk 28 = .ok (.ireturn, 1) := by decide +kernel
theorem dX5_type_0 : decode cX5_type 0 = .ok (.iload_n 1, 1) := by decide +kernel
theorem dX5_type_1 : decode cX5_type 1 = .ok (.iconst 0, 1) := by decide +kernel
theorem dX5_type_2 : decode cX5_type 2 = .ok (.bipush 127, 2) := by decide +kernel
theorem dX5_type_4 : decode cX5_type 4 = .ok (.invokestatic 56, 3) := by decide +kernel
theorem dX5_type_7 : decode cX5_type 7 = .ok (.ifCond .ne 10, 3) := by decide +kernel
theorem dX5_type_10 : decode cX5_type 10 = .ok (.aload_n 0, 1) := by decide +kernel
theorem dX5_type_11 : decode cX5_type 11 = .ok (.bipush (-2), 2) := by decide +kernel
theorem dX5_type_13 : decode cX5_type 13 = .ok (.invokevirtual 68, 3) := by decide +kernel
theorem dX5_type_16 : decode cX5_type 16 = .ok (.ireturn, 1) := by decide +kernel
theorem dX5_type_17 : decode cX5_type 17 = .ok (.aload_n 0, 1) := by decide +kernel
theorem dX5_type_18 : decode cX5_type 18 = .ok (.getfield 29, 3) := by decide +kernel
theorem dX5_type_21 : decode cX5_type 21 = .ok (.invokevirtual 101, 3) := by decide +kernel
theorem dX5_type_24 : decode cX5_type 24 = .ok (.bipush 100, 2) := by decide +kernel
theorem dX5_type_26 : decode cX5_type 26 = .ok (.if_icmp .lt 10, 3) := by decide +kernel
theorem dX5_type_29 : decode cX5_type 29 = .ok (.aload_n 0, 1) := by decide +kernel
theorem dX5_type_30 : decode cX5_type 30 = .ok (.bipush (-4), 2) := by decide +kernel
theorem dX5_type_32 : decode cX5_type 32 = .ok (.invokevirtual 68, 3) := by decide +kernel
theorem dX5_type_35 : decode cX5_type 35 = .ok (.ireturn, 1) := by decide +kernel
theorem dX5_type_36 : decode cX5_type 36 = .ok (.aload_n 0, 1) := by decide +kernel
theorem dX5_type_37 : decode cX5_type 37 = .ok (.getfield 29, 3) := by decide +kernel
theorem dX5_type_40 : decode cX5_type 40 = .ok (.iload_n 1, 1) := by decide +kernel
theorem dX5_type_41 : decode cX5_type 41 = .ok (.invokevirtual 104, 3) := by decide +kernel
theorem dX5_type_44 : decode cX5_type 44 = .ok (.aload_n 0, 1) := by decide +kernel
theorem dX5_type_45 : decode cX5_type 45 = .ok (.getfield 29, 3) := by decide +kernel
theorem dX5_type_48 : decode cX5_type 48 = .ok (.invokevirtual 101, 3) := by decide +kernel
theorem dX5_type_51 : decode cX5_type 51 = .ok (.ireturn, 1) := by decide +kernel
theorem dX5_clear_0 : decode cX5_clear 0 = .ok (.aload_n 0, 1) := by decide +kernel
theorem dX5_clear_1 : decode cX5_clear 1 = .ok (.getfield 29, 3) := by decide +kernel
theorem dX5_clear_4 : decode cX5_clear 4 = .ok (.invokevirtual 101, 3) := by decide +kernel
theorem dX5_clear_7 : decode cX5_clear 7 = .ok (.istore_n 1, 1) := by decide +kernel
theorem dX5_clear_8 : decode cX5_clear 8 = .ok (.aload_n 0, 1) := by decide +kernel
theorem dX5_clear_9 : decode cX5_clear 9 = .ok (.getfield 29, 3) := by decide +kernel
theorem dX5_clear_12 : decode cX5_clear 12 = .ok (.invokevirtual 107, 3) := by decide +kernel
theorem dX5_clear_15 : decode cX5_clear 15 = .ok (.iload_n 1, 1) := by decide +kernel
theorem dX5_clear_16 : decode cX5_clear 16 = .ok (.ireturn, 1) := by decide +kernel
theorem dX5_goes_0 : decode cX5_goes 0 = .ok (.aload_n 0, 1) := by decide +kernel
theorem dX5_goes_1 : decode cX5_goes 1 = .ok (.getfield 29, 3) := by decide +kernel
theorem dX5_goes_4 : decode cX5_goes 4 = .ok (.invokevirtual 110, 3) := by decide +kernel
theorem dX5_goes_7 : decode cX5_goes 7 = .ok (.istore_n 1, 1) := by decide +kernel
theorem dX5_goes_8 : decode cX5_goes 8 = .ok (.iload_n 1, 1) := by decide +kernel
theorem dX5_goes_9 : decode cX5_goes 9 = .ok (.iconst (-1), 1) := by decide +kernel
theorem dX5_goes_10 : decode cX5_goes 10 = .ok (.if_icmp .eq 8, 3) := by decide +kernel
theorem dX5_goes_13 : decode cX5_goes 13 = .ok (.bipush (-10), 2) := by decide +kernel
theorem dX5_goes_15 : decode cX5_goes 15 = .ok (.iload_n 1, 1) := by decide +kernel
theorem dX5_goes_16 : decode cX5_goes 16 = .ok (.isub, 1) := by decide +kernel
theorem dX5_goes_17 : decode cX5_goes 17 = .ok (.ireturn, 1) := by decide +kernel
theorem dX5_goes_18 : decode cX5_goes 18 = .ok (.aload_n 0, 1) := by decide +kernel
theorem dX5_goes_19 : decode cX5_goes 19 = .ok (.getfield 22, 3) := by decide +kernel
theorem dX5_goes_22 : decode cX5_goes 22 = .ok (.aload_n 0, 1) := by decide +kernel
theorem dX5_goes_23 : decode cX5_goes 23 = .ok (.getfield 12, 3) := by decide +kernel
theorem dX5_goes_26 : decode cX5_goes 26 = .ok (.invokevirtual 76, 3) := by decide +kernel
theorem dX5_goes_29 : decode cX5_goes 29 = .ok (.aload_n 0, 1) := by decide +kernel
theorem dX5_goes_30 : decode cX5_goes 30 = .ok (.getfield 48, 3) := by decide +kernel
theorem dX5_goes_33 : decode cX5_goes 33 = .ok (.aload_n 0, 1) := by decide +kernel
theorem dX5_goes_34 : decode cX5_goes 34 = .ok (.getfield 12, 3) := by decide +kernel
theorem dX5_goes_37 : decode cX5_goes 37 = .ok (.aload_n 0, 1) := by decide +kernel
theorem dX5_goes_38 : decode cX5_goes 38 = .ok (.getfield 36, 3) := by decide +kernel
theorem dX5_goes_41 : decode cX5_goes 41 = .ok (.invokevirtual 113, 3) := by decide +kernel
theorem dX5_goes_44 : decode cX5_goes 44 = .ok (.ireturn, 1) := by decide +kernel
theorem dX5_tries_0 : decode cX5_tries 0 = .ok (.aload_n 0, 1) := by decide +kernel
theorem dX5_tries_1 : decode cX5_tries 1 = .ok (.getfield 29, 3) := by decide +kernel
theorem dX5_tries_4 : decode cX5_tries 4 = .ok (.invokevirtual 110, 3) := by decide +kernel
theorem dX5_tries_7 : decode cX5_tries 7 = .ok (.istore_n 1, 1) := by decide +kernel
theorem dX5_tries_8 : decode cX5_tries 8 = .ok (.iload_n 1, 1) := by decide +kernel
theorem dX5_tries_9 : decode cX5_tries 9 = .ok (.iconst (-1), 1) := by decide +kernel
theorem dX5_tries_10 : decode cX5_tries 10 = .ok (.if_icmp .eq 8, 3) := by decide +kernel
theorem dX5_tries_13 : decode cX5_tries 13 = .ok (.bipush (-10), 2) := by decide +kernel
theorem dX5_tries_15 : decode cX5_tries 15 = .ok (.iload_n 1, 1) := by decide +kernel
theorem dX5_tries_16 : decode cX5_tries 16 = .ok (.isub, 1) := by decide +kernel
theorem dX5_tries_17 : decode cX5_tries 17 = .ok (.ireturn, 1) := by decide +kernel
theorem dX5_tries_18 : decode cX5_tries 18 = .ok (.aload_n 0, 1) := by decide +kernel
theorem dX5_tries_19 : decode cX5_tries 19 = .ok (.getfield 16, 3) := by decide +kernel
theorem dX5_tries_22 : decode cX5_tries 22 = .ok (.aload_n 0, 1) := by decide +kernel
theorem dX5_tries_23 : decode cX5_tries 23 = .ok (.getfield 12, 3) := by decide +kernel
theorem dX5_tries_26 : decode cX5_tries 26 = .ok (.invokevirtual 117, 3) := by decide +kernel
theorem dX5_tries_29 : decode cX5_tries 29 = .ok (.aload_n 0, 1) := by decide +kernel
theorem dX5_tries_30 : decode cX5_tries 30 = .ok (.getfield 48, 3) := by decide +kernel
theorem dX5_tries_33 : decode cX5_tries 33 = .ok (.aload_n 0, 1) := by decide +kernel
theorem dX5_tries_34 : decode cX5_tries 34 = .ok (.getfield 16, 3) := by decide +kernel
theorem dX5_tries_37 : decode cX5_tries 37 = .ok (.aload_n 0, 1) := by decide +kernel
theorem dX5_tries_38 : decode cX5_tries 38 = .ok (.getfield 36, 3) := by decide +kernel
theorem dX5_tries_41 : decode cX5_tries 41 = .ok (.invokevirtual 113, 3) := by decide +kernel
theorem dX5_tries_44 : decode cX5_tries 44 = .ok (.ireturn, 1) := by decide +kernel
theorem dX5_often_0 : decode cX5_often 0 = .ok (.iload_n 1, 1) := by decide +kernel
theorem dX5_often_1 : decode cX5_often 1 = .ok (.iconst 1, 1) := by decide +kernel
theorem dX5_often_2 : decode cX5_often 2 = .ok (.iconst 3, 1) := by decide +kernel
theorem dX5_often_3 : decode cX5_often 3 = .ok (.invokestatic 56, 3) := by decide +kernel
theorem dX5_often_6 : decode cX5_often 6 = .ok (.ifCond .ne 10, 3) := by decide +kernel
theorem dX5_often_9 : decode cX5_often 9 = .ok (.aload_n 0, 1) := by decide +kernel
theorem dX5_often_10 : decode cX5_often 10 = .ok (.bipush (-2), 2) := by decide +kernel
theorem dX5_often_12 : decode cX5_often 12 = .ok (.invokevirtual 68, 3) := by decide +kernel
theorem dX5_often_15 : decode cX5_often 15 = .ok (.ireturn, 1) := by decide +kernel
theorem dX5_often_16 : decode cX5_often 16 = .ok (.aload_n 0, 1) := by decide +kernel
theorem dX5_often_17 : decode cX5_often 17 = .ok (.getfield 29, 3) := by decide +kernel
theorem dX5_often_20 : decode cX5_often 20 = .ok (.invokevirtual 110, 3) := by decide +kernel
theorem dX5_often_23 : decode cX5_often 23 = .ok (.istore_n 2, 1) := by decide +kernel
theorem dX5_often_24 : decode cX5_often 24 = .ok (.iload_n 2, 1) := by decide +kernel
theorem dX5_often_25 : decode cX5_often 25 = .ok (.iconst (-1), 1) := by decide +kernel
theorem dX5_often_26 : decode cX5_often 26 = .ok (.if_icmp .eq 8, 3) := by decide +kernel
theorem dX5_often_29 : decode cX5_often 29 = .ok (.bipush (-10), 2) := by decide +kernel
theorem dX5_often_31 : decode cX5_often 31 = .ok (.iload_n 2, 1) := by decide +kernel
theorem dX5_often_32 : decode cX5_often 32 = .ok (.isub, 1) := by decide +kernel
theorem dX5_often_33 : decode cX5_often 33 = .ok (.ireturn, 1) := by decide +kernel
theorem dX5_often_34 : decode cX5_often 34 = .ok (.aload_n 0, 1) := by decide +kernel
theorem dX5_often_35 : decode cX5_often 35 = .ok (.getfield 22, 3) := by decide +kernel
theorem dX5_often_38 : decode cX5_often 38 = .ok (.aload_n 0, 1) := by decide +kernel
theorem dX5_often_39 : decode cX5_often 39 = .ok (.getfield 12, 3) := by decide +kernel
theorem dX5_often_42 : decode cX5_often 42 = .ok (.invokevirtual 76, 3) := by decide +kernel
theorem dX5_often_45 : decode cX5_often 45 = .ok (.iconst 0, 1) := by decide +kernel
theorem dX5_often_46 : decode cX5_often 46 = .ok (.istore_n 3, 1) := by decide +kernel
theorem dX5_often_47 : decode cX5_often 47 = .ok (.iconst 0, 1) := by decide +kernel
theorem dX5_often_48 : decode cX5_often 48 = .ok (.istore 4, 2) := by decide +kernel
theorem dX5_often_50 : decode cX5_often 50 = .ok (.iload 4, 2) := by decide +kernel
theorem dX5_often_52 : decode cX5_often 52 = .ok (.iload_n 1, 1) := by decide +kernel
theorem dX5_often_53 : decode cX5_often 53 = .ok (.if_icmp .ge 36, 3) := by decide +kernel
theorem dX5_often_56 : decode cX5_often 56 = .ok (.iload_n 3, 1) := by decide +kernel
theorem dX5_often_57 : decode cX5_often 57 = .ok (.iload 4, 2) := by decide +kernel
theorem dX5_often_59 : decode cX5_often 59 = .ok (.if_icmp .ne 30, 3) := by decide +kernel
theorem dX5_often_62 : decode cX5_often 62 = .ok (.aload_n 0, 1) := by decide +kernel
theorem dX5_often_63 : decode cX5_often 63 = .ok (.getfield 48, 3) := by decide +kernel
theorem dX5_often_66 : decode cX5_often 66 = .ok (.aload_n 0, 1) := by decide +kernel
theorem dX5_often_67 : decode cX5_often 67 = .ok (.getfield 12, 3) := by decide +kernel
theorem dX5_often_70 : decode cX5_often 70 = .ok (.aload_n 0, 1) := by decide +kernel
theorem dX5_often_71 : decode cX5_often 71 = .ok (.getfield 36, 3) := by decide +kernel
theorem dX5_often_74 : decode cX5_often 74 = .ok (.invokevirtual 113, 3) := by decide +kernel
theorem dX5_often_77 : decode cX5_often 77 = .ok (.ifCond .ne 6, 3) := by decide +kernel
theorem dX5_often_80 : decode cX5_often 80 = .ok (.iinc 3 1, 3) := by decide +kernel
theorem dX5_often_83 : decode cX5_often 83 = .ok (.iinc 4 1, 3) := by decide +kernel
theorem dX5_often_86 : decode cX5_often 86 = .ok (.goto (-36), 3) := by decide +kernel
theorem dX5_often_89 : decode cX5_often 89 = .ok (.iload_n 3, 1) := by decide +kernel
theorem dX5_often_90 : decode cX5_often 90 = .ok (.ireturn, 1) := by decide +kernel
theorem dX5_was_0 : decode cX5_was 0 = .ok (.iload_n 1, 1) := by decide +kernel
theorem dX5_was_1 : decode cX5_was 1 = .ok (.iconst 0, 1) := by decide +kernel
theorem dX5_was_2 : decode cX5_was 2 = .ok (.bipush 7, 2) := by decide +kernel
theorem dX5_was_4 : decode cX5_was 4 = .ok (.invokestatic 56, 3) := by decide +kernel
theorem dX5_was_7 : decode cX5_was 7 = .ok (.ifCond .eq 14, 3) := by decide +kernel
theorem dX5_was_10 : decode cX5_was 10 = .ok (.aload_n 0, 1) := by decide +kernel
theorem dX5_was_11 : decode cX5_was 11 = .ok (.getfield 36, 3) := by decide +kernel
theorem dX5_was_14 : decode cX5_was 14 = .ok (.iload_n 1, 1) := by decide +kernel
theorem dX5_was_15 : decode cX5_was 15 = .ok (.invokevirtual 120, 3) := by decide +kernel
theorem dX5_was_18 : decode cX5_was 18 = .ok (.goto 9, 3) := by decide +kernel
theorem dX5_was_21 : decode cX5_was 21 = .ok (.aload_n 0, 1) := by decide +kernel
theorem dX5_was_22 : decode cX5_was 22 = .ok (.bipush (-2), 2) := by decide +kernel
theorem dX5_was_24 : decode cX5_was 24 = .ok (.invokevirtual 68, 3) := by decide +kernel
theorem dX5_was_27 : decode cX5_was 27 = .ok (.ireturn, 1) := by decide +kernel
theorem dX5_root_0 : decode cX5_root 0 = .ok (.aload_n 0, 1) := by decide +kernel
theorem dX5_root_1 : decode cX5_root 1 = .ok (.getfield 36, 3) := by decide +kernel
theorem dX5_root_4 : decode cX5_root 4 = .ok (.invokevirtual 123, 3) := by decide +kernel
theorem dX5_root_7 : decode cX5_root 7 = .ok (.ireturn, 1) := by decide +kernel
theorem dX5_diary_0 : decode cX5_diary 0 = .ok (.iload_n 1, 1) := by decide +kernel
theorem dX5_diary_1 : decode cX5_diary 1 = .ok (.iconst (-1), 1) := by decide +kernel
theorem dX5_diary_2 : decode cX5_diary 2 = .ok (.if_icmp .ge 13, 3) := by decide +kernel
theorem dX5_diary_5 : decode cX5_diary 5 = .ok (.aload_n 0, 1) := by decide +kernel
theorem dX5_diary_6 : decode cX5_diary 6 = .ok (.bipush (-2), 2) := by decide +kernel
theorem dX5_diary_8 : decode cX5_diary 8 = .ok (.invokevirtual 68, 3) := by decide +kernel
theorem dX5_diary_11 : decode cX5_diary 11 = .ok (.pop, 1) := by decide +kernel
theorem dX5_diary_12 : decode cX5_diary 12 = .ok (.bipush (-10), 2) := by decide +kernel
theorem dX5_diary_14 : decode cX5_diary 14 = .ok (.ireturn, 1) := by decide +kernel
theorem dX5_diary_15 : decode cX5_diary 15 = .ok (.iload_n 1, 1) := by decide +kernel
theorem dX5_diary_16 : decode cX5_diary 16 = .ok (.iconst (-1), 1) := by decide +kernel
theorem dX5_diary_17 : decode cX5_diary 17 = .ok (.if_icmp .ne 11, 3) := by decide +kernel
theorem dX5_diary_20 : decode cX5_diary 20 = .ok (.aload_n 0, 1) := by decide +kernel
theorem dX5_diary_21 : decode cX5_diary 21 = .ok (.getfield 36, 3) := by decide +kernel
theorem dX5_diary_24 : decode cX5_diary 24 = .ok (.invokevirtual 126, 3) := by decide +kernel
theorem dX5_diary_27 : decode cX5_diary 27 = .ok (.ireturn, 1) := by decide +kernel
theorem dX5_diary_28 : decode cX5_diary 28 = .ok (.iload_n 1, 1) := by decide +kernel
theorem dX5_diary_29 : decode cX5_diary 29 = .ok (.aload_n 0, 1) := by decide +kernel
theorem dX5_diary_30 : decode cX5_diary 30 = .ok (.getfield 36, 3) := by decide +kernel
theorem dX5_diary_33 : decode cX5_diary 33 = .ok (.invokevirtual 126, 3) := by decide +kernel
theorem dX5_diary_36 : decode cX5_diary 36 = .ok (.if_icmp .ge 14, 3) := by decide +kernel
theorem dX5_diary_39 : decode cX5_diary 39 = .ok (.aload_n 0, 1) := by decide +kernel
theorem dX5_diary_40 : decode cX5_diary 40 = .ok (.getfield 36, 3) := by decide +kernel
theorem dX5_diary_43 : decode cX5_diary 43 = .ok (.iload_n 1, 1) := by decide +kernel
theorem dX5_diary_44 : decode cX5_diary 44 = .ok (.invokevirtual 129, 3) := by decide +kernel
theorem dX5_diary_47 : decode cX5_diary 47 = .ok (.goto 5, 3) := by decide +kernel
theorem dX5_diary_50 : decode cX5_diary 50 = .ok (.bipush (-5), 2) := by decide +kernel
theorem dX5_diary_52 : decode cX5_diary 52 = .ok (.ireturn, 1) := by decide +kernel
theorem dX5_open_0 : decode cX5_open 0 = .ok (.aload_n 0, 1) := by decide +kernel
theorem dX5_open_1 : decode cX5_open 1 = .ok (.getfield 36, 3) := by decide +kernel
theorem dX5_open_4 : decode cX5_open 4 = .ok (.invokevirtual 132, 3) := by decide +kernel
theorem dX5_open_7 : decode cX5_open 7 = .ok (.ireturn, 1) := by decide +kernel
theorem dX5_fewest_0 : decode cX5_fewest 0 = .ok (.aload_n 0, 1) := by decide +kernel
theorem dX5_fewest_1 : decode cX5_fewest 1 = .ok (.getfield 29, 3) := by decide +kernel
theorem dX5_fewest_4 : decode cX5_fewest 4 = .ok (.invokevirtual 110, 3) := by decide +kernel
theorem dX5_fewest_7 : decode cX5_fewest 7 = .ok (.istore_n 1, 1) := by decide +kernel
theorem dX5_fewest_8 : decode cX5_fewest 8 = .ok (.iload_n 1, 1) := by decide +kernel
theorem dX5_fewest_9 : decode cX5_fewest 9 = .ok (.iconst (-1), 1) := by decide +kernel
theorem dX5_fewest_10 : decode cX5_fewest 10 = .ok (.if_icmp .eq 8, 3) := by decide +kernel
theorem dX5_fewest_13 : decode cX5_fewest 13 = .ok (.bipush (-10), 2) := by decide +kernel
theorem dX5_fewest_15 : decode cX5_fewest 15 = .ok (.iload_n 1, 1) := by decide +kernel
theorem dX5_fewest_16 : decode cX5_fewest 16 = .ok (.isub, 1) := by decide +kernel
theorem dX5_fewest_17 : decode cX5_fewest 17 = .ok (.ireturn, 1) := by decide +kernel
theorem dX5_fewest_18 : decode cX5_fewest 18 = .ok (.iconst 0, 1) := by decide +kernel
theorem dX5_fewest_19 : decode cX5_fewest 19 = .ok (.istore_n 2, 1) := by decide +kernel
theorem dX5_fewest_20 : decode cX5_fewest 20 = .ok (.iload_n 2, 1) := by decide +kernel
theorem dX5_fewest_21 : decode cX5_fewest 21 = .ok (.getstatic 135, 3) := by decide +kernel
theorem dX5_fewest_24 : decode cX5_fewest 24 = .ok (.arraylength, 1) := by decide +kernel
theorem dX5_fewest_25 : decode cX5_fewest 25 = .ok (.if_icmp .ge 38, 3) := by decide +kernel
theorem dX5_fewest_28 : decode cX5_fewest 28 = .ok (.aload_n 0, 1) := by decide +kernel
theorem dX5_fewest_29 : decode cX5_fewest 29 = .ok (.getfield 48, 3) := by decide +kernel
theorem dX5_fewest_32 : decode cX5_fewest 32 = .ok (.aload_n 0, 1) := by decide +kernel
theorem dX5_fewest_33 : decode cX5_fewest 33 = .ok (.getstatic 135, 3) := by decide +kernel
theorem dX5_fewest_36 : decode cX5_fewest 36 = .ok (.iload_n 2, 1) := by decide +kernel
theorem dX5_fewest_37 : decode cX5_fewest 37 = .ok (.iaload, 1) := by decide +kernel
theorem dX5_fewest_38 : decode cX5_fewest 38 = .ok (.invokevirtual 138, 3) := by decide +kernel
theorem dX5_fewest_41 : decode cX5_fewest 41 = .ok (.aload_n 0, 1) := by decide +kernel
theorem dX5_fewest_42 : decode cX5_fewest 42 = .ok (.getfield 40, 3) := by decide +kernel
theorem dX5_fewest_45 : decode cX5_fewest 45 = .ok (.invokevirtual 113, 3) := by decide +kernel
theorem dX5_fewest_48 : decode cX5_fewest 48 = .ok (.ifCond .ne 9, 3) := by decide +kernel
theorem dX5_fewest_51 : decode cX5_fewest 51 = .ok (.getstatic 135, 3) := by decide +kernel
theorem dX5_fewest_54 : decode cX5_fewest 54 = .ok (.iload_n 2, 1) := by decide +kernel
theorem dX5_fewest_55 : decode cX5_fewest 55 = .ok (.iaload, 1) := by decide +kernel
theorem dX5_fewest_56 : decode cX5_fewest 56 = .ok (.ireturn, 1) := by decide +kernel
theorem dX5_fewest_57 : decode cX5_fewest 57 = .ok (.iinc 2 1, 3) := by decide +kernel
theorem dX5_fewest_60 : decode cX5_fewest 60 = .ok (.goto (-40), 3) := by decide +kernel
theorem dX5_fewest_63 : decode cX5_fewest 63 = .ok (.iconst (-1), 1) := by decide +kernel
theorem dX5_fewest_64 : decode cX5_fewest 64 = .ok (.ireturn, 1) := by decide +kernel
theorem dX5_were_0 : decode cX5_were 0 = .ok (.iload_n 1, 1) := by decide +kernel
theorem dX5_were_1 : decode cX5_were 1 = .ok (.invokestatic 52, 3) := by decide +kernel
theorem dX5_were_4 : decode cX5_were 4 = .ok (.ifCond .eq 12, 3) := by decide +kernel
theorem dX5_were_7 : decode cX5_were 7 = .ok (.iload_n 2, 1) := by decide +kernel
theorem dX5_were_8 : decode cX5_were 8 = .ok (.iconst 0, 1) := by decide +kernel
theorem dX5_were_9 : decode cX5_were 9 = .ok (.iconst 4, 1) := by decide +kernel
theorem dX5_were_10 : decode cX5_were 10 = .ok (.invokestatic 56, 3) := by decide +kernel
theorem dX5_were_13 : decode cX5_were 13 = .ok (.ifCond .ne 10, 3) := by decide +kernel
theorem dX5_were_16 : decode cX5_were 16 = .ok (.aload_n 0, 1) := by decide +kernel
theorem dX5_were_17 : decode cX5_were 17 = .ok (.bipush (-2), 2) := by decide +kernel
theorem dX5_were_19 : decode cX5_were 19 = .ok (.invokevirtual 68, 3) := by decide +kernel
theorem dX5_were_22 : decode cX5_were 22 = .ok (.ireturn, 1) := by decide +kernel
theorem dX5_were_23 : decode cX5_were 23 = .ok (.aload_n 0, 1) := by decide +kernel
theorem dX5_were_24 : decode cX5_were 24 = .ok (.getfield 29, 3) := by decide +kernel
theorem dX5_were_27 : decode cX5_were 27 = .ok (.invokevirtual 110, 3) := by decide +kernel
theorem dX5_were_30 : decode cX5_were 30 = .ok (.istore_n 3, 1) := by decide +kernel
theorem dX5_were_31 : decode cX5_were 31 = .ok (.iload_n 3, 1) := by decide +kernel
theorem dX5_were_32 : decode cX5_were 32 = .ok (.iconst (-1), 1) := by decide +kernel
theorem dX5_were_33 : decode cX5_were 33 = .ok (.if_icmp .eq 10, 3) := by decide +kernel
theorem dX5_were_36 : decode cX5_were 36 = .ok (.bipush (-10), 2) := by decide +kernel
theorem dX5_were_38 : decode cX5_were 38 = .ok (.iload_n 3, 1) := by decide +kernel
theorem dX5_were_39 : decode cX5_were 39 = .ok (.isub, 1) := by decide +kernel
theorem dX5_were_40 : decode cX5_were 40 = .ok (.goto 21, 3) := by decide +kernel
theorem dX5_were_43 : decode cX5_were 43 = .ok (.aload_n 0, 1) := by decide +kernel
theorem dX5_were_44 : decode cX5_were 44 = .ok (.getfield 48, 3) := by decide +kernel
theorem dX5_were_47 : decode cX5_were 47 = .ok (.aload_n 0, 1) := by decide +kernel
theorem dX5_were_48 : decode cX5_were 48 = .ok (.iload_n 1, 1) := by decide +kernel
theorem dX5_were_49 : decode cX5_were 49 = .ok (.iconst 0, 1) := by decide +kernel
theorem dX5_were_50 : decode cX5_were 50 = .ok (.iload_n 2, 1) := by decide +kernel
theorem dX5_were_51 : decode cX5_were 51 = .ok (.invokevirtual 142, 3) := by decide +kernel
theorem dX5_were_54 : decode cX5_were 54 = .ok (.aload_n 0, 1) := by decide +kernel
theorem dX5_were_55 : decode cX5_were 55 = .ok (.getfield 40, 3) := by decide +kernel
theorem dX5_were_58 : decode cX5_were 58 = .ok (.invokevirtual 113, 3) := by decide +kernel
theorem dX5_were_61 : decode cX5_were 61 = .ok (.ireturn, 1) := by decide +kernel
theorem dX5_cures_0 : decode cX5_cures 0 = .ok (.iload_n 1, 1) := by decide +kernel
theorem dX5_cures_1 : decode cX5_cures 1 = .ok (.iconst 0, 1) := by decide +kernel
theorem dX5_cures_2 : decode cX5_cures 2 = .ok (.getstatic 146, 3) := by decide +kernel
theorem dX5_cures_5 : decode cX5_cures 5 = .ok (.arraylength, 1) := by decide +kernel
theorem dX5_cures_6 : decode cX5_cures 6 = .ok (.iconst 1, 1) := by decide +kernel
theorem dX5_cures_7 : decode cX5_cures 7 = .ok (.isub, 1) := by decide +kernel
theorem dX5_cures_8 : decode cX5_cures 8 = .ok (.invokestatic 56, 3) := by decide +kernel
theorem dX5_cures_11 : decode cX5_cures 11 = .ok (.ifCond .ne 10, 3) := by decide +kernel
theorem dX5_cures_14 : decode cX5_cures 14 = .ok (.aload_n 0, 1) := by decide +kernel
theorem dX5_cures_15 : decode cX5_cures 15 = .ok (.bipush (-2), 2) := by decide +kernel
theorem dX5_cures_17 : decode cX5_cures 17 = .ok (.invokevirtual 68, 3) := by decide +kernel
theorem dX5_cures_20 : decode cX5_cures 20 = .ok (.ireturn, 1) := by decide +kernel
theorem dX5_cures_21 : decode cX5_cures 21 = .ok (.aload_n 0, 1) := by decide +kernel
theorem dX5_cures_22 : decode cX5_cures 22 = .ok (.getfield 29, 3) := by decide +kernel
theorem dX5_cures_25 : decode cX5_cures 25 = .ok (.invokevirtual 110, 3) := by decide +kernel
theorem dX5_cures_28 : decode cX5_cures 28 = .ok (.istore_n 2, 1) := by decide +kernel
theorem dX5_cures_29 : decode cX5_cures 29 = .ok (.iload_n 2, 1) := by decide +kernel
theorem dX5_cures_30 : decode cX5_cures 30 = .ok (.iconst (-1), 1) := by decide +kernel
theorem dX5_cures_31 : decode cX5_cures 31 = .ok (.if_icmp .eq 8, 3) := by decide +kernel
theorem dX5_cures_34 : decode cX5_cures 34 = .ok (.bipush (-10), 2) := by decide +kernel
theorem dX5_cures_36 : decode cX5_cures 36 = .ok (.iload_n 2, 1) := by decide +kernel
theorem dX5_cures_37 : decode cX5_cures 37 = .ok (.isub, 1) := by decide +kernel
theorem dX5_cures_38 : decode cX5_cures 38 = .ok (.ireturn, 1) := by decide +kernel
theorem dX5_cures_39 : decode cX5_cures 39 = .ok (.iconst 0, 1) := by decide +kernel
theorem dX5_cures_40 : decode cX5_cures 40 = .ok (.istore_n 3, 1) := by decide +kernel
theorem dX5_cures_41 : decode cX5_cures 41 = .ok (.iconst 0, 1) := by decide +kernel
theorem dX5_cures_42 : decode cX5_cures 42 = .ok (.istore 4, 2) := by decide +kernel
theorem dX5_cures_44 : decode cX5_cures 44 = .ok (.iload 4, 2) := by decide +kernel
theorem dX5_cures_46 : decode cX5_cures 46 = .ok (.bipush 8, 2) := by decide +kernel
theorem dX5_cures_48 : decode cX5_cures 48 = .ok (.if_icmp .ge 44, 3) := by decide +kernel
theorem dX5_cures_51 : decode cX5_cures 51 = .ok (.aload_n 0, 1) := by decide +kernel
theorem dX5_cures_52 : decode cX5_cures 52 = .ok (.getfield 48, 3) := by decide +kernel
theorem dX5_cures_55 : decode cX5_cures 55 = .ok (.aload_n 0, 1) := by decide +kernel
theorem dX5_cures_56 : decode cX5_cures 56 = .ok (.iload 4, 2) := by decide +kernel
theorem dX5_cures_58 : decode cX5_cures 58 = .ok (.getstatic 146, 3) := by decide +kernel
theorem dX5_cures_61 : decode cX5_cures 61 = .ok (.iload_n 1, 1) := by decide +kernel
theorem dX5_cures_62 : decode cX5_cures 62 = .ok (.invokestatic 64, 3) := by decide +kernel
theorem dX5_cures_65 : decode cX5_cures 65 = .ok (.iconst 0, 1) := by decide +kernel
theorem dX5_cures_66 : decode cX5_cures 66 = .ok (.invokevirtual 142, 3) := by decide +kernel
theorem dX5_cures_69 : decode cX5_cures 69 = .ok (.aload_n 0, 1) := by decide +kernel
theorem dX5_cures_70 : decode cX5_cures 70 = .ok (.getfield 40, 3) := by decide +kernel
theorem dX5_cures_73 : decode cX5_cures 73 = .ok (.invokevirtual 113, 3) := by decide +kernel
theorem dX5_cures_76 : decode cX5_cures 76 = .ok (.ifCond .ne 10, 3) := by decide +kernel
theorem dX5_cures_79 : decode cX5_cures 79 = .ok (.iload_n 3, 1) := by decide +kernel
theorem dX5_cures_80 : decode cX5_cures 80 = .ok (.iconst 1, 1) := by decide +kernel
theorem dX5_cures_81 : decode cX5_cures 81 = .ok (.iload 4, 2) := by decide +kernel
theorem dX5_cures_83 : decode cX5_cures 83 = .ok (.ishl, 1) := by decide +kernel
theorem dX5_cures_84 : decode cX5_cures 84 = .ok (.ior, 1) := by decide +kernel
theorem dX5_cures_85 : decode cX5_cures 85 = .ok (.istore_n 3, 1) := by decide +kernel
theorem dX5_cures_86 : decode cX5_cures 86 = .ok (.iinc 4 1, 3) := by decide +kernel
theorem dX5_cures_89 : decode cX5_cures 89 = .ok (.goto (-45), 3) := by decide +kernel
theorem dX5_cures_92 : decode cX5_cures 92 = .ok (.iload_n 3, 1) := by decide +kernel
theorem dX5_cures_93 : decode cX5_cures 93 = .ok (.ireturn, 1) := by decide +kernel
theorem dX5_ends_0 : decode cX5_ends 0 = .ok (.iload_n 1, 1) := by decide +kernel
theorem dX5_ends_1 : decode cX5_ends 1 = .ok (.iconst 0, 1) := by decide +kernel
theorem dX5_ends_2 : decode cX5_ends 2 = .ok (.bipush 6, 2) := by decide +kernel
theorem dX5_ends_4 : decode cX5_ends 4 = .ok (.invokestatic 56, 3) := by decide +kernel
theorem dX5_ends_7 : decode cX5_ends 7 = .ok (.ifCond .ne 10, 3) := by decide +kernel
theorem dX5_ends_10 : decode cX5_ends 10 = .ok (.aload_n 0, 1) := by decide +kernel
theorem dX5_ends_11 : decode cX5_ends 11 = .ok (.bipush (-2), 2) := by decide +kernel
theorem dX5_ends_13 : decode cX5_ends 13 = .ok (.invokevirtual 68, 3) := by decide +kernel
theorem dX5_ends_16 : decode cX5_ends 16 = .ok (.ireturn, 1) := by decide +kernel
theorem dX5_ends_17 : decode cX5_ends 17 = .ok (.aload_n 0, 1) := by decide +kernel
theorem dX5_ends_18 : decode cX5_ends 18 = .ok (.getfield 29, 3) := by decide +kernel
theorem dX5_ends_21 : decode cX5_ends 21 = .ok (.invokevirtual 110, 3) := by decide +kernel
theorem dX5_ends_24 : decode cX5_ends 24 = .ok (.istore_n 2, 1) := by decide +kernel
theorem dX5_ends_25 : decode cX5_ends 25 = .ok (.iload_n 2, 1) := by decide +kernel
theorem dX5_ends_26 : decode cX5_ends 26 = .ok (.iconst (-1), 1) := by decide +kernel
theorem dX5_ends_27 : decode cX5_ends 27 = .ok (.if_icmp .eq 8, 3) := by decide +kernel
theorem dX5_ends_30 : decode cX5_ends 30 = .ok (.bipush (-10), 2) := by decide +kernel
theorem dX5_ends_32 : decode cX5_ends 32 = .ok (.iload_n 2, 1) := by decide +kernel
theorem dX5_ends_33 : decode cX5_ends 33 = .ok (.isub, 1) := by decide +kernel
theorem dX5_ends_34 : decode cX5_ends 34 = .ok (.ireturn, 1) := by decide +kernel
theorem dX5_ends_35 : decode cX5_ends 35 = .ok (.iconst 0, 1) := by decide +kernel
theorem dX5_ends_36 : decode cX5_ends 36 = .ok (.istore_n 3, 1) := by decide +kernel
theorem dX5_ends_37 : decode cX5_ends 37 = .ok (.iconst 0, 1) := by decide +kernel
theorem dX5_ends_38 : decode cX5_ends 38 = .ok (.istore 4, 2) := by decide +kernel
theorem dX5_ends_40 : decode cX5_ends 40 = .ok (.iload 4, 2) := by decide +kernel
theorem dX5_ends_42 : decode cX5_ends 42 = .ok (.getstatic 135, 3) := by decide +kernel
theorem dX5_ends_45 : decode cX5_ends 45 = .ok (.arraylength, 1) := by decide +kernel
theorem dX5_ends_46 : decode cX5_ends 46 = .ok (.if_icmp .ge 37, 3) := by decide +kernel
theorem dX5_ends_49 : decode cX5_ends 49 = .ok (.aload_n 0, 1) := by decide +kernel
theorem dX5_ends_50 : decode cX5_ends 50 = .ok (.getfield 48, 3) := by decide +kernel
theorem dX5_ends_53 : decode cX5_ends 53 = .ok (.aload_n 0, 1) := by decide +kernel
theorem dX5_ends_54 : decode cX5_ends 54 = .ok (.getstatic 135, 3) := by decide +kernel
theorem dX5_ends_57 : decode cX5_ends 57 = .ok (.iload 4, 2) := by decide +kernel
theorem dX5_ends_59 : decode cX5_ends 59 = .ok (.iaload, 1) := by decide +kernel
theorem dX5_ends_60 : decode cX5_ends 60 = .ok (.invokevirtual 138, 3) := by decide +kernel
theorem dX5_ends_63 : decode cX5_ends 63 = .ok (.aload_n 0, 1) := by decide +kernel
theorem dX5_ends_64 : decode cX5_ends 64 = .ok (.getfield 40, 3) := by decide +kernel
theorem dX5_ends_67 : decode cX5_ends 67 = .ok (.invokevirtual 113, 3) := by decide +kernel
theorem dX5_ends_70 : decode cX5_ends 70 = .ok (.iload_n 1, 1) := by decide +kernel
theorem dX5_ends_71 : decode cX5_ends 71 = .ok (.if_icmp .ne 6, 3) := by decide +kernel
theorem dX5_ends_74 : decode cX5_ends 74 = .ok (.iinc 3 1, 3) := by decide +kernel
theorem dX5_ends_77 : decode cX5_ends 77 = .ok (.iinc 4 1, 3) := by decide +kernel
theorem dX5_ends_80 : decode cX5_ends 80 = .ok (.goto (-40), 3) := by decide +kernel
theorem dX5_ends_83 : decode cX5_ends 83 = .ok (.iload_n 3, 1) := by decide +kernel
theorem dX5_ends_84 : decode cX5_ends 84 = .ok (.ireturn, 1) := by decide +kernel
theorem dX5_told_0 : decode cX5_told 0 = .ok (.iload_n 1, 1) := by decide +kernel
theorem dX5_told_1 : decode cX5_told 1 = .ok (.iconst 0, 1) := by decide +kernel
theorem dX5_told_2 : decode cX5_told 2 = .ok (.iconst 2, 1) := by decide +kernel
theorem dX5_told_3 : decode cX5_told 3 = .ok (.invokestatic 56, 3) := by decide +kernel
theorem dX5_told_6 : decode cX5_told 6 = .ok (.ifCond .ne 10, 3) := by decide +kernel
theorem dX5_told_9 : decode cX5_told 9 = .ok (.aload_n 0, 1) := by decide +kernel
theorem dX5_told_10 : decode cX5_told 10 = .ok (.bipush (-2), 2) := by decide +kernel
theorem dX5_told_12 : decode cX5_told 12 = .ok (.invokevirtual 68, 3) := by decide +kernel
theorem dX5_told_15 : decode cX5_told 15 = .ok (.ireturn, 1) := by decide +kernel
theorem dX5_told_16 : decode cX5_told 16 = .ok (.aload_n 0, 1) := by decide +kernel
theorem dX5_told_17 : decode cX5_told 17 = .ok (.getfield 29, 3) := by decide +kernel
theorem dX5_told_20 : decode cX5_told 20 = .ok (.invokevirtual 110, 3) := by decide +kernel
theorem dX5_told_23 : decode cX5_told 23 = .ok (.istore_n 2, 1) := by decide +kernel
theorem dX5_told_24 : decode cX5_told 24 = .ok (.iload_n 2, 1) := by decide +kernel
theorem dX5_told_25 : decode cX5_told 25 = .ok (.iconst (-1), 1) := by decide +kernel
theorem dX5_told_26 : decode cX5_told 26 = .ok (.if_icmp .eq 8, 3) := by decide +kernel
theorem dX5_told_29 : decode cX5_told 29 = .ok (.bipush (-10), 2) := by decide +kernel
theorem dX5_told_31 : decode cX5_told 31 = .ok (.iload_n 2, 1) := by decide +kernel
theorem dX5_told_32 : decode cX5_told 32 = .ok (.isub, 1) := by decide +kernel
theorem dX5_told_33 : decode cX5_told 33 = .ok (.ireturn, 1) := by decide +kernel
theorem dX5_told_34 : decode cX5_told 34 = .ok (.iload_n 1, 1) := by decide +kernel
theorem dX5_told_35 : decode cX5_told 35 = .ok (.lookupswitch 41 #[(0, 25), (1, 33)], 25) := by decide +kernel
theorem dX5_told_60 : decode cX5_told 60 = .ok (.aload_n 0, 1) := by decide +kernel
theorem dX5_told_61 : decode cX5_told 61 = .ok (.getfield 29, 3) := by decide +kernel
theorem dX5_told_64 : decode cX5_told 64 = .ok (.invokevirtual 149, 3) := by decide +kernel
theorem dX5_told_67 : decode cX5_told 67 = .ok (.ireturn, 1) := by decide +kernel
theorem dX5_told_68 : decode cX5_told 68 = .ok (.aload_n 0, 1) := by decide +kernel
theorem dX5_told_69 : decode cX5_told 69 = .ok (.getfield 29, 3) := by decide +kernel
theorem dX5_told_72 : decode cX5_told 72 = .ok (.invokevirtual 152, 3) := by decide +kernel
theorem dX5_told_75 : decode cX5_told 75 = .ok (.ireturn, 1) := by decide +kernel
theorem dX5_told_76 : decode cX5_told 76 = .ok (.aload_n 0, 1) := by decide +kernel
theorem dX5_told_77 : decode cX5_told 77 = .ok (.getfield 29, 3) := by decide +kernel
theorem dX5_told_80 : decode cX5_told 80 = .ok (.invokevirtual 155, 3) := by decide +kernel
theorem dX5_told_83 : decode cX5_told 83 = .ok (.ireturn, 1) := by decide +kernel
theorem dX5_draw_0 : decode cX5_draw 0 = .ok (.iload_n 1, 1) := by decide +kernel
theorem dX5_draw_1 : decode cX5_draw 1 = .ok (.iconst 0, 1) := by decide +kernel
theorem dX5_draw_2 : decode cX5_draw 2 = .ok (.ldc 158, 2) := by decide +kernel
theorem dX5_draw_4 : decode cX5_draw 4 = .ok (.invokestatic 56, 3) := by decide +kernel
theorem dX5_draw_7 : decode cX5_draw 7 = .ok (.ifCond .ne 10, 3) := by decide +kernel
theorem dX5_draw_10 : decode cX5_draw 10 = .ok (.aload_n 0, 1) := by decide +kernel
theorem dX5_draw_11 : decode cX5_draw 11 = .ok (.bipush (-2), 2) := by decide +kernel
theorem dX5_draw_13 : decode cX5_draw 13 = .ok (.invokevirtual 68, 3) := by decide +kernel
theorem dX5_draw_16 : decode cX5_draw 16 = .ok (.ireturn, 1) := by decide +kernel
theorem dX5_draw_17 : decode cX5_draw 17 = .ok (.aload_n 0, 1) := by decide +kernel
theorem dX5_draw_18 : decode cX5_draw 18 = .ok (.getfield 22, 3) := by decide +kernel
theorem dX5_draw_21 : decode cX5_draw 21 = .ok (.aload_n 0, 1) := by decide +kernel
theorem dX5_draw_22 : decode cX5_draw 22 = .ok (.getfield 12, 3) := by decide +kernel
theorem dX5_draw_25 : decode cX5_draw 25 = .ok (.invokevirtual 76, 3) := by decide +kernel
theorem dX5_draw_28 : decode cX5_draw 28 = .ok (.aload_n 0, 1) := by decide +kernel
theorem dX5_draw_29 : decode cX5_draw 29 = .ok (.getfield 12, 3) := by decide +kernel
theorem dX5_draw_32 : decode cX5_draw 32 = .ok (.iload_n 1, 1) := by decide +kernel
theorem dX5_draw_33 : decode cX5_draw 33 = .ok (.invokevirtual 159, 3) := by decide +kernel
theorem dX5_draw_36 : decode cX5_draw 36 = .ok (.iconst 0, 1) := by decide +kernel
theorem dX5_draw_37 : decode cX5_draw 37 = .ok (.ireturn, 1) := by decide +kernel
theorem dX5_back_0 : decode cX5_back 0 = .ok (.aload_n 0, 1) := by decide +kernel
theorem dX5_back_1 : decode cX5_back 1 = .ok (.getfield 22, 3) := by decide +kernel
theorem dX5_back_4 : decode cX5_back 4 = .ok (.invokevirtual 162, 3) := by decide +kernel
theorem dX5_back_7 : decode cX5_back 7 = .ok (.ifCond .ne 10, 3) := by decide +kernel
theorem dX5_back_10 : decode cX5_back 10 = .ok (.aload_n 0, 1) := by decide +kernel
theorem dX5_back_11 : decode cX5_back 11 = .ok (.bipush (-3), 2) := by decide +kernel
theorem dX5_back_13 : decode cX5_back 13 = .ok (.invokevirtual 68, 3) := by decide +kernel
theorem dX5_back_16 : decode cX5_back 16 = .ok (.ireturn, 1) := by decide +kernel
theorem dX5_back_17 : decode cX5_back 17 = .ok (.aload_n 0, 1) := by decide +kernel
theorem dX5_back_18 : decode cX5_back 18 = .ok (.getfield 22, 3) := by decide +kernel
theorem dX5_back_21 : decode cX5_back 21 = .ok (.aload_n 0, 1) := by decide +kernel
theorem dX5_back_22 : decode cX5_back 22 = .ok (.getfield 12, 3) := by decide +kernel
theorem dX5_back_25 : decode cX5_back 25 = .ok (.invokevirtual 165, 3) := by decide +kernel
theorem dX5_back_28 : decode cX5_back 28 = .ok (.aload_n 0, 1) := by decide +kernel
theorem dX5_back_29 : decode cX5_back 29 = .ok (.getfield 22, 3) := by decide +kernel
theorem dX5_back_32 : decode cX5_back 32 = .ok (.invokevirtual 162, 3) := by decide +kernel
theorem dX5_back_35 : decode cX5_back 35 = .ok (.ireturn, 1) := by decide +kernel
theorem dX5_count_0 : decode cX5_count 0 = .ok (.iload_n 1, 1) := by decide +kernel
theorem dX5_count_1 : decode cX5_count 1 = .ok (.tableswitch 116 0 8 #[51, 56, 61, 66, 74, 82, 90, 98, 107], 51) := by decide +kernel
theorem dX5_count_52 : decode cX5_count 52 = .ok (.aload_n 0, 1) := by decide +kernel
theorem dX5_count_53 : decode cX5_count 53 = .ok (.getfield 168, 3) := by decide +kernel
theorem dX5_count_56 : decode cX5_count 56 = .ok (.ireturn, 1) := by decide +kernel
theorem dX5_count_57 : decode cX5_count 57 = .ok (.aload_n 0, 1) := by decide +kernel
theorem dX5_count_58 : decode cX5_count 58 = .ok (.getfield 172, 3) := by decide +kernel
theorem dX5_count_61 : decode cX5_count 61 = .ok (.ireturn, 1) := by decide +kernel
theorem dX5_count_62 : decode cX5_count 62 = .ok (.aload_n 0, 1) := by decide +kernel
theorem dX5_count_63 : decode cX5_count 63 = .ok (.getfield 175, 3) := by decide +kernel
theorem dX5_count_66 : decode cX5_count 66 = .ok (.ireturn, 1) := by decide +kernel
theorem dX5_count_67 : decode cX5_count 67 = .ok (.aload_n 0, 1) := by decide +kernel
theorem dX5_count_68 : decode cX5_count 68 = .ok (.getfield 29, 3) := by decide +kernel
theorem dX5_count_71 : decode cX5_count 71 = .ok (.invokevirtual 101, 3) := by decide +kernel
theorem dX5_count_74 : decode cX5_count 74 = .ok (.ireturn, 1) := by decide +kernel
theorem dX5_count_75 : decode cX5_count 75 = .ok (.aload_n 0, 1) := by decide +kernel
theorem dX5_count_76 : decode cX5_count 76 = .ok (.getfield 22, 3) := by decide +kernel
theorem dX5_count_79 : decode cX5_count 79 = .ok (.invokevirtual 162, 3) := by decide +kernel
theorem dX5_count_82 : decode cX5_count 82 = .ok (.ireturn, 1) := by decide +kernel
theorem dX5_count_83 : decode cX5_count 83 = .ok (.aload_n 0, 1) := by decide +kernel
theorem dX5_count_84 : decode cX5_count 84 = .ok (.getfield 12, 3) := by decide +kernel
theorem dX5_count_87 : decode cX5_count 87 = .ok (.invokevirtual 87, 3) := by decide +kernel
theorem dX5_count_90 : decode cX5_count 90 = .ok (.ireturn, 1) := by decide +kernel
theorem dX5_count_91 : decode cX5_count 91 = .ok (.aload_n 0, 1) := by decide +kernel
theorem dX5_count_92 : decode cX5_count 92 = .ok (.getfield 12, 3) := by decide +kernel
theorem dX5_count_95 : decode cX5_count 95 = .ok (.invokevirtual 178, 3) := by decide +kernel
theorem dX5_count_98 : decode cX5_count 98 = .ok (.ireturn, 1) := by decide +kernel
theorem dX5_count_99 : decode cX5_count 99 = .ok (.aload_n 0, 1) := by decide +kernel
theorem dX5_count_100 : decode cX5_count 100 = .ok (.getfield 12, 3) := by decide +kernel
theorem dX5_count_103 : decode cX5_count 103 = .ok (.iconst 4, 1) := by decide +kernel
theorem dX5_count_104 : decode cX5_count 104 = .ok (.invokevirtual 95, 3) := by decide +kernel
theorem dX5_count_107 : decode cX5_count 107 = .ok (.ireturn, 1) := by decide +kernel
theorem dX5_count_108 : decode cX5_count 108 = .ok (.aload_n 0, 1) := by decide +kernel
theorem dX5_count_109 : decode cX5_count 109 = .ok (.getfield 12, 3) := by decide +kernel
theorem dX5_count_112 : decode cX5_count 112 = .ok (.iconst 5, 1) := by decide +kernel
theorem dX5_count_113 : decode cX5_count 113 = .ok (.invokevirtual 95, 3) := by decide +kernel
theorem dX5_count_116 : decode cX5_count 116 = .ok (.ireturn, 1) := by decide +kernel
theorem dX5_count_117 : decode cX5_count 117 = .ok (.aload_n 0, 1) := by decide +kernel
theorem dX5_count_118 : decode cX5_count 118 = .ok (.bipush (-2), 2) := by decide +kernel
theorem dX5_count_120 : decode cX5_count 120 = .ok (.invokevirtual 68, 3) := by decide +kernel
theorem dX5_count_123 : decode cX5_count 123 = .ok (.ireturn, 1) := by decide +kernel
theorem dX5_digest_0 : decode cX5_digest 0 = .ok (.ldc2_w 181, 3) := by decide +kernel
theorem dX5_digest_3 : decode cX5_digest 3 = .ok (.lstore_n 1, 1) := by decide +kernel
theorem dX5_digest_4 : decode cX5_digest 4 = .ok (.iconst 0, 1) := by decide +kernel
theorem dX5_digest_5 : decode cX5_digest 5 = .ok (.istore_n 3, 1) := by decide +kernel
theorem dX5_digest_6 : decode cX5_digest 6 = .ok (.iload_n 3, 1) := by decide +kernel
theorem dX5_digest_7 : decode cX5_digest 7 = .ok (.bipush 8, 2) := by decide +kernel
theorem dX5_digest_9 : decode cX5_digest 9 = .ok (.if_icmp .gt 22, 3) := by decide +kernel
theorem dX5_digest_12 : decode cX5_digest 12 = .ok (.ldc2_w 183, 3) := by decide +kernel
theorem dX5_digest_15 : decode cX5_digest 15 = .ok (.lload_n 1, 1) := by decide +kernel
theorem dX5_digest_16 : decode cX5_digest 16 = .ok (.lmul, 1) := by decide +kernel
theorem dX5_digest_17 : decode cX5_digest 17 = .ok (.aload_n 0, 1) := by decide +kernel
theorem dX5_digest_18 : decode cX5_digest 18 = .ok (.iload_n 3, 1) := by decide +kernel
theorem dX5_digest_19 : decode cX5_digest 19 = .ok (.invokevirtual 185, 3) := by decide +kernel
theorem dX5_digest_22 : decode cX5_digest 22 = .ok (.i2l, 1) := by decide +kernel
theorem dX5_digest_23 : decode cX5_digest 23 = .ok (.ladd, 1) := by decide +kernel
theorem dX5_digest_24 : decode cX5_digest 24 = .ok (.lstore_n 1, 1) := by decide +kernel
theorem dX5_digest_25 : decode cX5_digest 25 = .ok (.iinc 3 1, 3) := by decide +kernel
theorem dX5_digest_28 : decode cX5_digest 28 = .ok (.goto (-22), 3) := by decide +kernel
theorem dX5_digest_31 : decode cX5_digest 31 = .ok (.iconst 0, 1) := by decide +kernel
theorem dX5_digest_32 : decode cX5_digest 32 = .ok (.istore_n 3, 1) := by decide +kernel
theorem dX5_digest_33 : decode cX5_digest 33 = .ok (.iload_n 3, 1) := by decide +kernel
theorem dX5_digest_34 : decode cX5_digest 34 = .ok (.bipush 8, 2) := by decide +kernel
theorem dX5_digest_36 : decode cX5_digest 36 = .ok (.if_icmp .ge 43, 3) := by decide +kernel
theorem dX5_digest_39 : decode cX5_digest 39 = .ok (.iconst 0, 1) := by decide +kernel
theorem dX5_digest_40 : decode cX5_digest 40 = .ok (.istore 4, 2) := by decide +kernel
theorem dX5_digest_42 : decode cX5_digest 42 = .ok (.iload 4, 2) := by decide +kernel
theorem dX5_digest_44 : decode cX5_digest 44 = .ok (.bipush 6, 2) := by decide +kernel
theorem dX5_digest_46 : decode cX5_digest 46 = .ok (.if_icmp .gt 27, 3) := by decide +kernel
theorem dX5_digest_49 : decode cX5_digest 49 = .ok (.ldc2_w 183, 3) := by decide +kernel
theorem dX5_digest_52 : decode cX5_digest 52 = .ok (.lload_n 1, 1) := by decide +kernel
theorem dX5_digest_53 : decode cX5_digest 53 = .ok (.lmul, 1) := by decide +kernel
theorem dX5_digest_54 : decode cX5_digest 54 = .ok (.aload_n 0, 1) := by decide +kernel
theorem dX5_digest_55 : decode cX5_digest 55 = .ok (.getfield 12, 3) := by decide +kernel
theorem dX5_digest_58 : decode cX5_digest 58 = .ok (.iload_n 3, 1) := by decide +kernel
theorem dX5_digest_59 : decode cX5_digest 59 = .ok (.iload 4, 2) := by decide +kernel
theorem dX5_digest_61 : decode cX5_digest 61 = .ok (.invokevirtual 72, 3) := by decide +kernel
theorem dX5_digest_64 : decode cX5_digest 64 = .ok (.i2l, 1) := by decide +kernel
theorem dX5_digest_65 : decode cX5_digest 65 = .ok (.ladd, 1) := by decide +kernel
theorem dX5_digest_66 : decode cX5_digest 66 = .ok (.lstore_n 1, 1) := by decide +kernel
theorem dX5_digest_67 : decode cX5_digest 67 = .ok (.iinc 4 1, 3) := by decide +kernel
theorem dX5_digest_70 : decode cX5_digest 70 = .ok (.goto (-28), 3) := by decide +kernel
theorem dX5_digest_73 : decode cX5_digest 73 = .ok (.iinc 3 1, 3) := by decide +kernel
theorem dX5_digest_76 : decode cX5_digest 76 = .ok (.goto (-43), 3) := by decide +kernel
theorem dX5_digest_79 : decode cX5_digest 79 = .ok (.iconst 0, 1) := by decide +kernel
theorem dX5_digest_80 : decode cX5_digest 80 = .ok (.istore_n 3, 1) := by decide +kernel
theorem dX5_digest_81 : decode cX5_digest 81 = .ok (.iload_n 3, 1) := by decide +kernel
theorem dX5_digest_82 : decode cX5_digest 82 = .ok (.bipush 7, 2) := by decide +kernel
theorem dX5_digest_84 : decode cX5_digest 84 = .ok (.if_icmp .gt 25, 3) := by decide +kernel
theorem dX5_digest_87 : decode cX5_digest 87 = .ok (.ldc2_w 183, 3) := by decide +kernel
theorem dX5_digest_90 : decode cX5_digest 90 = .ok (.lload_n 1, 1) := by decide +kernel
theorem dX5_digest_91 : decode cX5_digest 91 = .ok (.lmul, 1) := by decide +kernel
theorem dX5_digest_92 : decode cX5_digest 92 = .ok (.aload_n 0, 1) := by decide +kernel
theorem dX5_digest_93 : decode cX5_digest 93 = .ok (.getfield 36, 3) := by decide +kernel
theorem dX5_digest_96 : decode cX5_digest 96 = .ok (.iload_n 3, 1) := by decide +kernel
theorem dX5_digest_97 : decode cX5_digest 97 = .ok (.invokevirtual 120, 3) := by decide +kernel
theorem dX5_digest_100 : decode cX5_digest 100 = .ok (.i2l, 1) := by decide +kernel
theorem dX5_digest_101 : decode cX5_digest 101 = .ok (.ladd, 1) := by decide +kernel
theorem dX5_digest_102 : decode cX5_digest 102 = .ok (.lstore_n 1, 1) := by decide +kernel
theorem dX5_digest_103 : decode cX5_digest 103 = .ok (.iinc 3 1, 3) := by decide +kernel
theorem dX5_digest_106 : decode cX5_digest 106 = .ok (.goto (-25), 3) := by decide +kernel
theorem dX5_digest_109 : decode cX5_digest 109 = .ok (.aload_n 0, 1) := by decide +kernel
theorem dX5_digest_110 : decode cX5_digest 110 = .ok (.getfield 36, 3) := by decide +kernel
theorem dX5_digest_113 : decode cX5_digest 113 = .ok (.invokevirtual 126, 3) := by decide +kernel
theorem dX5_digest_116 : decode cX5_digest 116 = .ok (.istore_n 3, 1) := by decide +kernel
theorem dX5_digest_117 : decode cX5_digest 117 = .ok (.ldc2_w 183, 3) := by decide +kernel
theorem dX5_digest_120 : decode cX5_digest 120 = .ok (.lload_n 1, 1) := by decide +kernel
theorem dX5_digest_121 : decode cX5_digest 121 = .ok (.lmul, 1) := by decide +kernel
theorem dX5_digest_122 : decode cX5_digest 122 = .ok (.iload_n 3, 1) := by decide +kernel
theorem dX5_digest_123 : decode cX5_digest 123 = .ok (.i2l, 1) := by decide +kernel
theorem dX5_digest_124 : decode cX5_digest 124 = .ok (.ladd, 1) := by decide +kernel
theorem dX5_digest_125 : decode cX5_digest 125 = .ok (.lstore_n 1, 1) := by decide +kernel
theorem dX5_digest_126 : decode cX5_digest 126 = .ok (.iconst 0, 1) := by decide +kernel
theorem dX5_digest_127 : decode cX5_digest 127 = .ok (.istore 4, 2) := by decide +kernel
theorem dX5_digest_129 : decode cX5_digest 129 = .ok (.iload 4, 2) := by decide +kernel
theorem dX5_digest_131 : decode cX5_digest 131 = .ok (.iload_n 3, 1) := by decide +kernel
theorem dX5_digest_132 : decode cX5_digest 132 = .ok (.if_icmp .ge 26, 3) := by decide +kernel
theorem dX5_digest_135 : decode cX5_digest 135 = .ok (.ldc2_w 183, 3) := by decide +kernel
theorem dX5_digest_138 : decode cX5_digest 138 = .ok (.lload_n 1, 1) := by decide +kernel
theorem dX5_digest_139 : decode cX5_digest 139 = .ok (.lmul, 1) := by decide +kernel
theorem dX5_digest_140 : decode cX5_digest 140 = .ok (.aload_n 0, 1) := by decide +kernel
theorem dX5_digest_141 : decode cX5_digest 141 = .ok (.getfield 36, 3) := by decide +kernel
theorem dX5_digest_144 : decode cX5_digest 144 = .ok (.iload 4, 2) := by decide +kernel
theorem dX5_digest_146 : decode cX5_digest 146 = .ok (.invokevirtual 129, 3) := by decide +kernel
theorem dX5_digest_149 : decode cX5_digest 149 = .ok (.i2l, 1) := by decide +kernel
theorem dX5_digest_150 : decode cX5_digest 150 = .ok (.ladd, 1) := by decide +kernel
theorem dX5_digest_151 : decode cX5_digest 151 = .ok (.lstore_n 1, 1) := by decide +kernel
theorem dX5_digest_152 : decode cX5_digest 152 = .ok (.iinc 4 1, 3) := by decide +kernel
theorem dX5_digest_155 : decode cX5_digest 155 = .ok (.goto (-26), 3) := by decide +kernel
theorem dX5_digest_158 : decode cX5_digest 158 = .ok (.lload_n 1, 1) := by decide +kernel
theorem dX5_digest_159 : decode cX5_digest 159 = .ok (.lreturn, 1) := by decide +kernel
theorem dX5_refuse_0 : decode cX5_refuse 0 = .ok (.iload_n 1, 1) := by decide +kernel
theorem dX5_refuse_1 : decode cX5_refuse 1 = .ok (.bipush (-2), 2) := by decide +kernel
theorem dX5_refuse_3 : decode cX5_refuse 3 = .ok (.if_icmp .ne 16, 3) := by decide +kernel
theorem dX5_refuse_6 : decode cX5_refuse 6 = .ok (.aload_n 0, 1) := by decide +kernel
theorem dX5_refuse_7 : decode cX5_refuse 7 = .ok (.dup, 1) := by decide +kernel
theorem dX5_refuse_8 : decode cX5_refuse 8 = .ok (.getfield 168, 3) := by decide +kernel
theorem dX5_refuse_11 : decode cX5_refuse 11 = .ok (.iconst 1, 1) := by decide +kernel
theorem dX5_refuse_12 : decode cX5_refuse 12 = .ok (.iadd, 1) := by decide +kernel
theorem dX5_refuse_13 : decode cX5_refuse 13 = .ok (.putfield 168, 3) := by decide +kernel
theorem dX5_refuse_16 : decode cX5_refuse 16 = .ok (.goto 32, 3) := by decide +kernel
theorem dX5_refuse_19 : decode cX5_refuse 19 = .ok (.iload_n 1, 1) := by decide +kernel
theorem dX5_refuse_20 : decode cX5_refuse 20 = .ok (.bipush (-3), 2) := by decide +kernel
theorem dX5_refuse_22 : decode cX5_refuse 22 = .ok (.if_icmp .ne 16, 3) := by decide +kernel
theorem dX5_refuse_25 : decode cX5_refuse 25 = .ok (.aload_n 0, 1) := by decide +kernel
theorem dX5_refuse_26 : decode cX5_refuse 26 = .ok (.dup, 1) := by decide +kernel
theorem dX5_refuse_27 : decode cX5_refuse 27 = .ok (.getfield 172, 3) := by decide +kernel
theorem dX5_refuse_30 : decode cX5_refuse 30 = .ok (.iconst 1, 1) := by decide +kernel
theorem dX5_refuse_31 : decode cX5_refuse 31 = .ok (.iadd, 1) := by decide +kernel
theorem dX5_refuse_32 : decode cX5_refuse 32 = .ok (.putfield 172, 3) := by decide +kernel
theorem dX5_refuse_35 : decode cX5_refuse 35 = .ok (.goto 13, 3) := by decide +kernel
theorem dX5_refuse_38 : decode cX5_refuse 38 = .ok (.aload_n 0, 1) := by decide +kernel
theorem dX5_refuse_39 : decode cX5_refuse 39 = .ok (.dup, 1) := by decide +kernel
theorem dX5_refuse_40 : decode cX5_refuse 40 = .ok (.getfield 175, 3) := by decide +kernel
theorem dX5_refuse_43 : decode cX5_refuse 43 = .ok (.iconst 1, 1) := by decide +kernel
theorem dX5_refuse_44 : decode cX5_refuse 44 = .ok (.iadd, 1) := by decide +kernel
theorem dX5_refuse_45 : decode cX5_refuse 45 = .ok (.putfield 175, 3) := by decide +kernel
theorem dX5_refuse_48 : decode cX5_refuse 48 = .ok (.iload_n 1, 1) := by decide +kernel
theorem dX5_refuse_49 : decode cX5_refuse 49 = .ok (.ireturn, 1) := by decide +kernel
theorem dX5_withKeys_0 : decode cX5_withKeys 0 = .ok (.aload_n 0, 1) := by decide +kernel
theorem dX5_withKeys_1 : decode cX5_withKeys 1 = .ok (.getfield 16, 3) := by decide +kernel
theorem dX5_withKeys_4 : decode cX5_withKeys 4 = .ok (.aload_n 0, 1) := by decide +kernel
theorem dX5_withKeys_5 : decode cX5_withKeys 5 = .ok (.getfield 12, 3) := by decide +kernel
theorem dX5_withKeys_8 : decode cX5_withKeys 8 = .ok (.invokevirtual 117, 3) := by decide +kernel
theorem dX5_withKeys_11 : decode cX5_withKeys 11 = .ok (.aload_n 0, 1) := by decide +kernel
theorem dX5_withKeys_12 : decode cX5_withKeys 12 = .ok (.getfield 16, 3) := by decide +kernel
theorem dX5_withKeys_15 : decode cX5_withKeys 15 = .ok (.iload_n 1, 1) := by decide +kernel
theorem dX5_withKeys_16 : decode cX5_withKeys 16 = .ok (.invokevirtual 91, 3) := by decide +kernel
theorem dX5_withKeys_19 : decode cX5_withKeys 19 = .ok (.aload_n 0, 1) := by decide +kernel
theorem dX5_withKeys_20 : decode cX5_withKeys 20 = .ok (.getfield 16, 3) := by decide +kernel
theorem dX5_withKeys_23 : decode cX5_withKeys 23 = .ok (.areturn, 1) := by decide +kernel
theorem dX5_withRoom_0 : decode cX5_withRoom 0 = .ok (.aload_n 0, 1) := by decide +kernel
theorem dX5_withRoom_1 : decode cX5_withRoom 1 = .ok (.getfield 16, 3) := by decide +kernel
theorem dX5_withRoom_4 : decode cX5_withRoom 4 = .ok (.aload_n 0, 1) := by decide +kernel
theorem dX5_withRoom_5 : decode cX5_withRoom 5 = .ok (.getfield 12, 3) := by decide +kernel
theorem dX5_withRoom_8 : decode cX5_withRoom 8 = .ok (.invokevirtual 117, 3) := by decide +kernel
theorem dX5_withRoom_11 : decode cX5_withRoom 11 = .ok (.aload_n 0, 1) := by decide +kernel
theorem dX5_withRoom_12 : decode cX5_withRoom 12 = .ok (.getfield 16, 3) := by decide +kernel
theorem dX5_withRoom_15 : decode cX5_withRoom 15 = .ok (.iload_n 1, 1) := by decide +kernel
theorem dX5_withRoom_16 : decode cX5_withRoom 16 = .ok (.iload_n 2, 1) := by decide +kernel
theorem dX5_withRoom_17 : decode cX5_withRoom 17 = .ok (.iload_n 3, 1) := by decide +kernel
theorem dX5_withRoom_18 : decode cX5_withRoom 18 = .ok (.invokevirtual 80, 3) := by decide +kernel
theorem dX5_withRoom_21 : decode cX5_withRoom 21 = .ok (.aload_n 0, 1) := by decide +kernel
theorem dX5_withRoom_22 : decode cX5_withRoom 22 = .ok (.getfield 16, 3) := by decide +kernel
theorem dX5_withRoom_25 : decode cX5_withRoom 25 = .ok (.areturn, 1) := by decide +kernel
theorem dX5_within_0 : decode cX5_within 0 = .ok (.iload_n 0, 1) := by decide +kernel
theorem dX5_within_1 : decode cX5_within 1 = .ok (.iload_n 1, 1) := by decide +kernel
theorem dX5_within_2 : decode cX5_within 2 = .ok (.if_icmp .lt 12, 3) := by decide +kernel
theorem dX5_within_5 : decode cX5_within 5 = .ok (.iload_n 0, 1) := by decide +kernel
theorem dX5_within_6 : decode cX5_within 6 = .ok (.iload_n 2, 1) := by decide +kernel
theorem dX5_within_7 : decode cX5_within 7 = .ok (.if_icmp .gt 7, 3) := by decide +kernel
theorem dX5_within_10 : decode cX5_within 10 = .ok (.iconst 1, 1) := by decide +kernel
theorem dX5_within_11 : decode cX5_within 11 = .ok (.goto 4, 3) := by decide +kernel
theorem dX5_within_14 : decode cX5_within 14 = .ok (.iconst 0, 1) := by decide +kernel
theorem dX5_within_15 : decode cX5_within 15 = .ok (.ireturn, 1) := by decide +kernel
theorem dX5_isRoom_0 : decode cX5_isRoom 0 = .ok (.iload_n 0, 1) := by decide +kernel
theorem dX5_isRoom_1 : decode cX5_isRoom 1 = .ok (.iconst 0, 1) := by decide +kernel
theorem dX5_isRoom_2 : decode cX5_isRoom 2 = .ok (.bipush 7, 2) := by decide +kernel
theorem dX5_isRoom_4 : decode cX5_isRoom 4 = .ok (.invokestatic 56, 3) := by decide +kernel
theorem dX5_isRoom_7 : decode cX5_isRoom 7 = .ok (.ireturn, 1) := by decide +kernel
theorem dX5_at_0 : decode cX5_at 0 = .ok (.iload_n 1, 1) := by decide +kernel
theorem dX5_at_1 : decode cX5_at 1 = .ok (.ifCond .lt 15, 3) := by decide +kernel
theorem dX5_at_4 : decode cX5_at 4 = .ok (.iload_n 1, 1) := by decide +kernel
theorem dX5_at_5 : decode cX5_at 5 = .ok (.aload_n 0, 1) := by decide +kernel
theorem dX5_at_6 : decode cX5_at 6 = .ok (.arraylength, 1) := by decide +kernel
theorem dX5_at_7 : decode cX5_at 7 = .ok (.if_icmp .ge 9, 3) := by decide +kernel
theorem dX5_at_10 : decode cX5_at 10 = .ok (.aload_n 0, 1) := by decide +kernel
theorem dX5_at_11 : decode cX5_at 11 = .ok (.iload_n 1, 1) := by decide +kernel
theorem dX5_at_12 : decode cX5_at 12 = .ok (.iaload, 1) := by decide +kernel
theorem dX5_at_13 : decode cX5_at 13 = .ok (.goto 4, 3) := by decide +kernel
theorem dX5_at_16 : decode cX5_at 16 = .ok (.iconst 0, 1) := by decide +kernel
theorem dX5_at_17 : decode cX5_at 17 = .ok (.ireturn, 1) := by decide +kernel
theorem dX5_put_0 : decode cX5_put 0 = .ok (.iload_n 1, 1) := by decide +kernel
theorem dX5_put_1 : decode cX5_put 1 = .ok (.ifCond .lt 13, 3) := by decide +kernel
theorem dX5_put_4 : decode cX5_put 4 = .ok (.iload_n 1, 1) := by decide +kernel
theorem dX5_put_5 : decode cX5_put 5 = .ok (.aload_n 0, 1) := by decide +kernel
theorem dX5_put_6 : decode cX5_put 6 = .ok (.arraylength, 1) := by decide +kernel
theorem dX5_put_7 : decode cX5_put 7 = .ok (.if_icmp .ge 7, 3) := by decide +kernel
theorem dX5_put_10 : decode cX5_put 10 = .ok (.aload_n 0, 1) := by decide +kernel
theorem dX5_put_11 : decode cX5_put 11 = .ok (.iload_n 1, 1) := by decide +kernel
theorem dX5_put_12 : decode cX5_put 12 = .ok (.iload_n 2, 1) := by decide +kernel
theorem dX5_put_13 : decode cX5_put 13 = .ok (.iastore, 1) := by decide +kernel
theorem dX5_put_14 : decode cX5_put 14 = .ok (.return_, 1) := by decide +kernel
theorem dX6_init_0 : decode cX6_init 0 = .ok (.aload_n 0, 1) := by decide +kernel
theorem dX6_init_1 : decode cX6_init 1 = .ok (.invokespecial 1, 3) := by decide +kernel
theorem dX6_init_4 : decode cX6_init 4 = .ok (.aload_n 0, 1) := by decide +kernel
theorem dX6_init_5 : decode cX6_init 5 = .ok (.bipush 58, 2) := by decide +kernel
theorem dX6_init_7 : decode cX6_init 7 = .ok (.newarray .int, 2) := by decide +kernel
theorem dX6_init_9 : decode cX6_init 9 = .ok (.putfield 7, 3) := by decide +kernel
theorem dX6_init_12 : decode cX6_init 12 = .ok (.aload_n 0, 1) := by decide +kernel
theorem dX6_init_13 : decode cX6_init 13 = .ok (.sipush 464, 3) := by decide +kernel
theorem dX6_init_16 : decode cX6_init 16 = .ok (.newarray .int, 2) := by decide +kernel
theorem dX6_init_18 : decode cX6_init 18 = .ok (.putfield 13, 3) := by decide +kernel
theorem dX6_init_21 : decode cX6_init 21 = .ok (.aload_n 0, 1) := by decide +kernel
theorem dX6_init_22 : decode cX6_init 22 = .ok (.iconst 3, 1) := by decide +kernel
theorem dX6_init_23 : decode cX6_init 23 = .ok (.newarray .int, 2) := by decide +kernel
theorem dX6_init_25 : decode cX6_init 25 = .ok (.putfield 16, 3) := by decide +kernel
theorem dX6_init_28 : decode cX6_init 28 = .ok (.aload_n 0, 1) := by decide +kernel
theorem dX6_init_29 : decode cX6_init 29 = .ok (.bipush 100, 2) := by decide +kernel
theorem dX6_init_31 : decode cX6_init 31 = .ok (.newarray .int, 2) := by decide +kernel
theorem dX6_init_33 : decode cX6_init 33 = .ok (.putfield 19, 3) := by decide +kernel
theorem dX6_init_36 : decode cX6_init 36 = .ok (.aload_n 0, 1) := by decide +kernel
theorem dX6_init_37 : decode cX6_init 37 = .ok (.bipush 100, 2) := by decide +kernel
theorem dX6_init_39 : decode cX6_init 39 = .ok (.newarray .int, 2) := by decide +kernel
theorem dX6_init_41 : decode cX6_init 41 = .ok (.putfield 22, 3) := by decide +kernel
theorem dX6_init_44 : decode cX6_init 44 = .ok (.aload_n 0, 1) := by decide +kernel
theorem dX6_init_45 : decode cX6_init 45 = .ok (.bipush 100, 2) := by decide +kernel
theorem dX6_init_47 : decode cX6_init 47 = .ok (.newarray .int, 2) := by decide +kernel
theorem dX6_init_49 : decode cX6_init 49 = .ok (.putfield 25, 3) := by decide +kernel
theorem dX6_init_52 : decode cX6_init 52 = .ok (.aload_n 0, 1) := by decide +kernel
theorem dX6_init_53 : decode cX6_init 53 = .ok (.bipush 9, 2) := by decide +kernel
theorem dX6_init_55 : decode cX6_init 55 = .ok (.newarray .int, 2) := by decide +kernel
theorem dX6_init_57 : decode cX6_init 57 = .ok (.putfield 28, 3) := by decide +kernel
theorem dX6_init_60 : decode cX6_init 60 = .ok (.aload_n 0, 1) := by decide +kernel
theorem dX6_init_61 : decode cX6_init 61 = .ok (.sipush 150, 3) := by decide +kernel
theorem dX6_init_64 : decode cX6_init 64 = .ok (.newarray .int, 2) := by decide +kernel
theorem dX6_init_66 : decode cX6_init 66 = .ok (.putfield 31, 3) := by decide +kernel
theorem dX6_init_69 : decode cX6_init 69 = .ok (.aload_n 0, 1) := by decide +kernel
theorem dX6_init_70 : decode cX6_init 70 = .ok (.bipush 9, 2) := by decide +kernel
theorem dX6_init_72 : decode cX6_init 72 = .ok (.newarray .int, 2) := by decide +kernel
theorem dX6_init_74 : decode cX6_init 74 = .ok (.putfield 34, 3) := by decide +kernel
theorem dX6_init_77 : decode cX6_init 77 = .ok (.aload_n 0, 1) := by decide +kernel
theorem dX6_init_78 : decode cX6_init 78 = .ok (.bipush 9, 2) := by decide +kernel
theorem dX6_init_80 : decode cX6_init 80 = .ok (.newarray .int, 2) := by decide +kernel
theorem dX6_init_82 : decode cX6_init 82 = .ok (.putfield 37, 3) := by decide +kernel
theorem dX6_init_85 : decode cX6_init 85 = .ok (.aload_n 0, 1) := by decide +kernel
theorem dX6_init_86 : decode cX6_init 86 = .ok (.bipush 9, 2) := by decide +kernel
theorem dX6_init_88 : decode cX6_init 88 = .ok (.newarray .int, 2) := by decide +kernel
theorem dX6_init_90 : decode cX6_init 90 = .ok (.putfield 40, 3) := by decide +kernel
theorem dX6_init_93 : decode cX6_init 93 = .ok (.aload_n 0, 1) := by decide +kernel
theorem dX6_init_94 : decode cX6_init 94 = .ok (.bipush 9, 2) := by decide +kernel
theorem dX6_init_96 : decode cX6_init 96 = .ok (.newarray .boolean, 2) := by decide +kernel
theorem dX6_init_98 : decode cX6_init 98 = .ok (.putfield 43, 3) := by decide +kernel
theorem dX6_init_101 : decode cX6_init 101 = .ok (.aload_n 0, 1) := by decide +kernel
theorem dX6_init_102 : decode cX6_init 102 = .ok (.bipush 8, 2) := by decide +kernel
theorem dX6_init_104 : decode cX6_init 104 = .ok (.newarray .int, 2) := by decide +kernel
theorem dX6_init_106 : decode cX6_init 106 = .ok (.putfield 47, 3) := by decide +kernel
theorem dX6_init_109 : decode cX6_init 109 = .ok (.aload_n 0, 1) := by decide +kernel
theorem dX6_init_110 : decode cX6_init 110 = .ok (.iconst (-1), 1) := by decide +kernel
theorem dX6_init_111 : decode cX6_init 111 = .ok (.putfield 50, 3) := by decide +kernel
theorem dX6_init_114 : decode cX6_init 114 = .ok (.aload_n 0, 1) := by decide +kernel
theorem dX6_init_115 : decode cX6_init 115 = .ok (.sipush 150, 3) := by decide +kernel
theorem dX6_init_118 : decode cX6_init 118 = .ok (.newarray .int, 2) := by decide +kernel
theorem dX6_init_120 : decode cX6_init 120 = .ok (.putfield 54, 3) := by decide +kernel
theorem dX6_init_123 : decode cX6_init 123 = .ok (.aload_n 0, 1) := by decide +kernel
theorem dX6_init_124 : decode cX6_init 124 = .ok (.bipush 58, 2) := by decide +kernel
theorem dX6_init_126 : decode cX6_init 126 = .ok (.newarray .int, 2) := by decide +kernel
theorem dX6_init_128 : decode cX6_init 128 = .ok (.putfield 57, 3) := by decide +kernel
theorem dX6_init_131 : decode cX6_init 131 = .ok (.return_, 1) := by decide +kernel
theorem dX6_in_0 : decode cX6_in 0 = .ok (.lload_n 0, 1) := by decide +kernel
theorem dX6_in_1 : decode cX6_in 1 = .ok (.lload_n 2, 1) := by decide +kernel
theorem dX6_in_2 : decode cX6_in 2 = .ok (.lcmp, 1) := by decide +kernel
theorem dX6_in_3 : decode cX6_in 3 = .ok (.ifCond .lt 14, 3) := by decide +kernel
theorem dX6_in_6 : decode cX6_in 6 = .ok (.lload_n 0, 1) := by decide +kernel
theorem dX6_in_7 : decode cX6_in 7 = .ok (.lload 4, 2) := by decide +kernel
theorem dX6_in_9 : decode cX6_in 9 = .ok (.lcmp, 1) := by decide +kernel
theorem dX6_in_10 : decode cX6_in 10 = .ok (.ifCond .gt 7, 3) := by decide +kernel
theorem dX6_in_13 : decode cX6_in 13 = .ok (.iconst 1, 1) := by decide +kernel
theorem dX6_in_14 : decode cX6_in 14 = .ok (.goto 4, 3) := by decide +kernel
theorem dX6_in_17 : decode cX6_in 17 = .ok (.iconst 0, 1) := by decide +kernel
theorem dX6_in_18 : decode cX6_in 18 = .ok (.ireturn, 1) := by decide +kernel
theorem dX6_bad_0 : decode cX6_bad 0 = .ok (.aload_n 0, 1) := by decide +kernel
theorem dX6_bad_1 : decode cX6_bad 1 = .ok (.getfield 16, 3) := by decide +kernel
theorem dX6_bad_4 : decode cX6_bad 4 = .ok (.iconst 0, 1) := by decide +kernel
theorem dX6_bad_5 : decode cX6_bad 5 = .ok (.dup2, 1) := by decide +kernel
theorem dX6_bad_6 : decode cX6_bad 6 = .ok (.iaload, 1) := by decide +kernel
theorem dX6_bad_7 : decode cX6_bad 7 = .ok (.iconst 1, 1) := by decide +kernel
theorem dX6_bad_8 : decode cX6_bad 8 = .ok (.iadd, 1) := by decide +kernel
theorem dX6_bad_9 : decode cX6_bad 9 = .ok (.iastore, 1) := by decide +kernel
theorem dX6_bad_10 : decode cX6_bad 10 = .ok (.iload_n 1, 1) := by decide +kernel
theorem dX6_bad_11 : decode cX6_bad 11 = .ok (.ireturn, 1) := by decide +kernel
theorem dX6_no_0 : decode cX6_no 0 = .ok (.aload_n 0, 1) := by decide +kernel
theorem dX6_no_1 : decode cX6_no 1 = .ok (.getfield 16, 3) := by decide +kernel
theorem dX6_no_4 : decode cX6_no 4 = .ok (.iconst 1, 1) := by decide +kernel
theorem dX6_no_5 : decode cX6_no 5 = .ok (.dup2, 1) := by decide +kernel
theorem dX6_no_6 : decode cX6_no 6 = .ok (.iaload, 1) := by decide +kernel
theorem dX6_no_7 : decode cX6_no 7 = .ok (.iconst 1, 1) := by decide +kernel
theorem dX6_no_8 : decode cX6_no 8 = .ok (.iadd, 1) := by decide +kernel
theorem dX6_no_9 : decode cX6_no 9 = .ok (.iastore, 1) := by decide +kernel
theorem dX6_no_10 : decode cX6_no 10 = .ok (.bipush (-3), 2) := by decide +kernel
theorem dX6_no_12 : decode cX6_no 12 = .ok (.ireturn, 1) := by decide +kernel
theorem dX6_full_0 : decode cX6_full 0 = .ok (.aload_n 0, 1) := by decide +kernel
theorem dX6_full_1 : decode cX6_full 1 = .ok (.getfield 16, 3) := by decide +kernel
theorem dX6_full_4 : decode cX6_full 4 = .ok (.iconst 2, 1) := by decide +kernel
theorem dX6_full_5 : decode cX6_full 5 = .ok (.dup2, 1) := by decide +kernel
theorem dX6_full_6 : decode cX6_full 6 = .ok (.iaload, 1) := by decide +kernel
theorem dX6_full_7 : decode cX6_full 7 = .ok (.iconst 1, 1) := by decide +kernel
theorem dX6_full_8 : decode cX6_full 8 = .ok (.iadd, 1) := by decide +kernel
theorem dX6_full_9 : decode cX6_full 9 = .ok (.iastore, 1) := by decide +kernel
theorem dX6_full_10 : decode cX6_full 10 = .ok (.bipush (-4), 2) := by decide +kernel
theorem dX6_full_12 : decode cX6_full 12 = .ok (.ireturn, 1) := by decide +kernel
theorem dX6_isRoom_0 : decode cX6_isRoom 0 = .ok (.iload_n 0, 1) := by decide +kernel
theorem dX6_isRoom_1 : decode cX6_isRoom 1 = .ok (.i2l, 1) := by decide +kernel
theorem dX6_isRoom_2 : decode cX6_isRoom 2 = .ok (.lconst 0, 1) := by decide +kernel
theorem dX6_isRoom_3 : decode cX6_isRoom 3 = .ok (.ldc2_w 60, 3) := by decide +kernel
theorem dX6_isRoom_6 : decode cX6_isRoom 6 = .ok (.invokestatic 62, 3) := by decide +kernel
theorem dX6_isRoom_9 : decode cX6_isRoom 9 = .ok (.ireturn, 1) := by decide +kernel
theorem dX6_at_0 : decode cX6_at 0 = .ok (.aload_n 0, 1) := by decide +kernel
theorem dX6_at_1 : decode cX6_at 1 = .ok (.getfield 7, 3) := by decide +kernel
theorem dX6_at_4 : decode cX6_at 4 = .ok (.bipush 7, 2) := by decide +kernel
theorem dX6_at_6 : decode cX6_at 6 = .ok (.iload_n 1, 1) := by decide +kernel
theorem dX6_at_7 : decode cX6_at 7 = .ok (.imul, 1) := by decide +kernel
theorem dX6_at_8 : decode cX6_at 8 = .ok (.iload_n 2, 1) := by decide +kernel
theorem dX6_at_9 : decode cX6_at 9 = .ok (.iadd, 1) := by decide +kernel
theorem dX6_at_10 : decode cX6_at 10 = .ok (.iaload, 1) := by decide +kernel
theorem dX6_at_11 : decode cX6_at 11 = .ok (.ireturn, 1) := by decide +kernel
theorem dX6_put_0 : decode cX6_put 0 = .ok (.aload_n 0, 1) := by decide +kernel
theorem dX6_put_1 : decode cX6_put 1 = .ok (.getfield 7, 3) := by decide +kernel
theorem dX6_put_4 : decode cX6_put 4 = .ok (.bipush 7, 2) := by decide +kernel
theorem dX6_put_6 : decode cX6_put 6 = .ok (.iload_n 1, 1) := by decide +kernel
theorem dX6_put_7 : decode cX6_put 7 = .ok (.imul, 1) := by decide +kernel
theorem dX6_put_8 : decode cX6_put 8 = .ok (.iload_n 2, 1) := by decide +kernel
theorem dX6_put_9 : decode cX6_put 9 = .ok (.iadd, 1) := by decide +kernel
theorem dX6_put_10 : decode cX6_put 10 = .ok (.iload_n 3, 1) := by decide +kernel
theorem dX6_put_11 : decode cX6_put 11 = .ok (.iastore, 1) := by decide +kernel
theorem dX6_put_12 : decode cX6_put 12 = .ok (.return_, 1) := by decide +kernel
theorem dX6_night_0 : decode cX6_night 0 = .ok (.aload_n 0, 1) := by decide +kernel
theorem dX6_night_1 : decode cX6_night 1 = .ok (.getfield 66, 3) := by decide +kernel
theorem dX6_night_4 : decode cX6_night 4 = .ok (.bipush 8, 2) := by decide +kernel
theorem dX6_night_6 : decode cX6_night 6 = .ok (.if_icmp .ne 43, 3) := by decide +kernel
theorem dX6_night_9 : decode cX6_night 9 = .ok (.iconst 0, 1) := by decide +kernel
theorem dX6_night_10 : decode cX6_night 10 = .ok (.istore_n 1, 1) := by decide +kernel
theorem dX6_night_11 : decode cX6_night 11 = .ok (.iload_n 1, 1) := by decide +kernel
theorem dX6_night_12 : decode cX6_night 12 = .ok (.sipush 406, 3) := by decide +kernel
theorem dX6_night_15 : decode cX6_night 15 = .ok (.if_icmp .ge 24, 3) := by decide +kernel
theorem dX6_night_18 : decode cX6_night 18 = .ok (.aload_n 0, 1) := by decide +kernel
theorem dX6_night_19 : decode cX6_night 19 = .ok (.getfield 13, 3) := by decide +kernel
theorem dX6_night_22 : decode cX6_night 22 = .ok (.iload_n 1, 1) := by decide +kernel
theorem dX6_night_23 : decode cX6_night 23 = .ok (.aload_n 0, 1) := by decide +kernel
theorem dX6_night_24 : decode cX6_night 24 = .ok (.getfield 13, 3) := by decide +kernel
theorem dX6_night_27 : decode cX6_night 27 = .ok (.iload_n 1, 1) := by decide +kernel
theorem dX6_night_28 : decode cX6_night 28 = .ok (.bipush 58, 2) := by decide +kernel
theorem dX6_night_30 : decode cX6_night 30 = .ok (.iadd, 1) := by decide +kernel
theorem dX6_night_31 : decode cX6_night 31 = .ok (.iaload, 1) := by decide +kernel
theorem dX6_night_32 : decode cX6_night 32 = .ok (.iastore, 1) := by decide +kernel
theorem dX6_night_33 : decode cX6_night 33 = .ok (.iinc 1 1, 3) := by decide +kernel
theorem dX6_night_36 : decode cX6_night 36 = .ok (.goto (-25), 3) := by decide +kernel
theorem dX6_night_39 : decode cX6_night 39 = .ok (.aload_n 0, 1) := by decide +kernel
theorem dX6_night_40 : decode cX6_night 40 = .ok (.dup, 1) := by decide +kernel
theorem dX6_night_41 : decode cX6_night 41 = .ok (.getfield 66, 3) := by decide +kernel
theorem dX6_night_44 : decode cX6_night 44 = .ok (.iconst 1, 1) := by decide +kernel
theorem dX6_night_45 : decode cX6_night 45 = .ok (.isub, 1) := by decide +kernel
theorem dX6_night_46 : decode cX6_night 46 = .ok (.putfield 66, 3) := by decide +kernel
theorem dX6_night_49 : decode cX6_night 49 = .ok (.iconst 0, 1) := by decide +kernel
theorem dX6_night_50 : decode cX6_night 50 = .ok (.istore_n 1, 1) := by decide +kernel
theorem dX6_night_51 : decode cX6_night 51 = .ok (.iload_n 1, 1) := by decide +kernel
theorem dX6_night_52 : decode cX6_night 52 = .ok (.bipush 58, 2) := by decide +kernel
theorem dX6_night_54 : decode cX6_night 54 = .ok (.if_icmp .ge 29, 3) := by decide +kernel
theorem dX6_night_57 : decode cX6_night 57 = .ok (.aload_n 0, 1) := by decide +kernel
theorem dX6_night_58 : decode cX6_night 58 = .ok (.getfield 13, 3) := by decide +kernel
theorem dX6_night_61 : decode cX6_night 61 = .ok (.bipush 58, 2) := by decide +kernel
theorem dX6_night_63 : decode cX6_night 63 = .ok (.aload_n 0, 1) := by decide +kernel
theorem dX6_night_64 : decode cX6_night 64 = .ok (.getfield 66, 3) := by decide +kernel
theorem dX6_night_67 : decode cX6_night 67 = .ok (.imul, 1) := by decide +kernel
theorem dX6_night_68 : decode cX6_night 68 = .ok (.iload_n 1, 1) := by decide +kernel
theorem dX6_night_69 : decode cX6_night 69 = .ok (.iadd, 1) := by decide +kernel
theorem dX6_night_70 : decode cX6_night 70 = .ok (.aload_n 0, 1) := by decide +kernel
theorem dX6_night_71 : decode cX6_night 71 = .ok (.getfield 7, 3) := by decide +kernel
theorem dX6_night_74 : decode cX6_night 74 = .ok (.iload_n 1, 1) := by decide +kernel
theorem dX6_night_75 : decode cX6_night 75 = .ok (.iaload, 1) := by decide +kernel
theorem dX6_night_76 : decode cX6_night 76 = .ok (.iastore, 1) := by decide +kernel
theorem dX6_night_77 : decode cX6_night 77 = .ok (.iinc 1 1, 3) := by decide +kernel
theorem dX6_night_80 : decode cX6_night 80 = .ok (.goto (-29), 3) := by decide +kernel
theorem dX6_night_83 : decode cX6_night 83 = .ok (.aload_n 0, 1) := by decide +kernel
theorem dX6_night_84 : decode cX6_night 84 = .ok (.dup, 1) := by decide +kernel
theorem dX6_night_85 : decode cX6_night 85 = .ok (.getfield 66, 3) := by decide +kernel
theorem dX6_night_88 : decode cX6_night 88 = .ok (.iconst 1, 1) := by decide +kernel
theorem dX6_night_89 : decode cX6_night 89 = .ok (.iadd, 1) := by decide +kernel
theorem dX6_night_90 : decode cX6_night 90 = .ok (.putfield 66, 3) := by decide +kernel
theorem dX6_night_93 : decode cX6_night 93 = .ok (.return_, 1) := by decide +kernel
theorem dX6_loudAs_0 : decode cX6_loudAs 0 = .ok (.iconst 2, 1) := by decide +kernel
theorem dX6_loudAs_1 : decode cX6_loudAs 1 = .ok (.istore_n 2, 1) := by decide +kernel
theorem dX6_loudAs_2 : decode cX6_loudAs 2 = .ok (.iload_n 2, 1) := by decide +kernel
theorem dX6_loudAs_3 : decode cX6_loudAs 3 = .ok (.iload_n 1, 1) := by decide +kernel
theorem dX6_loudAs_4 : decode cX6_loudAs 4 = .ok (.iconst 3, 1) := by decide +kernel
theorem dX6_loudAs_5 : decode cX6_loudAs 5 = .ok (.irem, 1) := by decide +kernel
theorem dX6_loudAs_6 : decode cX6_loudAs 6 = .ok (.iadd, 1) := by decide +kernel
theorem dX6_loudAs_7 : decode cX6_loudAs 7 = .ok (.istore_n 3, 1) := by decide +kernel
theorem dX6_loudAs_8 : decode cX6_loudAs 8 = .ok (.iload_n 0, 1) := by decide +kernel
theorem dX6_loudAs_9 : decode cX6_loudAs 9 = .ok (.ifCond .ne 7, 3) := by decide +kernel
theorem dX6_loudAs_12 : decode cX6_loudAs 12 = .ok (.iconst 0, 1) := by decide +kernel
theorem dX6_loudAs_13 : decode cX6_loudAs 13 = .ok (.goto 42, 3) := by decide +kernel
theorem dX6_loudAs_16 : decode cX6_loudAs 16 = .ok (.iload_n 0, 1) := by decide +kernel
theorem dX6_loudAs_17 : decode cX6_loudAs 17 = .ok (.iconst 1, 1) := by decide +kernel
theorem dX6_loudAs_18 : decode cX6_loudAs 18 = .ok (.if_icmp .ne 7, 3) := by decide +kernel
theorem dX6_loudAs_21 : decode cX6_loudAs 21 = .ok (.iload_n 2, 1) := by decide +kernel
theorem dX6_loudAs_22 : decode cX6_loudAs 22 = .ok (.goto 33, 3) := by decide +kernel
theorem dX6_loudAs_25 : decode cX6_loudAs 25 = .ok (.iload_n 0, 1) := by decide +kernel
theorem dX6_loudAs_26 : decode cX6_loudAs 26 = .ok (.iconst 2, 1) := by decide +kernel
theorem dX6_loudAs_27 : decode cX6_loudAs 27 = .ok (.if_icmp .ne 7, 3) := by decide +kernel
theorem dX6_loudAs_30 : decode cX6_loudAs 30 = .ok (.iload_n 3, 1) := by decide +kernel
theorem dX6_loudAs_31 : decode cX6_loudAs 31 = .ok (.goto 24, 3) := by decide +kernel
theorem dX6_loudAs_34 : decode cX6_loudAs 34 = .ok (.iload_n 0, 1) := by decide +kernel
theorem dX6_loudAs_35 : decode cX6_loudAs 35 = .ok (.iconst 3, 1) := by decide +kernel
theorem dX6_loudAs_36 : decode cX6_loudAs 36 = .ok (.if_icmp .ne 16, 3) := by decide +kernel
theorem dX6_loudAs_39 : decode cX6_loudAs 39 = .ok (.iload_n 1, 1) := by decide +kernel
theorem dX6_loudAs_40 : decode cX6_loudAs 40 = .ok (.iconst 2, 1) := by decide +kernel
theorem dX6_loudAs_41 : decode cX6_loudAs 41 = .ok (.if_icmp .le 7, 3) := by decide +kernel
theorem dX6_loudAs_44 : decode cX6_loudAs 44 = .ok (.iconst 0, 1) := by decide +kernel
theorem dX6_loudAs_45 : decode cX6_loudAs 45 = .ok (.goto 10, 3) := by decide +kernel
theorem dX6_loudAs_48 : decode cX6_loudAs 48 = .ok (.iload_n 2, 1) := by decide +kernel
theorem dX6_loudAs_49 : decode cX6_loudAs 49 = .ok (.goto 6, 3) := by decide +kernel
theorem dX6_loudAs_52 : decode cX6_loudAs 52 = .ok (.iconst 2, 1) := by decide +kernel
theorem dX6_loudAs_53 : decode cX6_loudAs 53 = .ok (.iload_n 3, 1) := by decide +kernel
theorem dX6_loudAs_54 : decode cX6_loudAs 54 = .ok (.imul, 1) := by decide +kernel
theorem dX6_loudAs_55 : decode cX6_loudAs 55 = .ok (.ireturn, 1) := by decide +kernel
theorem dX6_loud_0 : decode cX6_loud 0 = .ok (.aload_n 0, 1) := by decide +kernel
theorem dX6_loud_1 : decode cX6_loud 1 = .ok (.iload_n 1, 1) := by decide +kernel
theorem dX6_loud_2 : decode cX6_loud 2 = .ok (.iconst 0, 1) := by decide +kernel
theorem dX6_loud_3 : decode cX6_loud 3 = .ok (.invokevirtual 69, 3) := by decide +kernel
theorem dX6_loud_6 : decode cX6_loud 6 = .ok (.aload_n 0, 1) := by decide +kernel
theorem dX6_loud_7 : decode cX6_loud 7 = .ok (.iload_n 1, 1) := by decide +kernel
theorem dX6_loud_8 : decode cX6_loud 8 = .ok (.bipush 6, 2) := by decide +kernel
theorem dX6_loud_10 : decode cX6_loud 10 = .ok (.invokevirtual 69, 3) := by decide +kernel
theorem dX6_loud_13 : decode cX6_loud 13 = .ok (.invokestatic 73, 3) := by decide +kernel
theorem dX6_loud_16 : decode cX6_loud 16 = .ok (.ireturn, 1) := by decide +kernel
theorem dX6_isAsleep_0 : decode cX6_isAsleep 0 = .ok (.aload_n 0, 1) := by decide +kernel
theorem dX6_isAsleep_1 : decode cX6_isAsleep 1 = .ok (.iload_n 1, 1) := by decide +kernel
theorem dX6_isAsleep_2 : decode cX6_isAsleep 2 = .ok (.iconst 3, 1) := by decide +kernel
theorem dX6_isAsleep_3 : decode cX6_isAsleep 3 = .ok (.invokevirtual 69, 3) := by decide +kernel
theorem dX6_isAsleep_6 : decode cX6_isAsleep 6 = .ok (.ifCond .le 16, 3) := by decide +kernel
theorem dX6_isAsleep_9 : decode cX6_isAsleep 9 = .ok (.aload_n 0, 1) := by decide +kernel
theorem dX6_isAsleep_10 : decode cX6_isAsleep 10 = .ok (.iload_n 1, 1) := by decide +kernel
theorem dX6_isAsleep_11 : decode cX6_isAsleep 11 = .ok (.iconst 4, 1) := by decide +kernel
theorem dX6_isAsleep_12 : decode cX6_isAsleep 12 = .ok (.invokevirtual 69, 3) := by decide +kernel
theorem dX6_isAsleep_15 : decode cX6_isAsleep 15 = .ok (.ifCond .ne 7, 3) := by decide +kernel
theorem dX6_isAsleep_18 : decode cX6_isAsleep 18 = .ok (.iconst 1, 1) := by decide +kernel
theorem dX6_isAsleep_19 : decode cX6_isAsleep 19 = .ok (.goto 4, 3) := by decide +kernel
theorem dX6_isAsleep_22 : decode cX6_isAsleep 22 = .ok (.iconst 0, 1) := by decide +kernel
theorem dX6_isAsleep_23 : decode cX6_isAsleep 23 = .ok (.ireturn, 1) := by decide +kernel
theorem dX6_sets_0 : decode cX6_sets 0 = .ok (.iload_n 2, 1) := by decide +kernel
theorem dX6_sets_1 : decode cX6_sets 1 = .ok (.ifCond .ne 7, 3) := by decide +kernel
theorem dX6_sets_4 : decode cX6_sets 4 = .ok (.iconst 4, 1) := by decide +kernel
theorem dX6_sets_5 : decode cX6_sets 5 = .ok (.goto 14, 3) := by decide +kernel
theorem dX6_sets_8 : decode cX6_sets 8 = .ok (.iload_n 2, 1) := by decide +kernel
theorem dX6_sets_9 : decode cX6_sets 9 = .ok (.iconst 3, 1) := by decide +kernel
theorem dX6_sets_10 : decode cX6_sets 10 = .ok (.if_icmp .ne 8, 3) := by decide +kernel
theorem dX6_sets_13 : decode cX6_sets 13 = .ok (.bipush 9, 2) := by decide +kernel
theorem dX6_sets_15 : decode cX6_sets 15 = .ok (.goto 4, 3) := by decide +kernel
theorem dX6_sets_18 : decode cX6_sets 18 = .ok (.iconst 3, 1) := by decide +kernel
theorem dX6_sets_19 : decode cX6_sets 19 = .ok (.istore 4, 2) := by decide +kernel
theorem dX6_sets_21 : decode cX6_sets 21 = .ok (.iload_n 1, 1) := by decide +kernel
theorem dX6_sets_22 : decode cX6_sets 22 = .ok (.invokestatic 76, 3) := by decide +kernel
theorem dX6_sets_25 : decode cX6_sets 25 = .ok (.ifCond .eq 27, 3) := by decide +kernel
theorem dX6_sets_28 : decode cX6_sets 28 = .ok (.iload_n 2, 1) := by decide +kernel
theorem dX6_sets_29 : decode cX6_sets 29 = .ok (.i2l, 1) := by decide +kernel
theorem dX6_sets_30 : decode cX6_sets 30 = .ok (.lconst 0, 1) := by decide +kernel
theorem dX6_sets_31 : decode cX6_sets 31 = .ok (.ldc2_w 80, 3) := by decide +kernel
theorem dX6_sets_34 : decode cX6_sets 34 = .ok (.invokestatic 62, 3) := by decide +kernel
theorem dX6_sets_37 : decode cX6_sets 37 = .ok (.ifCond .eq 15, 3) := by decide +kernel
theorem dX6_sets_40 : decode cX6_sets 40 = .ok (.iload_n 3, 1) := by decide +kernel
theorem dX6_sets_41 : decode cX6_sets 41 = .ok (.i2l, 1) := by decide +kernel
theorem dX6_sets_42 : decode cX6_sets 42 = .ok (.lconst 0, 1) := by decide +kernel
theorem dX6_sets_43 : decode cX6_sets 43 = .ok (.iload 4, 2) := by decide +kernel
theorem dX6_sets_45 : decode cX6_sets 45 = .ok (.i2l, 1) := by decide +kernel
theorem dX6_sets_46 : decode cX6_sets 46 = .ok (.invokestatic 62, 3) := by decide +kernel
theorem dX6_sets_49 : decode cX6_sets 49 = .ok (.ifCond .ne 10, 3) := by decide +kernel
theorem dX6_sets_52 : decode cX6_sets 52 = .ok (.aload_n 0, 1) := by decide +kernel
theorem dX6_sets_53 : decode cX6_sets 53 = .ok (.bipush (-2), 2) := by decide +kernel
theorem dX6_sets_55 : decode cX6_sets 55 = .ok (.invokevirtual 82, 3) := by decide +kernel
theorem dX6_sets_58 : decode cX6_sets 58 = .ok (.ireturn, 1) := by decide +kernel
theorem dX6_sets_59 : decode cX6_sets 59 = .ok (.aload_n 0, 1) := by decide +kernel
theorem dX6_sets_60 : decode cX6_sets 60 = .ok (.invokevirtual 86, 3) := by decide +kernel
theorem dX6_sets_63 : decode cX6_sets 63 = .ok (.aload_n 0, 1) := by decide +kernel
theorem dX6_sets_64 : decode cX6_sets 64 = .ok (.iload_n 1, 1) := by decide +kernel
theorem dX6_sets_65 : decode cX6_sets 65 = .ok (.iload_n 2, 1) := by decide +kernel
theorem dX6_sets_66 : decode cX6_sets 66 = .ok (.invokevirtual 69, 3) := by decide +kernel
theorem dX6_sets_69 : decode cX6_sets 69 = .ok (.istore 5, 2) := by decide +kernel
theorem dX6_sets_71 : decode cX6_sets 71 = .ok (.aload_n 0, 1) := by decide +kernel
theorem dX6_sets_72 : decode cX6_sets 72 = .ok (.iload_n 1, 1) := by decide +kernel
theorem dX6_sets_73 : decode cX6_sets 73 = .ok (.iload_n 2, 1) := by decide +kernel
theorem dX6_sets_74 : decode cX6_sets 74 = .ok (.iload_n 3, 1) := by decide +kernel
theorem dX6_sets_75 : decode cX6_sets 75 = .ok (.invokevirtual 89, 3) := by decide +kernel
theorem dX6_sets_78 : decode cX6_sets 78 = .ok (.iload_n 2, 1) := by decide +kernel
theorem dX6_sets_79 : decode cX6_sets 79 = .ok (.iconst 3, 1) := by decide +kernel
theorem dX6_sets_80 : decode cX6_sets 80 = .ok (.if_icmp .ne 10, 3) := by decide +kernel
theorem dX6_sets_83 : decode cX6_sets 83 = .ok (.aload_n 0, 1) := by decide +kernel
theorem dX6_sets_84 : decode cX6_sets 84 = .ok (.iload_n 1, 1) := by decide +kernel
theorem dX6_sets_85 : decode cX6_sets 85 = .ok (.iconst 4, 1) := by decide +kernel
theorem dX6_sets_86 : decode cX6_sets 86 = .ok (.iconst 0, 1) := by decide +kernel
theorem dX6_sets_87 : decode cX6_sets 87 = .ok (.invokevirtual 89, 3) := by decide +kernel
theorem dX6_sets_90 : decode cX6_sets 90 = .ok (.iload 5, 2) := by decide +kernel
theorem dX6_sets_92 : decode cX6_sets 92 = .ok (.ireturn, 1) := by decide +kernel
theorem dX6_toldOf_0 : decode cX6_toldOf 0 = .ok (.iload_n 2, 1) := by decide +kernel
theorem dX6_toldOf_1 : decode cX6_toldOf 1 = .ok (.lookupswitch 53 #[(4, 27), (7, 47)], 27) := by decide +kernel
theorem dX6_toldOf_28 : decode cX6_toldOf 28 = .ok (.aload_n 0, 1) := by decide +kernel
theorem dX6_toldOf_29 : decode cX6_toldOf 29 = .ok (.iload_n 1, 1) := by decide +kernel
theorem dX6_toldOf_30 : decode cX6_toldOf 30 = .ok (.iconst 3, 1) := by decide +kernel
theorem dX6_toldOf_31 : decode cX6_toldOf 31 = .ok (.invokevirtual 69, 3) := by decide +kernel
theorem dX6_toldOf_34 : decode cX6_toldOf 34 = .ok (.ifCond .le 12, 3) := by decide +kernel
theorem dX6_toldOf_37 : decode cX6_toldOf 37 = .ok (.aload_n 0, 1) := by decide +kernel
theorem dX6_toldOf_38 : decode cX6_toldOf 38 = .ok (.iload_n 1, 1) := by decide +kernel
theorem dX6_toldOf_39 : decode cX6_toldOf 39 = .ok (.iconst 4, 1) := by decide +kernel
theorem dX6_toldOf_40 : decode cX6_toldOf 40 = .ok (.invokevirtual 69, 3) := by decide +kernel
theorem dX6_toldOf_43 : decode cX6_toldOf 43 = .ok (.goto 4, 3) := by decide +kernel
theorem dX6_toldOf_46 : decode cX6_toldOf 46 = .ok (.iconst 0, 1) := by decide +kernel
theorem dX6_toldOf_47 : decode cX6_toldOf 47 = .ok (.ireturn, 1) := by decide +kernel
theorem dX6_toldOf_48 : decode cX6_toldOf 48 = .ok (.aload_n 0, 1) := by decide +kernel
theorem dX6_toldOf_49 : decode cX6_toldOf 49 = .ok (.iload_n 1, 1) := by decide +kernel
theorem dX6_toldOf_50 : decode cX6_toldOf 50 = .ok (.invokevirtual 93, 3) := by decide +kernel
theorem dX6_toldOf_53 : decode cX6_toldOf 53 = .ok (.ireturn, 1) := by decide +kernel
theorem dX6_toldOf_54 : decode cX6_toldOf 54 = .ok (.aload_n 0, 1) := by decide +kernel
theorem dX6_toldOf_55 : decode cX6_toldOf 55 = .ok (.iload_n 1, 1) := by decide +kernel
theorem dX6_toldOf_56 : decode cX6_toldOf 56 = .ok (.iload_n 2, 1) := by decide +kernel
theorem dX6_toldOf_57 : decode cX6_toldOf 57 = .ok (.invokevirtual 69, 3) := by decide +kernel
theorem dX6_toldOf_60 : decode cX6_toldOf 60 = .ok (.ireturn, 1) := by decide +kernel
theorem dX6_of_0 : decode cX6_of 0 = .ok (.iload_n 1, 1) := by decide +kernel
theorem dX6_of_1 : decode cX6_of 1 = .ok (.invokestatic 76, 3) := by decide +kernel
theorem dX6_of_4 : decode cX6_of 4 = .ok (.ifCond .eq 24, 3) := by decide +kernel
theorem dX6_of_7 : decode cX6_of 7 = .ok (.iload_n 2, 1) := by decide +kernel
theorem dX6_of_8 : decode cX6_of 8 = .ok (.i2l, 1) := by decide +kernel
theorem dX6_of_9 : decode cX6_of 9 = .ok (.lconst 0, 1) := by decide +kernel
theorem dX6_of_10 : decode cX6_of 10 = .ok (.ldc2_w 60, 3) := by decide +kernel
theorem dX6_of_13 : decode cX6_of 13 = .ok (.invokestatic 62, 3) := by decide +kernel
theorem dX6_of_16 : decode cX6_of 16 = .ok (.ifCond .eq 12, 3) := by decide +kernel
theorem dX6_of_19 : decode cX6_of 19 = .ok (.aload_n 0, 1) := by decide +kernel
theorem dX6_of_20 : decode cX6_of 20 = .ok (.iload_n 1, 1) := by decide +kernel
theorem dX6_of_21 : decode cX6_of 21 = .ok (.iload_n 2, 1) := by decide +kernel
theorem dX6_of_22 : decode cX6_of 22 = .ok (.invokevirtual 96, 3) := by decide +kernel
theorem dX6_of_25 : decode cX6_of 25 = .ok (.goto 9, 3) := by decide +kernel
theorem dX6_of_28 : decode cX6_of 28 = .ok (.aload_n 0, 1) := by decide +kernel
theorem dX6_of_29 : decode cX6_of 29 = .ok (.bipush (-2), 2) := by decide +kernel
theorem dX6_of_31 : decode cX6_of 31 = .ok (.invokevirtual 82, 3) := by decide +kernel
theorem dX6_of_34 : decode cX6_of 34 = .ok (.ireturn, 1) := by decide +kernel
theorem dX6_keys_0 : decode cX6_keys 0 = .ok (.iload_n 1, 1) := by decide +kernel
theorem dX6_keys_1 : decode cX6_keys 1 = .ok (.i2l, 1) := by decide +kernel
theorem dX6_keys_2 : decode cX6_keys 2 = .ok (.lconst 0, 1) := by decide +kernel
theorem dX6_keys_3 : decode cX6_keys 3 = .ok (.ldc2_w 99, 3) := by decide +kernel
theorem dX6_keys_6 : decode cX6_keys 6 = .ok (.invokestatic 62, 3) := by decide +kernel
theorem dX6_keys_9 : decode cX6_keys 9 = .ok (.ifCond .eq 10, 3) := by decide +kernel
theorem dX6_keys_12 : decode cX6_keys 12 = .ok (.iload_n 1, 1) := by decide +kernel
theorem dX6_keys_13 : decode cX6_keys 13 = .ok (.iconst 2, 1) := by decide +kernel
theorem dX6_keys_14 : decode cX6_keys 14 = .ok (.irem, 1) := by decide +kernel
theorem dX6_keys_15 : decode cX6_keys 15 = .ok (.iconst 1, 1) := by decide +kernel
theorem dX6_keys_16 : decode cX6_keys 16 = .ok (.if_icmp .ne 10, 3) := by decide +kernel
theorem dX6_keys_19 : decode cX6_keys 19 = .ok (.aload_n 0, 1) := by decide +kernel
theorem dX6_keys_20 : decode cX6_keys 20 = .ok (.bipush (-2), 2) := by decide +kernel
theorem dX6_keys_22 : decode cX6_keys 22 = .ok (.invokevirtual 82, 3) := by decide +kernel
theorem dX6_keys_25 : decode cX6_keys 25 = .ok (.ireturn, 1) := by decide +kernel
theorem dX6_keys_26 : decode cX6_keys 26 = .ok (.aload_n 0, 1) := by decide +kernel
theorem dX6_keys_27 : decode cX6_keys 27 = .ok (.invokevirtual 86, 3) := by decide +kernel
theorem dX6_keys_30 : decode cX6_keys 30 = .ok (.aload_n 0, 1) := by decide +kernel
theorem dX6_keys_31 : decode cX6_keys 31 = .ok (.getfield 7, 3) := by decide +kernel
theorem dX6_keys_34 : decode cX6_keys 34 = .ok (.bipush 56, 2) := by decide +kernel
theorem dX6_keys_36 : decode cX6_keys 36 = .ok (.iaload, 1) := by decide +kernel
theorem dX6_keys_37 : decode cX6_keys 37 = .ok (.istore_n 2, 1) := by decide +kernel
theorem dX6_keys_38 : decode cX6_keys 38 = .ok (.aload_n 0, 1) := by decide +kernel
theorem dX6_keys_39 : decode cX6_keys 39 = .ok (.getfield 7, 3) := by decide +kernel
theorem dX6_keys_42 : decode cX6_keys 42 = .ok (.bipush 56, 2) := by decide +kernel
theorem dX6_keys_44 : decode cX6_keys 44 = .ok (.iload_n 1, 1) := by decide +kernel
theorem dX6_keys_45 : decode cX6_keys 45 = .ok (.iastore, 1) := by decide +kernel
theorem dX6_keys_46 : decode cX6_keys 46 = .ok (.iload_n 2, 1) := by decide +kernel
theorem dX6_keys_47 : decode cX6_keys 47 = .ok (.ireturn, 1) := by decide +kernel
theorem dX6_awake_0 : decode cX6_awake 0 = .ok (.iconst 0, 1) := by decide +kernel
theorem dX6_awake_1 : decode cX6_awake 1 = .ok (.istore_n 1, 1) := by decide +kernel
theorem dX6_awake_2 : decode cX6_awake 2 = .ok (.iconst 0, 1) := by decide +kernel
theorem dX6_awake_3 : decode cX6_awake 3 = .ok (.istore_n 2, 1) := by decide +kernel
theorem dX6_awake_4 : decode cX6_awake 4 = .ok (.iload_n 2, 1) := by decide +kernel
theorem dX6_awake_5 : decode cX6_awake 5 = .ok (.bipush 8, 2) := by decide +kernel
theorem dX6_awake_7 : decode cX6_awake 7 = .ok (.if_icmp .ge 18, 3) := by decide +kernel
theorem dX6_awake_10 : decode cX6_awake 10 = .ok (.iload_n 1, 1) := by decide +kernel
theorem dX6_awake_11 : decode cX6_awake 11 = .ok (.aload_n 0, 1) := by decide +kernel
theorem dX6_awake_12 : decode cX6_awake 12 = .ok (.iload_n 2, 1) := by decide +kernel
theorem dX6_awake_13 : decode cX6_awake 13 = .ok (.iconst 4, 1) := by decide +kernel
theorem dX6_awake_14 : decode cX6_awake 14 = .ok (.invokevirtual 96, 3) := by decide +kernel
theorem dX6_awake_17 : decode cX6_awake 17 = .ok (.iadd, 1) := by decide +kernel
theorem dX6_awake_18 : decode cX6_awake 18 = .ok (.istore_n 1, 1) := by decide +kernel
theorem dX6_awake_19 : decode cX6_awake 19 = .ok (.iinc 2 1, 3) := by decide +kernel
theorem dX6_awake_22 : decode cX6_awake 22 = .ok (.goto (-18), 3) := by decide +kernel
theorem dX6_awake_25 : decode cX6_awake 25 = .ok (.iload_n 1, 1) := by decide +kernel
theorem dX6_awake_26 : decode cX6_awake 26 = .ok (.ireturn, 1) := by decide +kernel
theorem dX6_dusk_0 : decode cX6_dusk 0 = .ok (.aload_n 0, 1) := by decide +kernel
theorem dX6_dusk_1 : decode cX6_dusk 1 = .ok (.invokevirtual 101, 3) := by decide +kernel
