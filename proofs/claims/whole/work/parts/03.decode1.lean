theorem dX0_init_0 : decode cX0_init 0 = .ok (.aload_n 0, 1) := by decide +kernel
theorem dX0_init_1 : decode cX0_init 1 = .ok (.invokespecial 3, 3) := by decide +kernel
theorem dX0_init_4 : decode cX0_init 4 = .ok (.aload_n 0, 1) := by decide +kernel
theorem dX0_init_5 : decode cX0_init 5 = .ok (.bipush 58, 2) := by decide +kernel
theorem dX0_init_7 : decode cX0_init 7 = .ok (.newarray .int, 2) := by decide +kernel
theorem dX0_init_9 : decode cX0_init 9 = .ok (.putfield 9, 3) := by decide +kernel
theorem dX0_init_12 : decode cX0_init 12 = .ok (.return_, 1) := by decide +kernel
theorem dX0_cell_0 : decode cX0_cell 0 = .ok (.iload_n 1, 1) := by decide +kernel
theorem dX0_cell_1 : decode cX0_cell 1 = .ok (.bipush 7, 2) := by decide +kernel
theorem dX0_cell_3 : decode cX0_cell 3 = .ok (.imul, 1) := by decide +kernel
theorem dX0_cell_4 : decode cX0_cell 4 = .ok (.iload_n 2, 1) := by decide +kernel
theorem dX0_cell_5 : decode cX0_cell 5 = .ok (.iadd, 1) := by decide +kernel
theorem dX0_cell_6 : decode cX0_cell 6 = .ok (.istore_n 3, 1) := by decide +kernel
theorem dX0_cell_7 : decode cX0_cell 7 = .ok (.iload_n 3, 1) := by decide +kernel
theorem dX0_cell_8 : decode cX0_cell 8 = .ok (.ifCond .lt 18, 3) := by decide +kernel
theorem dX0_cell_11 : decode cX0_cell 11 = .ok (.iload_n 3, 1) := by decide +kernel
theorem dX0_cell_12 : decode cX0_cell 12 = .ok (.bipush 58, 2) := by decide +kernel
theorem dX0_cell_14 : decode cX0_cell 14 = .ok (.if_icmp .ge 12, 3) := by decide +kernel
theorem dX0_cell_17 : decode cX0_cell 17 = .ok (.aload_n 0, 1) := by decide +kernel
theorem dX0_cell_18 : decode cX0_cell 18 = .ok (.getfield 9, 3) := by decide +kernel
theorem dX0_cell_21 : decode cX0_cell 21 = .ok (.iload_n 3, 1) := by decide +kernel
theorem dX0_cell_22 : decode cX0_cell 22 = .ok (.iaload, 1) := by decide +kernel
theorem dX0_cell_23 : decode cX0_cell 23 = .ok (.goto 4, 3) := by decide +kernel
theorem dX0_cell_26 : decode cX0_cell 26 = .ok (.iconst 0, 1) := by decide +kernel
theorem dX0_cell_27 : decode cX0_cell 27 = .ok (.ireturn, 1) := by decide +kernel
theorem dX0_setCell_0 : decode cX0_setCell 0 = .ok (.iload_n 1, 1) := by decide +kernel
theorem dX0_setCell_1 : decode cX0_setCell 1 = .ok (.bipush 7, 2) := by decide +kernel
theorem dX0_setCell_3 : decode cX0_setCell 3 = .ok (.imul, 1) := by decide +kernel
theorem dX0_setCell_4 : decode cX0_setCell 4 = .ok (.iload_n 2, 1) := by decide +kernel
theorem dX0_setCell_5 : decode cX0_setCell 5 = .ok (.iadd, 1) := by decide +kernel
theorem dX0_setCell_6 : decode cX0_setCell 6 = .ok (.istore 4, 2) := by decide +kernel
theorem dX0_setCell_8 : decode cX0_setCell 8 = .ok (.iload 4, 2) := by decide +kernel
theorem dX0_setCell_10 : decode cX0_setCell 10 = .ok (.ifCond .lt 18, 3) := by decide +kernel
theorem dX0_setCell_13 : decode cX0_setCell 13 = .ok (.iload 4, 2) := by decide +kernel
theorem dX0_setCell_15 : decode cX0_setCell 15 = .ok (.bipush 58, 2) := by decide +kernel
theorem dX0_setCell_17 : decode cX0_setCell 17 = .ok (.if_icmp .ge 11, 3) := by decide +kernel
theorem dX0_setCell_20 : decode cX0_setCell 20 = .ok (.aload_n 0, 1) := by decide +kernel
theorem dX0_setCell_21 : decode cX0_setCell 21 = .ok (.getfield 9, 3) := by decide +kernel
theorem dX0_setCell_24 : decode cX0_setCell 24 = .ok (.iload 4, 2) := by decide +kernel
theorem dX0_setCell_26 : decode cX0_setCell 26 = .ok (.iload_n 3, 1) := by decide +kernel
theorem dX0_setCell_27 : decode cX0_setCell 27 = .ok (.iastore, 1) := by decide +kernel
theorem dX0_setCell_28 : decode cX0_setCell 28 = .ok (.return_, 1) := by decide +kernel
theorem dX0_change_0 : decode cX0_change 0 = .ok (.aload_n 0, 1) := by decide +kernel
theorem dX0_change_1 : decode cX0_change 1 = .ok (.iload_n 1, 1) := by decide +kernel
theorem dX0_change_2 : decode cX0_change 2 = .ok (.iload_n 2, 1) := by decide +kernel
theorem dX0_change_3 : decode cX0_change 3 = .ok (.iload_n 3, 1) := by decide +kernel
theorem dX0_change_4 : decode cX0_change 4 = .ok (.invokevirtual 15, 3) := by decide +kernel
theorem dX0_change_7 : decode cX0_change 7 = .ok (.iload_n 2, 1) := by decide +kernel
theorem dX0_change_8 : decode cX0_change 8 = .ok (.iconst 3, 1) := by decide +kernel
theorem dX0_change_9 : decode cX0_change 9 = .ok (.if_icmp .ne 10, 3) := by decide +kernel
theorem dX0_change_12 : decode cX0_change 12 = .ok (.aload_n 0, 1) := by decide +kernel
theorem dX0_change_13 : decode cX0_change 13 = .ok (.iload_n 1, 1) := by decide +kernel
theorem dX0_change_14 : decode cX0_change 14 = .ok (.iconst 4, 1) := by decide +kernel
theorem dX0_change_15 : decode cX0_change 15 = .ok (.iconst 0, 1) := by decide +kernel
theorem dX0_change_16 : decode cX0_change 16 = .ok (.invokevirtual 15, 3) := by decide +kernel
theorem dX0_change_19 : decode cX0_change 19 = .ok (.return_, 1) := by decide +kernel
theorem dX0_keyring_0 : decode cX0_keyring 0 = .ok (.aload_n 0, 1) := by decide +kernel
theorem dX0_keyring_1 : decode cX0_keyring 1 = .ok (.getfield 9, 3) := by decide +kernel
theorem dX0_keyring_4 : decode cX0_keyring 4 = .ok (.bipush 56, 2) := by decide +kernel
theorem dX0_keyring_6 : decode cX0_keyring 6 = .ok (.iaload, 1) := by decide +kernel
theorem dX0_keyring_7 : decode cX0_keyring 7 = .ok (.ireturn, 1) := by decide +kernel
theorem dX0_giveKeys_0 : decode cX0_giveKeys 0 = .ok (.aload_n 0, 1) := by decide +kernel
theorem dX0_giveKeys_1 : decode cX0_giveKeys 1 = .ok (.getfield 9, 3) := by decide +kernel
theorem dX0_giveKeys_4 : decode cX0_giveKeys 4 = .ok (.bipush 56, 2) := by decide +kernel
theorem dX0_giveKeys_6 : decode cX0_giveKeys 6 = .ok (.iload_n 1, 1) := by decide +kernel
theorem dX0_giveKeys_7 : decode cX0_giveKeys 7 = .ok (.iastore, 1) := by decide +kernel
theorem dX0_giveKeys_8 : decode cX0_giveKeys 8 = .ok (.return_, 1) := by decide +kernel
theorem dX0_sum_0 : decode cX0_sum 0 = .ok (.aload_n 0, 1) := by decide +kernel
theorem dX0_sum_1 : decode cX0_sum 1 = .ok (.getfield 9, 3) := by decide +kernel
theorem dX0_sum_4 : decode cX0_sum 4 = .ok (.bipush 57, 2) := by decide +kernel
theorem dX0_sum_6 : decode cX0_sum 6 = .ok (.iaload, 1) := by decide +kernel
theorem dX0_sum_7 : decode cX0_sum 7 = .ok (.ireturn, 1) := by decide +kernel
theorem dX0_addToSum_0 : decode cX0_addToSum 0 = .ok (.aload_n 0, 1) := by decide +kernel
theorem dX0_addToSum_1 : decode cX0_addToSum 1 = .ok (.getfield 9, 3) := by decide +kernel
theorem dX0_addToSum_4 : decode cX0_addToSum 4 = .ok (.bipush 57, 2) := by decide +kernel
theorem dX0_addToSum_6 : decode cX0_addToSum 6 = .ok (.dup2, 1) := by decide +kernel
theorem dX0_addToSum_7 : decode cX0_addToSum 7 = .ok (.iaload, 1) := by decide +kernel
theorem dX0_addToSum_8 : decode cX0_addToSum 8 = .ok (.iload_n 1, 1) := by decide +kernel
theorem dX0_addToSum_9 : decode cX0_addToSum 9 = .ok (.iadd, 1) := by decide +kernel
theorem dX0_addToSum_10 : decode cX0_addToSum 10 = .ok (.iastore, 1) := by decide +kernel
theorem dX0_addToSum_11 : decode cX0_addToSum 11 = .ok (.return_, 1) := by decide +kernel
theorem dX0_loudness_0 : decode cX0_loudness 0 = .ok (.aload_n 0, 1) := by decide +kernel
theorem dX0_loudness_1 : decode cX0_loudness 1 = .ok (.iload_n 1, 1) := by decide +kernel
theorem dX0_loudness_2 : decode cX0_loudness 2 = .ok (.bipush 6, 2) := by decide +kernel
theorem dX0_loudness_4 : decode cX0_loudness 4 = .ok (.invokevirtual 19, 3) := by decide +kernel
theorem dX0_loudness_7 : decode cX0_loudness 7 = .ok (.istore_n 2, 1) := by decide +kernel
theorem dX0_loudness_8 : decode cX0_loudness 8 = .ok (.aload_n 0, 1) := by decide +kernel
theorem dX0_loudness_9 : decode cX0_loudness 9 = .ok (.iload_n 1, 1) := by decide +kernel
theorem dX0_loudness_10 : decode cX0_loudness 10 = .ok (.iconst 0, 1) := by decide +kernel
theorem dX0_loudness_11 : decode cX0_loudness 11 = .ok (.invokevirtual 19, 3) := by decide +kernel
theorem dX0_loudness_14 : decode cX0_loudness 14 = .ok (.tableswitch 55 1 4 #[30, 32, 37, 48], 30) := by decide +kernel
theorem dX0_loudness_44 : decode cX0_loudness 44 = .ok (.iconst 2, 1) := by decide +kernel
theorem dX0_loudness_45 : decode cX0_loudness 45 = .ok (.ireturn, 1) := by decide +kernel
theorem dX0_loudness_46 : decode cX0_loudness 46 = .ok (.iload_n 2, 1) := by decide +kernel
theorem dX0_loudness_47 : decode cX0_loudness 47 = .ok (.invokestatic 23, 3) := by decide +kernel
theorem dX0_loudness_50 : decode cX0_loudness 50 = .ok (.ireturn, 1) := by decide +kernel
theorem dX0_loudness_51 : decode cX0_loudness 51 = .ok (.iload_n 2, 1) := by decide +kernel
theorem dX0_loudness_52 : decode cX0_loudness 52 = .ok (.iconst 2, 1) := by decide +kernel
theorem dX0_loudness_53 : decode cX0_loudness 53 = .ok (.if_icmp .le 7, 3) := by decide +kernel
theorem dX0_loudness_56 : decode cX0_loudness 56 = .ok (.iconst 0, 1) := by decide +kernel
theorem dX0_loudness_57 : decode cX0_loudness 57 = .ok (.goto 4, 3) := by decide +kernel
theorem dX0_loudness_60 : decode cX0_loudness 60 = .ok (.iconst 2, 1) := by decide +kernel
theorem dX0_loudness_61 : decode cX0_loudness 61 = .ok (.ireturn, 1) := by decide +kernel
theorem dX0_loudness_62 : decode cX0_loudness 62 = .ok (.iconst 2, 1) := by decide +kernel
theorem dX0_loudness_63 : decode cX0_loudness 63 = .ok (.iload_n 2, 1) := by decide +kernel
theorem dX0_loudness_64 : decode cX0_loudness 64 = .ok (.invokestatic 23, 3) := by decide +kernel
theorem dX0_loudness_67 : decode cX0_loudness 67 = .ok (.imul, 1) := by decide +kernel
theorem dX0_loudness_68 : decode cX0_loudness 68 = .ok (.ireturn, 1) := by decide +kernel
theorem dX0_loudness_69 : decode cX0_loudness 69 = .ok (.iconst 0, 1) := by decide +kernel
theorem dX0_loudness_70 : decode cX0_loudness 70 = .ok (.ireturn, 1) := by decide +kernel
theorem dX0_swollen_0 : decode cX0_swollen 0 = .ok (.iconst 2, 1) := by decide +kernel
theorem dX0_swollen_1 : decode cX0_swollen 1 = .ok (.iload_n 0, 1) := by decide +kernel
theorem dX0_swollen_2 : decode cX0_swollen 2 = .ok (.iconst 3, 1) := by decide +kernel
theorem dX0_swollen_3 : decode cX0_swollen 3 = .ok (.irem, 1) := by decide +kernel
theorem dX0_swollen_4 : decode cX0_swollen 4 = .ok (.iadd, 1) := by decide +kernel
theorem dX0_swollen_5 : decode cX0_swollen 5 = .ok (.ireturn, 1) := by decide +kernel
theorem dX0_admits_0 : decode cX0_admits 0 = .ok (.aload_n 0, 1) := by decide +kernel
theorem dX0_admits_1 : decode cX0_admits 1 = .ok (.iload_n 1, 1) := by decide +kernel
theorem dX0_admits_2 : decode cX0_admits 2 = .ok (.iconst 1, 1) := by decide +kernel
theorem dX0_admits_3 : decode cX0_admits 3 = .ok (.invokevirtual 19, 3) := by decide +kernel
theorem dX0_admits_6 : decode cX0_admits 6 = .ok (.istore_n 2, 1) := by decide +kernel
theorem dX0_admits_7 : decode cX0_admits 7 = .ok (.iload_n 2, 1) := by decide +kernel
theorem dX0_admits_8 : decode cX0_admits 8 = .ok (.ifCond .eq 14, 3) := by decide +kernel
theorem dX0_admits_11 : decode cX0_admits 11 = .ok (.aload_n 0, 1) := by decide +kernel
theorem dX0_admits_12 : decode cX0_admits 12 = .ok (.invokevirtual 27, 3) := by decide +kernel
theorem dX0_admits_15 : decode cX0_admits 15 = .ok (.iconst 1, 1) := by decide +kernel
theorem dX0_admits_16 : decode cX0_admits 16 = .ok (.iload_n 2, 1) := by decide +kernel
theorem dX0_admits_17 : decode cX0_admits 17 = .ok (.ishl, 1) := by decide +kernel
theorem dX0_admits_18 : decode cX0_admits 18 = .ok (.iand, 1) := by decide +kernel
theorem dX0_admits_19 : decode cX0_admits 19 = .ok (.ifCond .eq 7, 3) := by decide +kernel
theorem dX0_admits_22 : decode cX0_admits 22 = .ok (.iconst 1, 1) := by decide +kernel
theorem dX0_admits_23 : decode cX0_admits 23 = .ok (.goto 4, 3) := by decide +kernel
theorem dX0_admits_26 : decode cX0_admits 26 = .ok (.iconst 0, 1) := by decide +kernel
theorem dX0_admits_27 : decode cX0_admits 27 = .ok (.ireturn, 1) := by decide +kernel
theorem dX0_sleepNow_0 : decode cX0_sleepNow 0 = .ok (.aload_n 0, 1) := by decide +kernel
theorem dX0_sleepNow_1 : decode cX0_sleepNow 1 = .ok (.iload_n 1, 1) := by decide +kernel
theorem dX0_sleepNow_2 : decode cX0_sleepNow 2 = .ok (.iconst 4, 1) := by decide +kernel
theorem dX0_sleepNow_3 : decode cX0_sleepNow 3 = .ok (.invokevirtual 19, 3) := by decide +kernel
theorem dX0_sleepNow_6 : decode cX0_sleepNow 6 = .ok (.ifCond .ne 12, 3) := by decide +kernel
theorem dX0_sleepNow_9 : decode cX0_sleepNow 9 = .ok (.aload_n 0, 1) := by decide +kernel
theorem dX0_sleepNow_10 : decode cX0_sleepNow 10 = .ok (.iload_n 1, 1) := by decide +kernel
theorem dX0_sleepNow_11 : decode cX0_sleepNow 11 = .ok (.iconst 3, 1) := by decide +kernel
theorem dX0_sleepNow_12 : decode cX0_sleepNow 12 = .ok (.invokevirtual 19, 3) := by decide +kernel
theorem dX0_sleepNow_15 : decode cX0_sleepNow 15 = .ok (.goto 4, 3) := by decide +kernel
theorem dX0_sleepNow_18 : decode cX0_sleepNow 18 = .ok (.iconst 0, 1) := by decide +kernel
theorem dX0_sleepNow_19 : decode cX0_sleepNow 19 = .ok (.ireturn, 1) := by decide +kernel
theorem dX0_wakes_0 : decode cX0_wakes 0 = .ok (.aload_n 0, 1) := by decide +kernel
theorem dX0_wakes_1 : decode cX0_wakes 1 = .ok (.iload_n 1, 1) := by decide +kernel
theorem dX0_wakes_2 : decode cX0_wakes 2 = .ok (.invokevirtual 31, 3) := by decide +kernel
theorem dX0_wakes_5 : decode cX0_wakes 5 = .ok (.istore_n 3, 1) := by decide +kernel
theorem dX0_wakes_6 : decode cX0_wakes 6 = .ok (.iload_n 3, 1) := by decide +kernel
theorem dX0_wakes_7 : decode cX0_wakes 7 = .ok (.ifCond .eq 8, 3) := by decide +kernel
theorem dX0_wakes_10 : decode cX0_wakes 10 = .ok (.iload_n 2, 1) := by decide +kernel
theorem dX0_wakes_11 : decode cX0_wakes 11 = .ok (.iload_n 3, 1) := by decide +kernel
theorem dX0_wakes_12 : decode cX0_wakes 12 = .ok (.if_icmp .ge 5, 3) := by decide +kernel
theorem dX0_wakes_15 : decode cX0_wakes 15 = .ok (.iconst 0, 1) := by decide +kernel
theorem dX0_wakes_16 : decode cX0_wakes 16 = .ok (.ireturn, 1) := by decide +kernel
theorem dX0_wakes_17 : decode cX0_wakes 17 = .ok (.aload_n 0, 1) := by decide +kernel
theorem dX0_wakes_18 : decode cX0_wakes 18 = .ok (.iload_n 1, 1) := by decide +kernel
theorem dX0_wakes_19 : decode cX0_wakes 19 = .ok (.iconst 4, 1) := by decide +kernel
theorem dX0_wakes_20 : decode cX0_wakes 20 = .ok (.iconst 1, 1) := by decide +kernel
theorem dX0_wakes_21 : decode cX0_wakes 21 = .ok (.invokevirtual 15, 3) := by decide +kernel
theorem dX0_wakes_24 : decode cX0_wakes 24 = .ok (.iconst 1, 1) := by decide +kernel
theorem dX0_wakes_25 : decode cX0_wakes 25 = .ok (.ireturn, 1) := by decide +kernel
theorem dX0_openDoor_0 : decode cX0_openDoor 0 = .ok (.aload_n 0, 1) := by decide +kernel
theorem dX0_openDoor_1 : decode cX0_openDoor 1 = .ok (.iload_n 1, 1) := by decide +kernel
theorem dX0_openDoor_2 : decode cX0_openDoor 2 = .ok (.bipush 6, 2) := by decide +kernel
theorem dX0_openDoor_4 : decode cX0_openDoor 4 = .ok (.aload_n 0, 1) := by decide +kernel
theorem dX0_openDoor_5 : decode cX0_openDoor 5 = .ok (.iload_n 1, 1) := by decide +kernel
theorem dX0_openDoor_6 : decode cX0_openDoor 6 = .ok (.bipush 6, 2) := by decide +kernel
theorem dX0_openDoor_8 : decode cX0_openDoor 8 = .ok (.invokevirtual 19, 3) := by decide +kernel
theorem dX0_openDoor_11 : decode cX0_openDoor 11 = .ok (.iconst 1, 1) := by decide +kernel
theorem dX0_openDoor_12 : decode cX0_openDoor 12 = .ok (.iadd, 1) := by decide +kernel
theorem dX0_openDoor_13 : decode cX0_openDoor 13 = .ok (.sipush 9999, 3) := by decide +kernel
theorem dX0_openDoor_16 : decode cX0_openDoor 16 = .ok (.invokestatic 34, 3) := by decide +kernel
theorem dX0_openDoor_19 : decode cX0_openDoor 19 = .ok (.invokevirtual 15, 3) := by decide +kernel
theorem dX0_openDoor_22 : decode cX0_openDoor 22 = .ok (.return_, 1) := by decide +kernel
theorem dX0_turnLamp_0 : decode cX0_turnLamp 0 = .ok (.aload_n 0, 1) := by decide +kernel
theorem dX0_turnLamp_1 : decode cX0_turnLamp 1 = .ok (.iload_n 1, 1) := by decide +kernel
theorem dX0_turnLamp_2 : decode cX0_turnLamp 2 = .ok (.iconst 5, 1) := by decide +kernel
theorem dX0_turnLamp_3 : decode cX0_turnLamp 3 = .ok (.iconst 1, 1) := by decide +kernel
theorem dX0_turnLamp_4 : decode cX0_turnLamp 4 = .ok (.aload_n 0, 1) := by decide +kernel
theorem dX0_turnLamp_5 : decode cX0_turnLamp 5 = .ok (.iload_n 1, 1) := by decide +kernel
theorem dX0_turnLamp_6 : decode cX0_turnLamp 6 = .ok (.iconst 5, 1) := by decide +kernel
theorem dX0_turnLamp_7 : decode cX0_turnLamp 7 = .ok (.invokevirtual 19, 3) := by decide +kernel
theorem dX0_turnLamp_10 : decode cX0_turnLamp 10 = .ok (.isub, 1) := by decide +kernel
theorem dX0_turnLamp_11 : decode cX0_turnLamp 11 = .ok (.invokevirtual 15, 3) := by decide +kernel
theorem dX0_turnLamp_14 : decode cX0_turnLamp 14 = .ok (.return_, 1) := by decide +kernel
theorem dX0_takeKey_0 : decode cX0_takeKey 0 = .ok (.aload_n 0, 1) := by decide +kernel
theorem dX0_takeKey_1 : decode cX0_takeKey 1 = .ok (.iload_n 1, 1) := by decide +kernel
theorem dX0_takeKey_2 : decode cX0_takeKey 2 = .ok (.iconst 2, 1) := by decide +kernel
theorem dX0_takeKey_3 : decode cX0_takeKey 3 = .ok (.invokevirtual 19, 3) := by decide +kernel
theorem dX0_takeKey_6 : decode cX0_takeKey 6 = .ok (.istore_n 2, 1) := by decide +kernel
theorem dX0_takeKey_7 : decode cX0_takeKey 7 = .ok (.iload_n 2, 1) := by decide +kernel
theorem dX0_takeKey_8 : decode cX0_takeKey 8 = .ok (.ifCond .eq 22, 3) := by decide +kernel
theorem dX0_takeKey_11 : decode cX0_takeKey 11 = .ok (.aload_n 0, 1) := by decide +kernel
theorem dX0_takeKey_12 : decode cX0_takeKey 12 = .ok (.aload_n 0, 1) := by decide +kernel
theorem dX0_takeKey_13 : decode cX0_takeKey 13 = .ok (.invokevirtual 27, 3) := by decide +kernel
theorem dX0_takeKey_16 : decode cX0_takeKey 16 = .ok (.iconst 1, 1) := by decide +kernel
theorem dX0_takeKey_17 : decode cX0_takeKey 17 = .ok (.iload_n 2, 1) := by decide +kernel
theorem dX0_takeKey_18 : decode cX0_takeKey 18 = .ok (.ishl, 1) := by decide +kernel
theorem dX0_takeKey_19 : decode cX0_takeKey 19 = .ok (.ior, 1) := by decide +kernel
theorem dX0_takeKey_20 : decode cX0_takeKey 20 = .ok (.invokevirtual 39, 3) := by decide +kernel
theorem dX0_takeKey_23 : decode cX0_takeKey 23 = .ok (.aload_n 0, 1) := by decide +kernel
theorem dX0_takeKey_24 : decode cX0_takeKey 24 = .ok (.iload_n 1, 1) := by decide +kernel
theorem dX0_takeKey_25 : decode cX0_takeKey 25 = .ok (.iconst 2, 1) := by decide +kernel
theorem dX0_takeKey_26 : decode cX0_takeKey 26 = .ok (.iconst 0, 1) := by decide +kernel
theorem dX0_takeKey_27 : decode cX0_takeKey 27 = .ok (.invokevirtual 15, 3) := by decide +kernel
theorem dX0_takeKey_30 : decode cX0_takeKey 30 = .ok (.return_, 1) := by decide +kernel
theorem dX0_roomsWith_0 : decode cX0_roomsWith 0 = .ok (.iconst 0, 1) := by decide +kernel
theorem dX0_roomsWith_1 : decode cX0_roomsWith 1 = .ok (.istore_n 2, 1) := by decide +kernel
theorem dX0_roomsWith_2 : decode cX0_roomsWith 2 = .ok (.iconst 0, 1) := by decide +kernel
theorem dX0_roomsWith_3 : decode cX0_roomsWith 3 = .ok (.istore_n 3, 1) := by decide +kernel
theorem dX0_roomsWith_4 : decode cX0_roomsWith 4 = .ok (.iload_n 3, 1) := by decide +kernel
theorem dX0_roomsWith_5 : decode cX0_roomsWith 5 = .ok (.bipush 8, 2) := by decide +kernel
theorem dX0_roomsWith_7 : decode cX0_roomsWith 7 = .ok (.if_icmp .ge 21, 3) := by decide +kernel
theorem dX0_roomsWith_10 : decode cX0_roomsWith 10 = .ok (.aload_n 0, 1) := by decide +kernel
theorem dX0_roomsWith_11 : decode cX0_roomsWith 11 = .ok (.iload_n 3, 1) := by decide +kernel
theorem dX0_roomsWith_12 : decode cX0_roomsWith 12 = .ok (.iload_n 1, 1) := by decide +kernel
theorem dX0_roomsWith_13 : decode cX0_roomsWith 13 = .ok (.invokevirtual 19, 3) := by decide +kernel
theorem dX0_roomsWith_16 : decode cX0_roomsWith 16 = .ok (.ifCond .eq 6, 3) := by decide +kernel
theorem dX0_roomsWith_19 : decode cX0_roomsWith 19 = .ok (.iinc 2 1, 3) := by decide +kernel
theorem dX0_roomsWith_22 : decode cX0_roomsWith 22 = .ok (.iinc 3 1, 3) := by decide +kernel
theorem dX0_roomsWith_25 : decode cX0_roomsWith 25 = .ok (.goto (-21), 3) := by decide +kernel
theorem dX0_roomsWith_28 : decode cX0_roomsWith 28 = .ok (.iload_n 2, 1) := by decide +kernel
theorem dX0_roomsWith_29 : decode cX0_roomsWith 29 = .ok (.ireturn, 1) := by decide +kernel
theorem dX0_settle_0 : decode cX0_settle 0 = .ok (.iconst 0, 1) := by decide +kernel
theorem dX0_settle_1 : decode cX0_settle 1 = .ok (.istore_n 1, 1) := by decide +kernel
theorem dX0_settle_2 : decode cX0_settle 2 = .ok (.iload_n 1, 1) := by decide +kernel
theorem dX0_settle_3 : decode cX0_settle 3 = .ok (.bipush 8, 2) := by decide +kernel
theorem dX0_settle_5 : decode cX0_settle 5 = .ok (.if_icmp .ge 23, 3) := by decide +kernel
theorem dX0_settle_8 : decode cX0_settle 8 = .ok (.aload_n 0, 1) := by decide +kernel
theorem dX0_settle_9 : decode cX0_settle 9 = .ok (.iload_n 1, 1) := by decide +kernel
theorem dX0_settle_10 : decode cX0_settle 10 = .ok (.iconst 4, 1) := by decide +kernel
theorem dX0_settle_11 : decode cX0_settle 11 = .ok (.iconst 0, 1) := by decide +kernel
theorem dX0_settle_12 : decode cX0_settle 12 = .ok (.invokevirtual 15, 3) := by decide +kernel
theorem dX0_settle_15 : decode cX0_settle 15 = .ok (.aload_n 0, 1) := by decide +kernel
theorem dX0_settle_16 : decode cX0_settle 16 = .ok (.iload_n 1, 1) := by decide +kernel
theorem dX0_settle_17 : decode cX0_settle 17 = .ok (.iconst 5, 1) := by decide +kernel
theorem dX0_settle_18 : decode cX0_settle 18 = .ok (.iconst 0, 1) := by decide +kernel
theorem dX0_settle_19 : decode cX0_settle 19 = .ok (.invokevirtual 15, 3) := by decide +kernel
theorem dX0_settle_22 : decode cX0_settle 22 = .ok (.iinc 1 1, 3) := by decide +kernel
theorem dX0_settle_25 : decode cX0_settle 25 = .ok (.goto (-23), 3) := by decide +kernel
theorem dX0_settle_28 : decode cX0_settle 28 = .ok (.return_, 1) := by decide +kernel
theorem dX0_become_0 : decode cX0_become 0 = .ok (.aload_n 1, 1) := by decide +kernel
theorem dX0_become_1 : decode cX0_become 1 = .ok (.getfield 9, 3) := by decide +kernel
theorem dX0_become_4 : decode cX0_become 4 = .ok (.iconst 0, 1) := by decide +kernel
theorem dX0_become_5 : decode cX0_become 5 = .ok (.aload_n 0, 1) := by decide +kernel
theorem dX0_become_6 : decode cX0_become 6 = .ok (.getfield 9, 3) := by decide +kernel
theorem dX0_become_9 : decode cX0_become 9 = .ok (.iconst 0, 1) := by decide +kernel
theorem dX0_become_10 : decode cX0_become 10 = .ok (.bipush 58, 2) := by decide +kernel
theorem dX0_become_12 : decode cX0_become 12 = .ok (.invokestatic 43, 3) := by decide +kernel
theorem dX0_become_15 : decode cX0_become 15 = .ok (.return_, 1) := by decide +kernel
theorem dX0_drawFrom_0 : decode cX0_drawFrom 0 = .ok (.aload_n 0, 1) := by decide +kernel
theorem dX0_drawFrom_1 : decode cX0_drawFrom 1 = .ok (.getfield 9, 3) := by decide +kernel
theorem dX0_drawFrom_4 : decode cX0_drawFrom 4 = .ok (.iconst 0, 1) := by decide +kernel
theorem dX0_drawFrom_5 : decode cX0_drawFrom 5 = .ok (.invokestatic 49, 3) := by decide +kernel
theorem dX0_drawFrom_8 : decode cX0_drawFrom 8 = .ok (.iload_n 1, 1) := by decide +kernel
theorem dX0_drawFrom_9 : decode cX0_drawFrom 9 = .ok (.i2l, 1) := by decide +kernel
theorem dX0_drawFrom_10 : decode cX0_drawFrom 10 = .ok (.lstore_n 2, 1) := by decide +kernel
theorem dX0_drawFrom_11 : decode cX0_drawFrom 11 = .ok (.iconst 0, 1) := by decide +kernel
theorem dX0_drawFrom_12 : decode cX0_drawFrom 12 = .ok (.istore 4, 2) := by decide +kernel
theorem dX0_drawFrom_14 : decode cX0_drawFrom 14 = .ok (.iload 4, 2) := by decide +kernel
theorem dX0_drawFrom_16 : decode cX0_drawFrom 16 = .ok (.bipush 8, 2) := by decide +kernel
theorem dX0_drawFrom_18 : decode cX0_drawFrom 18 = .ok (.if_icmp .ge 97, 3) := by decide +kernel
theorem dX0_drawFrom_21 : decode cX0_drawFrom 21 = .ok (.lload_n 2, 1) := by decide +kernel
theorem dX0_drawFrom_22 : decode cX0_drawFrom 22 = .ok (.ldc2_w 55, 3) := by decide +kernel
theorem dX0_drawFrom_25 : decode cX0_drawFrom 25 = .ok (.lmul, 1) := by decide +kernel
theorem dX0_drawFrom_26 : decode cX0_drawFrom 26 = .ok (.ldc2_w 57, 3) := by decide +kernel
theorem dX0_drawFrom_29 : decode cX0_drawFrom 29 = .ok (.ladd, 1) := by decide +kernel
theorem dX0_drawFrom_30 : decode cX0_drawFrom 30 = .ok (.ldc2_w 59, 3) := by decide +kernel
theorem dX0_drawFrom_33 : decode cX0_drawFrom 33 = .ok (.lrem, 1) := by decide +kernel
theorem dX0_drawFrom_34 : decode cX0_drawFrom 34 = .ok (.lstore_n 2, 1) := by decide +kernel
theorem dX0_drawFrom_35 : decode cX0_drawFrom 35 = .ok (.aload_n 0, 1) := by decide +kernel
theorem dX0_drawFrom_36 : decode cX0_drawFrom 36 = .ok (.iload 4, 2) := by decide +kernel
theorem dX0_drawFrom_38 : decode cX0_drawFrom 38 = .ok (.iconst 0, 1) := by decide +kernel
theorem dX0_drawFrom_39 : decode cX0_drawFrom 39 = .ok (.lload_n 2, 1) := by decide +kernel
theorem dX0_drawFrom_40 : decode cX0_drawFrom 40 = .ok (.ldc2_w 61, 3) := by decide +kernel
theorem dX0_drawFrom_43 : decode cX0_drawFrom 43 = .ok (.ldiv, 1) := by decide +kernel
theorem dX0_drawFrom_44 : decode cX0_drawFrom 44 = .ok (.ldc2_w 63, 3) := by decide +kernel
theorem dX0_drawFrom_47 : decode cX0_drawFrom 47 = .ok (.lrem, 1) := by decide +kernel
theorem dX0_drawFrom_48 : decode cX0_drawFrom 48 = .ok (.l2i, 1) := by decide +kernel
theorem dX0_drawFrom_49 : decode cX0_drawFrom 49 = .ok (.invokevirtual 15, 3) := by decide +kernel
theorem dX0_drawFrom_52 : decode cX0_drawFrom 52 = .ok (.aload_n 0, 1) := by decide +kernel
theorem dX0_drawFrom_53 : decode cX0_drawFrom 53 = .ok (.iload 4, 2) := by decide +kernel
theorem dX0_drawFrom_55 : decode cX0_drawFrom 55 = .ok (.iconst 1, 1) := by decide +kernel
theorem dX0_drawFrom_56 : decode cX0_drawFrom 56 = .ok (.lload_n 2, 1) := by decide +kernel
theorem dX0_drawFrom_57 : decode cX0_drawFrom 57 = .ok (.ldc2_w 65, 3) := by decide +kernel
theorem dX0_drawFrom_60 : decode cX0_drawFrom 60 = .ok (.ldiv, 1) := by decide +kernel
theorem dX0_drawFrom_61 : decode cX0_drawFrom 61 = .ok (.ldc2_w 67, 3) := by decide +kernel
theorem dX0_drawFrom_64 : decode cX0_drawFrom 64 = .ok (.lrem, 1) := by decide +kernel
theorem dX0_drawFrom_65 : decode cX0_drawFrom 65 = .ok (.l2i, 1) := by decide +kernel
theorem dX0_drawFrom_66 : decode cX0_drawFrom 66 = .ok (.invokestatic 69, 3) := by decide +kernel
theorem dX0_drawFrom_69 : decode cX0_drawFrom 69 = .ok (.invokevirtual 15, 3) := by decide +kernel
theorem dX0_drawFrom_72 : decode cX0_drawFrom 72 = .ok (.aload_n 0, 1) := by decide +kernel
theorem dX0_drawFrom_73 : decode cX0_drawFrom 73 = .ok (.iload 4, 2) := by decide +kernel
theorem dX0_drawFrom_75 : decode cX0_drawFrom 75 = .ok (.iconst 2, 1) := by decide +kernel
theorem dX0_drawFrom_76 : decode cX0_drawFrom 76 = .ok (.lload_n 2, 1) := by decide +kernel
theorem dX0_drawFrom_77 : decode cX0_drawFrom 77 = .ok (.ldc2_w 72, 3) := by decide +kernel
theorem dX0_drawFrom_80 : decode cX0_drawFrom 80 = .ok (.ldiv, 1) := by decide +kernel
theorem dX0_drawFrom_81 : decode cX0_drawFrom 81 = .ok (.ldc2_w 67, 3) := by decide +kernel
theorem dX0_drawFrom_84 : decode cX0_drawFrom 84 = .ok (.lrem, 1) := by decide +kernel
theorem dX0_drawFrom_85 : decode cX0_drawFrom 85 = .ok (.l2i, 1) := by decide +kernel
theorem dX0_drawFrom_86 : decode cX0_drawFrom 86 = .ok (.invokestatic 69, 3) := by decide +kernel
theorem dX0_drawFrom_89 : decode cX0_drawFrom 89 = .ok (.invokevirtual 15, 3) := by decide +kernel
theorem dX0_drawFrom_92 : decode cX0_drawFrom 92 = .ok (.aload_n 0, 1) := by decide +kernel
theorem dX0_drawFrom_93 : decode cX0_drawFrom 93 = .ok (.iload 4, 2) := by decide +kernel
theorem dX0_drawFrom_95 : decode cX0_drawFrom 95 = .ok (.iconst 3, 1) := by decide +kernel
theorem dX0_drawFrom_96 : decode cX0_drawFrom 96 = .ok (.lload_n 2, 1) := by decide +kernel
theorem dX0_drawFrom_97 : decode cX0_drawFrom 97 = .ok (.ldc2_w 74, 3) := by decide +kernel
theorem dX0_drawFrom_100 : decode cX0_drawFrom 100 = .ok (.ldiv, 1) := by decide +kernel
theorem dX0_drawFrom_101 : decode cX0_drawFrom 101 = .ok (.ldc2_w 76, 3) := by decide +kernel
theorem dX0_drawFrom_104 : decode cX0_drawFrom 104 = .ok (.lrem, 1) := by decide +kernel
theorem dX0_drawFrom_105 : decode cX0_drawFrom 105 = .ok (.l2i, 1) := by decide +kernel
theorem dX0_drawFrom_106 : decode cX0_drawFrom 106 = .ok (.invokevirtual 15, 3) := by decide +kernel
theorem dX0_drawFrom_109 : decode cX0_drawFrom 109 = .ok (.iinc 4 1, 3) := by decide +kernel
theorem dX0_drawFrom_112 : decode cX0_drawFrom 112 = .ok (.goto (-98), 3) := by decide +kernel
theorem dX0_drawFrom_115 : decode cX0_drawFrom 115 = .ok (.return_, 1) := by decide +kernel
theorem dX0_upToThree_0 : decode cX0_upToThree 0 = .ok (.iload_n 0, 1) := by decide +kernel
theorem dX0_upToThree_1 : decode cX0_upToThree 1 = .ok (.iconst 3, 1) := by decide +kernel
theorem dX0_upToThree_2 : decode cX0_upToThree 2 = .ok (.if_icmp .le 7, 3) := by decide +kernel
theorem dX0_upToThree_5 : decode cX0_upToThree 5 = .ok (.iconst 0, 1) := by decide +kernel
theorem dX0_upToThree_6 : decode cX0_upToThree 6 = .ok (.goto 4, 3) := by decide +kernel
theorem dX0_upToThree_9 : decode cX0_upToThree 9 = .ok (.iload_n 0, 1) := by decide +kernel
theorem dX0_upToThree_10 : decode cX0_upToThree 10 = .ok (.ireturn, 1) := by decide +kernel
theorem dX1_init_0 : decode cX1_init 0 = .ok (.aload_n 0, 1) := by decide +kernel
theorem dX1_init_1 : decode cX1_init 1 = .ok (.invokespecial 3, 3) := by decide +kernel
theorem dX1_init_4 : decode cX1_init 4 = .ok (.aload_n 0, 1) := by decide +kernel
theorem dX1_init_5 : decode cX1_init 5 = .ok (.sipush 464, 3) := by decide +kernel
theorem dX1_init_8 : decode cX1_init 8 = .ok (.newarray .int, 2) := by decide +kernel
theorem dX1_init_10 : decode cX1_init 10 = .ok (.putfield 9, 3) := by decide +kernel
theorem dX1_init_13 : decode cX1_init 13 = .ok (.return_, 1) := by decide +kernel
theorem dX1_held_0 : decode cX1_held 0 = .ok (.aload_n 0, 1) := by decide +kernel
theorem dX1_held_1 : decode cX1_held 1 = .ok (.getfield 15, 3) := by decide +kernel
theorem dX1_held_4 : decode cX1_held 4 = .ok (.ireturn, 1) := by decide +kernel
theorem dX1_keep_0 : decode cX1_keep 0 = .ok (.aload_n 0, 1) := by decide +kernel
theorem dX1_keep_1 : decode cX1_keep 1 = .ok (.getfield 15, 3) := by decide +kernel
theorem dX1_keep_4 : decode cX1_keep 4 = .ok (.bipush 8, 2) := by decide +kernel
theorem dX1_keep_6 : decode cX1_keep 6 = .ok (.if_icmp .lt 31, 3) := by decide +kernel
theorem dX1_keep_9 : decode cX1_keep 9 = .ok (.aload_n 0, 1) := by decide +kernel
theorem dX1_keep_10 : decode cX1_keep 10 = .ok (.getfield 9, 3) := by decide +kernel
theorem dX1_keep_13 : decode cX1_keep 13 = .ok (.bipush 58, 2) := by decide +kernel
theorem dX1_keep_15 : decode cX1_keep 15 = .ok (.aload_n 0, 1) := by decide +kernel
theorem dX1_keep_16 : decode cX1_keep 16 = .ok (.getfield 9, 3) := by decide +kernel
theorem dX1_keep_19 : decode cX1_keep 19 = .ok (.iconst 0, 1) := by decide +kernel
theorem dX1_keep_20 : decode cX1_keep 20 = .ok (.aload_n 0, 1) := by decide +kernel
theorem dX1_keep_21 : decode cX1_keep 21 = .ok (.getfield 9, 3) := by decide +kernel
theorem dX1_keep_24 : decode cX1_keep 24 = .ok (.arraylength, 1) := by decide +kernel
theorem dX1_keep_25 : decode cX1_keep 25 = .ok (.bipush 58, 2) := by decide +kernel
theorem dX1_keep_27 : decode cX1_keep 27 = .ok (.isub, 1) := by decide +kernel
theorem dX1_keep_28 : decode cX1_keep 28 = .ok (.invokestatic 19, 3) := by decide +kernel
theorem dX1_keep_31 : decode cX1_keep 31 = .ok (.aload_n 0, 1) := by decide +kernel
theorem dX1_keep_32 : decode cX1_keep 32 = .ok (.bipush 7, 2) := by decide +kernel
theorem dX1_keep_34 : decode cX1_keep 34 = .ok (.putfield 15, 3) := by decide +kernel
theorem dX1_keep_37 : decode cX1_keep 37 = .ok (.aload_n 1, 1) := by decide +kernel
theorem dX1_keep_38 : decode cX1_keep 38 = .ok (.getfield 25, 3) := by decide +kernel
theorem dX1_keep_41 : decode cX1_keep 41 = .ok (.iconst 0, 1) := by decide +kernel
theorem dX1_keep_42 : decode cX1_keep 42 = .ok (.aload_n 0, 1) := by decide +kernel
theorem dX1_keep_43 : decode cX1_keep 43 = .ok (.getfield 9, 3) := by decide +kernel
theorem dX1_keep_46 : decode cX1_keep 46 = .ok (.aload_n 0, 1) := by decide +kernel
theorem dX1_keep_47 : decode cX1_keep 47 = .ok (.getfield 15, 3) := by decide +kernel
theorem dX1_keep_50 : decode cX1_keep 50 = .ok (.bipush 58, 2) := by decide +kernel
theorem dX1_keep_52 : decode cX1_keep 52 = .ok (.imul, 1) := by decide +kernel
theorem dX1_keep_53 : decode cX1_keep 53 = .ok (.bipush 58, 2) := by decide +kernel
theorem dX1_keep_55 : decode cX1_keep 55 = .ok (.invokestatic 19, 3) := by decide +kernel
theorem dX1_keep_58 : decode cX1_keep 58 = .ok (.aload_n 0, 1) := by decide +kernel
theorem dX1_keep_59 : decode cX1_keep 59 = .ok (.dup, 1) := by decide +kernel
theorem dX1_keep_60 : decode cX1_keep 60 = .ok (.getfield 15, 3) := by decide +kernel
theorem dX1_keep_63 : decode cX1_keep 63 = .ok (.iconst 1, 1) := by decide +kernel
theorem dX1_keep_64 : decode cX1_keep 64 = .ok (.iadd, 1) := by decide +kernel
theorem dX1_keep_65 : decode cX1_keep 65 = .ok (.putfield 15, 3) := by decide +kernel
theorem dX1_keep_68 : decode cX1_keep 68 = .ok (.return_, 1) := by decide +kernel
theorem dX1_giveBack_0 : decode cX1_giveBack 0 = .ok (.aload_n 0, 1) := by decide +kernel
theorem dX1_giveBack_1 : decode cX1_giveBack 1 = .ok (.getfield 15, 3) := by decide +kernel
theorem dX1_giveBack_4 : decode cX1_giveBack 4 = .ok (.ifCond .le 34, 3) := by decide +kernel
theorem dX1_giveBack_7 : decode cX1_giveBack 7 = .ok (.aload_n 0, 1) := by decide +kernel
theorem dX1_giveBack_8 : decode cX1_giveBack 8 = .ok (.dup, 1) := by decide +kernel
theorem dX1_giveBack_9 : decode cX1_giveBack 9 = .ok (.getfield 15, 3) := by decide +kernel
theorem dX1_giveBack_12 : decode cX1_giveBack 12 = .ok (.iconst 1, 1) := by decide +kernel
theorem dX1_giveBack_13 : decode cX1_giveBack 13 = .ok (.isub, 1) := by decide +kernel
theorem dX1_giveBack_14 : decode cX1_giveBack 14 = .ok (.putfield 15, 3) := by decide +kernel
theorem dX1_giveBack_17 : decode cX1_giveBack 17 = .ok (.aload_n 0, 1) := by decide +kernel
theorem dX1_giveBack_18 : decode cX1_giveBack 18 = .ok (.getfield 9, 3) := by decide +kernel
theorem dX1_giveBack_21 : decode cX1_giveBack 21 = .ok (.aload_n 0, 1) := by decide +kernel
theorem dX1_giveBack_22 : decode cX1_giveBack 22 = .ok (.getfield 15, 3) := by decide +kernel
theorem dX1_giveBack_25 : decode cX1_giveBack 25 = .ok (.bipush 58, 2) := by decide +kernel
theorem dX1_giveBack_27 : decode cX1_giveBack 27 = .ok (.imul, 1) := by decide +kernel
theorem dX1_giveBack_28 : decode cX1_giveBack 28 = .ok (.aload_n 1, 1) := by decide +kernel
theorem dX1_giveBack_29 : decode cX1_giveBack 29 = .ok (.getfield 25, 3) := by decide +kernel
theorem dX1_giveBack_32 : decode cX1_giveBack 32 = .ok (.iconst 0, 1) := by decide +kernel
theorem dX1_giveBack_33 : decode cX1_giveBack 33 = .ok (.bipush 58, 2) := by decide +kernel
theorem dX1_giveBack_35 : decode cX1_giveBack 35 = .ok (.invokestatic 19, 3) := by decide +kernel
theorem dX1_giveBack_38 : decode cX1_giveBack 38 = .ok (.return_, 1) := by decide +kernel
theorem dX2_init_0 : decode cX2_init 0 = .ok (.aload_n 0, 1) := by decide +kernel
theorem dX2_init_1 : decode cX2_init 1 = .ok (.invokespecial 3, 3) := by decide +kernel
theorem dX2_init_4 : decode cX2_init 4 = .ok (.aload_n 0, 1) := by decide +kernel
theorem dX2_init_5 : decode cX2_init 5 = .ok (.aload_n 1, 1) := by decide +kernel
theorem dX2_init_6 : decode cX2_init 6 = .ok (.putfield 9, 3) := by decide +kernel
theorem dX2_init_9 : decode cX2_init 9 = .ok (.aload_n 0, 1) := by decide +kernel
theorem dX2_init_10 : decode cX2_init 10 = .ok (.aload_n 2, 1) := by decide +kernel
theorem dX2_init_11 : decode cX2_init 11 = .ok (.putfield 15, 3) := by decide +kernel
theorem dX2_init_14 : decode cX2_init 14 = .ok (.aload_n 0, 1) := by decide +kernel
theorem dX2_init_15 : decode cX2_init 15 = .ok (.aload_n 3, 1) := by decide +kernel
theorem dX2_init_16 : decode cX2_init 16 = .ok (.putfield 19, 3) := by decide +kernel
theorem dX2_init_19 : decode cX2_init 19 = .ok (.return_, 1) := by decide +kernel
theorem dX2_walk_0 : decode cX2_walk 0 = .ok (.aload_n 0, 1) := by decide +kernel
theorem dX2_walk_1 : decode cX2_walk 1 = .ok (.aload_n 1, 1) := by decide +kernel
theorem dX2_walk_2 : decode cX2_walk 2 = .ok (.putfield 15, 3) := by decide +kernel
theorem dX2_walk_5 : decode cX2_walk 5 = .ok (.aload_n 0, 1) := by decide +kernel
theorem dX2_walk_6 : decode cX2_walk 6 = .ok (.aload_n 2, 1) := by decide +kernel
theorem dX2_walk_7 : decode cX2_walk 7 = .ok (.putfield 19, 3) := by decide +kernel
theorem dX2_walk_10 : decode cX2_walk 10 = .ok (.aload_n 0, 1) := by decide +kernel
theorem dX2_walk_11 : decode cX2_walk 11 = .ok (.getfield 19, 3) := by decide +kernel
theorem dX2_walk_14 : decode cX2_walk 14 = .ok (.invokevirtual 23, 3) := by decide +kernel
theorem dX2_walk_17 : decode cX2_walk 17 = .ok (.aload_n 0, 1) := by decide +kernel
theorem dX2_walk_18 : decode cX2_walk 18 = .ok (.iconst 0, 1) := by decide +kernel
theorem dX2_walk_19 : decode cX2_walk 19 = .ok (.aload_n 0, 1) := by decide +kernel
theorem dX2_walk_20 : decode cX2_walk 20 = .ok (.getfield 9, 3) := by decide +kernel
theorem dX2_walk_23 : decode cX2_walk 23 = .ok (.invokevirtual 28, 3) := by decide +kernel
theorem dX2_walk_26 : decode cX2_walk 26 = .ok (.iconst (-1), 1) := by decide +kernel
theorem dX2_walk_27 : decode cX2_walk 27 = .ok (.iconst 0, 1) := by decide +kernel
theorem dX2_walk_28 : decode cX2_walk 28 = .ok (.invokevirtual 34, 3) := by decide +kernel
theorem dX2_walk_31 : decode cX2_walk 31 = .ok (.pop, 1) := by decide +kernel
theorem dX2_walk_32 : decode cX2_walk 32 = .ok (.aload_n 0, 1) := by decide +kernel
theorem dX2_walk_33 : decode cX2_walk 33 = .ok (.getfield 19, 3) := by decide +kernel
theorem dX2_walk_36 : decode cX2_walk 36 = .ok (.aload_n 0, 1) := by decide +kernel
theorem dX2_walk_37 : decode cX2_walk 37 = .ok (.getfield 15, 3) := by decide +kernel
theorem dX2_walk_40 : decode cX2_walk 40 = .ok (.invokevirtual 38, 3) := by decide +kernel
theorem dX2_walk_43 : decode cX2_walk 43 = .ok (.invokevirtual 43, 3) := by decide +kernel
theorem dX2_walk_46 : decode cX2_walk 46 = .ok (.aload_n 0, 1) := by decide +kernel
theorem dX2_walk_47 : decode cX2_walk 47 = .ok (.getfield 19, 3) := by decide +kernel
theorem dX2_walk_50 : decode cX2_walk 50 = .ok (.iconst 0, 1) := by decide +kernel
theorem dX2_walk_51 : decode cX2_walk 51 = .ok (.invokevirtual 47, 3) := by decide +kernel
theorem dX2_walk_54 : decode cX2_walk 54 = .ok (.ireturn, 1) := by decide +kernel
theorem dX2_doActs_0 : decode cX2_doActs 0 = .ok (.iload_n 1, 1) := by decide +kernel
theorem dX2_doActs_1 : decode cX2_doActs 1 = .ok (.istore 5, 2) := by decide +kernel
theorem dX2_doActs_3 : decode cX2_doActs 3 = .ok (.iconst 0, 1) := by decide +kernel
theorem dX2_doActs_4 : decode cX2_doActs 4 = .ok (.istore 6, 2) := by decide +kernel
theorem dX2_doActs_6 : decode cX2_doActs 6 = .ok (.iload 6, 2) := by decide +kernel
theorem dX2_doActs_8 : decode cX2_doActs 8 = .ok (.bipush 100, 2) := by decide +kernel
theorem dX2_doActs_10 : decode cX2_doActs 10 = .ok (.if_icmp .ge 47, 3) := by decide +kernel
theorem dX2_doActs_13 : decode cX2_doActs 13 = .ok (.iload 5, 2) := by decide +kernel
theorem dX2_doActs_15 : decode cX2_doActs 15 = .ok (.iload_n 2, 1) := by decide +kernel
theorem dX2_doActs_16 : decode cX2_doActs 16 = .ok (.if_icmp .ge 41, 3) := by decide +kernel
theorem dX2_doActs_19 : decode cX2_doActs 19 = .ok (.iload 4, 2) := by decide +kernel
theorem dX2_doActs_21 : decode cX2_doActs 21 = .ok (.bipush 8, 2) := by decide +kernel
theorem dX2_doActs_23 : decode cX2_doActs 23 = .ok (.if_icmp .gt 34, 3) := by decide +kernel
theorem dX2_doActs_26 : decode cX2_doActs 26 = .ok (.aload_n 0, 1) := by decide +kernel
theorem dX2_doActs_27 : decode cX2_doActs 27 = .ok (.iload 5, 2) := by decide +kernel
theorem dX2_doActs_29 : decode cX2_doActs 29 = .ok (.iload_n 3, 1) := by decide +kernel
theorem dX2_doActs_30 : decode cX2_doActs 30 = .ok (.iload 4, 2) := by decide +kernel
theorem dX2_doActs_32 : decode cX2_doActs 32 = .ok (.invokevirtual 51, 3) := by decide +kernel
theorem dX2_doActs_35 : decode cX2_doActs 35 = .ok (.ifCond .ne 5, 3) := by decide +kernel
theorem dX2_doActs_38 : decode cX2_doActs 38 = .ok (.iconst 0, 1) := by decide +kernel
theorem dX2_doActs_39 : decode cX2_doActs 39 = .ok (.ireturn, 1) := by decide +kernel
theorem dX2_doActs_40 : decode cX2_doActs 40 = .ok (.aload_n 0, 1) := by decide +kernel
theorem dX2_doActs_41 : decode cX2_doActs 41 = .ok (.getfield 9, 3) := by decide +kernel
theorem dX2_doActs_44 : decode cX2_doActs 44 = .ok (.iload 5, 2) := by decide +kernel
theorem dX2_doActs_46 : decode cX2_doActs 46 = .ok (.invokevirtual 55, 3) := by decide +kernel
theorem dX2_doActs_49 : decode cX2_doActs 49 = .ok (.istore 5, 2) := by decide +kernel
theorem dX2_doActs_51 : decode cX2_doActs 51 = .ok (.iinc 6 1, 3) := by decide +kernel
theorem dX2_doActs_54 : decode cX2_doActs 54 = .ok (.goto (-48), 3) := by decide +kernel
theorem dX2_doActs_57 : decode cX2_doActs 57 = .ok (.iconst 1, 1) := by decide +kernel
theorem dX2_doActs_58 : decode cX2_doActs 58 = .ok (.ireturn, 1) := by decide +kernel
theorem dX2_doAct_0 : decode cX2_doAct 0 = .ok (.aload_n 0, 1) := by decide +kernel
theorem dX2_doAct_1 : decode cX2_doAct 1 = .ok (.getfield 19, 3) := by decide +kernel
theorem dX2_doAct_4 : decode cX2_doAct 4 = .ok (.invokevirtual 58, 3) := by decide +kernel
theorem dX2_doAct_7 : decode cX2_doAct 7 = .ok (.ifCond .ne 11, 3) := by decide +kernel
theorem dX2_doAct_10 : decode cX2_doAct 10 = .ok (.aload_n 0, 1) := by decide +kernel
theorem dX2_doAct_11 : decode cX2_doAct 11 = .ok (.bipush 6, 2) := by decide +kernel
theorem dX2_doAct_13 : decode cX2_doAct 13 = .ok (.iload_n 2, 1) := by decide +kernel
theorem dX2_doAct_14 : decode cX2_doAct 14 = .ok (.invokevirtual 62, 3) := by decide +kernel
theorem dX2_doAct_17 : decode cX2_doAct 17 = .ok (.ireturn, 1) := by decide +kernel
theorem dX2_doAct_18 : decode cX2_doAct 18 = .ok (.aload_n 0, 1) := by decide +kernel
theorem dX2_doAct_19 : decode cX2_doAct 19 = .ok (.getfield 9, 3) := by decide +kernel
theorem dX2_doAct_22 : decode cX2_doAct 22 = .ok (.iload_n 1, 1) := by decide +kernel
theorem dX2_doAct_23 : decode cX2_doAct 23 = .ok (.invokevirtual 66, 3) := by decide +kernel
theorem dX2_doAct_26 : decode cX2_doAct 26 = .ok (.lookupswitch 141 #[(33, 106), (40, 74), (43, 125), (60, 90), (82, 66), (91, 82), (120, 98)], 66) := by decide +kernel
theorem dX2_doAct_92 : decode cX2_doAct 92 = .ok (.aload_n 0, 1) := by decide +kernel
theorem dX2_doAct_93 : decode cX2_doAct 93 = .ok (.iload_n 1, 1) := by decide +kernel
theorem dX2_doAct_94 : decode cX2_doAct 94 = .ok (.iload_n 2, 1) := by decide +kernel
theorem dX2_doAct_95 : decode cX2_doAct 95 = .ok (.iload_n 3, 1) := by decide +kernel
theorem dX2_doAct_96 : decode cX2_doAct 96 = .ok (.invokevirtual 69, 3) := by decide +kernel
theorem dX2_doAct_99 : decode cX2_doAct 99 = .ok (.ireturn, 1) := by decide +kernel
theorem dX2_doAct_100 : decode cX2_doAct 100 = .ok (.aload_n 0, 1) := by decide +kernel
theorem dX2_doAct_101 : decode cX2_doAct 101 = .ok (.iload_n 1, 1) := by decide +kernel
theorem dX2_doAct_102 : decode cX2_doAct 102 = .ok (.iload_n 2, 1) := by decide +kernel
theorem dX2_doAct_103 : decode cX2_doAct 103 = .ok (.iload_n 3, 1) := by decide +kernel
theorem dX2_doAct_104 : decode cX2_doAct 104 = .ok (.invokevirtual 72, 3) := by decide +kernel
theorem dX2_doAct_107 : decode cX2_doAct 107 = .ok (.ireturn, 1) := by decide +kernel
theorem dX2_doAct_108 : decode cX2_doAct 108 = .ok (.aload_n 0, 1) := by decide +kernel
theorem dX2_doAct_109 : decode cX2_doAct 109 = .ok (.iload_n 1, 1) := by decide +kernel
theorem dX2_doAct_110 : decode cX2_doAct 110 = .ok (.iload_n 2, 1) := by decide +kernel
theorem dX2_doAct_111 : decode cX2_doAct 111 = .ok (.iload_n 3, 1) := by decide +kernel
theorem dX2_doAct_112 : decode cX2_doAct 112 = .ok (.invokevirtual 75, 3) := by decide +kernel
theorem dX2_doAct_115 : decode cX2_doAct 115 = .ok (.ireturn, 1) := by decide +kernel
theorem dX2_doAct_116 : decode cX2_doAct 116 = .ok (.aload_n 0, 1) := by decide +kernel
theorem dX2_doAct_117 : decode cX2_doAct 117 = .ok (.iload_n 1, 1) := by decide +kernel
theorem dX2_doAct_118 : decode cX2_doAct 118 = .ok (.iload_n 2, 1) := by decide +kernel
theorem dX2_doAct_119 : decode cX2_doAct 119 = .ok (.iload_n 3, 1) := by decide +kernel
theorem dX2_doAct_120 : decode cX2_doAct 120 = .ok (.invokevirtual 78, 3) := by decide +kernel
theorem dX2_doAct_123 : decode cX2_doAct 123 = .ok (.ireturn, 1) := by decide +kernel
theorem dX2_doAct_124 : decode cX2_doAct 124 = .ok (.aload_n 0, 1) := by decide +kernel
theorem dX2_doAct_125 : decode cX2_doAct 125 = .ok (.iload_n 1, 1) := by decide +kernel
theorem dX2_doAct_126 : decode cX2_doAct 126 = .ok (.iload_n 2, 1) := by decide +kernel
theorem dX2_doAct_127 : decode cX2_doAct 127 = .ok (.iload_n 3, 1) := by decide +kernel
theorem dX2_doAct_128 : decode cX2_doAct 128 = .ok (.invokevirtual 81, 3) := by decide +kernel
theorem dX2_doAct_131 : decode cX2_doAct 131 = .ok (.ireturn, 1) := by decide +kernel
theorem dX2_doAct_132 : decode cX2_doAct 132 = .ok (.aload_n 0, 1) := by decide +kernel
theorem dX2_doAct_133 : decode cX2_doAct 133 = .ok (.getfield 19, 3) := by decide +kernel
theorem dX2_doAct_136 : decode cX2_doAct 136 = .ok (.iconst 4, 1) := by decide +kernel
theorem dX2_doAct_137 : decode cX2_doAct 137 = .ok (.iload_n 2, 1) := by decide +kernel
theorem dX2_doAct_138 : decode cX2_doAct 138 = .ok (.aload_n 0, 1) := by decide +kernel
theorem dX2_doAct_139 : decode cX2_doAct 139 = .ok (.getfield 9, 3) := by decide +kernel
theorem dX2_doAct_142 : decode cX2_doAct 142 = .ok (.iload_n 1, 1) := by decide +kernel
theorem dX2_doAct_143 : decode cX2_doAct 143 = .ok (.invokevirtual 84, 3) := by decide +kernel
theorem dX2_doAct_146 : decode cX2_doAct 146 = .ok (.invokevirtual 87, 3) := by decide +kernel
theorem dX2_doAct_149 : decode cX2_doAct 149 = .ok (.iconst 0, 1) := by decide +kernel
theorem dX2_doAct_150 : decode cX2_doAct 150 = .ok (.ireturn, 1) := by decide +kernel
theorem dX2_doAct_151 : decode cX2_doAct 151 = .ok (.aload_n 0, 1) := by decide +kernel
theorem dX2_doAct_152 : decode cX2_doAct 152 = .ok (.getfield 15, 3) := by decide +kernel
theorem dX2_doAct_155 : decode cX2_doAct 155 = .ok (.aload_n 0, 1) := by decide +kernel
theorem dX2_doAct_156 : decode cX2_doAct 156 = .ok (.getfield 19, 3) := by decide +kernel
theorem dX2_doAct_159 : decode cX2_doAct 159 = .ok (.invokevirtual 91, 3) := by decide +kernel
theorem dX2_doAct_162 : decode cX2_doAct 162 = .ok (.invokevirtual 94, 3) := by decide +kernel
theorem dX2_doAct_165 : decode cX2_doAct 165 = .ok (.iconst 1, 1) := by decide +kernel
theorem dX2_doAct_166 : decode cX2_doAct 166 = .ok (.ireturn, 1) := by decide +kernel
theorem dX2_doAct_167 : decode cX2_doAct 167 = .ok (.iload_n 2, 1) := by decide +kernel
theorem dX2_doAct_168 : decode cX2_doAct 168 = .ok (.iconst (-1), 1) := by decide +kernel
theorem dX2_doAct_169 : decode cX2_doAct 169 = .ok (.if_icmp .ne 12, 3) := by decide +kernel
theorem dX2_doAct_172 : decode cX2_doAct 172 = .ok (.aload_n 0, 1) := by decide +kernel
theorem dX2_doAct_173 : decode cX2_doAct 173 = .ok (.iconst 3, 1) := by decide +kernel
theorem dX2_doAct_174 : decode cX2_doAct 174 = .ok (.iload_n 2, 1) := by decide +kernel
theorem dX2_doAct_175 : decode cX2_doAct 175 = .ok (.invokevirtual 62, 3) := by decide +kernel
theorem dX2_doAct_178 : decode cX2_doAct 178 = .ok (.goto 16, 3) := by decide +kernel
theorem dX2_doAct_181 : decode cX2_doAct 181 = .ok (.aload_n 0, 1) := by decide +kernel
theorem dX2_doAct_182 : decode cX2_doAct 182 = .ok (.aload_n 0, 1) := by decide +kernel
theorem dX2_doAct_183 : decode cX2_doAct 183 = .ok (.getfield 9, 3) := by decide +kernel
theorem dX2_doAct_186 : decode cX2_doAct 186 = .ok (.iload_n 1, 1) := by decide +kernel
theorem dX2_doAct_187 : decode cX2_doAct 187 = .ok (.invokevirtual 66, 3) := by decide +kernel
theorem dX2_doAct_190 : decode cX2_doAct 190 = .ok (.iload_n 2, 1) := by decide +kernel
theorem dX2_doAct_191 : decode cX2_doAct 191 = .ok (.invokevirtual 97, 3) := by decide +kernel
theorem dX2_doAct_194 : decode cX2_doAct 194 = .ok (.ireturn, 1) := by decide +kernel
theorem dX2_befalls_0 : decode cX2_befalls 0 = .ok (.aload_n 0, 1) := by decide +kernel
theorem dX2_befalls_1 : decode cX2_befalls 1 = .ok (.getfield 19, 3) := by decide +kernel
theorem dX2_befalls_4 : decode cX2_befalls 4 = .ok (.iload_n 1, 1) := by decide +kernel
theorem dX2_befalls_5 : decode cX2_befalls 5 = .ok (.iload_n 2, 1) := by decide +kernel
theorem dX2_befalls_6 : decode cX2_befalls 6 = .ok (.iconst (-1), 1) := by decide +kernel
theorem dX2_befalls_7 : decode cX2_befalls 7 = .ok (.invokevirtual 87, 3) := by decide +kernel
theorem dX2_befalls_10 : decode cX2_befalls 10 = .ok (.iconst 0, 1) := by decide +kernel
theorem dX2_befalls_11 : decode cX2_befalls 11 = .ok (.ireturn, 1) := by decide +kernel
theorem dX2_doFirstPart_0 : decode cX2_doFirstPart 0 = .ok (.aload_n 0, 1) := by decide +kernel
theorem dX2_doFirstPart_1 : decode cX2_doFirstPart 1 = .ok (.iload_n 1, 1) := by decide +kernel
theorem dX2_doFirstPart_2 : decode cX2_doFirstPart 2 = .ok (.iconst 1, 1) := by decide +kernel
theorem dX2_doFirstPart_3 : decode cX2_doFirstPart 3 = .ok (.iadd, 1) := by decide +kernel
theorem dX2_doFirstPart_4 : decode cX2_doFirstPart 4 = .ok (.aload_n 0, 1) := by decide +kernel
theorem dX2_doFirstPart_5 : decode cX2_doFirstPart 5 = .ok (.getfield 9, 3) := by decide +kernel
theorem dX2_doFirstPart_8 : decode cX2_doFirstPart 8 = .ok (.iload_n 1, 1) := by decide +kernel
theorem dX2_doFirstPart_9 : decode cX2_doFirstPart 9 = .ok (.invokevirtual 100, 3) := by decide +kernel
theorem dX2_doFirstPart_12 : decode cX2_doFirstPart 12 = .ok (.iload_n 2, 1) := by decide +kernel
theorem dX2_doFirstPart_13 : decode cX2_doFirstPart 13 = .ok (.iload_n 3, 1) := by decide +kernel
theorem dX2_doFirstPart_14 : decode cX2_doFirstPart 14 = .ok (.iconst 1, 1) := by decide +kernel
theorem dX2_doFirstPart_15 : decode cX2_doFirstPart 15 = .ok (.iadd, 1) := by decide +kernel
theorem dX2_doFirstPart_16 : decode cX2_doFirstPart 16 = .ok (.invokevirtual 34, 3) := by decide +kernel
theorem dX2_doFirstPart_19 : decode cX2_doFirstPart 19 = .ok (.ireturn, 1) := by decide +kernel
theorem dX2_doSecondPart_0 : decode cX2_doSecondPart 0 = .ok (.aload_n 0, 1) := by decide +kernel
theorem dX2_doSecondPart_1 : decode cX2_doSecondPart 1 = .ok (.getfield 19, 3) := by decide +kernel
theorem dX2_doSecondPart_4 : decode cX2_doSecondPart 4 = .ok (.invokevirtual 103, 3) := by decide +kernel
theorem dX2_doSecondPart_7 : decode cX2_doSecondPart 7 = .ok (.aload_n 0, 1) := by decide +kernel
theorem dX2_doSecondPart_8 : decode cX2_doSecondPart 8 = .ok (.aload_n 0, 1) := by decide +kernel
theorem dX2_doSecondPart_9 : decode cX2_doSecondPart 9 = .ok (.getfield 9, 3) := by decide +kernel
theorem dX2_doSecondPart_12 : decode cX2_doSecondPart 12 = .ok (.iload_n 1, 1) := by decide +kernel
theorem dX2_doSecondPart_13 : decode cX2_doSecondPart 13 = .ok (.invokevirtual 100, 3) := by decide +kernel
theorem dX2_doSecondPart_16 : decode cX2_doSecondPart 16 = .ok (.aload_n 0, 1) := by decide +kernel
theorem dX2_doSecondPart_17 : decode cX2_doSecondPart 17 = .ok (.getfield 9, 3) := by decide +kernel
theorem dX2_doSecondPart_20 : decode cX2_doSecondPart 20 = .ok (.iload_n 1, 1) := by decide +kernel
theorem dX2_doSecondPart_21 : decode cX2_doSecondPart 21 = .ok (.invokevirtual 55, 3) := by decide +kernel
theorem dX2_doSecondPart_24 : decode cX2_doSecondPart 24 = .ok (.iload_n 2, 1) := by decide +kernel
theorem dX2_doSecondPart_25 : decode cX2_doSecondPart 25 = .ok (.iload_n 3, 1) := by decide +kernel
theorem dX2_doSecondPart_26 : decode cX2_doSecondPart 26 = .ok (.iconst 1, 1) := by decide +kernel
theorem dX2_doSecondPart_27 : decode cX2_doSecondPart 27 = .ok (.iadd, 1) := by decide +kernel
theorem dX2_doSecondPart_28 : decode cX2_doSecondPart 28 = .ok (.invokevirtual 34, 3) := by decide +kernel
theorem dX2_doSecondPart_31 : decode cX2_doSecondPart 31 = .ok (.ireturn, 1) := by decide +kernel
theorem dX2_goInto_0 : decode cX2_goInto 0 = .ok (.aload_n 0, 1) := by decide +kernel
theorem dX2_goInto_1 : decode cX2_goInto 1 = .ok (.getfield 9, 3) := by decide +kernel
theorem dX2_goInto_4 : decode cX2_goInto 4 = .ok (.iload_n 1, 1) := by decide +kernel
theorem dX2_goInto_5 : decode cX2_goInto 5 = .ok (.invokevirtual 84, 3) := by decide +kernel
theorem dX2_goInto_8 : decode cX2_goInto 8 = .ok (.istore 4, 2) := by decide +kernel
theorem dX2_goInto_10 : decode cX2_goInto 10 = .ok (.aload_n 0, 1) := by decide +kernel
theorem dX2_goInto_11 : decode cX2_goInto 11 = .ok (.getfield 15, 3) := by decide +kernel
theorem dX2_goInto_14 : decode cX2_goInto 14 = .ok (.iload 4, 2) := by decide +kernel
theorem dX2_goInto_16 : decode cX2_goInto 16 = .ok (.invokevirtual 106, 3) := by decide +kernel
theorem dX2_goInto_19 : decode cX2_goInto 19 = .ok (.ifCond .ne 10, 3) := by decide +kernel
theorem dX2_goInto_22 : decode cX2_goInto 22 = .ok (.aload_n 0, 1) := by decide +kernel
theorem dX2_goInto_23 : decode cX2_goInto 23 = .ok (.iconst 1, 1) := by decide +kernel
theorem dX2_goInto_24 : decode cX2_goInto 24 = .ok (.iload_n 2, 1) := by decide +kernel
theorem dX2_goInto_25 : decode cX2_goInto 25 = .ok (.invokevirtual 62, 3) := by decide +kernel
theorem dX2_goInto_28 : decode cX2_goInto 28 = .ok (.ireturn, 1) := by decide +kernel
theorem dX2_goInto_29 : decode cX2_goInto 29 = .ok (.aload_n 0, 1) := by decide +kernel
theorem dX2_goInto_30 : decode cX2_goInto 30 = .ok (.getfield 15, 3) := by decide +kernel
theorem dX2_goInto_33 : decode cX2_goInto 33 = .ok (.iload 4, 2) := by decide +kernel
theorem dX2_goInto_35 : decode cX2_goInto 35 = .ok (.invokevirtual 110, 3) := by decide +kernel
theorem dX2_goInto_38 : decode cX2_goInto 38 = .ok (.aload_n 0, 1) := by decide +kernel
theorem dX2_goInto_39 : decode cX2_goInto 39 = .ok (.getfield 19, 3) := by decide +kernel
theorem dX2_goInto_42 : decode cX2_goInto 42 = .ok (.iload 4, 2) := by decide +kernel
theorem dX2_goInto_44 : decode cX2_goInto 44 = .ok (.invokevirtual 113, 3) := by decide +kernel
theorem dX2_goInto_47 : decode cX2_goInto 47 = .ok (.aload_n 0, 1) := by decide +kernel
theorem dX2_goInto_48 : decode cX2_goInto 48 = .ok (.getfield 15, 3) := by decide +kernel
theorem dX2_goInto_51 : decode cX2_goInto 51 = .ok (.iload 4, 2) := by decide +kernel
theorem dX2_goInto_53 : decode cX2_goInto 53 = .ok (.aload_n 0, 1) := by decide +kernel
theorem dX2_goInto_54 : decode cX2_goInto 54 = .ok (.getfield 15, 3) := by decide +kernel
theorem dX2_goInto_57 : decode cX2_goInto 57 = .ok (.iload 4, 2) := by decide +kernel
theorem dX2_goInto_59 : decode cX2_goInto 59 = .ok (.invokevirtual 116, 3) := by decide +kernel
theorem dX2_goInto_62 : decode cX2_goInto 62 = .ok (.invokevirtual 119, 3) := by decide +kernel
theorem dX2_goInto_65 : decode cX2_goInto 65 = .ok (.ifCond .eq 13, 3) := by decide +kernel
theorem dX2_goInto_68 : decode cX2_goInto 68 = .ok (.aload_n 0, 1) := by decide +kernel
theorem dX2_goInto_69 : decode cX2_goInto 69 = .ok (.iconst 2, 1) := by decide +kernel
theorem dX2_goInto_70 : decode cX2_goInto 70 = .ok (.iload 4, 2) := by decide +kernel
theorem dX2_goInto_72 : decode cX2_goInto 72 = .ok (.invokevirtual 62, 3) := by decide +kernel
theorem dX2_goInto_75 : decode cX2_goInto 75 = .ok (.goto 11, 3) := by decide +kernel
theorem dX2_goInto_78 : decode cX2_goInto 78 = .ok (.aload_n 0, 1) := by decide +kernel
theorem dX2_goInto_79 : decode cX2_goInto 79 = .ok (.iload_n 1, 1) := by decide +kernel
theorem dX2_goInto_80 : decode cX2_goInto 80 = .ok (.iload 4, 2) := by decide +kernel
theorem dX2_goInto_82 : decode cX2_goInto 82 = .ok (.iload_n 3, 1) := by decide +kernel
theorem dX2_goInto_83 : decode cX2_goInto 83 = .ok (.invokevirtual 122, 3) := by decide +kernel
theorem dX2_goInto_86 : decode cX2_goInto 86 = .ok (.istore 5, 2) := by decide +kernel
theorem dX2_goInto_88 : decode cX2_goInto 88 = .ok (.aload_n 0, 1) := by decide +kernel
theorem dX2_goInto_89 : decode cX2_goInto 89 = .ok (.getfield 19, 3) := by decide +kernel
theorem dX2_goInto_92 : decode cX2_goInto 92 = .ok (.iload 4, 2) := by decide +kernel
theorem dX2_goInto_94 : decode cX2_goInto 94 = .ok (.invokevirtual 125, 3) := by decide +kernel
theorem dX2_goInto_97 : decode cX2_goInto 97 = .ok (.aload_n 0, 1) := by decide +kernel
theorem dX2_goInto_98 : decode cX2_goInto 98 = .ok (.getfield 15, 3) := by decide +kernel
theorem dX2_goInto_101 : decode cX2_goInto 101 = .ok (.iload 4, 2) := by decide +kernel
theorem dX2_goInto_103 : decode cX2_goInto 103 = .ok (.aload_n 0, 1) := by decide +kernel
theorem dX2_goInto_104 : decode cX2_goInto 104 = .ok (.getfield 15, 3) := by decide +kernel
theorem dX2_goInto_107 : decode cX2_goInto 107 = .ok (.iload 4, 2) := by decide +kernel
theorem dX2_goInto_109 : decode cX2_goInto 109 = .ok (.invokevirtual 116, 3) := by decide +kernel
theorem dX2_goInto_112 : decode cX2_goInto 112 = .ok (.iconst 1, 1) := by decide +kernel
theorem dX2_goInto_113 : decode cX2_goInto 113 = .ok (.isub, 1) := by decide +kernel
theorem dX2_goInto_114 : decode cX2_goInto 114 = .ok (.invokevirtual 119, 3) := by decide +kernel
theorem dX2_goInto_117 : decode cX2_goInto 117 = .ok (.pop, 1) := by decide +kernel
theorem dX2_goInto_118 : decode cX2_goInto 118 = .ok (.iload 5, 2) := by decide +kernel
theorem dX2_goInto_120 : decode cX2_goInto 120 = .ok (.ireturn, 1) := by decide +kernel
theorem dX2_doOrElse_0 : decode cX2_doOrElse 0 = .ok (.aload_n 0, 1) := by decide +kernel
theorem dX2_doOrElse_1 : decode cX2_doOrElse 1 = .ok (.iload_n 1, 1) := by decide +kernel
theorem dX2_doOrElse_2 : decode cX2_doOrElse 2 = .ok (.iload_n 2, 1) := by decide +kernel
theorem dX2_doOrElse_3 : decode cX2_doOrElse 3 = .ok (.iload_n 3, 1) := by decide +kernel
theorem dX2_doOrElse_4 : decode cX2_doOrElse 4 = .ok (.invokevirtual 122, 3) := by decide +kernel
theorem dX2_doOrElse_7 : decode cX2_doOrElse 7 = .ok (.ifCond .eq 5, 3) := by decide +kernel
theorem dX2_doOrElse_10 : decode cX2_doOrElse 10 = .ok (.iconst 1, 1) := by decide +kernel
theorem dX2_doOrElse_11 : decode cX2_doOrElse 11 = .ok (.ireturn, 1) := by decide +kernel
theorem dX2_doOrElse_12 : decode cX2_doOrElse 12 = .ok (.aload_n 0, 1) := by decide +kernel
theorem dX2_doOrElse_13 : decode cX2_doOrElse 13 = .ok (.getfield 19, 3) := by decide +kernel
theorem dX2_doOrElse_16 : decode cX2_doOrElse 16 = .ok (.iconst 0, 1) := by decide +kernel
theorem dX2_doOrElse_17 : decode cX2_doOrElse 17 = .ok (.invokevirtual 47, 3) := by decide +kernel
theorem dX2_doOrElse_20 : decode cX2_doOrElse 20 = .ok (.iconst 1, 1) := by decide +kernel
theorem dX2_doOrElse_21 : decode cX2_doOrElse 21 = .ok (.iconst 3, 1) := by decide +kernel
theorem dX2_doOrElse_22 : decode cX2_doOrElse 22 = .ok (.invokestatic 128, 3) := by decide +kernel
theorem dX2_doOrElse_25 : decode cX2_doOrElse 25 = .ok (.ifCond .eq 17, 3) := by decide +kernel
theorem dX2_doOrElse_28 : decode cX2_doOrElse 28 = .ok (.aload_n 0, 1) := by decide +kernel
theorem dX2_doOrElse_29 : decode cX2_doOrElse 29 = .ok (.iload_n 1, 1) := by decide +kernel
theorem dX2_doOrElse_30 : decode cX2_doOrElse 30 = .ok (.iload_n 2, 1) := by decide +kernel
theorem dX2_doOrElse_31 : decode cX2_doOrElse 31 = .ok (.iload_n 3, 1) := by decide +kernel
theorem dX2_doOrElse_32 : decode cX2_doOrElse 32 = .ok (.invokevirtual 131, 3) := by decide +kernel
theorem dX2_doOrElse_35 : decode cX2_doOrElse 35 = .ok (.ifCond .eq 7, 3) := by decide +kernel
theorem dX2_doOrElse_38 : decode cX2_doOrElse 38 = .ok (.iconst 1, 1) := by decide +kernel
theorem dX2_doOrElse_39 : decode cX2_doOrElse 39 = .ok (.goto 4, 3) := by decide +kernel
theorem dX2_doOrElse_42 : decode cX2_doOrElse 42 = .ok (.iconst 0, 1) := by decide +kernel
theorem dX2_doOrElse_43 : decode cX2_doOrElse 43 = .ok (.ireturn, 1) := by decide +kernel
theorem dX2_doAndHear_0 : decode cX2_doAndHear 0 = .ok (.aload_n 0, 1) := by decide +kernel
theorem dX2_doAndHear_1 : decode cX2_doAndHear 1 = .ok (.iload_n 1, 1) := by decide +kernel
theorem dX2_doAndHear_2 : decode cX2_doAndHear 2 = .ok (.iload_n 2, 1) := by decide +kernel
theorem dX2_doAndHear_3 : decode cX2_doAndHear 3 = .ok (.iload_n 3, 1) := by decide +kernel
theorem dX2_doAndHear_4 : decode cX2_doAndHear 4 = .ok (.invokevirtual 122, 3) := by decide +kernel
theorem dX2_doAndHear_7 : decode cX2_doAndHear 7 = .ok (.ifCond .eq 5, 3) := by decide +kernel
theorem dX2_doAndHear_10 : decode cX2_doAndHear 10 = .ok (.iconst 1, 1) := by decide +kernel
theorem dX2_doAndHear_11 : decode cX2_doAndHear 11 = .ok (.ireturn, 1) := by decide +kernel
theorem dX2_doAndHear_12 : decode cX2_doAndHear 12 = .ok (.aload_n 0, 1) := by decide +kernel
theorem dX2_doAndHear_13 : decode cX2_doAndHear 13 = .ok (.getfield 19, 3) := by decide +kernel
theorem dX2_doAndHear_16 : decode cX2_doAndHear 16 = .ok (.iconst 0, 1) := by decide +kernel
theorem dX2_doAndHear_17 : decode cX2_doAndHear 17 = .ok (.invokevirtual 47, 3) := by decide +kernel
theorem dX2_doAndHear_20 : decode cX2_doAndHear 20 = .ok (.istore 4, 2) := by decide +kernel
theorem dX2_doAndHear_22 : decode cX2_doAndHear 22 = .ok (.iload 4, 2) := by decide +kernel
theorem dX2_doAndHear_24 : decode cX2_doAndHear 24 = .ok (.iconst 4, 1) := by decide +kernel
theorem dX2_doAndHear_25 : decode cX2_doAndHear 25 = .ok (.if_icmp .eq 11, 3) := by decide +kernel
theorem dX2_doAndHear_28 : decode cX2_doAndHear 28 = .ok (.iload 4, 2) := by decide +kernel
theorem dX2_doAndHear_30 : decode cX2_doAndHear 30 = .ok (.iconst 5, 1) := by decide +kernel
theorem dX2_doAndHear_31 : decode cX2_doAndHear 31 = .ok (.if_icmp .eq 5, 3) := by decide +kernel
theorem dX2_doAndHear_34 : decode cX2_doAndHear 34 = .ok (.iconst 0, 1) := by decide +kernel
theorem dX2_doAndHear_35 : decode cX2_doAndHear 35 = .ok (.ireturn, 1) := by decide +kernel
theorem dX2_doAndHear_36 : decode cX2_doAndHear 36 = .ok (.aload_n 0, 1) := by decide +kernel
theorem dX2_doAndHear_37 : decode cX2_doAndHear 37 = .ok (.getfield 15, 3) := by decide +kernel
theorem dX2_doAndHear_40 : decode cX2_doAndHear 40 = .ok (.aload_n 0, 1) := by decide +kernel
theorem dX2_doAndHear_41 : decode cX2_doAndHear 41 = .ok (.getfield 19, 3) := by decide +kernel
theorem dX2_doAndHear_44 : decode cX2_doAndHear 44 = .ok (.iload 4, 2) := by decide +kernel
theorem dX2_doAndHear_46 : decode cX2_doAndHear 46 = .ok (.iconst 4, 1) := by decide +kernel
theorem dX2_doAndHear_47 : decode cX2_doAndHear 47 = .ok (.if_icmp .ne 7, 3) := by decide +kernel
theorem dX2_doAndHear_50 : decode cX2_doAndHear 50 = .ok (.iconst 2, 1) := by decide +kernel
theorem dX2_doAndHear_51 : decode cX2_doAndHear 51 = .ok (.goto 4, 3) := by decide +kernel
theorem dX2_doAndHear_54 : decode cX2_doAndHear 54 = .ok (.iconst 3, 1) := by decide +kernel
theorem dX2_doAndHear_55 : decode cX2_doAndHear 55 = .ok (.invokevirtual 47, 3) := by decide +kernel
theorem dX2_doAndHear_58 : decode cX2_doAndHear 58 = .ok (.invokevirtual 94, 3) := by decide +kernel
theorem dX2_doAndHear_61 : decode cX2_doAndHear 61 = .ok (.aload_n 0, 1) := by decide +kernel
theorem dX2_doAndHear_62 : decode cX2_doAndHear 62 = .ok (.iload_n 1, 1) := by decide +kernel
theorem dX2_doAndHear_63 : decode cX2_doAndHear 63 = .ok (.iload_n 2, 1) := by decide +kernel
theorem dX2_doAndHear_64 : decode cX2_doAndHear 64 = .ok (.iload_n 3, 1) := by decide +kernel
theorem dX2_doAndHear_65 : decode cX2_doAndHear 65 = .ok (.invokevirtual 131, 3) := by decide +kernel
theorem dX2_doAndHear_68 : decode cX2_doAndHear 68 = .ok (.ireturn, 1) := by decide +kernel
theorem dX2_doAndReport_0 : decode cX2_doAndReport 0 = .ok (.aload_n 0, 1) := by decide +kernel
theorem dX2_doAndReport_1 : decode cX2_doAndReport 1 = .ok (.iload_n 1, 1) := by decide +kernel
theorem dX2_doAndReport_2 : decode cX2_doAndReport 2 = .ok (.iload_n 2, 1) := by decide +kernel
theorem dX2_doAndReport_3 : decode cX2_doAndReport 3 = .ok (.iload_n 3, 1) := by decide +kernel
theorem dX2_doAndReport_4 : decode cX2_doAndReport 4 = .ok (.invokevirtual 122, 3) := by decide +kernel
theorem dX2_doAndReport_7 : decode cX2_doAndReport 7 = .ok (.ifCond .eq 5, 3) := by decide +kernel
theorem dX2_doAndReport_10 : decode cX2_doAndReport 10 = .ok (.iconst 1, 1) := by decide +kernel
theorem dX2_doAndReport_11 : decode cX2_doAndReport 11 = .ok (.ireturn, 1) := by decide +kernel
theorem dX2_doAndReport_12 : decode cX2_doAndReport 12 = .ok (.aload_n 0, 1) := by decide +kernel
theorem dX2_doAndReport_13 : decode cX2_doAndReport 13 = .ok (.getfield 19, 3) := by decide +kernel
theorem dX2_doAndReport_16 : decode cX2_doAndReport 16 = .ok (.iconst 0, 1) := by decide +kernel
theorem dX2_doAndReport_17 : decode cX2_doAndReport 17 = .ok (.invokevirtual 47, 3) := by decide +kernel
theorem dX2_doAndReport_20 : decode cX2_doAndReport 20 = .ok (.bipush 6, 2) := by decide +kernel
theorem dX2_doAndReport_22 : decode cX2_doAndReport 22 = .ok (.if_icmp .eq 10, 3) := by decide +kernel
theorem dX2_doAndReport_25 : decode cX2_doAndReport 25 = .ok (.aload_n 0, 1) := by decide +kernel
theorem dX2_doAndReport_26 : decode cX2_doAndReport 26 = .ok (.getfield 19, 3) := by decide +kernel
theorem dX2_doAndReport_29 : decode cX2_doAndReport 29 = .ok (.invokevirtual 134, 3) := by decide +kernel
theorem dX2_doAndReport_32 : decode cX2_doAndReport 32 = .ok (.iconst 0, 1) := by decide +kernel
theorem dX2_doAndReport_33 : decode cX2_doAndReport 33 = .ok (.ireturn, 1) := by decide +kernel
theorem dX2_doSoOften_0 : decode cX2_doSoOften 0 = .ok (.aload_n 0, 1) := by decide +kernel
theorem dX2_doSoOften_1 : decode cX2_doSoOften 1 = .ok (.getfield 9, 3) := by decide +kernel
theorem dX2_doSoOften_4 : decode cX2_doSoOften 4 = .ok (.iload_n 1, 1) := by decide +kernel
theorem dX2_doSoOften_5 : decode cX2_doSoOften 5 = .ok (.invokevirtual 84, 3) := by decide +kernel
theorem dX2_doSoOften_8 : decode cX2_doSoOften 8 = .ok (.istore 4, 2) := by decide +kernel
theorem dX2_doSoOften_10 : decode cX2_doSoOften 10 = .ok (.iconst 0, 1) := by decide +kernel
theorem dX2_doSoOften_11 : decode cX2_doSoOften 11 = .ok (.istore 5, 2) := by decide +kernel
theorem dX2_doSoOften_13 : decode cX2_doSoOften 13 = .ok (.iload 5, 2) := by decide +kernel
theorem dX2_doSoOften_15 : decode cX2_doSoOften 15 = .ok (.iload 4, 2) := by decide +kernel
theorem dX2_doSoOften_17 : decode cX2_doSoOften 17 = .ok (.if_icmp .ge 21, 3) := by decide +kernel
theorem dX2_doSoOften_20 : decode cX2_doSoOften 20 = .ok (.aload_n 0, 1) := by decide +kernel
theorem dX2_doSoOften_21 : decode cX2_doSoOften 21 = .ok (.iload_n 1, 1) := by decide +kernel
theorem dX2_doSoOften_22 : decode cX2_doSoOften 22 = .ok (.iload_n 2, 1) := by decide +kernel
theorem dX2_doSoOften_23 : decode cX2_doSoOften 23 = .ok (.iload_n 3, 1) := by decide +kernel
theorem dX2_doSoOften_24 : decode cX2_doSoOften 24 = .ok (.invokevirtual 122, 3) := by decide +kernel
theorem dX2_doSoOften_27 : decode cX2_doSoOften 27 = .ok (.ifCond .ne 5, 3) := by decide +kernel
theorem dX2_doSoOften_30 : decode cX2_doSoOften 30 = .ok (.iconst 0, 1) := by decide +kernel
theorem dX2_doSoOften_31 : decode cX2_doSoOften 31 = .ok (.ireturn, 1) := by decide +kernel
theorem dX2_doSoOften_32 : decode cX2_doSoOften 32 = .ok (.iinc 5 1, 3) := by decide +kernel
theorem dX2_doSoOften_35 : decode cX2_doSoOften 35 = .ok (.goto (-22), 3) := by decide +kernel
theorem dX2_doSoOften_38 : decode cX2_doSoOften 38 = .ok (.iconst 1, 1) := by decide +kernel
theorem dX2_doSoOften_39 : decode cX2_doSoOften 39 = .ok (.ireturn, 1) := by decide +kernel
theorem dX2_doInRoom_0 : decode cX2_doInRoom 0 = .ok (.iload_n 1, 1) := by decide +kernel
theorem dX2_doInRoom_1 : decode cX2_doInRoom 1 = .ok (.lookupswitch 86 #[(107, 45), (108, 35), (119, 55)], 35) := by decide +kernel
theorem dX2_doInRoom_36 : decode cX2_doInRoom 36 = .ok (.aload_n 0, 1) := by decide +kernel
theorem dX2_doInRoom_37 : decode cX2_doInRoom 37 = .ok (.getfield 15, 3) := by decide +kernel
theorem dX2_doInRoom_40 : decode cX2_doInRoom 40 = .ok (.iload_n 2, 1) := by decide +kernel
theorem dX2_doInRoom_41 : decode cX2_doInRoom 41 = .ok (.invokevirtual 137, 3) := by decide +kernel
theorem dX2_doInRoom_44 : decode cX2_doInRoom 44 = .ok (.iconst 1, 1) := by decide +kernel
theorem dX2_doInRoom_45 : decode cX2_doInRoom 45 = .ok (.ireturn, 1) := by decide +kernel
theorem dX2_doInRoom_46 : decode cX2_doInRoom 46 = .ok (.aload_n 0, 1) := by decide +kernel
theorem dX2_doInRoom_47 : decode cX2_doInRoom 47 = .ok (.getfield 15, 3) := by decide +kernel
theorem dX2_doInRoom_50 : decode cX2_doInRoom 50 = .ok (.iload_n 2, 1) := by decide +kernel
theorem dX2_doInRoom_51 : decode cX2_doInRoom 51 = .ok (.invokevirtual 140, 3) := by decide +kernel
theorem dX2_doInRoom_54 : decode cX2_doInRoom 54 = .ok (.iconst 1, 1) := by decide +kernel
theorem dX2_doInRoom_55 : decode cX2_doInRoom 55 = .ok (.ireturn, 1) := by decide +kernel
theorem dX2_doInRoom_56 : decode cX2_doInRoom 56 = .ok (.aload_n 0, 1) := by decide +kernel
theorem dX2_doInRoom_57 : decode cX2_doInRoom 57 = .ok (.getfield 15, 3) := by decide +kernel
theorem dX2_doInRoom_60 : decode cX2_doInRoom 60 = .ok (.iload_n 2, 1) := by decide +kernel
theorem dX2_doInRoom_61 : decode cX2_doInRoom 61 = .ok (.aload_n 0, 1) := by decide +kernel
theorem dX2_doInRoom_62 : decode cX2_doInRoom 62 = .ok (.getfield 15, 3) := by decide +kernel
theorem dX2_doInRoom_65 : decode cX2_doInRoom 65 = .ok (.iload_n 2, 1) := by decide +kernel
theorem dX2_doInRoom_66 : decode cX2_doInRoom 66 = .ok (.iconst 3, 1) := by decide +kernel
theorem dX2_doInRoom_67 : decode cX2_doInRoom 67 = .ok (.invokevirtual 143, 3) := by decide +kernel
theorem dX2_doInRoom_70 : decode cX2_doInRoom 70 = .ok (.invokevirtual 119, 3) := by decide +kernel
theorem dX2_doInRoom_73 : decode cX2_doInRoom 73 = .ok (.ifCond .eq 12, 3) := by decide +kernel
theorem dX2_doInRoom_76 : decode cX2_doInRoom 76 = .ok (.aload_n 0, 1) := by decide +kernel
theorem dX2_doInRoom_77 : decode cX2_doInRoom 77 = .ok (.iconst 2, 1) := by decide +kernel
theorem dX2_doInRoom_78 : decode cX2_doInRoom 78 = .ok (.iload_n 2, 1) := by decide +kernel
theorem dX2_doInRoom_79 : decode cX2_doInRoom 79 = .ok (.invokevirtual 62, 3) := by decide +kernel
theorem dX2_doInRoom_82 : decode cX2_doInRoom 82 = .ok (.goto 4, 3) := by decide +kernel
theorem dX2_doInRoom_85 : decode cX2_doInRoom 85 = .ok (.iconst 1, 1) := by decide +kernel
theorem dX2_doInRoom_86 : decode cX2_doInRoom 86 = .ok (.ireturn, 1) := by decide +kernel
theorem dX2_doInRoom_87 : decode cX2_doInRoom 87 = .ok (.aload_n 0, 1) := by decide +kernel
theorem dX2_doInRoom_88 : decode cX2_doInRoom 88 = .ok (.getfield 15, 3) := by decide +kernel
theorem dX2_doInRoom_91 : decode cX2_doInRoom 91 = .ok (.iload_n 2, 1) := by decide +kernel
theorem dX2_doInRoom_92 : decode cX2_doInRoom 92 = .ok (.iconst 5, 1) := by decide +kernel
theorem dX2_doInRoom_93 : decode cX2_doInRoom 93 = .ok (.invokevirtual 143, 3) := by decide +kernel
theorem dX2_doInRoom_96 : decode cX2_doInRoom 96 = .ok (.ifCond .ne 10, 3) := by decide +kernel
theorem dX2_doInRoom_99 : decode cX2_doInRoom 99 = .ok (.aload_n 0, 1) := by decide +kernel
theorem dX2_doInRoom_100 : decode cX2_doInRoom 100 = .ok (.iconst 3, 1) := by decide +kernel
theorem dX2_doInRoom_101 : decode cX2_doInRoom 101 = .ok (.iload_n 2, 1) := by decide +kernel
theorem dX2_doInRoom_102 : decode cX2_doInRoom 102 = .ok (.invokevirtual 62, 3) := by decide +kernel
theorem dX2_doInRoom_105 : decode cX2_doInRoom 105 = .ok (.ireturn, 1) := by decide +kernel
theorem dX2_doInRoom_106 : decode cX2_doInRoom 106 = .ok (.aload_n 0, 1) := by decide +kernel
theorem dX2_doInRoom_107 : decode cX2_doInRoom 107 = .ok (.getfield 15, 3) := by decide +kernel
theorem dX2_doInRoom_110 : decode cX2_doInRoom 110 = .ok (.aload_n 0, 1) := by decide +kernel
theorem dX2_doInRoom_111 : decode cX2_doInRoom 111 = .ok (.getfield 15, 3) := by decide +kernel
theorem dX2_doInRoom_114 : decode cX2_doInRoom 114 = .ok (.iload_n 2, 1) := by decide +kernel
theorem dX2_doInRoom_115 : decode cX2_doInRoom 115 = .ok (.invokevirtual 147, 3) := by decide +kernel
theorem dX2_doInRoom_118 : decode cX2_doInRoom 118 = .ok (.invokevirtual 94, 3) := by decide +kernel
theorem dX2_doInRoom_121 : decode cX2_doInRoom 121 = .ok (.iconst 1, 1) := by decide +kernel
theorem dX2_doInRoom_122 : decode cX2_doInRoom 122 = .ok (.ireturn, 1) := by decide +kernel
theorem dX3_init_0 : decode cX3_init 0 = .ok (.aload_n 0, 1) := by decide +kernel
theorem dX3_init_1 : decode cX3_init 1 = .ok (.invokespecial 3, 3) := by decide +kernel
theorem dX3_init_4 : decode cX3_init 4 = .ok (.aload_n 0, 1) := by decide +kernel
theorem dX3_init_5 : decode cX3_init 5 = .ok (.bipush 100, 2) := by decide +kernel
theorem dX3_init_7 : decode cX3_init 7 = .ok (.newarray .int, 2) := by decide +kernel
theorem dX3_init_9 : decode cX3_init 9 = .ok (.putfield 9, 3) := by decide +kernel
theorem dX3_init_12 : decode cX3_init 12 = .ok (.aload_n 0, 1) := by decide +kernel
theorem dX3_init_13 : decode cX3_init 13 = .ok (.bipush 100, 2) := by decide +kernel
theorem dX3_init_15 : decode cX3_init 15 = .ok (.newarray .int, 2) := by decide +kernel
theorem dX3_init_17 : decode cX3_init 17 = .ok (.putfield 15, 3) := by decide +kernel
theorem dX3_init_20 : decode cX3_init 20 = .ok (.aload_n 0, 1) := by decide +kernel
theorem dX3_init_21 : decode cX3_init 21 = .ok (.bipush 100, 2) := by decide +kernel
theorem dX3_init_23 : decode cX3_init 23 = .ok (.newarray .int, 2) := by decide +kernel
theorem dX3_init_25 : decode cX3_init 25 = .ok (.putfield 18, 3) := by decide +kernel
theorem dX3_init_28 : decode cX3_init 28 = .ok (.aload_n 0, 1) := by decide +kernel
theorem dX3_init_29 : decode cX3_init 29 = .ok (.bipush 100, 2) := by decide +kernel
theorem dX3_init_31 : decode cX3_init 31 = .ok (.newarray .int, 2) := by decide +kernel
theorem dX3_init_33 : decode cX3_init 33 = .ok (.putfield 21, 3) := by decide +kernel
theorem dX3_init_36 : decode cX3_init 36 = .ok (.aload_n 0, 1) := by decide +kernel
theorem dX3_init_37 : decode cX3_init 37 = .ok (.bipush 100, 2) := by decide +kernel
theorem dX3_init_39 : decode cX3_init 39 = .ok (.newarray .int, 2) := by decide +kernel
theorem dX3_init_41 : decode cX3_init 41 = .ok (.putfield 24, 3) := by decide +kernel
theorem dX3_init_44 : decode cX3_init 44 = .ok (.return_, 1) := by decide +kernel
theorem dX3_length_0 : decode cX3_length 0 = .ok (.aload_n 0, 1) := by decide +kernel
theorem dX3_length_1 : decode cX3_length 1 = .ok (.getfield 27, 3) := by decide +kernel
theorem dX3_length_4 : decode cX3_length 4 = .ok (.ireturn, 1) := by decide +kernel
theorem dX3_append_0 : decode cX3_append 0 = .ok (.aload_n 0, 1) := by decide +kernel
theorem dX3_append_1 : decode cX3_append 1 = .ok (.getfield 27, 3) := by decide +kernel
theorem dX3_append_4 : decode cX3_append 4 = .ok (.bipush 100, 2) := by decide +kernel
theorem dX3_append_6 : decode cX3_append 6 = .ok (.if_icmp .ge 23, 3) := by decide +kernel
theorem dX3_append_9 : decode cX3_append 9 = .ok (.aload_n 0, 1) := by decide +kernel
theorem dX3_append_10 : decode cX3_append 10 = .ok (.getfield 9, 3) := by decide +kernel
theorem dX3_append_13 : decode cX3_append 13 = .ok (.aload_n 0, 1) := by decide +kernel
theorem dX3_append_14 : decode cX3_append 14 = .ok (.getfield 27, 3) := by decide +kernel
theorem dX3_append_17 : decode cX3_append 17 = .ok (.iload_n 1, 1) := by decide +kernel
theorem dX3_append_18 : decode cX3_append 18 = .ok (.iastore, 1) := by decide +kernel
theorem dX3_append_19 : decode cX3_append 19 = .ok (.aload_n 0, 1) := by decide +kernel
theorem dX3_append_20 : decode cX3_append 20 = .ok (.dup, 1) := by decide +kernel
theorem dX3_append_21 : decode cX3_append 21 = .ok (.getfield 27, 3) := by decide +kernel
theorem dX3_append_24 : decode cX3_append 24 = .ok (.iconst 1, 1) := by decide +kernel
theorem dX3_append_25 : decode cX3_append 25 = .ok (.iadd, 1) := by decide +kernel
theorem dX3_append_26 : decode cX3_append 26 = .ok (.putfield 27, 3) := by decide +kernel
theorem dX3_append_29 : decode cX3_append 29 = .ok (.return_, 1) := by decide +kernel
theorem dX3_empty_0 : decode cX3_empty 0 = .ok (.aload_n 0, 1) := by decide +kernel
theorem dX3_empty_1 : decode cX3_empty 1 = .ok (.iconst 0, 1) := by decide +kernel
theorem dX3_empty_2 : decode cX3_empty 2 = .ok (.putfield 27, 3) := by decide +kernel
theorem dX3_empty_5 : decode cX3_empty 5 = .ok (.return_, 1) := by decide +kernel
theorem dX3_acts_0 : decode cX3_acts 0 = .ok (.aload_n 0, 1) := by decide +kernel
theorem dX3_acts_1 : decode cX3_acts 1 = .ok (.getfield 31, 3) := by decide +kernel
theorem dX3_acts_4 : decode cX3_acts 4 = .ok (.ireturn, 1) := by decide +kernel
theorem dX3_deepest_0 : decode cX3_deepest 0 = .ok (.aload_n 0, 1) := by decide +kernel
theorem dX3_deepest_1 : decode cX3_deepest 1 = .ok (.getfield 34, 3) := by decide +kernel
theorem dX3_deepest_4 : decode cX3_deepest 4 = .ok (.ireturn, 1) := by decide +kernel
theorem dX3_roomBits_0 : decode cX3_roomBits 0 = .ok (.aload_n 0, 1) := by decide +kernel
theorem dX3_roomBits_1 : decode cX3_roomBits 1 = .ok (.getfield 37, 3) := by decide +kernel
theorem dX3_roomBits_4 : decode cX3_roomBits 4 = .ok (.ireturn, 1) := by decide +kernel
theorem dX3_sign_0 : decode cX3_sign 0 = .ok (.aload_n 0, 1) := by decide +kernel
theorem dX3_sign_1 : decode cX3_sign 1 = .ok (.getfield 15, 3) := by decide +kernel
theorem dX3_sign_4 : decode cX3_sign 4 = .ok (.iload_n 1, 1) := by decide +kernel
theorem dX3_sign_5 : decode cX3_sign 5 = .ok (.invokestatic 40, 3) := by decide +kernel
theorem dX3_sign_8 : decode cX3_sign 8 = .ok (.ireturn, 1) := by decide +kernel
theorem dX3_figure_0 : decode cX3_figure 0 = .ok (.aload_n 0, 1) := by decide +kernel
theorem dX3_figure_1 : decode cX3_figure 1 = .ok (.getfield 18, 3) := by decide +kernel
theorem dX3_figure_4 : decode cX3_figure 4 = .ok (.iload_n 1, 1) := by decide +kernel
theorem dX3_figure_5 : decode cX3_figure 5 = .ok (.invokestatic 40, 3) := by decide +kernel
theorem dX3_figure_8 : decode cX3_figure 8 = .ok (.ireturn, 1) := by decide +kernel
theorem dX3_middle_0 : decode cX3_middle 0 = .ok (.aload_n 0, 1) := by decide +kernel
theorem dX3_middle_1 : decode cX3_middle 1 = .ok (.getfield 21, 3) := by decide +kernel
theorem dX3_middle_4 : decode cX3_middle 4 = .ok (.iload_n 1, 1) := by decide +kernel
theorem dX3_middle_5 : decode cX3_middle 5 = .ok (.invokestatic 40, 3) := by decide +kernel
theorem dX3_middle_8 : decode cX3_middle 8 = .ok (.ireturn, 1) := by decide +kernel
theorem dX3_next_0 : decode cX3_next 0 = .ok (.aload_n 0, 1) := by decide +kernel
theorem dX3_next_1 : decode cX3_next 1 = .ok (.getfield 24, 3) := by decide +kernel
theorem dX3_next_4 : decode cX3_next 4 = .ok (.iload_n 1, 1) := by decide +kernel
theorem dX3_next_5 : decode cX3_next 5 = .ok (.invokestatic 40, 3) := by decide +kernel
theorem dX3_next_8 : decode cX3_next 8 = .ok (.ireturn, 1) := by decide +kernel
theorem dX3_read_0 : decode cX3_read 0 = .ok (.aload_n 0, 1) := by decide +kernel
theorem dX3_read_1 : decode cX3_read 1 = .ok (.iconst 0, 1) := by decide +kernel
theorem dX3_read_2 : decode cX3_read 2 = .ok (.putfield 31, 3) := by decide +kernel
theorem dX3_read_5 : decode cX3_read 5 = .ok (.aload_n 0, 1) := by decide +kernel
theorem dX3_read_6 : decode cX3_read 6 = .ok (.iconst 0, 1) := by decide +kernel
theorem dX3_read_7 : decode cX3_read 7 = .ok (.putfield 34, 3) := by decide +kernel
theorem dX3_read_10 : decode cX3_read 10 = .ok (.aload_n 0, 1) := by decide +kernel
theorem dX3_read_11 : decode cX3_read 11 = .ok (.iconst 0, 1) := by decide +kernel
theorem dX3_read_12 : decode cX3_read 12 = .ok (.putfield 37, 3) := by decide +kernel
theorem dX3_read_15 : decode cX3_read 15 = .ok (.aload_n 0, 1) := by decide +kernel
theorem dX3_read_16 : decode cX3_read 16 = .ok (.iconst 0, 1) := by decide +kernel
theorem dX3_read_17 : decode cX3_read 17 = .ok (.putfield 44, 3) := by decide +kernel
theorem dX3_read_20 : decode cX3_read 20 = .ok (.aload_n 0, 1) := by decide +kernel
theorem dX3_read_21 : decode cX3_read 21 = .ok (.iconst (-1), 1) := by decide +kernel
theorem dX3_read_22 : decode cX3_read 22 = .ok (.putfield 47, 3) := by decide +kernel
theorem dX3_read_25 : decode cX3_read 25 = .ok (.aload_n 0, 1) := by decide +kernel
theorem dX3_read_26 : decode cX3_read 26 = .ok (.iconst 0, 1) := by decide +kernel
theorem dX3_read_27 : decode cX3_read 27 = .ok (.invokevirtual 50, 3) := by decide +kernel
theorem dX3_read_30 : decode cX3_read 30 = .ok (.aload_n 0, 1) := by decide +kernel
theorem dX3_read_31 : decode cX3_read 31 = .ok (.getfield 47, 3) := by decide +kernel
theorem dX3_read_34 : decode cX3_read 34 = .ok (.iconst (-1), 1) := by decide +kernel
theorem dX3_read_35 : decode cX3_read 35 = .ok (.if_icmp .ne 19, 3) := by decide +kernel
theorem dX3_read_38 : decode cX3_read 38 = .ok (.aload_n 0, 1) := by decide +kernel
theorem dX3_read_39 : decode cX3_read 39 = .ok (.invokevirtual 54, 3) := by decide +kernel
theorem dX3_read_42 : decode cX3_read 42 = .ok (.iconst (-1), 1) := by decide +kernel
theorem dX3_read_43 : decode cX3_read 43 = .ok (.if_icmp .eq 11, 3) := by decide +kernel
theorem dX3_read_46 : decode cX3_read 46 = .ok (.aload_n 0, 1) := by decide +kernel
theorem dX3_read_47 : decode cX3_read 47 = .ok (.aload_n 0, 1) := by decide +kernel
theorem dX3_read_48 : decode cX3_read 48 = .ok (.getfield 44, 3) := by decide +kernel
theorem dX3_read_51 : decode cX3_read 51 = .ok (.putfield 47, 3) := by decide +kernel
theorem dX3_read_54 : decode cX3_read 54 = .ok (.aload_n 0, 1) := by decide +kernel
theorem dX3_read_55 : decode cX3_read 55 = .ok (.getfield 47, 3) := by decide +kernel
theorem dX3_read_58 : decode cX3_read 58 = .ok (.ireturn, 1) := by decide +kernel
theorem dX3_nextSign_0 : decode cX3_nextSign 0 = .ok (.aload_n 0, 1) := by decide +kernel
theorem dX3_nextSign_1 : decode cX3_nextSign 1 = .ok (.getfield 44, 3) := by decide +kernel
theorem dX3_nextSign_4 : decode cX3_nextSign 4 = .ok (.aload_n 0, 1) := by decide +kernel
theorem dX3_nextSign_5 : decode cX3_nextSign 5 = .ok (.getfield 27, 3) := by decide +kernel
theorem dX3_nextSign_8 : decode cX3_nextSign 8 = .ok (.if_icmp .ge 30, 3) := by decide +kernel
theorem dX3_nextSign_11 : decode cX3_nextSign 11 = .ok (.aload_n 0, 1) := by decide +kernel
theorem dX3_nextSign_12 : decode cX3_nextSign 12 = .ok (.getfield 9, 3) := by decide +kernel
theorem dX3_nextSign_15 : decode cX3_nextSign 15 = .ok (.aload_n 0, 1) := by decide +kernel
theorem dX3_nextSign_16 : decode cX3_nextSign 16 = .ok (.getfield 44, 3) := by decide +kernel
theorem dX3_nextSign_19 : decode cX3_nextSign 19 = .ok (.iaload, 1) := by decide +kernel
theorem dX3_nextSign_20 : decode cX3_nextSign 20 = .ok (.bipush 32, 2) := by decide +kernel
theorem dX3_nextSign_22 : decode cX3_nextSign 22 = .ok (.if_icmp .ne 16, 3) := by decide +kernel
theorem dX3_nextSign_25 : decode cX3_nextSign 25 = .ok (.aload_n 0, 1) := by decide +kernel
theorem dX3_nextSign_26 : decode cX3_nextSign 26 = .ok (.dup, 1) := by decide +kernel
theorem dX3_nextSign_27 : decode cX3_nextSign 27 = .ok (.getfield 44, 3) := by decide +kernel
theorem dX3_nextSign_30 : decode cX3_nextSign 30 = .ok (.iconst 1, 1) := by decide +kernel
theorem dX3_nextSign_31 : decode cX3_nextSign 31 = .ok (.iadd, 1) := by decide +kernel
theorem dX3_nextSign_32 : decode cX3_nextSign 32 = .ok (.putfield 44, 3) := by decide +kernel
theorem dX3_nextSign_35 : decode cX3_nextSign 35 = .ok (.goto (-35), 3) := by decide +kernel
theorem dX3_nextSign_38 : decode cX3_nextSign 38 = .ok (.aload_n 0, 1) := by decide +kernel
theorem dX3_nextSign_39 : decode cX3_nextSign 39 = .ok (.getfield 44, 3) := by decide +kernel
theorem dX3_nextSign_42 : decode cX3_nextSign 42 = .ok (.aload_n 0, 1) := by decide +kernel
theorem dX3_nextSign_43 : decode cX3_nextSign 43 = .ok (.getfield 27, 3) := by decide +kernel
theorem dX3_nextSign_46 : decode cX3_nextSign 46 = .ok (.if_icmp .ge 15, 3) := by decide +kernel
theorem dX3_nextSign_49 : decode cX3_nextSign 49 = .ok (.aload_n 0, 1) := by decide +kernel
theorem dX3_nextSign_50 : decode cX3_nextSign 50 = .ok (.getfield 9, 3) := by decide +kernel
theorem dX3_nextSign_53 : decode cX3_nextSign 53 = .ok (.aload_n 0, 1) := by decide +kernel
theorem dX3_nextSign_54 : decode cX3_nextSign 54 = .ok (.getfield 44, 3) := by decide +kernel
theorem dX3_nextSign_57 : decode cX3_nextSign 57 = .ok (.iaload, 1) := by decide +kernel
theorem dX3_nextSign_58 : decode cX3_nextSign 58 = .ok (.goto 4, 3) := by decide +kernel
theorem dX3_nextSign_61 : decode cX3_nextSign 61 = .ok (.iconst (-1), 1) := by decide +kernel
theorem dX3_nextSign_62 : decode cX3_nextSign 62 = .ok (.ireturn, 1) := by decide +kernel
theorem dX3_readActs_0 : decode cX3_readActs 0 = .ok (.iconst 0, 1) := by decide +kernel
theorem dX3_readActs_1 : decode cX3_readActs 1 = .ok (.istore_n 2, 1) := by decide +kernel
theorem dX3_readActs_2 : decode cX3_readActs 2 = .ok (.iload_n 2, 1) := by decide +kernel
theorem dX3_readActs_3 : decode cX3_readActs 3 = .ok (.bipush 100, 2) := by decide +kernel
theorem dX3_readActs_5 : decode cX3_readActs 5 = .ok (.if_icmp .ge 32, 3) := by decide +kernel
theorem dX3_readActs_8 : decode cX3_readActs 8 = .ok (.aload_n 0, 1) := by decide +kernel
theorem dX3_readActs_9 : decode cX3_readActs 9 = .ok (.getfield 47, 3) := by decide +kernel
theorem dX3_readActs_12 : decode cX3_readActs 12 = .ok (.iconst (-1), 1) := by decide +kernel
theorem dX3_readActs_13 : decode cX3_readActs 13 = .ok (.if_icmp .ne 24, 3) := by decide +kernel
theorem dX3_readActs_16 : decode cX3_readActs 16 = .ok (.aload_n 0, 1) := by decide +kernel
theorem dX3_readActs_17 : decode cX3_readActs 17 = .ok (.invokevirtual 54, 3) := by decide +kernel
theorem dX3_readActs_20 : decode cX3_readActs 20 = .ok (.invokestatic 58, 3) := by decide +kernel
theorem dX3_readActs_23 : decode cX3_readActs 23 = .ok (.ifCond .eq 14, 3) := by decide +kernel
theorem dX3_readActs_26 : decode cX3_readActs 26 = .ok (.aload_n 0, 1) := by decide +kernel
theorem dX3_readActs_27 : decode cX3_readActs 27 = .ok (.iload_n 1, 1) := by decide +kernel
theorem dX3_readActs_28 : decode cX3_readActs 28 = .ok (.invokevirtual 62, 3) := by decide +kernel
theorem dX3_readActs_31 : decode cX3_readActs 31 = .ok (.iinc 2 1, 3) := by decide +kernel
theorem dX3_readActs_34 : decode cX3_readActs 34 = .ok (.goto (-32), 3) := by decide +kernel
theorem dX3_readActs_37 : decode cX3_readActs 37 = .ok (.return_, 1) := by decide +kernel
theorem dX3_readAct_0 : decode cX3_readAct 0 = .ok (.aload_n 0, 1) := by decide +kernel
theorem dX3_readAct_1 : decode cX3_readAct 1 = .ok (.invokevirtual 54, 3) := by decide +kernel
theorem dX3_readAct_4 : decode cX3_readAct 4 = .ok (.istore_n 2, 1) := by decide +kernel
theorem dX3_readAct_5 : decode cX3_readAct 5 = .ok (.iload_n 2, 1) := by decide +kernel
theorem dX3_readAct_6 : decode cX3_readAct 6 = .ok (.invokestatic 65, 3) := by decide +kernel
theorem dX3_readAct_9 : decode cX3_readAct 9 = .ok (.ifCond .eq 32, 3) := by decide +kernel
theorem dX3_readAct_12 : decode cX3_readAct 12 = .ok (.iload_n 1, 1) := by decide +kernel
theorem dX3_readAct_13 : decode cX3_readAct 13 = .ok (.bipush 8, 2) := by decide +kernel
theorem dX3_readAct_15 : decode cX3_readAct 15 = .ok (.if_icmp .lt 12, 3) := by decide +kernel
theorem dX3_readAct_18 : decode cX3_readAct 18 = .ok (.aload_n 0, 1) := by decide +kernel
theorem dX3_readAct_19 : decode cX3_readAct 19 = .ok (.aload_n 0, 1) := by decide +kernel
theorem dX3_readAct_20 : decode cX3_readAct 20 = .ok (.getfield 44, 3) := by decide +kernel
theorem dX3_readAct_23 : decode cX3_readAct 23 = .ok (.putfield 47, 3) := by decide +kernel
theorem dX3_readAct_26 : decode cX3_readAct 26 = .ok (.return_, 1) := by decide +kernel
theorem dX3_readAct_27 : decode cX3_readAct 27 = .ok (.aload_n 0, 1) := by decide +kernel
theorem dX3_readAct_28 : decode cX3_readAct 28 = .ok (.aload_n 0, 1) := by decide +kernel
theorem dX3_readAct_29 : decode cX3_readAct 29 = .ok (.getfield 34, 3) := by decide +kernel
theorem dX3_readAct_32 : decode cX3_readAct 32 = .ok (.iload_n 1, 1) := by decide +kernel
theorem dX3_readAct_33 : decode cX3_readAct 33 = .ok (.iconst 1, 1) := by decide +kernel
theorem dX3_readAct_34 : decode cX3_readAct 34 = .ok (.iadd, 1) := by decide +kernel
theorem dX3_readAct_35 : decode cX3_readAct 35 = .ok (.invokestatic 68, 3) := by decide +kernel
theorem dX3_readAct_38 : decode cX3_readAct 38 = .ok (.putfield 34, 3) := by decide +kernel
theorem dX3_readAct_41 : decode cX3_readAct 41 = .ok (.aload_n 0, 1) := by decide +kernel
theorem dX3_readAct_42 : decode cX3_readAct 42 = .ok (.getfield 31, 3) := by decide +kernel
theorem dX3_readAct_45 : decode cX3_readAct 45 = .ok (.istore_n 3, 1) := by decide +kernel
theorem dX3_readAct_46 : decode cX3_readAct 46 = .ok (.aload_n 0, 1) := by decide +kernel
theorem dX3_readAct_47 : decode cX3_readAct 47 = .ok (.dup, 1) := by decide +kernel
theorem dX3_readAct_48 : decode cX3_readAct 48 = .ok (.getfield 31, 3) := by decide +kernel
theorem dX3_readAct_51 : decode cX3_readAct 51 = .ok (.iconst 1, 1) := by decide +kernel
theorem dX3_readAct_52 : decode cX3_readAct 52 = .ok (.iadd, 1) := by decide +kernel
theorem dX3_readAct_53 : decode cX3_readAct 53 = .ok (.putfield 31, 3) := by decide +kernel
theorem dX3_readAct_56 : decode cX3_readAct 56 = .ok (.aload_n 0, 1) := by decide +kernel
theorem dX3_readAct_57 : decode cX3_readAct 57 = .ok (.dup, 1) := by decide +kernel
theorem dX3_readAct_58 : decode cX3_readAct 58 = .ok (.getfield 44, 3) := by decide +kernel
theorem dX3_readAct_61 : decode cX3_readAct 61 = .ok (.iconst 1, 1) := by decide +kernel
theorem dX3_readAct_62 : decode cX3_readAct 62 = .ok (.iadd, 1) := by decide +kernel
theorem dX3_readAct_63 : decode cX3_readAct 63 = .ok (.putfield 44, 3) := by decide +kernel
theorem dX3_readAct_66 : decode cX3_readAct 66 = .ok (.aload_n 0, 1) := by decide +kernel
theorem dX3_readAct_67 : decode cX3_readAct 67 = .ok (.getfield 15, 3) := by decide +kernel
theorem dX3_readAct_70 : decode cX3_readAct 70 = .ok (.iload_n 3, 1) := by decide +kernel
theorem dX3_readAct_71 : decode cX3_readAct 71 = .ok (.iload_n 2, 1) := by decide +kernel
theorem dX3_readAct_72 : decode cX3_readAct 72 = .ok (.invokestatic 74, 3) := by decide +kernel
theorem dX3_readAct_75 : decode cX3_readAct 75 = .ok (.ifCond .eq 8, 3) := by decide +kernel
theorem dX3_readAct_78 : decode cX3_readAct 78 = .ok (.bipush 82, 2) := by decide +kernel
theorem dX3_readAct_80 : decode cX3_readAct 80 = .ok (.goto 4, 3) := by decide +kernel
theorem dX3_readAct_83 : decode cX3_readAct 83 = .ok (.iload_n 2, 1) := by decide +kernel
theorem dX3_readAct_84 : decode cX3_readAct 84 = .ok (.invokestatic 77, 3) := by decide +kernel
theorem dX3_readAct_87 : decode cX3_readAct 87 = .ok (.aload_n 0, 1) := by decide +kernel
theorem dX3_readAct_88 : decode cX3_readAct 88 = .ok (.getfield 18, 3) := by decide +kernel
theorem dX3_readAct_91 : decode cX3_readAct 91 = .ok (.iload_n 3, 1) := by decide +kernel
theorem dX3_readAct_92 : decode cX3_readAct 92 = .ok (.iload_n 2, 1) := by decide +kernel
theorem dX3_readAct_93 : decode cX3_readAct 93 = .ok (.invokestatic 74, 3) := by decide +kernel
theorem dX3_readAct_96 : decode cX3_readAct 96 = .ok (.ifCond .eq 10, 3) := by decide +kernel
theorem dX3_readAct_99 : decode cX3_readAct 99 = .ok (.iload_n 2, 1) := by decide +kernel
theorem dX3_readAct_100 : decode cX3_readAct 100 = .ok (.bipush 48, 2) := by decide +kernel
theorem dX3_readAct_102 : decode cX3_readAct 102 = .ok (.isub, 1) := by decide +kernel
theorem dX3_readAct_103 : decode cX3_readAct 103 = .ok (.goto 4, 3) := by decide +kernel
theorem dX3_readAct_106 : decode cX3_readAct 106 = .ok (.iconst 0, 1) := by decide +kernel
theorem dX3_readAct_107 : decode cX3_readAct 107 = .ok (.invokestatic 77, 3) := by decide +kernel
theorem dX3_readAct_110 : decode cX3_readAct 110 = .ok (.aload_n 0, 1) := by decide +kernel
theorem dX3_readAct_111 : decode cX3_readAct 111 = .ok (.iload_n 3, 1) := by decide +kernel
theorem dX3_readAct_112 : decode cX3_readAct 112 = .ok (.iload_n 2, 1) := by decide +kernel
theorem dX3_readAct_113 : decode cX3_readAct 113 = .ok (.iload_n 1, 1) := by decide +kernel
theorem dX3_readAct_114 : decode cX3_readAct 114 = .ok (.iconst 1, 1) := by decide +kernel
theorem dX3_readAct_115 : decode cX3_readAct 115 = .ok (.iadd, 1) := by decide +kernel
theorem dX3_readAct_116 : decode cX3_readAct 116 = .ok (.invokevirtual 81, 3) := by decide +kernel
theorem dX3_readAct_119 : decode cX3_readAct 119 = .ok (.aload_n 0, 1) := by decide +kernel
theorem dX3_readAct_120 : decode cX3_readAct 120 = .ok (.getfield 24, 3) := by decide +kernel
theorem dX3_readAct_123 : decode cX3_readAct 123 = .ok (.iload_n 3, 1) := by decide +kernel
theorem dX3_readAct_124 : decode cX3_readAct 124 = .ok (.aload_n 0, 1) := by decide +kernel
theorem dX3_readAct_125 : decode cX3_readAct 125 = .ok (.getfield 31, 3) := by decide +kernel
theorem dX3_readAct_128 : decode cX3_readAct 128 = .ok (.invokestatic 77, 3) := by decide +kernel
theorem dX3_readAct_131 : decode cX3_readAct 131 = .ok (.return_, 1) := by decide +kernel
theorem dX3_readRest_0 : decode cX3_readRest 0 = .ok (.iload_n 2, 1) := by decide +kernel
theorem dX3_readRest_1 : decode cX3_readRest 1 = .ok (.lookupswitch 134 #[(33, 51), (40, 66), (60, 92), (91, 79), (120, 104)], 51) := by decide +kernel
theorem dX3_readRest_52 : decode cX3_readRest 52 = .ok (.aload_n 0, 1) := by decide +kernel
theorem dX3_readRest_53 : decode cX3_readRest 53 = .ok (.getfield 18, 3) := by decide +kernel
theorem dX3_readRest_56 : decode cX3_readRest 56 = .ok (.iload_n 1, 1) := by decide +kernel
theorem dX3_readRest_57 : decode cX3_readRest 57 = .ok (.aload_n 0, 1) := by decide +kernel
theorem dX3_readRest_58 : decode cX3_readRest 58 = .ok (.invokevirtual 85, 3) := by decide +kernel
theorem dX3_readRest_61 : decode cX3_readRest 61 = .ok (.invokestatic 77, 3) := by decide +kernel
theorem dX3_readRest_64 : decode cX3_readRest 64 = .ok (.goto 108, 3) := by decide +kernel
theorem dX3_readRest_67 : decode cX3_readRest 67 = .ok (.aload_n 0, 1) := by decide +kernel
theorem dX3_readRest_68 : decode cX3_readRest 68 = .ok (.iload_n 1, 1) := by decide +kernel
theorem dX3_readRest_69 : decode cX3_readRest 69 = .ok (.bipush 47, 2) := by decide +kernel
theorem dX3_readRest_71 : decode cX3_readRest 71 = .ok (.bipush 41, 2) := by decide +kernel
theorem dX3_readRest_73 : decode cX3_readRest 73 = .ok (.iload_n 3, 1) := by decide +kernel
theorem dX3_readRest_74 : decode cX3_readRest 74 = .ok (.invokevirtual 88, 3) := by decide +kernel
theorem dX3_readRest_77 : decode cX3_readRest 77 = .ok (.goto 95, 3) := by decide +kernel
theorem dX3_readRest_80 : decode cX3_readRest 80 = .ok (.aload_n 0, 1) := by decide +kernel
theorem dX3_readRest_81 : decode cX3_readRest 81 = .ok (.iload_n 1, 1) := by decide +kernel
theorem dX3_readRest_82 : decode cX3_readRest 82 = .ok (.bipush 47, 2) := by decide +kernel
theorem dX3_readRest_84 : decode cX3_readRest 84 = .ok (.bipush 93, 2) := by decide +kernel
theorem dX3_readRest_86 : decode cX3_readRest 86 = .ok (.iload_n 3, 1) := by decide +kernel
theorem dX3_readRest_87 : decode cX3_readRest 87 = .ok (.invokevirtual 88, 3) := by decide +kernel
theorem dX3_readRest_90 : decode cX3_readRest 90 = .ok (.goto 82, 3) := by decide +kernel
theorem dX3_readRest_93 : decode cX3_readRest 93 = .ok (.aload_n 0, 1) := by decide +kernel
theorem dX3_readRest_94 : decode cX3_readRest 94 = .ok (.iload_n 1, 1) := by decide +kernel
theorem dX3_readRest_95 : decode cX3_readRest 95 = .ok (.iconst (-1), 1) := by decide +kernel
theorem dX3_readRest_96 : decode cX3_readRest 96 = .ok (.bipush 62, 2) := by decide +kernel
theorem dX3_readRest_98 : decode cX3_readRest 98 = .ok (.iload_n 3, 1) := by decide +kernel
theorem dX3_readRest_99 : decode cX3_readRest 99 = .ok (.invokevirtual 88, 3) := by decide +kernel
theorem dX3_readRest_102 : decode cX3_readRest 102 = .ok (.goto 70, 3) := by decide +kernel
theorem dX3_readRest_105 : decode cX3_readRest 105 = .ok (.aload_n 0, 1) := by decide +kernel
theorem dX3_readRest_106 : decode cX3_readRest 106 = .ok (.getfield 18, 3) := by decide +kernel
theorem dX3_readRest_109 : decode cX3_readRest 109 = .ok (.iload_n 1, 1) := by decide +kernel
theorem dX3_readRest_110 : decode cX3_readRest 110 = .ok (.aload_n 0, 1) := by decide +kernel
theorem dX3_readRest_111 : decode cX3_readRest 111 = .ok (.invokevirtual 85, 3) := by decide +kernel
theorem dX3_readRest_114 : decode cX3_readRest 114 = .ok (.invokestatic 77, 3) := by decide +kernel
theorem dX3_readRest_117 : decode cX3_readRest 117 = .ok (.aload_n 0, 1) := by decide +kernel
theorem dX3_readRest_118 : decode cX3_readRest 118 = .ok (.bipush 58, 2) := by decide +kernel
theorem dX3_readRest_120 : decode cX3_readRest 120 = .ok (.invokevirtual 92, 3) := by decide +kernel
theorem dX3_readRest_123 : decode cX3_readRest 123 = .ok (.aload_n 0, 1) := by decide +kernel
theorem dX3_readRest_124 : decode cX3_readRest 124 = .ok (.iload_n 1, 1) := by decide +kernel
theorem dX3_readRest_125 : decode cX3_readRest 125 = .ok (.iconst (-1), 1) := by decide +kernel
theorem dX3_readRest_126 : decode cX3_readRest 126 = .ok (.bipush 59, 2) := by decide +kernel
theorem dX3_readRest_128 : decode cX3_readRest 128 = .ok (.iload_n 3, 1) := by decide +kernel
theorem dX3_readRest_129 : decode cX3_readRest 129 = .ok (.invokevirtual 88, 3) := by decide +kernel
theorem dX3_readRest_132 : decode cX3_readRest 132 = .ok (.goto 40, 3) := by decide +kernel
theorem dX3_readRest_135 : decode cX3_readRest 135 = .ok (.iload_n 2, 1) := by decide +kernel
theorem dX3_readRest_136 : decode cX3_readRest 136 = .ok (.invokestatic 74, 3) := by decide +kernel
theorem dX3_readRest_139 : decode cX3_readRest 139 = .ok (.ifCond .eq 33, 3) := by decide +kernel
theorem dX3_readRest_142 : decode cX3_readRest 142 = .ok (.aload_n 0, 1) := by decide +kernel
theorem dX3_readRest_143 : decode cX3_readRest 143 = .ok (.dup, 1) := by decide +kernel
theorem dX3_readRest_144 : decode cX3_readRest 144 = .ok (.getfield 37, 3) := by decide +kernel
theorem dX3_readRest_147 : decode cX3_readRest 147 = .ok (.iconst 1, 1) := by decide +kernel
theorem dX3_readRest_148 : decode cX3_readRest 148 = .ok (.iload_n 2, 1) := by decide +kernel
theorem dX3_readRest_149 : decode cX3_readRest 149 = .ok (.bipush 48, 2) := by decide +kernel
theorem dX3_readRest_151 : decode cX3_readRest 151 = .ok (.isub, 1) := by decide +kernel
theorem dX3_readRest_152 : decode cX3_readRest 152 = .ok (.ishl, 1) := by decide +kernel
theorem dX3_readRest_153 : decode cX3_readRest 153 = .ok (.ior, 1) := by decide +kernel
theorem dX3_readRest_154 : decode cX3_readRest 154 = .ok (.putfield 37, 3) := by decide +kernel
theorem dX3_readRest_157 : decode cX3_readRest 157 = .ok (.aload_n 0, 1) := by decide +kernel
theorem dX3_readRest_158 : decode cX3_readRest 158 = .ok (.bipush 123, 2) := by decide +kernel
theorem dX3_readRest_160 : decode cX3_readRest 160 = .ok (.invokevirtual 92, 3) := by decide +kernel
theorem dX3_readRest_163 : decode cX3_readRest 163 = .ok (.aload_n 0, 1) := by decide +kernel
theorem dX3_readRest_164 : decode cX3_readRest 164 = .ok (.iload_n 1, 1) := by decide +kernel
theorem dX3_readRest_165 : decode cX3_readRest 165 = .ok (.iconst (-1), 1) := by decide +kernel
theorem dX3_readRest_166 : decode cX3_readRest 166 = .ok (.bipush 125, 2) := by decide +kernel
theorem dX3_readRest_168 : decode cX3_readRest 168 = .ok (.iload_n 3, 1) := by decide +kernel
theorem dX3_readRest_169 : decode cX3_readRest 169 = .ok (.invokevirtual 88, 3) := by decide +kernel
theorem dX3_readRest_172 : decode cX3_readRest 172 = .ok (.return_, 1) := by decide +kernel
theorem dX3_readParts_0 : decode cX3_readParts 0 = .ok (.aload_n 0, 1) := by decide +kernel
theorem dX3_readParts_1 : decode cX3_readParts 1 = .ok (.iload 4, 2) := by decide +kernel
theorem dX3_readParts_3 : decode cX3_readParts 3 = .ok (.invokevirtual 50, 3) := by decide +kernel
theorem dX3_readParts_6 : decode cX3_readParts 6 = .ok (.aload_n 0, 1) := by decide +kernel
theorem dX3_readParts_7 : decode cX3_readParts 7 = .ok (.getfield 21, 3) := by decide +kernel
theorem dX3_readParts_10 : decode cX3_readParts 10 = .ok (.iload_n 1, 1) := by decide +kernel
theorem dX3_readParts_11 : decode cX3_readParts 11 = .ok (.aload_n 0, 1) := by decide +kernel
theorem dX3_readParts_12 : decode cX3_readParts 12 = .ok (.getfield 31, 3) := by decide +kernel
theorem dX3_readParts_15 : decode cX3_readParts 15 = .ok (.invokestatic 77, 3) := by decide +kernel
theorem dX3_readParts_18 : decode cX3_readParts 18 = .ok (.iload_n 2, 1) := by decide +kernel
theorem dX3_readParts_19 : decode cX3_readParts 19 = .ok (.iconst (-1), 1) := by decide +kernel
theorem dX3_readParts_20 : decode cX3_readParts 20 = .ok (.if_icmp .eq 14, 3) := by decide +kernel
theorem dX3_readParts_23 : decode cX3_readParts 23 = .ok (.aload_n 0, 1) := by decide +kernel
theorem dX3_readParts_24 : decode cX3_readParts 24 = .ok (.iload_n 2, 1) := by decide +kernel
theorem dX3_readParts_25 : decode cX3_readParts 25 = .ok (.invokevirtual 92, 3) := by decide +kernel
theorem dX3_readParts_28 : decode cX3_readParts 28 = .ok (.aload_n 0, 1) := by decide +kernel
theorem dX3_readParts_29 : decode cX3_readParts 29 = .ok (.iload 4, 2) := by decide +kernel
theorem dX3_readParts_31 : decode cX3_readParts 31 = .ok (.invokevirtual 50, 3) := by decide +kernel
theorem dX3_readParts_34 : decode cX3_readParts 34 = .ok (.aload_n 0, 1) := by decide +kernel
theorem dX3_readParts_35 : decode cX3_readParts 35 = .ok (.iload_n 3, 1) := by decide +kernel
theorem dX3_readParts_36 : decode cX3_readParts 36 = .ok (.invokevirtual 92, 3) := by decide +kernel
theorem dX3_readParts_39 : decode cX3_readParts 39 = .ok (.return_, 1) := by decide +kernel
theorem dX3_expect_0 : decode cX3_expect 0 = .ok (.aload_n 0, 1) := by decide +kernel
theorem dX3_expect_1 : decode cX3_expect 1 = .ok (.getfield 47, 3) := by decide +kernel
theorem dX3_expect_4 : decode cX3_expect 4 = .ok (.iconst (-1), 1) := by decide +kernel
theorem dX3_expect_5 : decode cX3_expect 5 = .ok (.if_icmp .eq 4, 3) := by decide +kernel
theorem dX3_expect_8 : decode cX3_expect 8 = .ok (.return_, 1) := by decide +kernel
theorem dX3_expect_9 : decode cX3_expect 9 = .ok (.aload_n 0, 1) := by decide +kernel
theorem dX3_expect_10 : decode cX3_expect 10 = .ok (.invokevirtual 54, 3) := by decide +kernel
theorem dX3_expect_13 : decode cX3_expect 13 = .ok (.iload_n 1, 1) := by decide +kernel
theorem dX3_expect_14 : decode cX3_expect 14 = .ok (.if_icmp .ne 16, 3) := by decide +kernel
theorem dX3_expect_17 : decode cX3_expect 17 = .ok (.aload_n 0, 1) := by decide +kernel
theorem dX3_expect_18 : decode cX3_expect 18 = .ok (.dup, 1) := by decide +kernel
theorem dX3_expect_19 : decode cX3_expect 19 = .ok (.getfield 44, 3) := by decide +kernel
theorem dX3_expect_22 : decode cX3_expect 22 = .ok (.iconst 1, 1) := by decide +kernel
theorem dX3_expect_23 : decode cX3_expect 23 = .ok (.iadd, 1) := by decide +kernel
theorem dX3_expect_24 : decode cX3_expect 24 = .ok (.putfield 44, 3) := by decide +kernel
theorem dX3_expect_27 : decode cX3_expect 27 = .ok (.goto 11, 3) := by decide +kernel
theorem dX3_expect_30 : decode cX3_expect 30 = .ok (.aload_n 0, 1) := by decide +kernel
theorem dX3_expect_31 : decode cX3_expect 31 = .ok (.aload_n 0, 1) := by decide +kernel
theorem dX3_expect_32 : decode cX3_expect 32 = .ok (.getfield 44, 3) := by decide +kernel
theorem dX3_expect_35 : decode cX3_expect 35 = .ok (.putfield 47, 3) := by decide +kernel
theorem dX3_expect_38 : decode cX3_expect 38 = .ok (.return_, 1) := by decide +kernel
theorem dX3_readFigure_0 : decode cX3_readFigure 0 = .ok (.aload_n 0, 1) := by decide +kernel
theorem dX3_readFigure_1 : decode cX3_readFigure 1 = .ok (.invokevirtual 54, 3) := by decide +kernel
theorem dX3_readFigure_4 : decode cX3_readFigure 4 = .ok (.istore_n 1, 1) := by decide +kernel
theorem dX3_readFigure_5 : decode cX3_readFigure 5 = .ok (.iload_n 1, 1) := by decide +kernel
theorem dX3_readFigure_6 : decode cX3_readFigure 6 = .ok (.bipush 48, 2) := by decide +kernel
theorem dX3_readFigure_8 : decode cX3_readFigure 8 = .ok (.bipush 57, 2) := by decide +kernel
theorem dX3_readFigure_10 : decode cX3_readFigure 10 = .ok (.invokestatic 95, 3) := by decide +kernel
theorem dX3_readFigure_13 : decode cX3_readFigure 13 = .ok (.ifCond .ne 13, 3) := by decide +kernel
theorem dX3_readFigure_16 : decode cX3_readFigure 16 = .ok (.aload_n 0, 1) := by decide +kernel
theorem dX3_readFigure_17 : decode cX3_readFigure 17 = .ok (.aload_n 0, 1) := by decide +kernel
theorem dX3_readFigure_18 : decode cX3_readFigure 18 = .ok (.getfield 44, 3) := by decide +kernel
theorem dX3_readFigure_21 : decode cX3_readFigure 21 = .ok (.putfield 47, 3) := by decide +kernel
theorem dX3_readFigure_24 : decode cX3_readFigure 24 = .ok (.iconst 0, 1) := by decide +kernel
theorem dX3_readFigure_25 : decode cX3_readFigure 25 = .ok (.ireturn, 1) := by decide +kernel
theorem dX3_readFigure_26 : decode cX3_readFigure 26 = .ok (.aload_n 0, 1) := by decide +kernel
theorem dX3_readFigure_27 : decode cX3_readFigure 27 = .ok (.dup, 1) := by decide +kernel
theorem dX3_readFigure_28 : decode cX3_readFigure 28 = .ok (.getfield 44, 3) := by decide +kernel
theorem dX3_readFigure_31 : decode cX3_readFigure 31 = .ok (.iconst 1, 1) := by decide +kernel
theorem dX3_readFigure_32 : decode cX3_readFigure 32 = .ok (.iadd, 1) := by decide +kernel
theorem dX3_readFigure_33 : decode cX3_readFigure 33 = .ok (.putfield 44, 3) := by decide +kernel
theorem dX3_readFigure_36 : decode cX3_readFigure 36 = .ok (.iload_n 1, 1) := by decide +kernel
theorem dX3_readFigure_37 : decode cX3_readFigure 37 = .ok (.bipush 48, 2) := by decide +kernel
theorem dX3_readFigure_39 : decode cX3_readFigure 39 = .ok (.isub, 1) := by decide +kernel
theorem dX3_readFigure_40 : decode cX3_readFigure 40 = .ok (.ireturn, 1) := by decide +kernel
theorem dX3_isRoomSign_0 : decode cX3_isRoomSign 0 = .ok (.iload_n 0, 1) := by decide +kernel
theorem dX3_isRoomSign_1 : decode cX3_isRoomSign 1 = .ok (.bipush 48, 2) := by decide +kernel
theorem dX3_isRoomSign_3 : decode cX3_isRoomSign 3 = .ok (.bipush 55, 2) := by decide +kernel
theorem dX3_isRoomSign_5 : decode cX3_isRoomSign 5 = .ok (.invokestatic 95, 3) := by decide +kernel
theorem dX3_isRoomSign_8 : decode cX3_isRoomSign 8 = .ok (.ireturn, 1) := by decide +kernel
theorem dX3_holdsActs_0 : decode cX3_holdsActs 0 = .ok (.iload_n 0, 1) := by decide +kernel
theorem dX3_holdsActs_1 : decode cX3_holdsActs 1 = .ok (.invokestatic 74, 3) := by decide +kernel
theorem dX3_holdsActs_4 : decode cX3_holdsActs 4 = .ok (.ifCond .ne 27, 3) := by decide +kernel
theorem dX3_holdsActs_7 : decode cX3_holdsActs 7 = .ok (.iload_n 0, 1) := by decide +kernel
theorem dX3_holdsActs_8 : decode cX3_holdsActs 8 = .ok (.bipush 40, 2) := by decide +kernel
theorem dX3_holdsActs_10 : decode cX3_holdsActs 10 = .ok (.if_icmp .eq 21, 3) := by decide +kernel
theorem dX3_holdsActs_13 : decode cX3_holdsActs 13 = .ok (.iload_n 0, 1) := by decide +kernel
theorem dX3_holdsActs_14 : decode cX3_holdsActs 14 = .ok (.bipush 91, 2) := by decide +kernel
theorem dX3_holdsActs_16 : decode cX3_holdsActs 16 = .ok (.if_icmp .eq 15, 3) := by decide +kernel
theorem dX3_holdsActs_19 : decode cX3_holdsActs 19 = .ok (.iload_n 0, 1) := by decide +kernel
theorem dX3_holdsActs_20 : decode cX3_holdsActs 20 = .ok (.bipush 60, 2) := by decide +kernel
theorem dX3_holdsActs_22 : decode cX3_holdsActs 22 = .ok (.if_icmp .eq 9, 3) := by decide +kernel
theorem dX3_holdsActs_25 : decode cX3_holdsActs 25 = .ok (.iload_n 0, 1) := by decide +kernel
theorem dX3_holdsActs_26 : decode cX3_holdsActs 26 = .ok (.bipush 120, 2) := by decide +kernel
theorem dX3_holdsActs_28 : decode cX3_holdsActs 28 = .ok (.if_icmp .ne 7, 3) := by decide +kernel
theorem dX3_holdsActs_31 : decode cX3_holdsActs 31 = .ok (.iconst 1, 1) := by decide +kernel
theorem dX3_holdsActs_32 : decode cX3_holdsActs 32 = .ok (.goto 4, 3) := by decide +kernel
theorem dX3_holdsActs_35 : decode cX3_holdsActs 35 = .ok (.iconst 0, 1) := by decide +kernel
theorem dX3_holdsActs_36 : decode cX3_holdsActs 36 = .ok (.ireturn, 1) := by decide +kernel
theorem dX3_beginsAct_0 : decode cX3_beginsAct 0 = .ok (.iload_n 0, 1) := by decide +kernel
theorem dX3_beginsAct_1 : decode cX3_beginsAct 1 = .ok (.invokestatic 65, 3) := by decide +kernel
theorem dX3_beginsAct_4 : decode cX3_beginsAct 4 = .ok (.ifCond .ne 39, 3) := by decide +kernel
theorem dX3_beginsAct_7 : decode cX3_beginsAct 7 = .ok (.iload_n 0, 1) := by decide +kernel
theorem dX3_beginsAct_8 : decode cX3_beginsAct 8 = .ok (.bipush 108, 2) := by decide +kernel
theorem dX3_beginsAct_10 : decode cX3_beginsAct 10 = .ok (.if_icmp .eq 33, 3) := by decide +kernel
theorem dX3_beginsAct_13 : decode cX3_beginsAct 13 = .ok (.iload_n 0, 1) := by decide +kernel
theorem dX3_beginsAct_14 : decode cX3_beginsAct 14 = .ok (.bipush 107, 2) := by decide +kernel
theorem dX3_beginsAct_16 : decode cX3_beginsAct 16 = .ok (.if_icmp .eq 27, 3) := by decide +kernel
theorem dX3_beginsAct_19 : decode cX3_beginsAct 19 = .ok (.iload_n 0, 1) := by decide +kernel
theorem dX3_beginsAct_20 : decode cX3_beginsAct 20 = .ok (.bipush 119, 2) := by decide +kernel
theorem dX3_beginsAct_22 : decode cX3_beginsAct 22 = .ok (.if_icmp .eq 21, 3) := by decide +kernel
theorem dX3_beginsAct_25 : decode cX3_beginsAct 25 = .ok (.iload_n 0, 1) := by decide +kernel
theorem dX3_beginsAct_26 : decode cX3_beginsAct 26 = .ok (.bipush 98, 2) := by decide +kernel
theorem dX3_beginsAct_28 : decode cX3_beginsAct 28 = .ok (.if_icmp .eq 15, 3) := by decide +kernel
theorem dX3_beginsAct_31 : decode cX3_beginsAct 31 = .ok (.iload_n 0, 1) := by decide +kernel
theorem dX3_beginsAct_32 : decode cX3_beginsAct 32 = .ok (.bipush 43, 2) := by decide +kernel
theorem dX3_beginsAct_34 : decode cX3_beginsAct 34 = .ok (.if_icmp .eq 9, 3) := by decide +kernel
theorem dX3_beginsAct_37 : decode cX3_beginsAct 37 = .ok (.iload_n 0, 1) := by decide +kernel
theorem dX3_beginsAct_38 : decode cX3_beginsAct 38 = .ok (.bipush 33, 2) := by decide +kernel
theorem dX3_beginsAct_40 : decode cX3_beginsAct 40 = .ok (.if_icmp .ne 7, 3) := by decide +kernel
theorem dX3_beginsAct_43 : decode cX3_beginsAct 43 = .ok (.iconst 1, 1) := by decide +kernel
theorem dX3_beginsAct_44 : decode cX3_beginsAct 44 = .ok (.goto 4, 3) := by decide +kernel
theorem dX3_beginsAct_47 : decode cX3_beginsAct 47 = .ok (.iconst 0, 1) := by decide +kernel
theorem dX3_beginsAct_48 : decode cX3_beginsAct 48 = .ok (.ireturn, 1) := by decide +kernel
theorem dX4_init_0 : decode cX4_init 0 = .ok (.aload_n 0, 1) := by decide +kernel
theorem dX4_init_1 : decode cX4_init 1 = .ok (.invokespecial 3, 3) := by decide +kernel
theorem dX4_init_4 : decode cX4_init 4 = .ok (.aload_n 0, 1) := by decide +kernel
theorem dX4_init_5 : decode cX4_init 5 = .ok (.bipush 8, 2) := by decide +kernel
theorem dX4_init_7 : decode cX4_init 7 = .ok (.newarray .int, 2) := by decide +kernel
theorem dX4_init_9 : decode cX4_init 9 = .ok (.putfield 9, 3) := by decide +kernel
theorem dX4_init_12 : decode cX4_init 12 = .ok (.aload_n 0, 1) := by decide +kernel
theorem dX4_init_13 : decode cX4_init 13 = .ok (.sipush 150, 3) := by decide +kernel
theorem dX4_init_16 : decode cX4_init 16 = .ok (.newarray .int, 2) := by decide +kernel
theorem dX4_init_18 : decode cX4_init 18 = .ok (.putfield 15, 3) := by decide +kernel
theorem dX4_init_21 : decode cX4_init 21 = .ok (.aload_n 0, 1) := by decide +kernel
theorem dX4_init_22 : decode cX4_init 22 = .ok (.invokevirtual 18, 3) := by decide +kernel
theorem dX4_init_25 : decode cX4_init 25 = .ok (.return_, 1) := by decide +kernel
theorem dX4_begin_0 : decode cX4_begin 0 = .ok (.aload_n 0, 1) := by decide +kernel
theorem dX4_begin_1 : decode cX4_begin 1 = .ok (.getfield 9, 3) := by decide +kernel
theorem dX4_begin_4 : decode cX4_begin 4 = .ok (.iconst 0, 1) := by decide +kernel
theorem dX4_begin_5 : decode cX4_begin 5 = .ok (.invokestatic 21, 3) := by decide +kernel
theorem dX4_begin_8 : decode cX4_begin 8 = .ok (.aload_n 0, 1) := by decide +kernel
theorem dX4_begin_9 : decode cX4_begin 9 = .ok (.iconst 0, 1) := by decide +kernel
theorem dX4_begin_10 : decode cX4_begin 10 = .ok (.putfield 27, 3) := by decide +kernel
theorem dX4_begin_13 : decode cX4_begin 13 = .ok (.aload_n 0, 1) := by decide +kernel
theorem dX4_begin_14 : decode cX4_begin 14 = .ok (.iconst 0, 1) := by decide +kernel
theorem dX4_begin_15 : decode cX4_begin 15 = .ok (.putfield 31, 3) := by decide +kernel
theorem dX4_begin_18 : decode cX4_begin 18 = .ok (.aload_n 0, 1) := by decide +kernel
theorem dX4_begin_19 : decode cX4_begin 19 = .ok (.invokevirtual 34, 3) := by decide +kernel
theorem dX4_begin_22 : decode cX4_begin 22 = .ok (.return_, 1) := by decide +kernel
theorem dX4_calm_0 : decode cX4_calm 0 = .ok (.aload_n 0, 1) := by decide +kernel
theorem dX4_calm_1 : decode cX4_calm 1 = .ok (.getfield 9, 3) := by decide +kernel
theorem dX4_calm_4 : decode cX4_calm 4 = .ok (.iconst 0, 1) := by decide +kernel
theorem dX4_calm_5 : decode cX4_calm 5 = .ok (.iconst 0, 1) := by decide +kernel
theorem dX4_calm_6 : decode cX4_calm 6 = .ok (.iastore, 1) := by decide +kernel
theorem dX4_calm_7 : decode cX4_calm 7 = .ok (.aload_n 0, 1) := by decide +kernel
theorem dX4_calm_8 : decode cX4_calm 8 = .ok (.getfield 9, 3) := by decide +kernel
theorem dX4_calm_11 : decode cX4_calm 11 = .ok (.iconst 1, 1) := by decide +kernel
theorem dX4_calm_12 : decode cX4_calm 12 = .ok (.iconst (-1), 1) := by decide +kernel
theorem dX4_calm_13 : decode cX4_calm 13 = .ok (.iastore, 1) := by decide +kernel
theorem dX4_calm_14 : decode cX4_calm 14 = .ok (.aload_n 0, 1) := by decide +kernel
theorem dX4_calm_15 : decode cX4_calm 15 = .ok (.getfield 9, 3) := by decide +kernel
theorem dX4_calm_18 : decode cX4_calm 18 = .ok (.iconst 2, 1) := by decide +kernel
theorem dX4_calm_19 : decode cX4_calm 19 = .ok (.iconst (-1), 1) := by decide +kernel
theorem dX4_calm_20 : decode cX4_calm 20 = .ok (.iastore, 1) := by decide +kernel
theorem dX4_calm_21 : decode cX4_calm 21 = .ok (.aload_n 0, 1) := by decide +kernel
theorem dX4_calm_22 : decode cX4_calm 22 = .ok (.getfield 9, 3) := by decide +kernel
theorem dX4_calm_25 : decode cX4_calm 25 = .ok (.iconst 3, 1) := by decide +kernel
theorem dX4_calm_26 : decode cX4_calm 26 = .ok (.iconst 0, 1) := by decide +kernel
theorem dX4_calm_27 : decode cX4_calm 27 = .ok (.iastore, 1) := by decide +kernel
theorem dX4_calm_28 : decode cX4_calm 28 = .ok (.aload_n 0, 1) := by decide +kernel
theorem dX4_calm_29 : decode cX4_calm 29 = .ok (.iconst (-1), 1) := by decide +kernel
theorem dX4_calm_30 : decode cX4_calm 30 = .ok (.putfield 37, 3) := by decide +kernel
theorem dX4_calm_33 : decode cX4_calm 33 = .ok (.return_, 1) := by decide +kernel
theorem dX4_befall_0 : decode cX4_befall 0 = .ok (.aload_n 0, 1) := by decide +kernel
theorem dX4_befall_1 : decode cX4_befall 1 = .ok (.getfield 9, 3) := by decide +kernel
theorem dX4_befall_4 : decode cX4_befall 4 = .ok (.iconst 0, 1) := by decide +kernel
theorem dX4_befall_5 : decode cX4_befall 5 = .ok (.iload_n 1, 1) := by decide +kernel
theorem dX4_befall_6 : decode cX4_befall 6 = .ok (.iastore, 1) := by decide +kernel
theorem dX4_befall_7 : decode cX4_befall 7 = .ok (.aload_n 0, 1) := by decide +kernel
theorem dX4_befall_8 : decode cX4_befall 8 = .ok (.getfield 9, 3) := by decide +kernel
theorem dX4_befall_11 : decode cX4_befall 11 = .ok (.iconst 1, 1) := by decide +kernel
theorem dX4_befall_12 : decode cX4_befall 12 = .ok (.iload_n 2, 1) := by decide +kernel
theorem dX4_befall_13 : decode cX4_befall 13 = .ok (.iastore, 1) := by decide +kernel
theorem dX4_befall_14 : decode cX4_befall 14 = .ok (.aload_n 0, 1) := by decide +kernel
theorem dX4_befall_15 : decode cX4_befall 15 = .ok (.getfield 9, 3) := by decide +kernel
theorem dX4_befall_18 : decode cX4_befall 18 = .ok (.iconst 2, 1) := by decide +kernel
theorem dX4_befall_19 : decode cX4_befall 19 = .ok (.iload_n 3, 1) := by decide +kernel
theorem dX4_befall_20 : decode cX4_befall 20 = .ok (.iastore, 1) := by decide +kernel
theorem dX4_befall_21 : decode cX4_befall 21 = .ok (.aload_n 0, 1) := by decide +kernel
theorem dX4_befall_22 : decode cX4_befall 22 = .ok (.getfield 9, 3) := by decide +kernel
theorem dX4_befall_25 : decode cX4_befall 25 = .ok (.bipush 7, 2) := by decide +kernel
theorem dX4_befall_27 : decode cX4_befall 27 = .ok (.dup2, 1) := by decide +kernel
theorem dX4_befall_28 : decode cX4_befall 28 = .ok (.iaload, 1) := by decide +kernel
theorem dX4_befall_29 : decode cX4_befall 29 = .ok (.iconst 1, 1) := by decide +kernel
theorem dX4_befall_30 : decode cX4_befall 30 = .ok (.iadd, 1) := by decide +kernel
theorem dX4_befall_31 : decode cX4_befall 31 = .ok (.iastore, 1) := by decide +kernel
theorem dX4_befall_32 : decode cX4_befall 32 = .ok (.return_, 1) := by decide +kernel
theorem dX4_report_0 : decode cX4_report 0 = .ok (.aload_n 0, 1) := by decide +kernel
theorem dX4_report_1 : decode cX4_report 1 = .ok (.getfield 9, 3) := by decide +kernel
theorem dX4_report_4 : decode cX4_report 4 = .ok (.iconst 0, 1) := by decide +kernel
theorem dX4_report_5 : decode cX4_report 5 = .ok (.iaload, 1) := by decide +kernel
theorem dX4_report_6 : decode cX4_report 6 = .ok (.iconst 5, 1) := by decide +kernel
theorem dX4_report_7 : decode cX4_report 7 = .ok (.if_icmp .eq 13, 3) := by decide +kernel
theorem dX4_report_10 : decode cX4_report 10 = .ok (.aload_n 0, 1) := by decide +kernel
theorem dX4_report_11 : decode cX4_report 11 = .ok (.aload_n 0, 1) := by decide +kernel
