theorem dX6_keep_20 : decode cX6_keep 20 = .ok (.iinc 1 1, 3) := by decide +kernel
theorem dX6_keep_23 : decode cX6_keep 23 = .ok (.goto (-21), 3) := by decide +kernel
theorem dX6_keep_26 : decode cX6_keep 26 = .ok (.return_, 1) := by decide +kernel
theorem dX6_bring_0 : decode cX6_bring 0 = .ok (.iconst 0, 1) := by decide +kernel
theorem dX6_bring_1 : decode cX6_bring 1 = .ok (.istore_n 1, 1) := by decide +kernel
theorem dX6_bring_2 : decode cX6_bring 2 = .ok (.iload_n 1, 1) := by decide +kernel
theorem dX6_bring_3 : decode cX6_bring 3 = .ok (.bipush 58, 2) := by decide +kernel
theorem dX6_bring_5 : decode cX6_bring 5 = .ok (.if_icmp .ge 21, 3) := by decide +kernel
theorem dX6_bring_8 : decode cX6_bring 8 = .ok (.aload_n 0, 1) := by decide +kernel
theorem dX6_bring_9 : decode cX6_bring 9 = .ok (.getfield 7, 3) := by decide +kernel
theorem dX6_bring_12 : decode cX6_bring 12 = .ok (.iload_n 1, 1) := by decide +kernel
theorem dX6_bring_13 : decode cX6_bring 13 = .ok (.aload_n 0, 1) := by decide +kernel
theorem dX6_bring_14 : decode cX6_bring 14 = .ok (.getfield 57, 3) := by decide +kernel
theorem dX6_bring_17 : decode cX6_bring 17 = .ok (.iload_n 1, 1) := by decide +kernel
theorem dX6_bring_18 : decode cX6_bring 18 = .ok (.iaload, 1) := by decide +kernel
theorem dX6_bring_19 : decode cX6_bring 19 = .ok (.iastore, 1) := by decide +kernel
theorem dX6_bring_20 : decode cX6_bring 20 = .ok (.iinc 1 1, 3) := by decide +kernel
theorem dX6_bring_23 : decode cX6_bring 23 = .ok (.goto (-21), 3) := by decide +kernel
theorem dX6_bring_26 : decode cX6_bring 26 = .ok (.return_, 1) := by decide +kernel
theorem dX6_goes_0 : decode cX6_goes 0 = .ok (.aload_n 0, 1) := by decide +kernel
theorem dX6_goes_1 : decode cX6_goes 1 = .ok (.invokevirtual 232, 3) := by decide +kernel
theorem dX6_goes_4 : decode cX6_goes 4 = .ok (.istore_n 1, 1) := by decide +kernel
theorem dX6_goes_5 : decode cX6_goes 5 = .ok (.iload_n 1, 1) := by decide +kernel
theorem dX6_goes_6 : decode cX6_goes 6 = .ok (.iconst (-1), 1) := by decide +kernel
theorem dX6_goes_7 : decode cX6_goes 7 = .ok (.if_icmp .eq 8, 3) := by decide +kernel
theorem dX6_goes_10 : decode cX6_goes 10 = .ok (.bipush (-10), 2) := by decide +kernel
theorem dX6_goes_12 : decode cX6_goes 12 = .ok (.iload_n 1, 1) := by decide +kernel
theorem dX6_goes_13 : decode cX6_goes 13 = .ok (.isub, 1) := by decide +kernel
theorem dX6_goes_14 : decode cX6_goes 14 = .ok (.ireturn, 1) := by decide +kernel
theorem dX6_goes_15 : decode cX6_goes 15 = .ok (.aload_n 0, 1) := by decide +kernel
theorem dX6_goes_16 : decode cX6_goes 16 = .ok (.invokevirtual 86, 3) := by decide +kernel
theorem dX6_goes_19 : decode cX6_goes 19 = .ok (.aload_n 0, 1) := by decide +kernel
theorem dX6_goes_20 : decode cX6_goes 20 = .ok (.invokevirtual 235, 3) := by decide +kernel
theorem dX6_goes_23 : decode cX6_goes 23 = .ok (.istore_n 2, 1) := by decide +kernel
theorem dX6_goes_24 : decode cX6_goes 24 = .ok (.aload_n 0, 1) := by decide +kernel
theorem dX6_goes_25 : decode cX6_goes 25 = .ok (.iload_n 2, 1) := by decide +kernel
theorem dX6_goes_26 : decode cX6_goes 26 = .ok (.invokevirtual 238, 3) := by decide +kernel
theorem dX6_goes_29 : decode cX6_goes 29 = .ok (.iload_n 2, 1) := by decide +kernel
theorem dX6_goes_30 : decode cX6_goes 30 = .ok (.ireturn, 1) := by decide +kernel
theorem dX6_tries_0 : decode cX6_tries 0 = .ok (.aload_n 0, 1) := by decide +kernel
theorem dX6_tries_1 : decode cX6_tries 1 = .ok (.invokevirtual 232, 3) := by decide +kernel
theorem dX6_tries_4 : decode cX6_tries 4 = .ok (.istore_n 1, 1) := by decide +kernel
theorem dX6_tries_5 : decode cX6_tries 5 = .ok (.iload_n 1, 1) := by decide +kernel
theorem dX6_tries_6 : decode cX6_tries 6 = .ok (.iconst (-1), 1) := by decide +kernel
theorem dX6_tries_7 : decode cX6_tries 7 = .ok (.if_icmp .eq 8, 3) := by decide +kernel
theorem dX6_tries_10 : decode cX6_tries 10 = .ok (.bipush (-10), 2) := by decide +kernel
theorem dX6_tries_12 : decode cX6_tries 12 = .ok (.iload_n 1, 1) := by decide +kernel
theorem dX6_tries_13 : decode cX6_tries 13 = .ok (.isub, 1) := by decide +kernel
theorem dX6_tries_14 : decode cX6_tries 14 = .ok (.ireturn, 1) := by decide +kernel
theorem dX6_tries_15 : decode cX6_tries 15 = .ok (.aload_n 0, 1) := by decide +kernel
theorem dX6_tries_16 : decode cX6_tries 16 = .ok (.invokevirtual 241, 3) := by decide +kernel
theorem dX6_tries_19 : decode cX6_tries 19 = .ok (.aload_n 0, 1) := by decide +kernel
theorem dX6_tries_20 : decode cX6_tries 20 = .ok (.invokevirtual 235, 3) := by decide +kernel
theorem dX6_tries_23 : decode cX6_tries 23 = .ok (.istore_n 2, 1) := by decide +kernel
theorem dX6_tries_24 : decode cX6_tries 24 = .ok (.aload_n 0, 1) := by decide +kernel
theorem dX6_tries_25 : decode cX6_tries 25 = .ok (.iload_n 2, 1) := by decide +kernel
theorem dX6_tries_26 : decode cX6_tries 26 = .ok (.invokevirtual 238, 3) := by decide +kernel
theorem dX6_tries_29 : decode cX6_tries 29 = .ok (.aload_n 0, 1) := by decide +kernel
theorem dX6_tries_30 : decode cX6_tries 30 = .ok (.invokevirtual 244, 3) := by decide +kernel
theorem dX6_tries_33 : decode cX6_tries 33 = .ok (.iload_n 2, 1) := by decide +kernel
theorem dX6_tries_34 : decode cX6_tries 34 = .ok (.ireturn, 1) := by decide +kernel
theorem dX6_often_0 : decode cX6_often 0 = .ok (.iload_n 1, 1) := by decide +kernel
theorem dX6_often_1 : decode cX6_often 1 = .ok (.i2l, 1) := by decide +kernel
theorem dX6_often_2 : decode cX6_often 2 = .ok (.lconst 1, 1) := by decide +kernel
theorem dX6_often_3 : decode cX6_often 3 = .ok (.ldc2_w 80, 3) := by decide +kernel
theorem dX6_often_6 : decode cX6_often 6 = .ok (.invokestatic 62, 3) := by decide +kernel
theorem dX6_often_9 : decode cX6_often 9 = .ok (.ifCond .ne 10, 3) := by decide +kernel
theorem dX6_often_12 : decode cX6_often 12 = .ok (.aload_n 0, 1) := by decide +kernel
theorem dX6_often_13 : decode cX6_often 13 = .ok (.bipush (-2), 2) := by decide +kernel
theorem dX6_often_15 : decode cX6_often 15 = .ok (.invokevirtual 82, 3) := by decide +kernel
theorem dX6_often_18 : decode cX6_often 18 = .ok (.ireturn, 1) := by decide +kernel
theorem dX6_often_19 : decode cX6_often 19 = .ok (.aload_n 0, 1) := by decide +kernel
theorem dX6_often_20 : decode cX6_often 20 = .ok (.invokevirtual 232, 3) := by decide +kernel
theorem dX6_often_23 : decode cX6_often 23 = .ok (.istore_n 2, 1) := by decide +kernel
theorem dX6_often_24 : decode cX6_often 24 = .ok (.iload_n 2, 1) := by decide +kernel
theorem dX6_often_25 : decode cX6_often 25 = .ok (.iconst (-1), 1) := by decide +kernel
theorem dX6_often_26 : decode cX6_often 26 = .ok (.if_icmp .eq 8, 3) := by decide +kernel
theorem dX6_often_29 : decode cX6_often 29 = .ok (.bipush (-10), 2) := by decide +kernel
theorem dX6_often_31 : decode cX6_often 31 = .ok (.iload_n 2, 1) := by decide +kernel
theorem dX6_often_32 : decode cX6_often 32 = .ok (.isub, 1) := by decide +kernel
theorem dX6_often_33 : decode cX6_often 33 = .ok (.ireturn, 1) := by decide +kernel
theorem dX6_often_34 : decode cX6_often 34 = .ok (.aload_n 0, 1) := by decide +kernel
theorem dX6_often_35 : decode cX6_often 35 = .ok (.invokevirtual 86, 3) := by decide +kernel
theorem dX6_often_38 : decode cX6_often 38 = .ok (.iconst 0, 1) := by decide +kernel
theorem dX6_often_39 : decode cX6_often 39 = .ok (.istore_n 3, 1) := by decide +kernel
theorem dX6_often_40 : decode cX6_often 40 = .ok (.iconst 0, 1) := by decide +kernel
theorem dX6_often_41 : decode cX6_often 41 = .ok (.istore 4, 2) := by decide +kernel
theorem dX6_often_43 : decode cX6_often 43 = .ok (.iconst 0, 1) := by decide +kernel
theorem dX6_often_44 : decode cX6_often 44 = .ok (.istore 5, 2) := by decide +kernel
theorem dX6_often_46 : decode cX6_often 46 = .ok (.iload 5, 2) := by decide +kernel
theorem dX6_often_48 : decode cX6_often 48 = .ok (.iload_n 1, 1) := by decide +kernel
theorem dX6_often_49 : decode cX6_often 49 = .ok (.if_icmp .ge 39, 3) := by decide +kernel
theorem dX6_often_52 : decode cX6_often 52 = .ok (.iload 4, 2) := by decide +kernel
theorem dX6_often_54 : decode cX6_often 54 = .ok (.ifCond .ne 34, 3) := by decide +kernel
theorem dX6_often_57 : decode cX6_often 57 = .ok (.aload_n 0, 1) := by decide +kernel
theorem dX6_often_58 : decode cX6_often 58 = .ok (.invokevirtual 235, 3) := by decide +kernel
theorem dX6_often_61 : decode cX6_often 61 = .ok (.istore 4, 2) := by decide +kernel
theorem dX6_often_63 : decode cX6_often 63 = .ok (.aload_n 0, 1) := by decide +kernel
theorem dX6_often_64 : decode cX6_often 64 = .ok (.iload 4, 2) := by decide +kernel
theorem dX6_often_66 : decode cX6_often 66 = .ok (.invokevirtual 238, 3) := by decide +kernel
theorem dX6_often_69 : decode cX6_often 69 = .ok (.iload_n 3, 1) := by decide +kernel
theorem dX6_often_70 : decode cX6_often 70 = .ok (.iload 4, 2) := by decide +kernel
theorem dX6_often_72 : decode cX6_often 72 = .ok (.ifCond .ne 7, 3) := by decide +kernel
theorem dX6_often_75 : decode cX6_often 75 = .ok (.iconst 1, 1) := by decide +kernel
theorem dX6_often_76 : decode cX6_often 76 = .ok (.goto 4, 3) := by decide +kernel
theorem dX6_often_79 : decode cX6_often 79 = .ok (.iconst 0, 1) := by decide +kernel
theorem dX6_often_80 : decode cX6_often 80 = .ok (.iadd, 1) := by decide +kernel
theorem dX6_often_81 : decode cX6_often 81 = .ok (.istore_n 3, 1) := by decide +kernel
theorem dX6_often_82 : decode cX6_often 82 = .ok (.iinc 5 1, 3) := by decide +kernel
theorem dX6_often_85 : decode cX6_often 85 = .ok (.goto (-39), 3) := by decide +kernel
theorem dX6_often_88 : decode cX6_often 88 = .ok (.iload_n 3, 1) := by decide +kernel
theorem dX6_often_89 : decode cX6_often 89 = .ok (.ireturn, 1) := by decide +kernel
theorem dX6_toldWas_0 : decode cX6_toldWas 0 = .ok (.aload_n 0, 1) := by decide +kernel
theorem dX6_toldWas_1 : decode cX6_toldWas 1 = .ok (.getfield 225, 3) := by decide +kernel
theorem dX6_toldWas_4 : decode cX6_toldWas 4 = .ok (.ifCond .eq 12, 3) := by decide +kernel
theorem dX6_toldWas_7 : decode cX6_toldWas 7 = .ok (.aload_n 0, 1) := by decide +kernel
theorem dX6_toldWas_8 : decode cX6_toldWas 8 = .ok (.getfield 47, 3) := by decide +kernel
theorem dX6_toldWas_11 : decode cX6_toldWas 11 = .ok (.iload_n 1, 1) := by decide +kernel
theorem dX6_toldWas_12 : decode cX6_toldWas 12 = .ok (.iaload, 1) := by decide +kernel
theorem dX6_toldWas_13 : decode cX6_toldWas 13 = .ok (.goto 18, 3) := by decide +kernel
theorem dX6_toldWas_16 : decode cX6_toldWas 16 = .ok (.iload_n 1, 1) := by decide +kernel
theorem dX6_toldWas_17 : decode cX6_toldWas 17 = .ok (.iconst 1, 1) := by decide +kernel
theorem dX6_toldWas_18 : decode cX6_toldWas 18 = .ok (.if_icmp .eq 8, 3) := by decide +kernel
theorem dX6_toldWas_21 : decode cX6_toldWas 21 = .ok (.iload_n 1, 1) := by decide +kernel
theorem dX6_toldWas_22 : decode cX6_toldWas 22 = .ok (.iconst 2, 1) := by decide +kernel
theorem dX6_toldWas_23 : decode cX6_toldWas 23 = .ok (.if_icmp .ne 7, 3) := by decide +kernel
theorem dX6_toldWas_26 : decode cX6_toldWas 26 = .ok (.iconst (-1), 1) := by decide +kernel
theorem dX6_toldWas_27 : decode cX6_toldWas 27 = .ok (.goto 4, 3) := by decide +kernel
theorem dX6_toldWas_30 : decode cX6_toldWas 30 = .ok (.iconst 0, 1) := by decide +kernel
theorem dX6_toldWas_31 : decode cX6_toldWas 31 = .ok (.ireturn, 1) := by decide +kernel
theorem dX6_was_0 : decode cX6_was 0 = .ok (.iload_n 1, 1) := by decide +kernel
theorem dX6_was_1 : decode cX6_was 1 = .ok (.i2l, 1) := by decide +kernel
theorem dX6_was_2 : decode cX6_was 2 = .ok (.lconst 0, 1) := by decide +kernel
theorem dX6_was_3 : decode cX6_was 3 = .ok (.ldc2_w 60, 3) := by decide +kernel
theorem dX6_was_6 : decode cX6_was 6 = .ok (.invokestatic 62, 3) := by decide +kernel
theorem dX6_was_9 : decode cX6_was 9 = .ok (.ifCond .eq 11, 3) := by decide +kernel
theorem dX6_was_12 : decode cX6_was 12 = .ok (.aload_n 0, 1) := by decide +kernel
theorem dX6_was_13 : decode cX6_was 13 = .ok (.iload_n 1, 1) := by decide +kernel
theorem dX6_was_14 : decode cX6_was 14 = .ok (.invokevirtual 247, 3) := by decide +kernel
theorem dX6_was_17 : decode cX6_was 17 = .ok (.goto 9, 3) := by decide +kernel
theorem dX6_was_20 : decode cX6_was 20 = .ok (.aload_n 0, 1) := by decide +kernel
theorem dX6_was_21 : decode cX6_was 21 = .ok (.bipush (-2), 2) := by decide +kernel
theorem dX6_was_23 : decode cX6_was 23 = .ok (.invokevirtual 82, 3) := by decide +kernel
theorem dX6_was_26 : decode cX6_was 26 = .ok (.ireturn, 1) := by decide +kernel
theorem dX6_root_0 : decode cX6_root 0 = .ok (.aload_n 0, 1) := by decide +kernel
theorem dX6_root_1 : decode cX6_root 1 = .ok (.getfield 50, 3) := by decide +kernel
theorem dX6_root_4 : decode cX6_root 4 = .ok (.ireturn, 1) := by decide +kernel
theorem dX6_diary_0 : decode cX6_diary 0 = .ok (.iload_n 1, 1) := by decide +kernel
theorem dX6_diary_1 : decode cX6_diary 1 = .ok (.iconst (-1), 1) := by decide +kernel
theorem dX6_diary_2 : decode cX6_diary 2 = .ok (.if_icmp .ge 10, 3) := by decide +kernel
theorem dX6_diary_5 : decode cX6_diary 5 = .ok (.aload_n 0, 1) := by decide +kernel
theorem dX6_diary_6 : decode cX6_diary 6 = .ok (.bipush (-10), 2) := by decide +kernel
theorem dX6_diary_8 : decode cX6_diary 8 = .ok (.invokevirtual 82, 3) := by decide +kernel
theorem dX6_diary_11 : decode cX6_diary 11 = .ok (.ireturn, 1) := by decide +kernel
theorem dX6_diary_12 : decode cX6_diary 12 = .ok (.iload_n 1, 1) := by decide +kernel
theorem dX6_diary_13 : decode cX6_diary 13 = .ok (.iconst (-1), 1) := by decide +kernel
theorem dX6_diary_14 : decode cX6_diary 14 = .ok (.if_icmp .ne 10, 3) := by decide +kernel
theorem dX6_diary_17 : decode cX6_diary 17 = .ok (.aload_n 0, 1) := by decide +kernel
theorem dX6_diary_18 : decode cX6_diary 18 = .ok (.getfield 229, 3) := by decide +kernel
theorem dX6_diary_21 : decode cX6_diary 21 = .ok (.goto 22, 3) := by decide +kernel
theorem dX6_diary_24 : decode cX6_diary 24 = .ok (.iload_n 1, 1) := by decide +kernel
theorem dX6_diary_25 : decode cX6_diary 25 = .ok (.aload_n 0, 1) := by decide +kernel
theorem dX6_diary_26 : decode cX6_diary 26 = .ok (.getfield 229, 3) := by decide +kernel
theorem dX6_diary_29 : decode cX6_diary 29 = .ok (.if_icmp .ge 12, 3) := by decide +kernel
theorem dX6_diary_32 : decode cX6_diary 32 = .ok (.aload_n 0, 1) := by decide +kernel
theorem dX6_diary_33 : decode cX6_diary 33 = .ok (.getfield 54, 3) := by decide +kernel
theorem dX6_diary_36 : decode cX6_diary 36 = .ok (.iload_n 1, 1) := by decide +kernel
theorem dX6_diary_37 : decode cX6_diary 37 = .ok (.iaload, 1) := by decide +kernel
theorem dX6_diary_38 : decode cX6_diary 38 = .ok (.goto 5, 3) := by decide +kernel
theorem dX6_diary_41 : decode cX6_diary 41 = .ok (.bipush (-5), 2) := by decide +kernel
theorem dX6_diary_43 : decode cX6_diary 43 = .ok (.ireturn, 1) := by decide +kernel
theorem dX6_open_0 : decode cX6_open 0 = .ok (.iconst 0, 1) := by decide +kernel
theorem dX6_open_1 : decode cX6_open 1 = .ok (.ireturn, 1) := by decide +kernel
theorem dX6_endBy_0 : decode cX6_endBy 0 = .ok (.aload_n 0, 1) := by decide +kernel
theorem dX6_endBy_1 : decode cX6_endBy 1 = .ok (.getfield 7, 3) := by decide +kernel
theorem dX6_endBy_4 : decode cX6_endBy 4 = .ok (.bipush 56, 2) := by decide +kernel
theorem dX6_endBy_6 : decode cX6_endBy 6 = .ok (.iload_n 1, 1) := by decide +kernel
theorem dX6_endBy_7 : decode cX6_endBy 7 = .ok (.iastore, 1) := by decide +kernel
theorem dX6_endBy_8 : decode cX6_endBy 8 = .ok (.aload_n 0, 1) := by decide +kernel
theorem dX6_endBy_9 : decode cX6_endBy 9 = .ok (.invokevirtual 235, 3) := by decide +kernel
theorem dX6_endBy_12 : decode cX6_endBy 12 = .ok (.istore_n 2, 1) := by decide +kernel
theorem dX6_endBy_13 : decode cX6_endBy 13 = .ok (.aload_n 0, 1) := by decide +kernel
theorem dX6_endBy_14 : decode cX6_endBy 14 = .ok (.invokevirtual 244, 3) := by decide +kernel
theorem dX6_endBy_17 : decode cX6_endBy 17 = .ok (.iload_n 2, 1) := by decide +kernel
theorem dX6_endBy_18 : decode cX6_endBy 18 = .ok (.ireturn, 1) := by decide +kernel
theorem dX6_bits_0 : decode cX6_bits 0 = .ok (.iconst 0, 1) := by decide +kernel
theorem dX6_bits_1 : decode cX6_bits 1 = .ok (.istore_n 1, 1) := by decide +kernel
theorem dX6_bits_2 : decode cX6_bits 2 = .ok (.iload_n 0, 1) := by decide +kernel
theorem dX6_bits_3 : decode cX6_bits 3 = .ok (.istore_n 2, 1) := by decide +kernel
theorem dX6_bits_4 : decode cX6_bits 4 = .ok (.iload_n 2, 1) := by decide +kernel
theorem dX6_bits_5 : decode cX6_bits 5 = .ok (.ifCond .le 16, 3) := by decide +kernel
theorem dX6_bits_8 : decode cX6_bits 8 = .ok (.iload_n 1, 1) := by decide +kernel
theorem dX6_bits_9 : decode cX6_bits 9 = .ok (.iload_n 2, 1) := by decide +kernel
theorem dX6_bits_10 : decode cX6_bits 10 = .ok (.iconst 1, 1) := by decide +kernel
theorem dX6_bits_11 : decode cX6_bits 11 = .ok (.iand, 1) := by decide +kernel
theorem dX6_bits_12 : decode cX6_bits 12 = .ok (.iadd, 1) := by decide +kernel
theorem dX6_bits_13 : decode cX6_bits 13 = .ok (.istore_n 1, 1) := by decide +kernel
theorem dX6_bits_14 : decode cX6_bits 14 = .ok (.iload_n 2, 1) := by decide +kernel
theorem dX6_bits_15 : decode cX6_bits 15 = .ok (.iconst 1, 1) := by decide +kernel
theorem dX6_bits_16 : decode cX6_bits 16 = .ok (.ishr, 1) := by decide +kernel
theorem dX6_bits_17 : decode cX6_bits 17 = .ok (.istore_n 2, 1) := by decide +kernel
theorem dX6_bits_18 : decode cX6_bits 18 = .ok (.goto (-14), 3) := by decide +kernel
theorem dX6_bits_21 : decode cX6_bits 21 = .ok (.iload_n 1, 1) := by decide +kernel
theorem dX6_bits_22 : decode cX6_bits 22 = .ok (.ireturn, 1) := by decide +kernel
theorem dX6_fewest_0 : decode cX6_fewest 0 = .ok (.aload_n 0, 1) := by decide +kernel
theorem dX6_fewest_1 : decode cX6_fewest 1 = .ok (.invokevirtual 232, 3) := by decide +kernel
theorem dX6_fewest_4 : decode cX6_fewest 4 = .ok (.istore_n 1, 1) := by decide +kernel
theorem dX6_fewest_5 : decode cX6_fewest 5 = .ok (.iload_n 1, 1) := by decide +kernel
theorem dX6_fewest_6 : decode cX6_fewest 6 = .ok (.iconst (-1), 1) := by decide +kernel
theorem dX6_fewest_7 : decode cX6_fewest 7 = .ok (.if_icmp .eq 8, 3) := by decide +kernel
theorem dX6_fewest_10 : decode cX6_fewest 10 = .ok (.bipush (-10), 2) := by decide +kernel
theorem dX6_fewest_12 : decode cX6_fewest 12 = .ok (.iload_n 1, 1) := by decide +kernel
theorem dX6_fewest_13 : decode cX6_fewest 13 = .ok (.isub, 1) := by decide +kernel
theorem dX6_fewest_14 : decode cX6_fewest 14 = .ok (.ireturn, 1) := by decide +kernel
theorem dX6_fewest_15 : decode cX6_fewest 15 = .ok (.iconst (-1), 1) := by decide +kernel
theorem dX6_fewest_16 : decode cX6_fewest 16 = .ok (.istore_n 2, 1) := by decide +kernel
theorem dX6_fewest_17 : decode cX6_fewest 17 = .ok (.aload_n 0, 1) := by decide +kernel
theorem dX6_fewest_18 : decode cX6_fewest 18 = .ok (.invokevirtual 241, 3) := by decide +kernel
theorem dX6_fewest_21 : decode cX6_fewest 21 = .ok (.iconst 0, 1) := by decide +kernel
theorem dX6_fewest_22 : decode cX6_fewest 22 = .ok (.istore_n 3, 1) := by decide +kernel
theorem dX6_fewest_23 : decode cX6_fewest 23 = .ok (.iload_n 3, 1) := by decide +kernel
theorem dX6_fewest_24 : decode cX6_fewest 24 = .ok (.bipush 16, 2) := by decide +kernel
theorem dX6_fewest_26 : decode cX6_fewest 26 = .ok (.if_icmp .ge 51, 3) := by decide +kernel
theorem dX6_fewest_29 : decode cX6_fewest 29 = .ok (.iload_n 2, 1) := by decide +kernel
theorem dX6_fewest_30 : decode cX6_fewest 30 = .ok (.iconst (-1), 1) := by decide +kernel
theorem dX6_fewest_31 : decode cX6_fewest 31 = .ok (.if_icmp .eq 14, 3) := by decide +kernel
theorem dX6_fewest_34 : decode cX6_fewest 34 = .ok (.iload_n 3, 1) := by decide +kernel
theorem dX6_fewest_35 : decode cX6_fewest 35 = .ok (.invokestatic 250, 3) := by decide +kernel
theorem dX6_fewest_38 : decode cX6_fewest 38 = .ok (.iload_n 2, 1) := by decide +kernel
theorem dX6_fewest_39 : decode cX6_fewest 39 = .ok (.invokestatic 250, 3) := by decide +kernel
theorem dX6_fewest_42 : decode cX6_fewest 42 = .ok (.if_icmp .ge 7, 3) := by decide +kernel
theorem dX6_fewest_45 : decode cX6_fewest 45 = .ok (.iconst 1, 1) := by decide +kernel
theorem dX6_fewest_46 : decode cX6_fewest 46 = .ok (.goto 4, 3) := by decide +kernel
theorem dX6_fewest_49 : decode cX6_fewest 49 = .ok (.iconst 0, 1) := by decide +kernel
theorem dX6_fewest_50 : decode cX6_fewest 50 = .ok (.istore 4, 2) := by decide +kernel
theorem dX6_fewest_52 : decode cX6_fewest 52 = .ok (.iload 4, 2) := by decide +kernel
theorem dX6_fewest_54 : decode cX6_fewest 54 = .ok (.ifCond .eq 15, 3) := by decide +kernel
theorem dX6_fewest_57 : decode cX6_fewest 57 = .ok (.aload_n 0, 1) := by decide +kernel
theorem dX6_fewest_58 : decode cX6_fewest 58 = .ok (.iload_n 3, 1) := by decide +kernel
theorem dX6_fewest_59 : decode cX6_fewest 59 = .ok (.invokevirtual 253, 3) := by decide +kernel
theorem dX6_fewest_62 : decode cX6_fewest 62 = .ok (.ifCond .ne 7, 3) := by decide +kernel
theorem dX6_fewest_65 : decode cX6_fewest 65 = .ok (.iload_n 3, 1) := by decide +kernel
theorem dX6_fewest_66 : decode cX6_fewest 66 = .ok (.goto 4, 3) := by decide +kernel
theorem dX6_fewest_69 : decode cX6_fewest 69 = .ok (.iload_n 2, 1) := by decide +kernel
theorem dX6_fewest_70 : decode cX6_fewest 70 = .ok (.istore_n 2, 1) := by decide +kernel
theorem dX6_fewest_71 : decode cX6_fewest 71 = .ok (.iinc 3 2, 3) := by decide +kernel
theorem dX6_fewest_74 : decode cX6_fewest 74 = .ok (.goto (-51), 3) := by decide +kernel
theorem dX6_fewest_77 : decode cX6_fewest 77 = .ok (.iload_n 2, 1) := by decide +kernel
theorem dX6_fewest_78 : decode cX6_fewest 78 = .ok (.ireturn, 1) := by decide +kernel
theorem dX6_were_0 : decode cX6_were 0 = .ok (.iload_n 1, 1) := by decide +kernel
theorem dX6_were_1 : decode cX6_were 1 = .ok (.invokestatic 76, 3) := by decide +kernel
theorem dX6_were_4 : decode cX6_were 4 = .ok (.ifCond .eq 15, 3) := by decide +kernel
theorem dX6_were_7 : decode cX6_were 7 = .ok (.iload_n 2, 1) := by decide +kernel
theorem dX6_were_8 : decode cX6_were 8 = .ok (.i2l, 1) := by decide +kernel
theorem dX6_were_9 : decode cX6_were 9 = .ok (.lconst 0, 1) := by decide +kernel
theorem dX6_were_10 : decode cX6_were 10 = .ok (.ldc2_w 256, 3) := by decide +kernel
theorem dX6_were_13 : decode cX6_were 13 = .ok (.invokestatic 62, 3) := by decide +kernel
theorem dX6_were_16 : decode cX6_were 16 = .ok (.ifCond .ne 10, 3) := by decide +kernel
theorem dX6_were_19 : decode cX6_were 19 = .ok (.aload_n 0, 1) := by decide +kernel
theorem dX6_were_20 : decode cX6_were 20 = .ok (.bipush (-2), 2) := by decide +kernel
theorem dX6_were_22 : decode cX6_were 22 = .ok (.invokevirtual 82, 3) := by decide +kernel
theorem dX6_were_25 : decode cX6_were 25 = .ok (.ireturn, 1) := by decide +kernel
theorem dX6_were_26 : decode cX6_were 26 = .ok (.aload_n 0, 1) := by decide +kernel
theorem dX6_were_27 : decode cX6_were 27 = .ok (.invokevirtual 232, 3) := by decide +kernel
theorem dX6_were_30 : decode cX6_were 30 = .ok (.istore_n 3, 1) := by decide +kernel
theorem dX6_were_31 : decode cX6_were 31 = .ok (.iload_n 3, 1) := by decide +kernel
theorem dX6_were_32 : decode cX6_were 32 = .ok (.iconst (-1), 1) := by decide +kernel
theorem dX6_were_33 : decode cX6_were 33 = .ok (.if_icmp .eq 8, 3) := by decide +kernel
theorem dX6_were_36 : decode cX6_were 36 = .ok (.bipush (-10), 2) := by decide +kernel
theorem dX6_were_38 : decode cX6_were 38 = .ok (.iload_n 3, 1) := by decide +kernel
theorem dX6_were_39 : decode cX6_were 39 = .ok (.isub, 1) := by decide +kernel
theorem dX6_were_40 : decode cX6_were 40 = .ok (.ireturn, 1) := by decide +kernel
theorem dX6_were_41 : decode cX6_were 41 = .ok (.aload_n 0, 1) := by decide +kernel
theorem dX6_were_42 : decode cX6_were 42 = .ok (.invokevirtual 241, 3) := by decide +kernel
theorem dX6_were_45 : decode cX6_were 45 = .ok (.aload_n 0, 1) := by decide +kernel
theorem dX6_were_46 : decode cX6_were 46 = .ok (.iload_n 1, 1) := by decide +kernel
theorem dX6_were_47 : decode cX6_were 47 = .ok (.iconst 0, 1) := by decide +kernel
theorem dX6_were_48 : decode cX6_were 48 = .ok (.iload_n 2, 1) := by decide +kernel
theorem dX6_were_49 : decode cX6_were 49 = .ok (.invokevirtual 89, 3) := by decide +kernel
theorem dX6_were_52 : decode cX6_were 52 = .ok (.aload_n 0, 1) := by decide +kernel
theorem dX6_were_53 : decode cX6_were 53 = .ok (.invokevirtual 235, 3) := by decide +kernel
theorem dX6_were_56 : decode cX6_were 56 = .ok (.istore 4, 2) := by decide +kernel
theorem dX6_were_58 : decode cX6_were 58 = .ok (.aload_n 0, 1) := by decide +kernel
theorem dX6_were_59 : decode cX6_were 59 = .ok (.invokevirtual 244, 3) := by decide +kernel
theorem dX6_were_62 : decode cX6_were 62 = .ok (.iload 4, 2) := by decide +kernel
theorem dX6_were_64 : decode cX6_were 64 = .ok (.ireturn, 1) := by decide +kernel
theorem dX6_cures_0 : decode cX6_cures 0 = .ok (.iload_n 1, 1) := by decide +kernel
theorem dX6_cures_1 : decode cX6_cures 1 = .ok (.i2l, 1) := by decide +kernel
theorem dX6_cures_2 : decode cX6_cures 2 = .ok (.lconst 0, 1) := by decide +kernel
theorem dX6_cures_3 : decode cX6_cures 3 = .ok (.ldc2_w 258, 3) := by decide +kernel
theorem dX6_cures_6 : decode cX6_cures 6 = .ok (.invokestatic 62, 3) := by decide +kernel
theorem dX6_cures_9 : decode cX6_cures 9 = .ok (.ifCond .ne 10, 3) := by decide +kernel
theorem dX6_cures_12 : decode cX6_cures 12 = .ok (.aload_n 0, 1) := by decide +kernel
theorem dX6_cures_13 : decode cX6_cures 13 = .ok (.bipush (-2), 2) := by decide +kernel
theorem dX6_cures_15 : decode cX6_cures 15 = .ok (.invokevirtual 82, 3) := by decide +kernel
theorem dX6_cures_18 : decode cX6_cures 18 = .ok (.ireturn, 1) := by decide +kernel
theorem dX6_cures_19 : decode cX6_cures 19 = .ok (.aload_n 0, 1) := by decide +kernel
theorem dX6_cures_20 : decode cX6_cures 20 = .ok (.invokevirtual 232, 3) := by decide +kernel
theorem dX6_cures_23 : decode cX6_cures 23 = .ok (.istore_n 2, 1) := by decide +kernel
theorem dX6_cures_24 : decode cX6_cures 24 = .ok (.iload_n 2, 1) := by decide +kernel
theorem dX6_cures_25 : decode cX6_cures 25 = .ok (.iconst (-1), 1) := by decide +kernel
theorem dX6_cures_26 : decode cX6_cures 26 = .ok (.if_icmp .eq 8, 3) := by decide +kernel
theorem dX6_cures_29 : decode cX6_cures 29 = .ok (.bipush (-10), 2) := by decide +kernel
theorem dX6_cures_31 : decode cX6_cures 31 = .ok (.iload_n 2, 1) := by decide +kernel
theorem dX6_cures_32 : decode cX6_cures 32 = .ok (.isub, 1) := by decide +kernel
theorem dX6_cures_33 : decode cX6_cures 33 = .ok (.ireturn, 1) := by decide +kernel
theorem dX6_cures_34 : decode cX6_cures 34 = .ok (.iconst 0, 1) := by decide +kernel
theorem dX6_cures_35 : decode cX6_cures 35 = .ok (.istore_n 3, 1) := by decide +kernel
theorem dX6_cures_36 : decode cX6_cures 36 = .ok (.aload_n 0, 1) := by decide +kernel
theorem dX6_cures_37 : decode cX6_cures 37 = .ok (.invokevirtual 241, 3) := by decide +kernel
theorem dX6_cures_40 : decode cX6_cures 40 = .ok (.iconst 0, 1) := by decide +kernel
theorem dX6_cures_41 : decode cX6_cures 41 = .ok (.istore 4, 2) := by decide +kernel
theorem dX6_cures_43 : decode cX6_cures 43 = .ok (.iload 4, 2) := by decide +kernel
theorem dX6_cures_45 : decode cX6_cures 45 = .ok (.bipush 8, 2) := by decide +kernel
theorem dX6_cures_47 : decode cX6_cures 47 = .ok (.if_icmp .ge 56, 3) := by decide +kernel
theorem dX6_cures_50 : decode cX6_cures 50 = .ok (.aload_n 0, 1) := by decide +kernel
theorem dX6_cures_51 : decode cX6_cures 51 = .ok (.iload 4, 2) := by decide +kernel
theorem dX6_cures_53 : decode cX6_cures 53 = .ok (.iload_n 1, 1) := by decide +kernel
theorem dX6_cures_54 : decode cX6_cures 54 = .ok (.ifCond .ne 7, 3) := by decide +kernel
theorem dX6_cures_57 : decode cX6_cures 57 = .ok (.iconst 0, 1) := by decide +kernel
theorem dX6_cures_58 : decode cX6_cures 58 = .ok (.goto 13, 3) := by decide +kernel
theorem dX6_cures_61 : decode cX6_cures 61 = .ok (.iload_n 1, 1) := by decide +kernel
theorem dX6_cures_62 : decode cX6_cures 62 = .ok (.iconst 1, 1) := by decide +kernel
theorem dX6_cures_63 : decode cX6_cures 63 = .ok (.if_icmp .ne 7, 3) := by decide +kernel
theorem dX6_cures_66 : decode cX6_cures 66 = .ok (.iconst 3, 1) := by decide +kernel
theorem dX6_cures_67 : decode cX6_cures 67 = .ok (.goto 4, 3) := by decide +kernel
theorem dX6_cures_70 : decode cX6_cures 70 = .ok (.iconst 1, 1) := by decide +kernel
theorem dX6_cures_71 : decode cX6_cures 71 = .ok (.iconst 0, 1) := by decide +kernel
theorem dX6_cures_72 : decode cX6_cures 72 = .ok (.invokevirtual 89, 3) := by decide +kernel
theorem dX6_cures_75 : decode cX6_cures 75 = .ok (.iload_n 3, 1) := by decide +kernel
theorem dX6_cures_76 : decode cX6_cures 76 = .ok (.aload_n 0, 1) := by decide +kernel
theorem dX6_cures_77 : decode cX6_cures 77 = .ok (.invokevirtual 235, 3) := by decide +kernel
theorem dX6_cures_80 : decode cX6_cures 80 = .ok (.ifCond .ne 10, 3) := by decide +kernel
theorem dX6_cures_83 : decode cX6_cures 83 = .ok (.iconst 1, 1) := by decide +kernel
theorem dX6_cures_84 : decode cX6_cures 84 = .ok (.iload 4, 2) := by decide +kernel
theorem dX6_cures_86 : decode cX6_cures 86 = .ok (.ishl, 1) := by decide +kernel
theorem dX6_cures_87 : decode cX6_cures 87 = .ok (.goto 4, 3) := by decide +kernel
theorem dX6_cures_90 : decode cX6_cures 90 = .ok (.iconst 0, 1) := by decide +kernel
theorem dX6_cures_91 : decode cX6_cures 91 = .ok (.ior, 1) := by decide +kernel
theorem dX6_cures_92 : decode cX6_cures 92 = .ok (.istore_n 3, 1) := by decide +kernel
theorem dX6_cures_93 : decode cX6_cures 93 = .ok (.aload_n 0, 1) := by decide +kernel
theorem dX6_cures_94 : decode cX6_cures 94 = .ok (.invokevirtual 244, 3) := by decide +kernel
theorem dX6_cures_97 : decode cX6_cures 97 = .ok (.iinc 4 1, 3) := by decide +kernel
theorem dX6_cures_100 : decode cX6_cures 100 = .ok (.goto (-57), 3) := by decide +kernel
theorem dX6_cures_103 : decode cX6_cures 103 = .ok (.iload_n 3, 1) := by decide +kernel
theorem dX6_cures_104 : decode cX6_cures 104 = .ok (.ireturn, 1) := by decide +kernel
theorem dX6_ends_0 : decode cX6_ends 0 = .ok (.iload_n 1, 1) := by decide +kernel
theorem dX6_ends_1 : decode cX6_ends 1 = .ok (.i2l, 1) := by decide +kernel
theorem dX6_ends_2 : decode cX6_ends 2 = .ok (.lconst 0, 1) := by decide +kernel
theorem dX6_ends_3 : decode cX6_ends 3 = .ok (.ldc2_w 260, 3) := by decide +kernel
theorem dX6_ends_6 : decode cX6_ends 6 = .ok (.invokestatic 62, 3) := by decide +kernel
theorem dX6_ends_9 : decode cX6_ends 9 = .ok (.ifCond .ne 10, 3) := by decide +kernel
theorem dX6_ends_12 : decode cX6_ends 12 = .ok (.aload_n 0, 1) := by decide +kernel
theorem dX6_ends_13 : decode cX6_ends 13 = .ok (.bipush (-2), 2) := by decide +kernel
theorem dX6_ends_15 : decode cX6_ends 15 = .ok (.invokevirtual 82, 3) := by decide +kernel
theorem dX6_ends_18 : decode cX6_ends 18 = .ok (.ireturn, 1) := by decide +kernel
theorem dX6_ends_19 : decode cX6_ends 19 = .ok (.aload_n 0, 1) := by decide +kernel
theorem dX6_ends_20 : decode cX6_ends 20 = .ok (.invokevirtual 232, 3) := by decide +kernel
theorem dX6_ends_23 : decode cX6_ends 23 = .ok (.istore_n 2, 1) := by decide +kernel
theorem dX6_ends_24 : decode cX6_ends 24 = .ok (.iload_n 2, 1) := by decide +kernel
theorem dX6_ends_25 : decode cX6_ends 25 = .ok (.iconst (-1), 1) := by decide +kernel
theorem dX6_ends_26 : decode cX6_ends 26 = .ok (.if_icmp .eq 8, 3) := by decide +kernel
theorem dX6_ends_29 : decode cX6_ends 29 = .ok (.bipush (-10), 2) := by decide +kernel
theorem dX6_ends_31 : decode cX6_ends 31 = .ok (.iload_n 2, 1) := by decide +kernel
theorem dX6_ends_32 : decode cX6_ends 32 = .ok (.isub, 1) := by decide +kernel
theorem dX6_ends_33 : decode cX6_ends 33 = .ok (.ireturn, 1) := by decide +kernel
theorem dX6_ends_34 : decode cX6_ends 34 = .ok (.iconst 0, 1) := by decide +kernel
theorem dX6_ends_35 : decode cX6_ends 35 = .ok (.istore_n 3, 1) := by decide +kernel
theorem dX6_ends_36 : decode cX6_ends 36 = .ok (.aload_n 0, 1) := by decide +kernel
theorem dX6_ends_37 : decode cX6_ends 37 = .ok (.invokevirtual 241, 3) := by decide +kernel
theorem dX6_ends_40 : decode cX6_ends 40 = .ok (.iconst 0, 1) := by decide +kernel
theorem dX6_ends_41 : decode cX6_ends 41 = .ok (.istore 4, 2) := by decide +kernel
theorem dX6_ends_43 : decode cX6_ends 43 = .ok (.iload 4, 2) := by decide +kernel
theorem dX6_ends_45 : decode cX6_ends 45 = .ok (.bipush 16, 2) := by decide +kernel
theorem dX6_ends_47 : decode cX6_ends 47 = .ok (.if_icmp .ge 27, 3) := by decide +kernel
theorem dX6_ends_50 : decode cX6_ends 50 = .ok (.iload_n 3, 1) := by decide +kernel
theorem dX6_ends_51 : decode cX6_ends 51 = .ok (.aload_n 0, 1) := by decide +kernel
theorem dX6_ends_52 : decode cX6_ends 52 = .ok (.iload 4, 2) := by decide +kernel
theorem dX6_ends_54 : decode cX6_ends 54 = .ok (.invokevirtual 253, 3) := by decide +kernel
theorem dX6_ends_57 : decode cX6_ends 57 = .ok (.iload_n 1, 1) := by decide +kernel
theorem dX6_ends_58 : decode cX6_ends 58 = .ok (.if_icmp .ne 7, 3) := by decide +kernel
theorem dX6_ends_61 : decode cX6_ends 61 = .ok (.iconst 1, 1) := by decide +kernel
theorem dX6_ends_62 : decode cX6_ends 62 = .ok (.goto 4, 3) := by decide +kernel
theorem dX6_ends_65 : decode cX6_ends 65 = .ok (.iconst 0, 1) := by decide +kernel
theorem dX6_ends_66 : decode cX6_ends 66 = .ok (.iadd, 1) := by decide +kernel
theorem dX6_ends_67 : decode cX6_ends 67 = .ok (.istore_n 3, 1) := by decide +kernel
theorem dX6_ends_68 : decode cX6_ends 68 = .ok (.iinc 4 2, 3) := by decide +kernel
theorem dX6_ends_71 : decode cX6_ends 71 = .ok (.goto (-28), 3) := by decide +kernel
theorem dX6_ends_74 : decode cX6_ends 74 = .ok (.iload_n 3, 1) := by decide +kernel
theorem dX6_ends_75 : decode cX6_ends 75 = .ok (.ireturn, 1) := by decide +kernel
theorem dX6_told_0 : decode cX6_told 0 = .ok (.iload_n 1, 1) := by decide +kernel
theorem dX6_told_1 : decode cX6_told 1 = .ok (.i2l, 1) := by decide +kernel
theorem dX6_told_2 : decode cX6_told 2 = .ok (.lconst 0, 1) := by decide +kernel
theorem dX6_told_3 : decode cX6_told 3 = .ok (.ldc2_w 258, 3) := by decide +kernel
theorem dX6_told_6 : decode cX6_told 6 = .ok (.invokestatic 62, 3) := by decide +kernel
theorem dX6_told_9 : decode cX6_told 9 = .ok (.ifCond .ne 10, 3) := by decide +kernel
theorem dX6_told_12 : decode cX6_told 12 = .ok (.aload_n 0, 1) := by decide +kernel
theorem dX6_told_13 : decode cX6_told 13 = .ok (.bipush (-2), 2) := by decide +kernel
theorem dX6_told_15 : decode cX6_told 15 = .ok (.invokevirtual 82, 3) := by decide +kernel
theorem dX6_told_18 : decode cX6_told 18 = .ok (.ireturn, 1) := by decide +kernel
theorem dX6_told_19 : decode cX6_told 19 = .ok (.aload_n 0, 1) := by decide +kernel
theorem dX6_told_20 : decode cX6_told 20 = .ok (.invokevirtual 232, 3) := by decide +kernel
theorem dX6_told_23 : decode cX6_told 23 = .ok (.istore_n 2, 1) := by decide +kernel
theorem dX6_told_24 : decode cX6_told 24 = .ok (.iload_n 2, 1) := by decide +kernel
theorem dX6_told_25 : decode cX6_told 25 = .ok (.iconst (-1), 1) := by decide +kernel
theorem dX6_told_26 : decode cX6_told 26 = .ok (.if_icmp .eq 8, 3) := by decide +kernel
theorem dX6_told_29 : decode cX6_told 29 = .ok (.bipush (-10), 2) := by decide +kernel
theorem dX6_told_31 : decode cX6_told 31 = .ok (.iload_n 2, 1) := by decide +kernel
theorem dX6_told_32 : decode cX6_told 32 = .ok (.isub, 1) := by decide +kernel
theorem dX6_told_33 : decode cX6_told 33 = .ok (.ireturn, 1) := by decide +kernel
theorem dX6_told_34 : decode cX6_told 34 = .ok (.iload_n 1, 1) := by decide +kernel
theorem dX6_told_35 : decode cX6_told 35 = .ok (.ifCond .ne 10, 3) := by decide +kernel
theorem dX6_told_38 : decode cX6_told 38 = .ok (.aload_n 0, 1) := by decide +kernel
theorem dX6_told_39 : decode cX6_told 39 = .ok (.getfield 123, 3) := by decide +kernel
theorem dX6_told_42 : decode cX6_told 42 = .ok (.goto 19, 3) := by decide +kernel
theorem dX6_told_45 : decode cX6_told 45 = .ok (.iload_n 1, 1) := by decide +kernel
theorem dX6_told_46 : decode cX6_told 46 = .ok (.iconst 1, 1) := by decide +kernel
theorem dX6_told_47 : decode cX6_told 47 = .ok (.if_icmp .ne 10, 3) := by decide +kernel
theorem dX6_told_50 : decode cX6_told 50 = .ok (.aload_n 0, 1) := by decide +kernel
theorem dX6_told_51 : decode cX6_told 51 = .ok (.getfield 126, 3) := by decide +kernel
theorem dX6_told_54 : decode cX6_told 54 = .ok (.goto 7, 3) := by decide +kernel
theorem dX6_told_57 : decode cX6_told 57 = .ok (.aload_n 0, 1) := by decide +kernel
theorem dX6_told_58 : decode cX6_told 58 = .ok (.getfield 129, 3) := by decide +kernel
theorem dX6_told_61 : decode cX6_told 61 = .ok (.ireturn, 1) := by decide +kernel
theorem dX6_atMost3_0 : decode cX6_atMost3 0 = .ok (.lload_n 0, 1) := by decide +kernel
theorem dX6_atMost3_1 : decode cX6_atMost3 1 = .ok (.ldc2_w 80, 3) := by decide +kernel
theorem dX6_atMost3_4 : decode cX6_atMost3 4 = .ok (.lcmp, 1) := by decide +kernel
theorem dX6_atMost3_5 : decode cX6_atMost3 5 = .ok (.ifCond .le 7, 3) := by decide +kernel
theorem dX6_atMost3_8 : decode cX6_atMost3 8 = .ok (.iconst 0, 1) := by decide +kernel
theorem dX6_atMost3_9 : decode cX6_atMost3 9 = .ok (.goto 5, 3) := by decide +kernel
theorem dX6_atMost3_12 : decode cX6_atMost3 12 = .ok (.lload_n 0, 1) := by decide +kernel
theorem dX6_atMost3_13 : decode cX6_atMost3 13 = .ok (.l2i, 1) := by decide +kernel
theorem dX6_atMost3_14 : decode cX6_atMost3 14 = .ok (.ireturn, 1) := by decide +kernel
theorem dX6_draw_0 : decode cX6_draw 0 = .ok (.iload_n 1, 1) := by decide +kernel
theorem dX6_draw_1 : decode cX6_draw 1 = .ok (.i2l, 1) := by decide +kernel
theorem dX6_draw_2 : decode cX6_draw 2 = .ok (.lconst 0, 1) := by decide +kernel
theorem dX6_draw_3 : decode cX6_draw 3 = .ok (.ldc2_w 262, 3) := by decide +kernel
theorem dX6_draw_6 : decode cX6_draw 6 = .ok (.invokestatic 62, 3) := by decide +kernel
theorem dX6_draw_9 : decode cX6_draw 9 = .ok (.ifCond .ne 10, 3) := by decide +kernel
theorem dX6_draw_12 : decode cX6_draw 12 = .ok (.aload_n 0, 1) := by decide +kernel
theorem dX6_draw_13 : decode cX6_draw 13 = .ok (.bipush (-2), 2) := by decide +kernel
theorem dX6_draw_15 : decode cX6_draw 15 = .ok (.invokevirtual 82, 3) := by decide +kernel
theorem dX6_draw_18 : decode cX6_draw 18 = .ok (.ireturn, 1) := by decide +kernel
theorem dX6_draw_19 : decode cX6_draw 19 = .ok (.aload_n 0, 1) := by decide +kernel
theorem dX6_draw_20 : decode cX6_draw 20 = .ok (.invokevirtual 86, 3) := by decide +kernel
theorem dX6_draw_23 : decode cX6_draw 23 = .ok (.iload_n 1, 1) := by decide +kernel
theorem dX6_draw_24 : decode cX6_draw 24 = .ok (.i2l, 1) := by decide +kernel
theorem dX6_draw_25 : decode cX6_draw 25 = .ok (.lstore_n 2, 1) := by decide +kernel
theorem dX6_draw_26 : decode cX6_draw 26 = .ok (.iconst 0, 1) := by decide +kernel
theorem dX6_draw_27 : decode cX6_draw 27 = .ok (.istore 4, 2) := by decide +kernel
theorem dX6_draw_29 : decode cX6_draw 29 = .ok (.iload 4, 2) := by decide +kernel
theorem dX6_draw_31 : decode cX6_draw 31 = .ok (.bipush 58, 2) := by decide +kernel
theorem dX6_draw_33 : decode cX6_draw 33 = .ok (.if_icmp .ge 17, 3) := by decide +kernel
theorem dX6_draw_36 : decode cX6_draw 36 = .ok (.aload_n 0, 1) := by decide +kernel
theorem dX6_draw_37 : decode cX6_draw 37 = .ok (.getfield 7, 3) := by decide +kernel
theorem dX6_draw_40 : decode cX6_draw 40 = .ok (.iload 4, 2) := by decide +kernel
theorem dX6_draw_42 : decode cX6_draw 42 = .ok (.iconst 0, 1) := by decide +kernel
theorem dX6_draw_43 : decode cX6_draw 43 = .ok (.iastore, 1) := by decide +kernel
theorem dX6_draw_44 : decode cX6_draw 44 = .ok (.iinc 4 1, 3) := by decide +kernel
theorem dX6_draw_47 : decode cX6_draw 47 = .ok (.goto (-18), 3) := by decide +kernel
theorem dX6_draw_50 : decode cX6_draw 50 = .ok (.iconst 0, 1) := by decide +kernel
theorem dX6_draw_51 : decode cX6_draw 51 = .ok (.istore 4, 2) := by decide +kernel
theorem dX6_draw_53 : decode cX6_draw 53 = .ok (.iload 4, 2) := by decide +kernel
theorem dX6_draw_55 : decode cX6_draw 55 = .ok (.bipush 8, 2) := by decide +kernel
theorem dX6_draw_57 : decode cX6_draw 57 = .ok (.if_icmp .ge 95, 3) := by decide +kernel
theorem dX6_draw_60 : decode cX6_draw 60 = .ok (.lload_n 2, 1) := by decide +kernel
theorem dX6_draw_61 : decode cX6_draw 61 = .ok (.ldc2_w 264, 3) := by decide +kernel
theorem dX6_draw_64 : decode cX6_draw 64 = .ok (.lmul, 1) := by decide +kernel
theorem dX6_draw_65 : decode cX6_draw 65 = .ok (.ldc2_w 266, 3) := by decide +kernel
theorem dX6_draw_68 : decode cX6_draw 68 = .ok (.ladd, 1) := by decide +kernel
theorem dX6_draw_69 : decode cX6_draw 69 = .ok (.ldc2_w 268, 3) := by decide +kernel
theorem dX6_draw_72 : decode cX6_draw 72 = .ok (.lrem, 1) := by decide +kernel
theorem dX6_draw_73 : decode cX6_draw 73 = .ok (.lstore_n 2, 1) := by decide +kernel
theorem dX6_draw_74 : decode cX6_draw 74 = .ok (.aload_n 0, 1) := by decide +kernel
theorem dX6_draw_75 : decode cX6_draw 75 = .ok (.iload 4, 2) := by decide +kernel
theorem dX6_draw_77 : decode cX6_draw 77 = .ok (.iconst 0, 1) := by decide +kernel
theorem dX6_draw_78 : decode cX6_draw 78 = .ok (.lload_n 2, 1) := by decide +kernel
theorem dX6_draw_79 : decode cX6_draw 79 = .ok (.ldc2_w 270, 3) := by decide +kernel
theorem dX6_draw_82 : decode cX6_draw 82 = .ok (.ldiv, 1) := by decide +kernel
theorem dX6_draw_83 : decode cX6_draw 83 = .ok (.ldc2_w 272, 3) := by decide +kernel
theorem dX6_draw_86 : decode cX6_draw 86 = .ok (.lrem, 1) := by decide +kernel
theorem dX6_draw_87 : decode cX6_draw 87 = .ok (.l2i, 1) := by decide +kernel
theorem dX6_draw_88 : decode cX6_draw 88 = .ok (.invokevirtual 89, 3) := by decide +kernel
theorem dX6_draw_91 : decode cX6_draw 91 = .ok (.aload_n 0, 1) := by decide +kernel
theorem dX6_draw_92 : decode cX6_draw 92 = .ok (.iload 4, 2) := by decide +kernel
theorem dX6_draw_94 : decode cX6_draw 94 = .ok (.iconst 1, 1) := by decide +kernel
theorem dX6_draw_95 : decode cX6_draw 95 = .ok (.lload_n 2, 1) := by decide +kernel
theorem dX6_draw_96 : decode cX6_draw 96 = .ok (.ldc2_w 274, 3) := by decide +kernel
theorem dX6_draw_99 : decode cX6_draw 99 = .ok (.ldiv, 1) := by decide +kernel
theorem dX6_draw_100 : decode cX6_draw 100 = .ok (.ldc2_w 276, 3) := by decide +kernel
theorem dX6_draw_103 : decode cX6_draw 103 = .ok (.lrem, 1) := by decide +kernel
theorem dX6_draw_104 : decode cX6_draw 104 = .ok (.invokestatic 278, 3) := by decide +kernel
theorem dX6_draw_107 : decode cX6_draw 107 = .ok (.invokevirtual 89, 3) := by decide +kernel
theorem dX6_draw_110 : decode cX6_draw 110 = .ok (.aload_n 0, 1) := by decide +kernel
theorem dX6_draw_111 : decode cX6_draw 111 = .ok (.iload 4, 2) := by decide +kernel
theorem dX6_draw_113 : decode cX6_draw 113 = .ok (.iconst 2, 1) := by decide +kernel
theorem dX6_draw_114 : decode cX6_draw 114 = .ok (.lload_n 2, 1) := by decide +kernel
theorem dX6_draw_115 : decode cX6_draw 115 = .ok (.ldc2_w 282, 3) := by decide +kernel
theorem dX6_draw_118 : decode cX6_draw 118 = .ok (.ldiv, 1) := by decide +kernel
theorem dX6_draw_119 : decode cX6_draw 119 = .ok (.ldc2_w 276, 3) := by decide +kernel
theorem dX6_draw_122 : decode cX6_draw 122 = .ok (.lrem, 1) := by decide +kernel
theorem dX6_draw_123 : decode cX6_draw 123 = .ok (.invokestatic 278, 3) := by decide +kernel
theorem dX6_draw_126 : decode cX6_draw 126 = .ok (.invokevirtual 89, 3) := by decide +kernel
theorem dX6_draw_129 : decode cX6_draw 129 = .ok (.aload_n 0, 1) := by decide +kernel
theorem dX6_draw_130 : decode cX6_draw 130 = .ok (.iload 4, 2) := by decide +kernel
theorem dX6_draw_132 : decode cX6_draw 132 = .ok (.iconst 3, 1) := by decide +kernel
theorem dX6_draw_133 : decode cX6_draw 133 = .ok (.lload_n 2, 1) := by decide +kernel
theorem dX6_draw_134 : decode cX6_draw 134 = .ok (.ldc2_w 284, 3) := by decide +kernel
theorem dX6_draw_137 : decode cX6_draw 137 = .ok (.ldiv, 1) := by decide +kernel
theorem dX6_draw_138 : decode cX6_draw 138 = .ok (.ldc2_w 286, 3) := by decide +kernel
theorem dX6_draw_141 : decode cX6_draw 141 = .ok (.lrem, 1) := by decide +kernel
theorem dX6_draw_142 : decode cX6_draw 142 = .ok (.l2i, 1) := by decide +kernel
theorem dX6_draw_143 : decode cX6_draw 143 = .ok (.invokevirtual 89, 3) := by decide +kernel
theorem dX6_draw_146 : decode cX6_draw 146 = .ok (.iinc 4 1, 3) := by decide +kernel
theorem dX6_draw_149 : decode cX6_draw 149 = .ok (.goto (-96), 3) := by decide +kernel
theorem dX6_draw_152 : decode cX6_draw 152 = .ok (.iconst 0, 1) := by decide +kernel
theorem dX6_draw_153 : decode cX6_draw 153 = .ok (.ireturn, 1) := by decide +kernel
theorem dX6_back_0 : decode cX6_back 0 = .ok (.aload_n 0, 1) := by decide +kernel
theorem dX6_back_1 : decode cX6_back 1 = .ok (.getfield 66, 3) := by decide +kernel
theorem dX6_back_4 : decode cX6_back 4 = .ok (.ifCond .ne 8, 3) := by decide +kernel
theorem dX6_back_7 : decode cX6_back 7 = .ok (.aload_n 0, 1) := by decide +kernel
theorem dX6_back_8 : decode cX6_back 8 = .ok (.invokevirtual 288, 3) := by decide +kernel
theorem dX6_back_11 : decode cX6_back 11 = .ok (.ireturn, 1) := by decide +kernel
theorem dX6_back_12 : decode cX6_back 12 = .ok (.aload_n 0, 1) := by decide +kernel
theorem dX6_back_13 : decode cX6_back 13 = .ok (.dup, 1) := by decide +kernel
theorem dX6_back_14 : decode cX6_back 14 = .ok (.getfield 66, 3) := by decide +kernel
theorem dX6_back_17 : decode cX6_back 17 = .ok (.iconst 1, 1) := by decide +kernel
theorem dX6_back_18 : decode cX6_back 18 = .ok (.isub, 1) := by decide +kernel
theorem dX6_back_19 : decode cX6_back 19 = .ok (.putfield 66, 3) := by decide +kernel
theorem dX6_back_22 : decode cX6_back 22 = .ok (.iconst 0, 1) := by decide +kernel
theorem dX6_back_23 : decode cX6_back 23 = .ok (.istore_n 1, 1) := by decide +kernel
theorem dX6_back_24 : decode cX6_back 24 = .ok (.iload_n 1, 1) := by decide +kernel
theorem dX6_back_25 : decode cX6_back 25 = .ok (.bipush 58, 2) := by decide +kernel
theorem dX6_back_27 : decode cX6_back 27 = .ok (.if_icmp .ge 29, 3) := by decide +kernel
theorem dX6_back_30 : decode cX6_back 30 = .ok (.aload_n 0, 1) := by decide +kernel
theorem dX6_back_31 : decode cX6_back 31 = .ok (.getfield 7, 3) := by decide +kernel
theorem dX6_back_34 : decode cX6_back 34 = .ok (.iload_n 1, 1) := by decide +kernel
theorem dX6_back_35 : decode cX6_back 35 = .ok (.aload_n 0, 1) := by decide +kernel
theorem dX6_back_36 : decode cX6_back 36 = .ok (.getfield 13, 3) := by decide +kernel
theorem dX6_back_39 : decode cX6_back 39 = .ok (.bipush 58, 2) := by decide +kernel
theorem dX6_back_41 : decode cX6_back 41 = .ok (.aload_n 0, 1) := by decide +kernel
theorem dX6_back_42 : decode cX6_back 42 = .ok (.getfield 66, 3) := by decide +kernel
theorem dX6_back_45 : decode cX6_back 45 = .ok (.imul, 1) := by decide +kernel
theorem dX6_back_46 : decode cX6_back 46 = .ok (.iload_n 1, 1) := by decide +kernel
theorem dX6_back_47 : decode cX6_back 47 = .ok (.iadd, 1) := by decide +kernel
theorem dX6_back_48 : decode cX6_back 48 = .ok (.iaload, 1) := by decide +kernel
theorem dX6_back_49 : decode cX6_back 49 = .ok (.iastore, 1) := by decide +kernel
theorem dX6_back_50 : decode cX6_back 50 = .ok (.iinc 1 1, 3) := by decide +kernel
theorem dX6_back_53 : decode cX6_back 53 = .ok (.goto (-29), 3) := by decide +kernel
theorem dX6_back_56 : decode cX6_back 56 = .ok (.aload_n 0, 1) := by decide +kernel
theorem dX6_back_57 : decode cX6_back 57 = .ok (.getfield 66, 3) := by decide +kernel
theorem dX6_back_60 : decode cX6_back 60 = .ok (.ireturn, 1) := by decide +kernel
theorem dX6_lamps_0 : decode cX6_lamps 0 = .ok (.iconst 0, 1) := by decide +kernel
theorem dX6_lamps_1 : decode cX6_lamps 1 = .ok (.istore_n 1, 1) := by decide +kernel
theorem dX6_lamps_2 : decode cX6_lamps 2 = .ok (.iconst 0, 1) := by decide +kernel
theorem dX6_lamps_3 : decode cX6_lamps 3 = .ok (.istore_n 2, 1) := by decide +kernel
theorem dX6_lamps_4 : decode cX6_lamps 4 = .ok (.iload_n 2, 1) := by decide +kernel
theorem dX6_lamps_5 : decode cX6_lamps 5 = .ok (.bipush 8, 2) := by decide +kernel
theorem dX6_lamps_7 : decode cX6_lamps 7 = .ok (.if_icmp .ge 18, 3) := by decide +kernel
theorem dX6_lamps_10 : decode cX6_lamps 10 = .ok (.iload_n 1, 1) := by decide +kernel
theorem dX6_lamps_11 : decode cX6_lamps 11 = .ok (.aload_n 0, 1) := by decide +kernel
theorem dX6_lamps_12 : decode cX6_lamps 12 = .ok (.iload_n 2, 1) := by decide +kernel
theorem dX6_lamps_13 : decode cX6_lamps 13 = .ok (.iconst 5, 1) := by decide +kernel
theorem dX6_lamps_14 : decode cX6_lamps 14 = .ok (.invokevirtual 69, 3) := by decide +kernel
theorem dX6_lamps_17 : decode cX6_lamps 17 = .ok (.iadd, 1) := by decide +kernel
theorem dX6_lamps_18 : decode cX6_lamps 18 = .ok (.istore_n 1, 1) := by decide +kernel
theorem dX6_lamps_19 : decode cX6_lamps 19 = .ok (.iinc 2 1, 3) := by decide +kernel
theorem dX6_lamps_22 : decode cX6_lamps 22 = .ok (.goto (-18), 3) := by decide +kernel
theorem dX6_lamps_25 : decode cX6_lamps 25 = .ok (.iload_n 1, 1) := by decide +kernel
theorem dX6_lamps_26 : decode cX6_lamps 26 = .ok (.ireturn, 1) := by decide +kernel
theorem dX6_counted_0 : decode cX6_counted 0 = .ok (.iload_n 1, 1) := by decide +kernel
theorem dX6_counted_1 : decode cX6_counted 1 = .ok (.tableswitch 75 3 8 #[39, 44, 49, 57, 65, 70], 39) := by decide +kernel
theorem dX6_counted_40 : decode cX6_counted 40 = .ok (.aload_n 0, 1) := by decide +kernel
theorem dX6_counted_41 : decode cX6_counted 41 = .ok (.getfield 107, 3) := by decide +kernel
theorem dX6_counted_44 : decode cX6_counted 44 = .ok (.ireturn, 1) := by decide +kernel
theorem dX6_counted_45 : decode cX6_counted 45 = .ok (.aload_n 0, 1) := by decide +kernel
theorem dX6_counted_46 : decode cX6_counted 46 = .ok (.getfield 66, 3) := by decide +kernel
theorem dX6_counted_49 : decode cX6_counted 49 = .ok (.ireturn, 1) := by decide +kernel
theorem dX6_counted_50 : decode cX6_counted 50 = .ok (.aload_n 0, 1) := by decide +kernel
theorem dX6_counted_51 : decode cX6_counted 51 = .ok (.getfield 7, 3) := by decide +kernel
theorem dX6_counted_54 : decode cX6_counted 54 = .ok (.bipush 56, 2) := by decide +kernel
theorem dX6_counted_56 : decode cX6_counted 56 = .ok (.iaload, 1) := by decide +kernel
theorem dX6_counted_57 : decode cX6_counted 57 = .ok (.ireturn, 1) := by decide +kernel
theorem dX6_counted_58 : decode cX6_counted 58 = .ok (.aload_n 0, 1) := by decide +kernel
theorem dX6_counted_59 : decode cX6_counted 59 = .ok (.getfield 7, 3) := by decide +kernel
theorem dX6_counted_62 : decode cX6_counted 62 = .ok (.bipush 57, 2) := by decide +kernel
theorem dX6_counted_64 : decode cX6_counted 64 = .ok (.iaload, 1) := by decide +kernel
theorem dX6_counted_65 : decode cX6_counted 65 = .ok (.ireturn, 1) := by decide +kernel
theorem dX6_counted_66 : decode cX6_counted 66 = .ok (.aload_n 0, 1) := by decide +kernel
theorem dX6_counted_67 : decode cX6_counted 67 = .ok (.invokevirtual 101, 3) := by decide +kernel
theorem dX6_counted_70 : decode cX6_counted 70 = .ok (.ireturn, 1) := by decide +kernel
theorem dX6_counted_71 : decode cX6_counted 71 = .ok (.aload_n 0, 1) := by decide +kernel
theorem dX6_counted_72 : decode cX6_counted 72 = .ok (.invokevirtual 291, 3) := by decide +kernel
theorem dX6_counted_75 : decode cX6_counted 75 = .ok (.ireturn, 1) := by decide +kernel
theorem dX6_counted_76 : decode cX6_counted 76 = .ok (.aload_n 0, 1) := by decide +kernel
theorem dX6_counted_77 : decode cX6_counted 77 = .ok (.getfield 16, 3) := by decide +kernel
theorem dX6_counted_80 : decode cX6_counted 80 = .ok (.iload_n 1, 1) := by decide +kernel
theorem dX6_counted_81 : decode cX6_counted 81 = .ok (.iaload, 1) := by decide +kernel
theorem dX6_counted_82 : decode cX6_counted 82 = .ok (.ireturn, 1) := by decide +kernel
theorem dX6_count_0 : decode cX6_count 0 = .ok (.iload_n 1, 1) := by decide +kernel
theorem dX6_count_1 : decode cX6_count 1 = .ok (.i2l, 1) := by decide +kernel
theorem dX6_count_2 : decode cX6_count 2 = .ok (.lconst 0, 1) := by decide +kernel
theorem dX6_count_3 : decode cX6_count 3 = .ok (.ldc2_w 276, 3) := by decide +kernel
theorem dX6_count_6 : decode cX6_count 6 = .ok (.invokestatic 62, 3) := by decide +kernel
theorem dX6_count_9 : decode cX6_count 9 = .ok (.ifCond .eq 11, 3) := by decide +kernel
theorem dX6_count_12 : decode cX6_count 12 = .ok (.aload_n 0, 1) := by decide +kernel
theorem dX6_count_13 : decode cX6_count 13 = .ok (.iload_n 1, 1) := by decide +kernel
theorem dX6_count_14 : decode cX6_count 14 = .ok (.invokevirtual 294, 3) := by decide +kernel
theorem dX6_count_17 : decode cX6_count 17 = .ok (.goto 9, 3) := by decide +kernel
theorem dX6_count_20 : decode cX6_count 20 = .ok (.aload_n 0, 1) := by decide +kernel
theorem dX6_count_21 : decode cX6_count 21 = .ok (.bipush (-2), 2) := by decide +kernel
theorem dX6_count_23 : decode cX6_count 23 = .ok (.invokevirtual 82, 3) := by decide +kernel
theorem dX6_count_26 : decode cX6_count 26 = .ok (.ireturn, 1) := by decide +kernel
theorem dX6_digest_0 : decode cX6_digest 0 = .ok (.ldc2_w 297, 3) := by decide +kernel
theorem dX6_digest_3 : decode cX6_digest 3 = .ok (.lstore_n 1, 1) := by decide +kernel
theorem dX6_digest_4 : decode cX6_digest 4 = .ok (.iconst 0, 1) := by decide +kernel
theorem dX6_digest_5 : decode cX6_digest 5 = .ok (.istore_n 3, 1) := by decide +kernel
theorem dX6_digest_6 : decode cX6_digest 6 = .ok (.iload_n 3, 1) := by decide +kernel
theorem dX6_digest_7 : decode cX6_digest 7 = .ok (.bipush 9, 2) := by decide +kernel
theorem dX6_digest_9 : decode cX6_digest 9 = .ok (.if_icmp .ge 22, 3) := by decide +kernel
theorem dX6_digest_12 : decode cX6_digest 12 = .ok (.ldc2_w 299, 3) := by decide +kernel
theorem dX6_digest_15 : decode cX6_digest 15 = .ok (.lload_n 1, 1) := by decide +kernel
theorem dX6_digest_16 : decode cX6_digest 16 = .ok (.lmul, 1) := by decide +kernel
theorem dX6_digest_17 : decode cX6_digest 17 = .ok (.aload_n 0, 1) := by decide +kernel
theorem dX6_digest_18 : decode cX6_digest 18 = .ok (.iload_n 3, 1) := by decide +kernel
theorem dX6_digest_19 : decode cX6_digest 19 = .ok (.invokevirtual 294, 3) := by decide +kernel
theorem dX6_digest_22 : decode cX6_digest 22 = .ok (.i2l, 1) := by decide +kernel
theorem dX6_digest_23 : decode cX6_digest 23 = .ok (.ladd, 1) := by decide +kernel
theorem dX6_digest_24 : decode cX6_digest 24 = .ok (.lstore_n 1, 1) := by decide +kernel
theorem dX6_digest_25 : decode cX6_digest 25 = .ok (.iinc 3 1, 3) := by decide +kernel
theorem dX6_digest_28 : decode cX6_digest 28 = .ok (.goto (-22), 3) := by decide +kernel
theorem dX6_digest_31 : decode cX6_digest 31 = .ok (.iconst 0, 1) := by decide +kernel
theorem dX6_digest_32 : decode cX6_digest 32 = .ok (.istore_n 3, 1) := by decide +kernel
theorem dX6_digest_33 : decode cX6_digest 33 = .ok (.iload_n 3, 1) := by decide +kernel
theorem dX6_digest_34 : decode cX6_digest 34 = .ok (.bipush 8, 2) := by decide +kernel
theorem dX6_digest_36 : decode cX6_digest 36 = .ok (.if_icmp .ge 40, 3) := by decide +kernel
theorem dX6_digest_39 : decode cX6_digest 39 = .ok (.iconst 0, 1) := by decide +kernel
theorem dX6_digest_40 : decode cX6_digest 40 = .ok (.istore 4, 2) := by decide +kernel
theorem dX6_digest_42 : decode cX6_digest 42 = .ok (.iload 4, 2) := by decide +kernel
theorem dX6_digest_44 : decode cX6_digest 44 = .ok (.bipush 7, 2) := by decide +kernel
theorem dX6_digest_46 : decode cX6_digest 46 = .ok (.if_icmp .ge 24, 3) := by decide +kernel
theorem dX6_digest_49 : decode cX6_digest 49 = .ok (.ldc2_w 299, 3) := by decide +kernel
theorem dX6_digest_52 : decode cX6_digest 52 = .ok (.lload_n 1, 1) := by decide +kernel
theorem dX6_digest_53 : decode cX6_digest 53 = .ok (.lmul, 1) := by decide +kernel
theorem dX6_digest_54 : decode cX6_digest 54 = .ok (.aload_n 0, 1) := by decide +kernel
theorem dX6_digest_55 : decode cX6_digest 55 = .ok (.iload_n 3, 1) := by decide +kernel
theorem dX6_digest_56 : decode cX6_digest 56 = .ok (.iload 4, 2) := by decide +kernel
theorem dX6_digest_58 : decode cX6_digest 58 = .ok (.invokevirtual 96, 3) := by decide +kernel
theorem dX6_digest_61 : decode cX6_digest 61 = .ok (.i2l, 1) := by decide +kernel
theorem dX6_digest_62 : decode cX6_digest 62 = .ok (.ladd, 1) := by decide +kernel
theorem dX6_digest_63 : decode cX6_digest 63 = .ok (.lstore_n 1, 1) := by decide +kernel
theorem dX6_digest_64 : decode cX6_digest 64 = .ok (.iinc 4 1, 3) := by decide +kernel
theorem dX6_digest_67 : decode cX6_digest 67 = .ok (.goto (-25), 3) := by decide +kernel
theorem dX6_digest_70 : decode cX6_digest 70 = .ok (.iinc 3 1, 3) := by decide +kernel
theorem dX6_digest_73 : decode cX6_digest 73 = .ok (.goto (-40), 3) := by decide +kernel
theorem dX6_digest_76 : decode cX6_digest 76 = .ok (.iconst 0, 1) := by decide +kernel
theorem dX6_digest_77 : decode cX6_digest 77 = .ok (.istore_n 3, 1) := by decide +kernel
theorem dX6_digest_78 : decode cX6_digest 78 = .ok (.iload_n 3, 1) := by decide +kernel
theorem dX6_digest_79 : decode cX6_digest 79 = .ok (.bipush 8, 2) := by decide +kernel
theorem dX6_digest_81 : decode cX6_digest 81 = .ok (.if_icmp .ge 22, 3) := by decide +kernel
theorem dX6_digest_84 : decode cX6_digest 84 = .ok (.ldc2_w 299, 3) := by decide +kernel
theorem dX6_digest_87 : decode cX6_digest 87 = .ok (.lload_n 1, 1) := by decide +kernel
theorem dX6_digest_88 : decode cX6_digest 88 = .ok (.lmul, 1) := by decide +kernel
theorem dX6_digest_89 : decode cX6_digest 89 = .ok (.aload_n 0, 1) := by decide +kernel
theorem dX6_digest_90 : decode cX6_digest 90 = .ok (.iload_n 3, 1) := by decide +kernel
theorem dX6_digest_91 : decode cX6_digest 91 = .ok (.invokevirtual 247, 3) := by decide +kernel
theorem dX6_digest_94 : decode cX6_digest 94 = .ok (.i2l, 1) := by decide +kernel
theorem dX6_digest_95 : decode cX6_digest 95 = .ok (.ladd, 1) := by decide +kernel
theorem dX6_digest_96 : decode cX6_digest 96 = .ok (.lstore_n 1, 1) := by decide +kernel
theorem dX6_digest_97 : decode cX6_digest 97 = .ok (.iinc 3 1, 3) := by decide +kernel
theorem dX6_digest_100 : decode cX6_digest 100 = .ok (.goto (-22), 3) := by decide +kernel
theorem dX6_digest_103 : decode cX6_digest 103 = .ok (.ldc2_w 299, 3) := by decide +kernel
theorem dX6_digest_106 : decode cX6_digest 106 = .ok (.lload_n 1, 1) := by decide +kernel
theorem dX6_digest_107 : decode cX6_digest 107 = .ok (.lmul, 1) := by decide +kernel
theorem dX6_digest_108 : decode cX6_digest 108 = .ok (.aload_n 0, 1) := by decide +kernel
theorem dX6_digest_109 : decode cX6_digest 109 = .ok (.getfield 229, 3) := by decide +kernel
theorem dX6_digest_112 : decode cX6_digest 112 = .ok (.i2l, 1) := by decide +kernel
theorem dX6_digest_113 : decode cX6_digest 113 = .ok (.ladd, 1) := by decide +kernel
theorem dX6_digest_114 : decode cX6_digest 114 = .ok (.lstore_n 1, 1) := by decide +kernel
theorem dX6_digest_115 : decode cX6_digest 115 = .ok (.iconst 0, 1) := by decide +kernel
theorem dX6_digest_116 : decode cX6_digest 116 = .ok (.istore_n 3, 1) := by decide +kernel
theorem dX6_digest_117 : decode cX6_digest 117 = .ok (.iload_n 3, 1) := by decide +kernel
theorem dX6_digest_118 : decode cX6_digest 118 = .ok (.aload_n 0, 1) := by decide +kernel
theorem dX6_digest_119 : decode cX6_digest 119 = .ok (.getfield 229, 3) := by decide +kernel
theorem dX6_digest_122 : decode cX6_digest 122 = .ok (.if_icmp .ge 23, 3) := by decide +kernel
theorem dX6_digest_125 : decode cX6_digest 125 = .ok (.ldc2_w 299, 3) := by decide +kernel
theorem dX6_digest_128 : decode cX6_digest 128 = .ok (.lload_n 1, 1) := by decide +kernel
theorem dX6_digest_129 : decode cX6_digest 129 = .ok (.lmul, 1) := by decide +kernel
theorem dX6_digest_130 : decode cX6_digest 130 = .ok (.aload_n 0, 1) := by decide +kernel
theorem dX6_digest_131 : decode cX6_digest 131 = .ok (.getfield 54, 3) := by decide +kernel
theorem dX6_digest_134 : decode cX6_digest 134 = .ok (.iload_n 3, 1) := by decide +kernel
theorem dX6_digest_135 : decode cX6_digest 135 = .ok (.iaload, 1) := by decide +kernel
theorem dX6_digest_136 : decode cX6_digest 136 = .ok (.i2l, 1) := by decide +kernel
theorem dX6_digest_137 : decode cX6_digest 137 = .ok (.ladd, 1) := by decide +kernel
theorem dX6_digest_138 : decode cX6_digest 138 = .ok (.lstore_n 1, 1) := by decide +kernel
theorem dX6_digest_139 : decode cX6_digest 139 = .ok (.iinc 3 1, 3) := by decide +kernel
theorem dX6_digest_142 : decode cX6_digest 142 = .ok (.goto (-25), 3) := by decide +kernel
theorem dX6_digest_145 : decode cX6_digest 145 = .ok (.lload_n 1, 1) := by decide +kernel
theorem dX6_digest_146 : decode cX6_digest 146 = .ok (.lreturn, 1) := by decide +kernel
theorem dJ9_max_7cf53_0 : decode cJ9_max_7cf53 0 = .ok (.iload_n 0, 1) := by decide +kernel
theorem dJ9_max_7cf53_1 : decode cJ9_max_7cf53 1 = .ok (.iload_n 1, 1) := by decide +kernel
theorem dJ9_max_7cf53_2 : decode cJ9_max_7cf53 2 = .ok (.if_icmp .lt 7, 3) := by decide +kernel
theorem dJ9_max_7cf53_5 : decode cJ9_max_7cf53 5 = .ok (.iload_n 0, 1) := by decide +kernel
theorem dJ9_max_7cf53_6 : decode cJ9_max_7cf53 6 = .ok (.goto 4, 3) := by decide +kernel
theorem dJ9_max_7cf53_9 : decode cJ9_max_7cf53 9 = .ok (.iload_n 1, 1) := by decide +kernel
theorem dJ9_max_7cf53_10 : decode cJ9_max_7cf53 10 = .ok (.ireturn, 1) := by decide +kernel
theorem dJ9_min_7cf53_0 : decode cJ9_min_7cf53 0 = .ok (.iload_n 0, 1) := by decide +kernel
theorem dJ9_min_7cf53_1 : decode cJ9_min_7cf53 1 = .ok (.iload_n 1, 1) := by decide +kernel
theorem dJ9_min_7cf53_2 : decode cJ9_min_7cf53 2 = .ok (.if_icmp .gt 7, 3) := by decide +kernel
theorem dJ9_min_7cf53_5 : decode cJ9_min_7cf53 5 = .ok (.iload_n 0, 1) := by decide +kernel
theorem dJ9_min_7cf53_6 : decode cJ9_min_7cf53 6 = .ok (.goto 4, 3) := by decide +kernel
theorem dJ9_min_7cf53_9 : decode cJ9_min_7cf53 9 = .ok (.iload_n 1, 1) := by decide +kernel
theorem dJ9_min_7cf53_10 : decode cJ9_min_7cf53 10 = .ok (.ireturn, 1) := by decide +kernel
theorem dJ7_fill_53178_0 : decode cJ7_fill_53178 0 = .ok (.iconst 0, 1) := by decide +kernel
theorem dJ7_fill_53178_1 : decode cJ7_fill_53178 1 = .ok (.istore_n 2, 1) := by decide +kernel
theorem dJ7_fill_53178_2 : decode cJ7_fill_53178 2 = .ok (.aload_n 0, 1) := by decide +kernel
theorem dJ7_fill_53178_3 : decode cJ7_fill_53178 3 = .ok (.arraylength, 1) := by decide +kernel
theorem dJ7_fill_53178_4 : decode cJ7_fill_53178 4 = .ok (.istore_n 3, 1) := by decide +kernel
theorem dJ7_fill_53178_5 : decode cJ7_fill_53178 5 = .ok (.iload_n 2, 1) := by decide +kernel
theorem dJ7_fill_53178_6 : decode cJ7_fill_53178 6 = .ok (.iload_n 3, 1) := by decide +kernel
theorem dJ7_fill_53178_7 : decode cJ7_fill_53178 7 = .ok (.if_icmp .ge 13, 3) := by decide +kernel
theorem dJ7_fill_53178_10 : decode cJ7_fill_53178 10 = .ok (.aload_n 0, 1) := by decide +kernel
theorem dJ7_fill_53178_11 : decode cJ7_fill_53178 11 = .ok (.iload_n 2, 1) := by decide +kernel
theorem dJ7_fill_53178_12 : decode cJ7_fill_53178 12 = .ok (.iload_n 1, 1) := by decide +kernel
theorem dJ7_fill_53178_13 : decode cJ7_fill_53178 13 = .ok (.iastore, 1) := by decide +kernel
theorem dJ7_fill_53178_14 : decode cJ7_fill_53178 14 = .ok (.iinc 2 1, 3) := by decide +kernel
theorem dJ7_fill_53178_17 : decode cJ7_fill_53178 17 = .ok (.goto (-12), 3) := by decide +kernel
theorem dJ7_fill_53178_20 : decode cJ7_fill_53178 20 = .ok (.return_, 1) := by decide +kernel
theorem dL_law_0 : decode cL_law 0 = .ok (.new 7, 3) := by decide +kernel
theorem dL_law_3 : decode cL_law 3 = .ok (.dup, 1) := by decide +kernel
theorem dL_law_4 : decode cL_law 4 = .ok (.invokespecial 9, 3) := by decide +kernel
theorem dL_law_7 : decode cL_law 7 = .ok (.astore_n 1, 1) := by decide +kernel
theorem dL_law_8 : decode cL_law 8 = .ok (.new 10, 3) := by decide +kernel
theorem dL_law_11 : decode cL_law 11 = .ok (.dup, 1) := by decide +kernel
theorem dL_law_12 : decode cL_law 12 = .ok (.invokespecial 12, 3) := by decide +kernel
theorem dL_law_15 : decode cL_law 15 = .ok (.astore_n 2, 1) := by decide +kernel
theorem dL_law_16 : decode cL_law 16 = .ok (.iconst 0, 1) := by decide +kernel
theorem dL_law_17 : decode cL_law 17 = .ok (.istore_n 3, 1) := by decide +kernel
theorem dL_law_18 : decode cL_law 18 = .ok (.iload_n 3, 1) := by decide +kernel
theorem dL_law_19 : decode cL_law 19 = .ok (.aload_n 0, 1) := by decide +kernel
theorem dL_law_20 : decode cL_law 20 = .ok (.arraylength, 1) := by decide +kernel
theorem dL_law_21 : decode cL_law 21 = .ok (.iconst 4, 1) := by decide +kernel
theorem dL_law_22 : decode cL_law 22 = .ok (.isub, 1) := by decide +kernel
theorem dL_law_23 : decode cL_law 23 = .ok (.if_icmp .gt 576, 3) := by decide +kernel
theorem dL_law_26 : decode cL_law 26 = .ok (.aload_n 0, 1) := by decide +kernel
theorem dL_law_27 : decode cL_law 27 = .ok (.iload_n 3, 1) := by decide +kernel
theorem dL_law_28 : decode cL_law 28 = .ok (.iaload, 1) := by decide +kernel
theorem dL_law_29 : decode cL_law 29 = .ok (.bipush 31, 2) := by decide +kernel
theorem dL_law_31 : decode cL_law 31 = .ok (.iand, 1) := by decide +kernel
theorem dL_law_32 : decode cL_law 32 = .ok (.tableswitch 561 0 21 #[104, 147, 180, 203, 216, 239, 252, 265, 278, 301, 324, 337, 360, 373, 386, 419, 442, 465, 488, 511, 524, 547], 104) := by decide +kernel
theorem dL_law_136 : decode cL_law 136 = .ok (.aload_n 1, 1) := by decide +kernel
theorem dL_law_137 : decode cL_law 137 = .ok (.aload_n 0, 1) := by decide +kernel
theorem dL_law_138 : decode cL_law 138 = .ok (.iload_n 3, 1) := by decide +kernel
theorem dL_law_139 : decode cL_law 139 = .ok (.iconst 1, 1) := by decide +kernel
theorem dL_law_140 : decode cL_law 140 = .ok (.iadd, 1) := by decide +kernel
theorem dL_law_141 : decode cL_law 141 = .ok (.iaload, 1) := by decide +kernel
theorem dL_law_142 : decode cL_law 142 = .ok (.aload_n 0, 1) := by decide +kernel
theorem dL_law_143 : decode cL_law 143 = .ok (.iload_n 3, 1) := by decide +kernel
theorem dL_law_144 : decode cL_law 144 = .ok (.iconst 2, 1) := by decide +kernel
theorem dL_law_145 : decode cL_law 145 = .ok (.iadd, 1) := by decide +kernel
theorem dL_law_146 : decode cL_law 146 = .ok (.iaload, 1) := by decide +kernel
theorem dL_law_147 : decode cL_law 147 = .ok (.aload_n 0, 1) := by decide +kernel
theorem dL_law_148 : decode cL_law 148 = .ok (.iload_n 3, 1) := by decide +kernel
theorem dL_law_149 : decode cL_law 149 = .ok (.iconst 3, 1) := by decide +kernel
theorem dL_law_150 : decode cL_law 150 = .ok (.iadd, 1) := by decide +kernel
theorem dL_law_151 : decode cL_law 151 = .ok (.iaload, 1) := by decide +kernel
theorem dL_law_152 : decode cL_law 152 = .ok (.invokevirtual 13, 3) := by decide +kernel
theorem dL_law_155 : decode cL_law 155 = .ok (.aload_n 2, 1) := by decide +kernel
theorem dL_law_156 : decode cL_law 156 = .ok (.aload_n 0, 1) := by decide +kernel
theorem dL_law_157 : decode cL_law 157 = .ok (.iload_n 3, 1) := by decide +kernel
theorem dL_law_158 : decode cL_law 158 = .ok (.iconst 1, 1) := by decide +kernel
theorem dL_law_159 : decode cL_law 159 = .ok (.iadd, 1) := by decide +kernel
theorem dL_law_160 : decode cL_law 160 = .ok (.iaload, 1) := by decide +kernel
theorem dL_law_161 : decode cL_law 161 = .ok (.aload_n 0, 1) := by decide +kernel
theorem dL_law_162 : decode cL_law 162 = .ok (.iload_n 3, 1) := by decide +kernel
theorem dL_law_163 : decode cL_law 163 = .ok (.iconst 2, 1) := by decide +kernel
theorem dL_law_164 : decode cL_law 164 = .ok (.iadd, 1) := by decide +kernel
theorem dL_law_165 : decode cL_law 165 = .ok (.iaload, 1) := by decide +kernel
theorem dL_law_166 : decode cL_law 166 = .ok (.aload_n 0, 1) := by decide +kernel
theorem dL_law_167 : decode cL_law 167 = .ok (.iload_n 3, 1) := by decide +kernel
theorem dL_law_168 : decode cL_law 168 = .ok (.iconst 3, 1) := by decide +kernel
theorem dL_law_169 : decode cL_law 169 = .ok (.iadd, 1) := by decide +kernel
theorem dL_law_170 : decode cL_law 170 = .ok (.iaload, 1) := by decide +kernel
theorem dL_law_171 : decode cL_law 171 = .ok (.invokevirtual 17, 3) := by decide +kernel
theorem dL_law_174 : decode cL_law 174 = .ok (.if_icmp .eq 419, 3) := by decide +kernel
theorem dL_law_177 : decode cL_law 177 = .ok (.iconst 0, 1) := by decide +kernel
theorem dL_law_178 : decode cL_law 178 = .ok (.ireturn, 1) := by decide +kernel
theorem dL_law_179 : decode cL_law 179 = .ok (.aload_n 1, 1) := by decide +kernel
theorem dL_law_180 : decode cL_law 180 = .ok (.aload_n 0, 1) := by decide +kernel
theorem dL_law_181 : decode cL_law 181 = .ok (.iload_n 3, 1) := by decide +kernel
theorem dL_law_182 : decode cL_law 182 = .ok (.iconst 1, 1) := by decide +kernel
theorem dL_law_183 : decode cL_law 183 = .ok (.iadd, 1) := by decide +kernel
theorem dL_law_184 : decode cL_law 184 = .ok (.iaload, 1) := by decide +kernel
theorem dL_law_185 : decode cL_law 185 = .ok (.aload_n 0, 1) := by decide +kernel
theorem dL_law_186 : decode cL_law 186 = .ok (.iload_n 3, 1) := by decide +kernel
theorem dL_law_187 : decode cL_law 187 = .ok (.iconst 2, 1) := by decide +kernel
theorem dL_law_188 : decode cL_law 188 = .ok (.iadd, 1) := by decide +kernel
theorem dL_law_189 : decode cL_law 189 = .ok (.iaload, 1) := by decide +kernel
theorem dL_law_190 : decode cL_law 190 = .ok (.invokevirtual 18, 3) := by decide +kernel
theorem dL_law_193 : decode cL_law 193 = .ok (.aload_n 2, 1) := by decide +kernel
theorem dL_law_194 : decode cL_law 194 = .ok (.aload_n 0, 1) := by decide +kernel
theorem dL_law_195 : decode cL_law 195 = .ok (.iload_n 3, 1) := by decide +kernel
theorem dL_law_196 : decode cL_law 196 = .ok (.iconst 1, 1) := by decide +kernel
theorem dL_law_197 : decode cL_law 197 = .ok (.iadd, 1) := by decide +kernel
theorem dL_law_198 : decode cL_law 198 = .ok (.iaload, 1) := by decide +kernel
theorem dL_law_199 : decode cL_law 199 = .ok (.aload_n 0, 1) := by decide +kernel
theorem dL_law_200 : decode cL_law 200 = .ok (.iload_n 3, 1) := by decide +kernel
theorem dL_law_201 : decode cL_law 201 = .ok (.iconst 2, 1) := by decide +kernel
theorem dL_law_202 : decode cL_law 202 = .ok (.iadd, 1) := by decide +kernel
theorem dL_law_203 : decode cL_law 203 = .ok (.iaload, 1) := by decide +kernel
theorem dL_law_204 : decode cL_law 204 = .ok (.invokevirtual 22, 3) := by decide +kernel
theorem dL_law_207 : decode cL_law 207 = .ok (.if_icmp .eq 386, 3) := by decide +kernel
theorem dL_law_210 : decode cL_law 210 = .ok (.iconst 0, 1) := by decide +kernel
theorem dL_law_211 : decode cL_law 211 = .ok (.ireturn, 1) := by decide +kernel
theorem dL_law_212 : decode cL_law 212 = .ok (.aload_n 1, 1) := by decide +kernel
theorem dL_law_213 : decode cL_law 213 = .ok (.aload_n 0, 1) := by decide +kernel
theorem dL_law_214 : decode cL_law 214 = .ok (.iload_n 3, 1) := by decide +kernel
theorem dL_law_215 : decode cL_law 215 = .ok (.iconst 1, 1) := by decide +kernel
theorem dL_law_216 : decode cL_law 216 = .ok (.iadd, 1) := by decide +kernel
theorem dL_law_217 : decode cL_law 217 = .ok (.iaload, 1) := by decide +kernel
theorem dL_law_218 : decode cL_law 218 = .ok (.invokevirtual 23, 3) := by decide +kernel
theorem dL_law_221 : decode cL_law 221 = .ok (.aload_n 2, 1) := by decide +kernel
theorem dL_law_222 : decode cL_law 222 = .ok (.aload_n 0, 1) := by decide +kernel
theorem dL_law_223 : decode cL_law 223 = .ok (.iload_n 3, 1) := by decide +kernel
theorem dL_law_224 : decode cL_law 224 = .ok (.iconst 1, 1) := by decide +kernel
theorem dL_law_225 : decode cL_law 225 = .ok (.iadd, 1) := by decide +kernel
theorem dL_law_226 : decode cL_law 226 = .ok (.iaload, 1) := by decide +kernel
theorem dL_law_227 : decode cL_law 227 = .ok (.invokevirtual 27, 3) := by decide +kernel
theorem dL_law_230 : decode cL_law 230 = .ok (.if_icmp .eq 363, 3) := by decide +kernel
theorem dL_law_233 : decode cL_law 233 = .ok (.iconst 0, 1) := by decide +kernel
theorem dL_law_234 : decode cL_law 234 = .ok (.ireturn, 1) := by decide +kernel
theorem dL_law_235 : decode cL_law 235 = .ok (.aload_n 1, 1) := by decide +kernel
theorem dL_law_236 : decode cL_law 236 = .ok (.invokevirtual 28, 3) := by decide +kernel
theorem dL_law_239 : decode cL_law 239 = .ok (.aload_n 2, 1) := by decide +kernel
theorem dL_law_240 : decode cL_law 240 = .ok (.invokevirtual 32, 3) := by decide +kernel
theorem dL_law_243 : decode cL_law 243 = .ok (.if_icmp .eq 350, 3) := by decide +kernel
theorem dL_law_246 : decode cL_law 246 = .ok (.iconst 0, 1) := by decide +kernel
theorem dL_law_247 : decode cL_law 247 = .ok (.ireturn, 1) := by decide +kernel
theorem dL_law_248 : decode cL_law 248 = .ok (.aload_n 1, 1) := by decide +kernel
theorem dL_law_249 : decode cL_law 249 = .ok (.aload_n 0, 1) := by decide +kernel
theorem dL_law_250 : decode cL_law 250 = .ok (.iload_n 3, 1) := by decide +kernel
theorem dL_law_251 : decode cL_law 251 = .ok (.iconst 1, 1) := by decide +kernel
theorem dL_law_252 : decode cL_law 252 = .ok (.iadd, 1) := by decide +kernel
theorem dL_law_253 : decode cL_law 253 = .ok (.iaload, 1) := by decide +kernel
theorem dL_law_254 : decode cL_law 254 = .ok (.invokevirtual 33, 3) := by decide +kernel
theorem dL_law_257 : decode cL_law 257 = .ok (.aload_n 2, 1) := by decide +kernel
theorem dL_law_258 : decode cL_law 258 = .ok (.aload_n 0, 1) := by decide +kernel
theorem dL_law_259 : decode cL_law 259 = .ok (.iload_n 3, 1) := by decide +kernel
theorem dL_law_260 : decode cL_law 260 = .ok (.iconst 1, 1) := by decide +kernel
theorem dL_law_261 : decode cL_law 261 = .ok (.iadd, 1) := by decide +kernel
theorem dL_law_262 : decode cL_law 262 = .ok (.iaload, 1) := by decide +kernel
theorem dL_law_263 : decode cL_law 263 = .ok (.invokevirtual 36, 3) := by decide +kernel
theorem dL_law_266 : decode cL_law 266 = .ok (.if_icmp .eq 327, 3) := by decide +kernel
theorem dL_law_269 : decode cL_law 269 = .ok (.iconst 0, 1) := by decide +kernel
theorem dL_law_270 : decode cL_law 270 = .ok (.ireturn, 1) := by decide +kernel
theorem dL_law_271 : decode cL_law 271 = .ok (.aload_n 1, 1) := by decide +kernel
theorem dL_law_272 : decode cL_law 272 = .ok (.invokevirtual 37, 3) := by decide +kernel
theorem dL_law_275 : decode cL_law 275 = .ok (.aload_n 2, 1) := by decide +kernel
theorem dL_law_276 : decode cL_law 276 = .ok (.invokevirtual 40, 3) := by decide +kernel
theorem dL_law_279 : decode cL_law 279 = .ok (.if_icmp .eq 314, 3) := by decide +kernel
theorem dL_law_282 : decode cL_law 282 = .ok (.iconst 0, 1) := by decide +kernel
theorem dL_law_283 : decode cL_law 283 = .ok (.ireturn, 1) := by decide +kernel
theorem dL_law_284 : decode cL_law 284 = .ok (.aload_n 1, 1) := by decide +kernel
theorem dL_law_285 : decode cL_law 285 = .ok (.invokevirtual 41, 3) := by decide +kernel
theorem dL_law_288 : decode cL_law 288 = .ok (.aload_n 2, 1) := by decide +kernel
theorem dL_law_289 : decode cL_law 289 = .ok (.invokevirtual 44, 3) := by decide +kernel
theorem dL_law_292 : decode cL_law 292 = .ok (.if_icmp .eq 301, 3) := by decide +kernel
theorem dL_law_295 : decode cL_law 295 = .ok (.iconst 0, 1) := by decide +kernel
theorem dL_law_296 : decode cL_law 296 = .ok (.ireturn, 1) := by decide +kernel
theorem dL_law_297 : decode cL_law 297 = .ok (.aload_n 1, 1) := by decide +kernel
theorem dL_law_298 : decode cL_law 298 = .ok (.invokevirtual 45, 3) := by decide +kernel
theorem dL_law_301 : decode cL_law 301 = .ok (.aload_n 2, 1) := by decide +kernel
theorem dL_law_302 : decode cL_law 302 = .ok (.invokevirtual 48, 3) := by decide +kernel
theorem dL_law_305 : decode cL_law 305 = .ok (.if_icmp .eq 288, 3) := by decide +kernel
theorem dL_law_308 : decode cL_law 308 = .ok (.iconst 0, 1) := by decide +kernel
theorem dL_law_309 : decode cL_law 309 = .ok (.ireturn, 1) := by decide +kernel
theorem dL_law_310 : decode cL_law 310 = .ok (.aload_n 1, 1) := by decide +kernel
theorem dL_law_311 : decode cL_law 311 = .ok (.aload_n 0, 1) := by decide +kernel
theorem dL_law_312 : decode cL_law 312 = .ok (.iload_n 3, 1) := by decide +kernel
theorem dL_law_313 : decode cL_law 313 = .ok (.iconst 1, 1) := by decide +kernel
theorem dL_law_314 : decode cL_law 314 = .ok (.iadd, 1) := by decide +kernel
theorem dL_law_315 : decode cL_law 315 = .ok (.iaload, 1) := by decide +kernel
theorem dL_law_316 : decode cL_law 316 = .ok (.invokevirtual 49, 3) := by decide +kernel
theorem dL_law_319 : decode cL_law 319 = .ok (.aload_n 2, 1) := by decide +kernel
theorem dL_law_320 : decode cL_law 320 = .ok (.aload_n 0, 1) := by decide +kernel
theorem dL_law_321 : decode cL_law 321 = .ok (.iload_n 3, 1) := by decide +kernel
theorem dL_law_322 : decode cL_law 322 = .ok (.iconst 1, 1) := by decide +kernel
theorem dL_law_323 : decode cL_law 323 = .ok (.iadd, 1) := by decide +kernel
theorem dL_law_324 : decode cL_law 324 = .ok (.iaload, 1) := by decide +kernel
theorem dL_law_325 : decode cL_law 325 = .ok (.invokevirtual 52, 3) := by decide +kernel
theorem dL_law_328 : decode cL_law 328 = .ok (.if_icmp .eq 265, 3) := by decide +kernel
theorem dL_law_331 : decode cL_law 331 = .ok (.iconst 0, 1) := by decide +kernel
theorem dL_law_332 : decode cL_law 332 = .ok (.ireturn, 1) := by decide +kernel
theorem dL_law_333 : decode cL_law 333 = .ok (.aload_n 1, 1) := by decide +kernel
theorem dL_law_334 : decode cL_law 334 = .ok (.aload_n 0, 1) := by decide +kernel
theorem dL_law_335 : decode cL_law 335 = .ok (.iload_n 3, 1) := by decide +kernel
theorem dL_law_336 : decode cL_law 336 = .ok (.iconst 1, 1) := by decide +kernel
theorem dL_law_337 : decode cL_law 337 = .ok (.iadd, 1) := by decide +kernel
theorem dL_law_338 : decode cL_law 338 = .ok (.iaload, 1) := by decide +kernel
theorem dL_law_339 : decode cL_law 339 = .ok (.invokevirtual 53, 3) := by decide +kernel
theorem dL_law_342 : decode cL_law 342 = .ok (.aload_n 2, 1) := by decide +kernel
theorem dL_law_343 : decode cL_law 343 = .ok (.aload_n 0, 1) := by decide +kernel
theorem dL_law_344 : decode cL_law 344 = .ok (.iload_n 3, 1) := by decide +kernel
theorem dL_law_345 : decode cL_law 345 = .ok (.iconst 1, 1) := by decide +kernel
theorem dL_law_346 : decode cL_law 346 = .ok (.iadd, 1) := by decide +kernel
theorem dL_law_347 : decode cL_law 347 = .ok (.iaload, 1) := by decide +kernel
theorem dL_law_348 : decode cL_law 348 = .ok (.invokevirtual 56, 3) := by decide +kernel
theorem dL_law_351 : decode cL_law 351 = .ok (.if_icmp .eq 242, 3) := by decide +kernel
theorem dL_law_354 : decode cL_law 354 = .ok (.iconst 0, 1) := by decide +kernel
theorem dL_law_355 : decode cL_law 355 = .ok (.ireturn, 1) := by decide +kernel
theorem dL_law_356 : decode cL_law 356 = .ok (.aload_n 1, 1) := by decide +kernel
theorem dL_law_357 : decode cL_law 357 = .ok (.invokevirtual 57, 3) := by decide +kernel
theorem dL_law_360 : decode cL_law 360 = .ok (.aload_n 2, 1) := by decide +kernel
theorem dL_law_361 : decode cL_law 361 = .ok (.invokevirtual 60, 3) := by decide +kernel
theorem dL_law_364 : decode cL_law 364 = .ok (.if_icmp .eq 229, 3) := by decide +kernel
theorem dL_law_367 : decode cL_law 367 = .ok (.iconst 0, 1) := by decide +kernel
theorem dL_law_368 : decode cL_law 368 = .ok (.ireturn, 1) := by decide +kernel
theorem dL_law_369 : decode cL_law 369 = .ok (.aload_n 1, 1) := by decide +kernel
theorem dL_law_370 : decode cL_law 370 = .ok (.aload_n 0, 1) := by decide +kernel
theorem dL_law_371 : decode cL_law 371 = .ok (.iload_n 3, 1) := by decide +kernel
theorem dL_law_372 : decode cL_law 372 = .ok (.iconst 1, 1) := by decide +kernel
theorem dL_law_373 : decode cL_law 373 = .ok (.iadd, 1) := by decide +kernel
theorem dL_law_374 : decode cL_law 374 = .ok (.iaload, 1) := by decide +kernel
theorem dL_law_375 : decode cL_law 375 = .ok (.invokevirtual 61, 3) := by decide +kernel
theorem dL_law_378 : decode cL_law 378 = .ok (.aload_n 2, 1) := by decide +kernel
theorem dL_law_379 : decode cL_law 379 = .ok (.aload_n 0, 1) := by decide +kernel
theorem dL_law_380 : decode cL_law 380 = .ok (.iload_n 3, 1) := by decide +kernel
theorem dL_law_381 : decode cL_law 381 = .ok (.iconst 1, 1) := by decide +kernel
theorem dL_law_382 : decode cL_law 382 = .ok (.iadd, 1) := by decide +kernel
theorem dL_law_383 : decode cL_law 383 = .ok (.iaload, 1) := by decide +kernel
theorem dL_law_384 : decode cL_law 384 = .ok (.invokevirtual 64, 3) := by decide +kernel
theorem dL_law_387 : decode cL_law 387 = .ok (.if_icmp .eq 206, 3) := by decide +kernel
theorem dL_law_390 : decode cL_law 390 = .ok (.iconst 0, 1) := by decide +kernel
theorem dL_law_391 : decode cL_law 391 = .ok (.ireturn, 1) := by decide +kernel
theorem dL_law_392 : decode cL_law 392 = .ok (.aload_n 1, 1) := by decide +kernel
theorem dL_law_393 : decode cL_law 393 = .ok (.invokevirtual 65, 3) := by decide +kernel
theorem dL_law_396 : decode cL_law 396 = .ok (.aload_n 2, 1) := by decide +kernel
theorem dL_law_397 : decode cL_law 397 = .ok (.invokevirtual 68, 3) := by decide +kernel
theorem dL_law_400 : decode cL_law 400 = .ok (.if_icmp .eq 193, 3) := by decide +kernel
theorem dL_law_403 : decode cL_law 403 = .ok (.iconst 0, 1) := by decide +kernel
theorem dL_law_404 : decode cL_law 404 = .ok (.ireturn, 1) := by decide +kernel
theorem dL_law_405 : decode cL_law 405 = .ok (.aload_n 1, 1) := by decide +kernel
theorem dL_law_406 : decode cL_law 406 = .ok (.invokevirtual 69, 3) := by decide +kernel
theorem dL_law_409 : decode cL_law 409 = .ok (.aload_n 2, 1) := by decide +kernel
theorem dL_law_410 : decode cL_law 410 = .ok (.invokevirtual 72, 3) := by decide +kernel
theorem dL_law_413 : decode cL_law 413 = .ok (.if_icmp .eq 180, 3) := by decide +kernel
theorem dL_law_416 : decode cL_law 416 = .ok (.iconst 0, 1) := by decide +kernel
theorem dL_law_417 : decode cL_law 417 = .ok (.ireturn, 1) := by decide +kernel
theorem dL_law_418 : decode cL_law 418 = .ok (.aload_n 1, 1) := by decide +kernel
theorem dL_law_419 : decode cL_law 419 = .ok (.aload_n 0, 1) := by decide +kernel
theorem dL_law_420 : decode cL_law 420 = .ok (.iload_n 3, 1) := by decide +kernel
theorem dL_law_421 : decode cL_law 421 = .ok (.iconst 1, 1) := by decide +kernel
theorem dL_law_422 : decode cL_law 422 = .ok (.iadd, 1) := by decide +kernel
theorem dL_law_423 : decode cL_law 423 = .ok (.iaload, 1) := by decide +kernel
theorem dL_law_424 : decode cL_law 424 = .ok (.aload_n 0, 1) := by decide +kernel
theorem dL_law_425 : decode cL_law 425 = .ok (.iload_n 3, 1) := by decide +kernel
theorem dL_law_426 : decode cL_law 426 = .ok (.iconst 2, 1) := by decide +kernel
theorem dL_law_427 : decode cL_law 427 = .ok (.iadd, 1) := by decide +kernel
theorem dL_law_428 : decode cL_law 428 = .ok (.iaload, 1) := by decide +kernel
theorem dL_law_429 : decode cL_law 429 = .ok (.invokevirtual 73, 3) := by decide +kernel
theorem dL_law_432 : decode cL_law 432 = .ok (.aload_n 2, 1) := by decide +kernel
theorem dL_law_433 : decode cL_law 433 = .ok (.aload_n 0, 1) := by decide +kernel
theorem dL_law_434 : decode cL_law 434 = .ok (.iload_n 3, 1) := by decide +kernel
theorem dL_law_435 : decode cL_law 435 = .ok (.iconst 1, 1) := by decide +kernel
theorem dL_law_436 : decode cL_law 436 = .ok (.iadd, 1) := by decide +kernel
theorem dL_law_437 : decode cL_law 437 = .ok (.iaload, 1) := by decide +kernel
theorem dL_law_438 : decode cL_law 438 = .ok (.aload_n 0, 1) := by decide +kernel
theorem dL_law_439 : decode cL_law 439 = .ok (.iload_n 3, 1) := by decide +kernel
theorem dL_law_440 : decode cL_law 440 = .ok (.iconst 2, 1) := by decide +kernel
theorem dL_law_441 : decode cL_law 441 = .ok (.iadd, 1) := by decide +kernel
theorem dL_law_442 : decode cL_law 442 = .ok (.iaload, 1) := by decide +kernel
theorem dL_law_443 : decode cL_law 443 = .ok (.invokevirtual 76, 3) := by decide +kernel
theorem dL_law_446 : decode cL_law 446 = .ok (.if_icmp .eq 147, 3) := by decide +kernel
theorem dL_law_449 : decode cL_law 449 = .ok (.iconst 0, 1) := by decide +kernel
theorem dL_law_450 : decode cL_law 450 = .ok (.ireturn, 1) := by decide +kernel
theorem dL_law_451 : decode cL_law 451 = .ok (.aload_n 1, 1) := by decide +kernel
theorem dL_law_452 : decode cL_law 452 = .ok (.aload_n 0, 1) := by decide +kernel
theorem dL_law_453 : decode cL_law 453 = .ok (.iload_n 3, 1) := by decide +kernel
theorem dL_law_454 : decode cL_law 454 = .ok (.iconst 1, 1) := by decide +kernel
theorem dL_law_455 : decode cL_law 455 = .ok (.iadd, 1) := by decide +kernel
theorem dL_law_456 : decode cL_law 456 = .ok (.iaload, 1) := by decide +kernel
theorem dL_law_457 : decode cL_law 457 = .ok (.invokevirtual 77, 3) := by decide +kernel
theorem dL_law_460 : decode cL_law 460 = .ok (.aload_n 2, 1) := by decide +kernel
theorem dL_law_461 : decode cL_law 461 = .ok (.aload_n 0, 1) := by decide +kernel
theorem dL_law_462 : decode cL_law 462 = .ok (.iload_n 3, 1) := by decide +kernel
theorem dL_law_463 : decode cL_law 463 = .ok (.iconst 1, 1) := by decide +kernel
theorem dL_law_464 : decode cL_law 464 = .ok (.iadd, 1) := by decide +kernel
theorem dL_law_465 : decode cL_law 465 = .ok (.iaload, 1) := by decide +kernel
theorem dL_law_466 : decode cL_law 466 = .ok (.invokevirtual 80, 3) := by decide +kernel
theorem dL_law_469 : decode cL_law 469 = .ok (.if_icmp .eq 124, 3) := by decide +kernel
theorem dL_law_472 : decode cL_law 472 = .ok (.iconst 0, 1) := by decide +kernel
theorem dL_law_473 : decode cL_law 473 = .ok (.ireturn, 1) := by decide +kernel
theorem dL_law_474 : decode cL_law 474 = .ok (.aload_n 1, 1) := by decide +kernel
theorem dL_law_475 : decode cL_law 475 = .ok (.aload_n 0, 1) := by decide +kernel
theorem dL_law_476 : decode cL_law 476 = .ok (.iload_n 3, 1) := by decide +kernel
theorem dL_law_477 : decode cL_law 477 = .ok (.iconst 1, 1) := by decide +kernel
theorem dL_law_478 : decode cL_law 478 = .ok (.iadd, 1) := by decide +kernel
theorem dL_law_479 : decode cL_law 479 = .ok (.iaload, 1) := by decide +kernel
theorem dL_law_480 : decode cL_law 480 = .ok (.invokevirtual 81, 3) := by decide +kernel
theorem dL_law_483 : decode cL_law 483 = .ok (.aload_n 2, 1) := by decide +kernel
theorem dL_law_484 : decode cL_law 484 = .ok (.aload_n 0, 1) := by decide +kernel
theorem dL_law_485 : decode cL_law 485 = .ok (.iload_n 3, 1) := by decide +kernel
theorem dL_law_486 : decode cL_law 486 = .ok (.iconst 1, 1) := by decide +kernel
theorem dL_law_487 : decode cL_law 487 = .ok (.iadd, 1) := by decide +kernel
theorem dL_law_488 : decode cL_law 488 = .ok (.iaload, 1) := by decide +kernel
theorem dL_law_489 : decode cL_law 489 = .ok (.invokevirtual 84, 3) := by decide +kernel
theorem dL_law_492 : decode cL_law 492 = .ok (.if_icmp .eq 101, 3) := by decide +kernel
theorem dL_law_495 : decode cL_law 495 = .ok (.iconst 0, 1) := by decide +kernel
theorem dL_law_496 : decode cL_law 496 = .ok (.ireturn, 1) := by decide +kernel
theorem dL_law_497 : decode cL_law 497 = .ok (.aload_n 1, 1) := by decide +kernel
theorem dL_law_498 : decode cL_law 498 = .ok (.aload_n 0, 1) := by decide +kernel
theorem dL_law_499 : decode cL_law 499 = .ok (.iload_n 3, 1) := by decide +kernel
theorem dL_law_500 : decode cL_law 500 = .ok (.iconst 1, 1) := by decide +kernel
theorem dL_law_501 : decode cL_law 501 = .ok (.iadd, 1) := by decide +kernel
theorem dL_law_502 : decode cL_law 502 = .ok (.iaload, 1) := by decide +kernel
theorem dL_law_503 : decode cL_law 503 = .ok (.invokevirtual 85, 3) := by decide +kernel
theorem dL_law_506 : decode cL_law 506 = .ok (.aload_n 2, 1) := by decide +kernel
theorem dL_law_507 : decode cL_law 507 = .ok (.aload_n 0, 1) := by decide +kernel
theorem dL_law_508 : decode cL_law 508 = .ok (.iload_n 3, 1) := by decide +kernel
theorem dL_law_509 : decode cL_law 509 = .ok (.iconst 1, 1) := by decide +kernel
theorem dL_law_510 : decode cL_law 510 = .ok (.iadd, 1) := by decide +kernel
theorem dL_law_511 : decode cL_law 511 = .ok (.iaload, 1) := by decide +kernel
theorem dL_law_512 : decode cL_law 512 = .ok (.invokevirtual 88, 3) := by decide +kernel
theorem dL_law_515 : decode cL_law 515 = .ok (.if_icmp .eq 78, 3) := by decide +kernel
theorem dL_law_518 : decode cL_law 518 = .ok (.iconst 0, 1) := by decide +kernel
theorem dL_law_519 : decode cL_law 519 = .ok (.ireturn, 1) := by decide +kernel
theorem dL_law_520 : decode cL_law 520 = .ok (.aload_n 1, 1) := by decide +kernel
theorem dL_law_521 : decode cL_law 521 = .ok (.aload_n 0, 1) := by decide +kernel
theorem dL_law_522 : decode cL_law 522 = .ok (.iload_n 3, 1) := by decide +kernel
theorem dL_law_523 : decode cL_law 523 = .ok (.iconst 1, 1) := by decide +kernel
theorem dL_law_524 : decode cL_law 524 = .ok (.iadd, 1) := by decide +kernel
theorem dL_law_525 : decode cL_law 525 = .ok (.iaload, 1) := by decide +kernel
theorem dL_law_526 : decode cL_law 526 = .ok (.invokevirtual 89, 3) := by decide +kernel
theorem dL_law_529 : decode cL_law 529 = .ok (.aload_n 2, 1) := by decide +kernel
theorem dL_law_530 : decode cL_law 530 = .ok (.aload_n 0, 1) := by decide +kernel
theorem dL_law_531 : decode cL_law 531 = .ok (.iload_n 3, 1) := by decide +kernel
theorem dL_law_532 : decode cL_law 532 = .ok (.iconst 1, 1) := by decide +kernel
theorem dL_law_533 : decode cL_law 533 = .ok (.iadd, 1) := by decide +kernel
theorem dL_law_534 : decode cL_law 534 = .ok (.iaload, 1) := by decide +kernel
theorem dL_law_535 : decode cL_law 535 = .ok (.invokevirtual 92, 3) := by decide +kernel
theorem dL_law_538 : decode cL_law 538 = .ok (.if_icmp .eq 55, 3) := by decide +kernel
theorem dL_law_541 : decode cL_law 541 = .ok (.iconst 0, 1) := by decide +kernel
theorem dL_law_542 : decode cL_law 542 = .ok (.ireturn, 1) := by decide +kernel
theorem dL_law_543 : decode cL_law 543 = .ok (.aload_n 1, 1) := by decide +kernel
theorem dL_law_544 : decode cL_law 544 = .ok (.invokevirtual 93, 3) := by decide +kernel
theorem dL_law_547 : decode cL_law 547 = .ok (.aload_n 2, 1) := by decide +kernel
theorem dL_law_548 : decode cL_law 548 = .ok (.invokevirtual 96, 3) := by decide +kernel
theorem dL_law_551 : decode cL_law 551 = .ok (.if_icmp .eq 42, 3) := by decide +kernel
theorem dL_law_554 : decode cL_law 554 = .ok (.iconst 0, 1) := by decide +kernel
theorem dL_law_555 : decode cL_law 555 = .ok (.ireturn, 1) := by decide +kernel
theorem dL_law_556 : decode cL_law 556 = .ok (.aload_n 1, 1) := by decide +kernel
theorem dL_law_557 : decode cL_law 557 = .ok (.aload_n 0, 1) := by decide +kernel
theorem dL_law_558 : decode cL_law 558 = .ok (.iload_n 3, 1) := by decide +kernel
theorem dL_law_559 : decode cL_law 559 = .ok (.iconst 1, 1) := by decide +kernel
theorem dL_law_560 : decode cL_law 560 = .ok (.iadd, 1) := by decide +kernel
theorem dL_law_561 : decode cL_law 561 = .ok (.iaload, 1) := by decide +kernel
theorem dL_law_562 : decode cL_law 562 = .ok (.invokevirtual 97, 3) := by decide +kernel
theorem dL_law_565 : decode cL_law 565 = .ok (.aload_n 2, 1) := by decide +kernel
theorem dL_law_566 : decode cL_law 566 = .ok (.aload_n 0, 1) := by decide +kernel
theorem dL_law_567 : decode cL_law 567 = .ok (.iload_n 3, 1) := by decide +kernel
theorem dL_law_568 : decode cL_law 568 = .ok (.iconst 1, 1) := by decide +kernel
theorem dL_law_569 : decode cL_law 569 = .ok (.iadd, 1) := by decide +kernel
theorem dL_law_570 : decode cL_law 570 = .ok (.iaload, 1) := by decide +kernel
theorem dL_law_571 : decode cL_law 571 = .ok (.invokevirtual 100, 3) := by decide +kernel
theorem dL_law_574 : decode cL_law 574 = .ok (.if_icmp .eq 19, 3) := by decide +kernel
theorem dL_law_577 : decode cL_law 577 = .ok (.iconst 0, 1) := by decide +kernel
theorem dL_law_578 : decode cL_law 578 = .ok (.ireturn, 1) := by decide +kernel
theorem dL_law_579 : decode cL_law 579 = .ok (.aload_n 1, 1) := by decide +kernel
theorem dL_law_580 : decode cL_law 580 = .ok (.invokevirtual 101, 3) := by decide +kernel
theorem dL_law_583 : decode cL_law 583 = .ok (.aload_n 2, 1) := by decide +kernel
theorem dL_law_584 : decode cL_law 584 = .ok (.invokevirtual 105, 3) := by decide +kernel
theorem dL_law_587 : decode cL_law 587 = .ok (.lcmp, 1) := by decide +kernel
theorem dL_law_588 : decode cL_law 588 = .ok (.ifCond .eq 5, 3) := by decide +kernel
theorem dL_law_591 : decode cL_law 591 = .ok (.iconst 0, 1) := by decide +kernel
theorem dL_law_592 : decode cL_law 592 = .ok (.ireturn, 1) := by decide +kernel
theorem dL_law_593 : decode cL_law 593 = .ok (.iinc 3 4, 3) := by decide +kernel
theorem dL_law_596 : decode cL_law 596 = .ok (.goto (-578), 3) := by decide +kernel
theorem dL_law_599 : decode cL_law 599 = .ok (.iconst 1, 1) := by decide +kernel
theorem dL_law_600 : decode cL_law 600 = .ok (.ireturn, 1) := by decide +kernel
