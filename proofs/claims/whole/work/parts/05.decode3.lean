theorem dX6_dusk_4 : decode cX6_dusk 4 = .ok (.istore_n 1, 1) := by decide +kernel
theorem dX6_dusk_5 : decode cX6_dusk 5 = .ok (.aload_n 0, 1) := by decide +kernel
theorem dX6_dusk_6 : decode cX6_dusk 6 = .ok (.invokevirtual 86, 3) := by decide +kernel
theorem dX6_dusk_9 : decode cX6_dusk 9 = .ok (.iconst 0, 1) := by decide +kernel
theorem dX6_dusk_10 : decode cX6_dusk 10 = .ok (.istore_n 2, 1) := by decide +kernel
theorem dX6_dusk_11 : decode cX6_dusk 11 = .ok (.iload_n 2, 1) := by decide +kernel
theorem dX6_dusk_12 : decode cX6_dusk 12 = .ok (.bipush 8, 2) := by decide +kernel
theorem dX6_dusk_14 : decode cX6_dusk 14 = .ok (.if_icmp .ge 23, 3) := by decide +kernel
theorem dX6_dusk_17 : decode cX6_dusk 17 = .ok (.aload_n 0, 1) := by decide +kernel
theorem dX6_dusk_18 : decode cX6_dusk 18 = .ok (.iload_n 2, 1) := by decide +kernel
theorem dX6_dusk_19 : decode cX6_dusk 19 = .ok (.iconst 4, 1) := by decide +kernel
theorem dX6_dusk_20 : decode cX6_dusk 20 = .ok (.iconst 0, 1) := by decide +kernel
theorem dX6_dusk_21 : decode cX6_dusk 21 = .ok (.invokevirtual 89, 3) := by decide +kernel
theorem dX6_dusk_24 : decode cX6_dusk 24 = .ok (.aload_n 0, 1) := by decide +kernel
theorem dX6_dusk_25 : decode cX6_dusk 25 = .ok (.iload_n 2, 1) := by decide +kernel
theorem dX6_dusk_26 : decode cX6_dusk 26 = .ok (.iconst 5, 1) := by decide +kernel
theorem dX6_dusk_27 : decode cX6_dusk 27 = .ok (.iconst 0, 1) := by decide +kernel
theorem dX6_dusk_28 : decode cX6_dusk 28 = .ok (.invokevirtual 89, 3) := by decide +kernel
theorem dX6_dusk_31 : decode cX6_dusk 31 = .ok (.iinc 2 1, 3) := by decide +kernel
theorem dX6_dusk_34 : decode cX6_dusk 34 = .ok (.goto (-23), 3) := by decide +kernel
theorem dX6_dusk_37 : decode cX6_dusk 37 = .ok (.iload_n 1, 1) := by decide +kernel
theorem dX6_dusk_38 : decode cX6_dusk 38 = .ok (.ireturn, 1) := by decide +kernel
theorem dX6_type_0 : decode cX6_type 0 = .ok (.iload_n 1, 1) := by decide +kernel
theorem dX6_type_1 : decode cX6_type 1 = .ok (.i2l, 1) := by decide +kernel
theorem dX6_type_2 : decode cX6_type 2 = .ok (.lconst 0, 1) := by decide +kernel
theorem dX6_type_3 : decode cX6_type 3 = .ok (.ldc2_w 105, 3) := by decide +kernel
theorem dX6_type_6 : decode cX6_type 6 = .ok (.invokestatic 62, 3) := by decide +kernel
theorem dX6_type_9 : decode cX6_type 9 = .ok (.ifCond .ne 10, 3) := by decide +kernel
theorem dX6_type_12 : decode cX6_type 12 = .ok (.aload_n 0, 1) := by decide +kernel
theorem dX6_type_13 : decode cX6_type 13 = .ok (.bipush (-2), 2) := by decide +kernel
theorem dX6_type_15 : decode cX6_type 15 = .ok (.invokevirtual 82, 3) := by decide +kernel
theorem dX6_type_18 : decode cX6_type 18 = .ok (.ireturn, 1) := by decide +kernel
theorem dX6_type_19 : decode cX6_type 19 = .ok (.aload_n 0, 1) := by decide +kernel
theorem dX6_type_20 : decode cX6_type 20 = .ok (.getfield 107, 3) := by decide +kernel
theorem dX6_type_23 : decode cX6_type 23 = .ok (.bipush 100, 2) := by decide +kernel
theorem dX6_type_25 : decode cX6_type 25 = .ok (.if_icmp .ne 8, 3) := by decide +kernel
theorem dX6_type_28 : decode cX6_type 28 = .ok (.aload_n 0, 1) := by decide +kernel
theorem dX6_type_29 : decode cX6_type 29 = .ok (.invokevirtual 110, 3) := by decide +kernel
theorem dX6_type_32 : decode cX6_type 32 = .ok (.ireturn, 1) := by decide +kernel
theorem dX6_type_33 : decode cX6_type 33 = .ok (.aload_n 0, 1) := by decide +kernel
theorem dX6_type_34 : decode cX6_type 34 = .ok (.getfield 19, 3) := by decide +kernel
theorem dX6_type_37 : decode cX6_type 37 = .ok (.aload_n 0, 1) := by decide +kernel
theorem dX6_type_38 : decode cX6_type 38 = .ok (.getfield 107, 3) := by decide +kernel
theorem dX6_type_41 : decode cX6_type 41 = .ok (.iload_n 1, 1) := by decide +kernel
theorem dX6_type_42 : decode cX6_type 42 = .ok (.iastore, 1) := by decide +kernel
theorem dX6_type_43 : decode cX6_type 43 = .ok (.aload_n 0, 1) := by decide +kernel
theorem dX6_type_44 : decode cX6_type 44 = .ok (.dup, 1) := by decide +kernel
theorem dX6_type_45 : decode cX6_type 45 = .ok (.getfield 107, 3) := by decide +kernel
theorem dX6_type_48 : decode cX6_type 48 = .ok (.iconst 1, 1) := by decide +kernel
theorem dX6_type_49 : decode cX6_type 49 = .ok (.iadd, 1) := by decide +kernel
theorem dX6_type_50 : decode cX6_type 50 = .ok (.putfield 107, 3) := by decide +kernel
theorem dX6_type_53 : decode cX6_type 53 = .ok (.aload_n 0, 1) := by decide +kernel
theorem dX6_type_54 : decode cX6_type 54 = .ok (.getfield 107, 3) := by decide +kernel
theorem dX6_type_57 : decode cX6_type 57 = .ok (.ireturn, 1) := by decide +kernel
theorem dX6_clear_0 : decode cX6_clear 0 = .ok (.aload_n 0, 1) := by decide +kernel
theorem dX6_clear_1 : decode cX6_clear 1 = .ok (.getfield 107, 3) := by decide +kernel
theorem dX6_clear_4 : decode cX6_clear 4 = .ok (.istore_n 1, 1) := by decide +kernel
theorem dX6_clear_5 : decode cX6_clear 5 = .ok (.aload_n 0, 1) := by decide +kernel
theorem dX6_clear_6 : decode cX6_clear 6 = .ok (.iconst 0, 1) := by decide +kernel
theorem dX6_clear_7 : decode cX6_clear 7 = .ok (.putfield 107, 3) := by decide +kernel
theorem dX6_clear_10 : decode cX6_clear 10 = .ok (.iload_n 1, 1) := by decide +kernel
theorem dX6_clear_11 : decode cX6_clear 11 = .ok (.ireturn, 1) := by decide +kernel
theorem dX6_skip_0 : decode cX6_skip 0 = .ok (.aload_n 0, 1) := by decide +kernel
theorem dX6_skip_1 : decode cX6_skip 1 = .ok (.getfield 113, 3) := by decide +kernel
theorem dX6_skip_4 : decode cX6_skip 4 = .ok (.aload_n 0, 1) := by decide +kernel
theorem dX6_skip_5 : decode cX6_skip 5 = .ok (.getfield 107, 3) := by decide +kernel
theorem dX6_skip_8 : decode cX6_skip 8 = .ok (.if_icmp .ge 30, 3) := by decide +kernel
theorem dX6_skip_11 : decode cX6_skip 11 = .ok (.aload_n 0, 1) := by decide +kernel
theorem dX6_skip_12 : decode cX6_skip 12 = .ok (.getfield 19, 3) := by decide +kernel
theorem dX6_skip_15 : decode cX6_skip 15 = .ok (.aload_n 0, 1) := by decide +kernel
theorem dX6_skip_16 : decode cX6_skip 16 = .ok (.getfield 113, 3) := by decide +kernel
theorem dX6_skip_19 : decode cX6_skip 19 = .ok (.iaload, 1) := by decide +kernel
theorem dX6_skip_20 : decode cX6_skip 20 = .ok (.bipush 32, 2) := by decide +kernel
theorem dX6_skip_22 : decode cX6_skip 22 = .ok (.if_icmp .ne 16, 3) := by decide +kernel
theorem dX6_skip_25 : decode cX6_skip 25 = .ok (.aload_n 0, 1) := by decide +kernel
theorem dX6_skip_26 : decode cX6_skip 26 = .ok (.dup, 1) := by decide +kernel
theorem dX6_skip_27 : decode cX6_skip 27 = .ok (.getfield 113, 3) := by decide +kernel
theorem dX6_skip_30 : decode cX6_skip 30 = .ok (.iconst 1, 1) := by decide +kernel
theorem dX6_skip_31 : decode cX6_skip 31 = .ok (.iadd, 1) := by decide +kernel
theorem dX6_skip_32 : decode cX6_skip 32 = .ok (.putfield 113, 3) := by decide +kernel
theorem dX6_skip_35 : decode cX6_skip 35 = .ok (.goto (-35), 3) := by decide +kernel
theorem dX6_skip_38 : decode cX6_skip 38 = .ok (.return_, 1) := by decide +kernel
theorem dX6_meets_0 : decode cX6_meets 0 = .ok (.aload_n 0, 1) := by decide +kernel
theorem dX6_meets_1 : decode cX6_meets 1 = .ok (.invokevirtual 116, 3) := by decide +kernel
theorem dX6_meets_4 : decode cX6_meets 4 = .ok (.aload_n 0, 1) := by decide +kernel
theorem dX6_meets_5 : decode cX6_meets 5 = .ok (.getfield 113, 3) := by decide +kernel
theorem dX6_meets_8 : decode cX6_meets 8 = .ok (.aload_n 0, 1) := by decide +kernel
theorem dX6_meets_9 : decode cX6_meets 9 = .ok (.getfield 107, 3) := by decide +kernel
theorem dX6_meets_12 : decode cX6_meets 12 = .ok (.if_icmp .ge 27, 3) := by decide +kernel
theorem dX6_meets_15 : decode cX6_meets 15 = .ok (.aload_n 0, 1) := by decide +kernel
theorem dX6_meets_16 : decode cX6_meets 16 = .ok (.getfield 19, 3) := by decide +kernel
theorem dX6_meets_19 : decode cX6_meets 19 = .ok (.aload_n 0, 1) := by decide +kernel
theorem dX6_meets_20 : decode cX6_meets 20 = .ok (.getfield 113, 3) := by decide +kernel
theorem dX6_meets_23 : decode cX6_meets 23 = .ok (.iaload, 1) := by decide +kernel
theorem dX6_meets_24 : decode cX6_meets 24 = .ok (.i2l, 1) := by decide +kernel
theorem dX6_meets_25 : decode cX6_meets 25 = .ok (.iload_n 1, 1) := by decide +kernel
theorem dX6_meets_26 : decode cX6_meets 26 = .ok (.i2l, 1) := by decide +kernel
theorem dX6_meets_27 : decode cX6_meets 27 = .ok (.iload_n 2, 1) := by decide +kernel
theorem dX6_meets_28 : decode cX6_meets 28 = .ok (.i2l, 1) := by decide +kernel
theorem dX6_meets_29 : decode cX6_meets 29 = .ok (.invokestatic 62, 3) := by decide +kernel
theorem dX6_meets_32 : decode cX6_meets 32 = .ok (.ifCond .eq 7, 3) := by decide +kernel
theorem dX6_meets_35 : decode cX6_meets 35 = .ok (.iconst 1, 1) := by decide +kernel
theorem dX6_meets_36 : decode cX6_meets 36 = .ok (.goto 4, 3) := by decide +kernel
theorem dX6_meets_39 : decode cX6_meets 39 = .ok (.iconst 0, 1) := by decide +kernel
theorem dX6_meets_40 : decode cX6_meets 40 = .ok (.istore_n 3, 1) := by decide +kernel
theorem dX6_meets_41 : decode cX6_meets 41 = .ok (.aload_n 0, 1) := by decide +kernel
theorem dX6_meets_42 : decode cX6_meets 42 = .ok (.dup, 1) := by decide +kernel
theorem dX6_meets_43 : decode cX6_meets 43 = .ok (.getfield 113, 3) := by decide +kernel
theorem dX6_meets_46 : decode cX6_meets 46 = .ok (.iload_n 3, 1) := by decide +kernel
theorem dX6_meets_47 : decode cX6_meets 47 = .ok (.ifCond .eq 7, 3) := by decide +kernel
theorem dX6_meets_50 : decode cX6_meets 50 = .ok (.iconst 1, 1) := by decide +kernel
theorem dX6_meets_51 : decode cX6_meets 51 = .ok (.goto 4, 3) := by decide +kernel
theorem dX6_meets_54 : decode cX6_meets 54 = .ok (.iconst 0, 1) := by decide +kernel
theorem dX6_meets_55 : decode cX6_meets 55 = .ok (.iadd, 1) := by decide +kernel
theorem dX6_meets_56 : decode cX6_meets 56 = .ok (.putfield 113, 3) := by decide +kernel
theorem dX6_meets_59 : decode cX6_meets 59 = .ok (.iload_n 3, 1) := by decide +kernel
theorem dX6_meets_60 : decode cX6_meets 60 = .ok (.ireturn, 1) := by decide +kernel
theorem dX6_opens_0 : decode cX6_opens 0 = .ok (.iload_n 0, 1) := by decide +kernel
theorem dX6_opens_1 : decode cX6_opens 1 = .ok (.i2l, 1) := by decide +kernel
theorem dX6_opens_2 : decode cX6_opens 2 = .ok (.ldc2_w 119, 3) := by decide +kernel
theorem dX6_opens_5 : decode cX6_opens 5 = .ok (.ldc2_w 121, 3) := by decide +kernel
theorem dX6_opens_8 : decode cX6_opens 8 = .ok (.invokestatic 62, 3) := by decide +kernel
theorem dX6_opens_11 : decode cX6_opens 11 = .ok (.ifCond .ne 27, 3) := by decide +kernel
theorem dX6_opens_14 : decode cX6_opens 14 = .ok (.iload_n 0, 1) := by decide +kernel
theorem dX6_opens_15 : decode cX6_opens 15 = .ok (.bipush 40, 2) := by decide +kernel
theorem dX6_opens_17 : decode cX6_opens 17 = .ok (.if_icmp .eq 21, 3) := by decide +kernel
theorem dX6_opens_20 : decode cX6_opens 20 = .ok (.iload_n 0, 1) := by decide +kernel
theorem dX6_opens_21 : decode cX6_opens 21 = .ok (.bipush 91, 2) := by decide +kernel
theorem dX6_opens_23 : decode cX6_opens 23 = .ok (.if_icmp .eq 15, 3) := by decide +kernel
theorem dX6_opens_26 : decode cX6_opens 26 = .ok (.iload_n 0, 1) := by decide +kernel
theorem dX6_opens_27 : decode cX6_opens 27 = .ok (.bipush 60, 2) := by decide +kernel
theorem dX6_opens_29 : decode cX6_opens 29 = .ok (.if_icmp .eq 9, 3) := by decide +kernel
theorem dX6_opens_32 : decode cX6_opens 32 = .ok (.iload_n 0, 1) := by decide +kernel
theorem dX6_opens_33 : decode cX6_opens 33 = .ok (.bipush 120, 2) := by decide +kernel
theorem dX6_opens_35 : decode cX6_opens 35 = .ok (.if_icmp .ne 7, 3) := by decide +kernel
theorem dX6_opens_38 : decode cX6_opens 38 = .ok (.iconst 1, 1) := by decide +kernel
theorem dX6_opens_39 : decode cX6_opens 39 = .ok (.goto 4, 3) := by decide +kernel
theorem dX6_opens_42 : decode cX6_opens 42 = .ok (.iconst 0, 1) := by decide +kernel
theorem dX6_opens_43 : decode cX6_opens 43 = .ok (.ireturn, 1) := by decide +kernel
theorem dX6_endsBy_0 : decode cX6_endsBy 0 = .ok (.iload_n 0, 1) := by decide +kernel
theorem dX6_endsBy_1 : decode cX6_endsBy 1 = .ok (.i2l, 1) := by decide +kernel
theorem dX6_endsBy_2 : decode cX6_endsBy 2 = .ok (.ldc2_w 119, 3) := by decide +kernel
theorem dX6_endsBy_5 : decode cX6_endsBy 5 = .ok (.ldc2_w 121, 3) := by decide +kernel
theorem dX6_endsBy_8 : decode cX6_endsBy 8 = .ok (.invokestatic 62, 3) := by decide +kernel
theorem dX6_endsBy_11 : decode cX6_endsBy 11 = .ok (.ifCond .eq 8, 3) := by decide +kernel
theorem dX6_endsBy_14 : decode cX6_endsBy 14 = .ok (.bipush 125, 2) := by decide +kernel
theorem dX6_endsBy_16 : decode cX6_endsBy 16 = .ok (.goto 38, 3) := by decide +kernel
theorem dX6_endsBy_19 : decode cX6_endsBy 19 = .ok (.iload_n 0, 1) := by decide +kernel
theorem dX6_endsBy_20 : decode cX6_endsBy 20 = .ok (.bipush 40, 2) := by decide +kernel
theorem dX6_endsBy_22 : decode cX6_endsBy 22 = .ok (.if_icmp .ne 8, 3) := by decide +kernel
theorem dX6_endsBy_25 : decode cX6_endsBy 25 = .ok (.bipush 41, 2) := by decide +kernel
theorem dX6_endsBy_27 : decode cX6_endsBy 27 = .ok (.goto 27, 3) := by decide +kernel
theorem dX6_endsBy_30 : decode cX6_endsBy 30 = .ok (.iload_n 0, 1) := by decide +kernel
theorem dX6_endsBy_31 : decode cX6_endsBy 31 = .ok (.bipush 91, 2) := by decide +kernel
theorem dX6_endsBy_33 : decode cX6_endsBy 33 = .ok (.if_icmp .ne 8, 3) := by decide +kernel
theorem dX6_endsBy_36 : decode cX6_endsBy 36 = .ok (.bipush 93, 2) := by decide +kernel
theorem dX6_endsBy_38 : decode cX6_endsBy 38 = .ok (.goto 16, 3) := by decide +kernel
theorem dX6_endsBy_41 : decode cX6_endsBy 41 = .ok (.iload_n 0, 1) := by decide +kernel
theorem dX6_endsBy_42 : decode cX6_endsBy 42 = .ok (.bipush 60, 2) := by decide +kernel
theorem dX6_endsBy_44 : decode cX6_endsBy 44 = .ok (.if_icmp .ne 8, 3) := by decide +kernel
theorem dX6_endsBy_47 : decode cX6_endsBy 47 = .ok (.bipush 62, 2) := by decide +kernel
theorem dX6_endsBy_49 : decode cX6_endsBy 49 = .ok (.goto 5, 3) := by decide +kernel
theorem dX6_endsBy_52 : decode cX6_endsBy 52 = .ok (.bipush 59, 2) := by decide +kernel
theorem dX6_endsBy_54 : decode cX6_endsBy 54 = .ok (.ireturn, 1) := by decide +kernel
theorem dX6_reads_0 : decode cX6_reads 0 = .ok (.iconst 0, 1) := by decide +kernel
theorem dX6_reads_1 : decode cX6_reads 1 = .ok (.istore_n 1, 1) := by decide +kernel
theorem dX6_reads_2 : decode cX6_reads 2 = .ok (.aload_n 0, 1) := by decide +kernel
theorem dX6_reads_3 : decode cX6_reads 3 = .ok (.iconst 0, 1) := by decide +kernel
theorem dX6_reads_4 : decode cX6_reads 4 = .ok (.putfield 123, 3) := by decide +kernel
theorem dX6_reads_7 : decode cX6_reads 7 = .ok (.aload_n 0, 1) := by decide +kernel
theorem dX6_reads_8 : decode cX6_reads 8 = .ok (.iconst 0, 1) := by decide +kernel
theorem dX6_reads_9 : decode cX6_reads 9 = .ok (.putfield 126, 3) := by decide +kernel
theorem dX6_reads_12 : decode cX6_reads 12 = .ok (.aload_n 0, 1) := by decide +kernel
theorem dX6_reads_13 : decode cX6_reads 13 = .ok (.iconst 0, 1) := by decide +kernel
theorem dX6_reads_14 : decode cX6_reads 14 = .ok (.putfield 129, 3) := by decide +kernel
theorem dX6_reads_17 : decode cX6_reads 17 = .ok (.aload_n 0, 1) := by decide +kernel
theorem dX6_reads_18 : decode cX6_reads 18 = .ok (.iconst 0, 1) := by decide +kernel
theorem dX6_reads_19 : decode cX6_reads 19 = .ok (.putfield 113, 3) := by decide +kernel
theorem dX6_reads_22 : decode cX6_reads 22 = .ok (.aload_n 0, 1) := by decide +kernel
theorem dX6_reads_23 : decode cX6_reads 23 = .ok (.invokevirtual 116, 3) := by decide +kernel
theorem dX6_reads_26 : decode cX6_reads 26 = .ok (.aload_n 0, 1) := by decide +kernel
theorem dX6_reads_27 : decode cX6_reads 27 = .ok (.getfield 113, 3) := by decide +kernel
theorem dX6_reads_30 : decode cX6_reads 30 = .ok (.aload_n 0, 1) := by decide +kernel
theorem dX6_reads_31 : decode cX6_reads 31 = .ok (.getfield 107, 3) := by decide +kernel
theorem dX6_reads_34 : decode cX6_reads 34 = .ok (.if_icmp .ge 449, 3) := by decide +kernel
theorem dX6_reads_37 : decode cX6_reads 37 = .ok (.aload_n 0, 1) := by decide +kernel
theorem dX6_reads_38 : decode cX6_reads 38 = .ok (.getfield 113, 3) := by decide +kernel
theorem dX6_reads_41 : decode cX6_reads 41 = .ok (.istore_n 2, 1) := by decide +kernel
theorem dX6_reads_42 : decode cX6_reads 42 = .ok (.aload_n 0, 1) := by decide +kernel
theorem dX6_reads_43 : decode cX6_reads 43 = .ok (.getfield 19, 3) := by decide +kernel
theorem dX6_reads_46 : decode cX6_reads 46 = .ok (.iload_n 2, 1) := by decide +kernel
theorem dX6_reads_47 : decode cX6_reads 47 = .ok (.iaload, 1) := by decide +kernel
theorem dX6_reads_48 : decode cX6_reads 48 = .ok (.istore_n 3, 1) := by decide +kernel
theorem dX6_reads_49 : decode cX6_reads 49 = .ok (.iload_n 1, 1) := by decide +kernel
theorem dX6_reads_50 : decode cX6_reads 50 = .ok (.ifCond .le 14, 3) := by decide +kernel
theorem dX6_reads_53 : decode cX6_reads 53 = .ok (.aload_n 0, 1) := by decide +kernel
theorem dX6_reads_54 : decode cX6_reads 54 = .ok (.getfield 28, 3) := by decide +kernel
theorem dX6_reads_57 : decode cX6_reads 57 = .ok (.iload_n 1, 1) := by decide +kernel
theorem dX6_reads_58 : decode cX6_reads 58 = .ok (.iconst 1, 1) := by decide +kernel
theorem dX6_reads_59 : decode cX6_reads 59 = .ok (.isub, 1) := by decide +kernel
theorem dX6_reads_60 : decode cX6_reads 60 = .ok (.iaload, 1) := by decide +kernel
theorem dX6_reads_61 : decode cX6_reads 61 = .ok (.goto 4, 3) := by decide +kernel
theorem dX6_reads_64 : decode cX6_reads 64 = .ok (.iconst (-1), 1) := by decide +kernel
theorem dX6_reads_65 : decode cX6_reads 65 = .ok (.istore 4, 2) := by decide +kernel
theorem dX6_reads_67 : decode cX6_reads 67 = .ok (.iload_n 3, 1) := by decide +kernel
theorem dX6_reads_68 : decode cX6_reads 68 = .ok (.invokestatic 132, 3) := by decide +kernel
theorem dX6_reads_71 : decode cX6_reads 71 = .ok (.ifCond .eq 161, 3) := by decide +kernel
theorem dX6_reads_74 : decode cX6_reads 74 = .ok (.iload_n 1, 1) := by decide +kernel
theorem dX6_reads_75 : decode cX6_reads 75 = .ok (.bipush 8, 2) := by decide +kernel
theorem dX6_reads_77 : decode cX6_reads 77 = .ok (.if_icmp .ne 5, 3) := by decide +kernel
theorem dX6_reads_80 : decode cX6_reads 80 = .ok (.iload_n 2, 1) := by decide +kernel
theorem dX6_reads_81 : decode cX6_reads 81 = .ok (.ireturn, 1) := by decide +kernel
theorem dX6_reads_82 : decode cX6_reads 82 = .ok (.aload_n 0, 1) := by decide +kernel
theorem dX6_reads_83 : decode cX6_reads 83 = .ok (.dup, 1) := by decide +kernel
theorem dX6_reads_84 : decode cX6_reads 84 = .ok (.getfield 113, 3) := by decide +kernel
theorem dX6_reads_87 : decode cX6_reads 87 = .ok (.iconst 1, 1) := by decide +kernel
theorem dX6_reads_88 : decode cX6_reads 88 = .ok (.iadd, 1) := by decide +kernel
theorem dX6_reads_89 : decode cX6_reads 89 = .ok (.putfield 113, 3) := by decide +kernel
theorem dX6_reads_92 : decode cX6_reads 92 = .ok (.iconst 1, 1) := by decide +kernel
theorem dX6_reads_93 : decode cX6_reads 93 = .ok (.istore 5, 2) := by decide +kernel
theorem dX6_reads_95 : decode cX6_reads 95 = .ok (.iload_n 3, 1) := by decide +kernel
theorem dX6_reads_96 : decode cX6_reads 96 = .ok (.i2l, 1) := by decide +kernel
theorem dX6_reads_97 : decode cX6_reads 97 = .ok (.ldc2_w 119, 3) := by decide +kernel
theorem dX6_reads_100 : decode cX6_reads 100 = .ok (.ldc2_w 121, 3) := by decide +kernel
theorem dX6_reads_103 : decode cX6_reads 103 = .ok (.invokestatic 62, 3) := by decide +kernel
theorem dX6_reads_106 : decode cX6_reads 106 = .ok (.ifCond .eq 31, 3) := by decide +kernel
theorem dX6_reads_109 : decode cX6_reads 109 = .ok (.aload_n 0, 1) := by decide +kernel
theorem dX6_reads_110 : decode cX6_reads 110 = .ok (.bipush 123, 2) := by decide +kernel
theorem dX6_reads_112 : decode cX6_reads 112 = .ok (.bipush 123, 2) := by decide +kernel
theorem dX6_reads_114 : decode cX6_reads 114 = .ok (.invokevirtual 135, 3) := by decide +kernel
theorem dX6_reads_117 : decode cX6_reads 117 = .ok (.istore 5, 2) := by decide +kernel
theorem dX6_reads_119 : decode cX6_reads 119 = .ok (.aload_n 0, 1) := by decide +kernel
theorem dX6_reads_120 : decode cX6_reads 120 = .ok (.dup, 1) := by decide +kernel
theorem dX6_reads_121 : decode cX6_reads 121 = .ok (.getfield 129, 3) := by decide +kernel
theorem dX6_reads_124 : decode cX6_reads 124 = .ok (.iconst 1, 1) := by decide +kernel
theorem dX6_reads_125 : decode cX6_reads 125 = .ok (.iload_n 3, 1) := by decide +kernel
theorem dX6_reads_126 : decode cX6_reads 126 = .ok (.bipush 48, 2) := by decide +kernel
theorem dX6_reads_128 : decode cX6_reads 128 = .ok (.isub, 1) := by decide +kernel
theorem dX6_reads_129 : decode cX6_reads 129 = .ok (.ishl, 1) := by decide +kernel
theorem dX6_reads_130 : decode cX6_reads 130 = .ok (.ior, 1) := by decide +kernel
theorem dX6_reads_131 : decode cX6_reads 131 = .ok (.putfield 129, 3) := by decide +kernel
theorem dX6_reads_134 : decode cX6_reads 134 = .ok (.goto 38, 3) := by decide +kernel
theorem dX6_reads_137 : decode cX6_reads 137 = .ok (.iload_n 3, 1) := by decide +kernel
theorem dX6_reads_138 : decode cX6_reads 138 = .ok (.bipush 120, 2) := by decide +kernel
theorem dX6_reads_140 : decode cX6_reads 140 = .ok (.if_icmp .ne 32, 3) := by decide +kernel
theorem dX6_reads_143 : decode cX6_reads 143 = .ok (.aload_n 0, 1) := by decide +kernel
theorem dX6_reads_144 : decode cX6_reads 144 = .ok (.bipush 48, 2) := by decide +kernel
theorem dX6_reads_146 : decode cX6_reads 146 = .ok (.bipush 57, 2) := by decide +kernel
theorem dX6_reads_148 : decode cX6_reads 148 = .ok (.invokevirtual 135, 3) := by decide +kernel
theorem dX6_reads_151 : decode cX6_reads 151 = .ok (.ifCond .eq 18, 3) := by decide +kernel
theorem dX6_reads_154 : decode cX6_reads 154 = .ok (.aload_n 0, 1) := by decide +kernel
theorem dX6_reads_155 : decode cX6_reads 155 = .ok (.bipush 58, 2) := by decide +kernel
theorem dX6_reads_157 : decode cX6_reads 157 = .ok (.bipush 58, 2) := by decide +kernel
theorem dX6_reads_159 : decode cX6_reads 159 = .ok (.invokevirtual 135, 3) := by decide +kernel
theorem dX6_reads_162 : decode cX6_reads 162 = .ok (.ifCond .eq 7, 3) := by decide +kernel
theorem dX6_reads_165 : decode cX6_reads 165 = .ok (.iconst 1, 1) := by decide +kernel
theorem dX6_reads_166 : decode cX6_reads 166 = .ok (.goto 4, 3) := by decide +kernel
theorem dX6_reads_169 : decode cX6_reads 169 = .ok (.iconst 0, 1) := by decide +kernel
theorem dX6_reads_170 : decode cX6_reads 170 = .ok (.istore 5, 2) := by decide +kernel
theorem dX6_reads_172 : decode cX6_reads 172 = .ok (.iload 5, 2) := by decide +kernel
theorem dX6_reads_174 : decode cX6_reads 174 = .ok (.ifCond .ne 8, 3) := by decide +kernel
theorem dX6_reads_177 : decode cX6_reads 177 = .ok (.aload_n 0, 1) := by decide +kernel
theorem dX6_reads_178 : decode cX6_reads 178 = .ok (.getfield 113, 3) := by decide +kernel
theorem dX6_reads_181 : decode cX6_reads 181 = .ok (.ireturn, 1) := by decide +kernel
theorem dX6_reads_182 : decode cX6_reads 182 = .ok (.aload_n 0, 1) := by decide +kernel
theorem dX6_reads_183 : decode cX6_reads 183 = .ok (.getfield 28, 3) := by decide +kernel
theorem dX6_reads_186 : decode cX6_reads 186 = .ok (.iload_n 1, 1) := by decide +kernel
theorem dX6_reads_187 : decode cX6_reads 187 = .ok (.iload_n 2, 1) := by decide +kernel
theorem dX6_reads_188 : decode cX6_reads 188 = .ok (.iastore, 1) := by decide +kernel
theorem dX6_reads_189 : decode cX6_reads 189 = .ok (.aload_n 0, 1) := by decide +kernel
theorem dX6_reads_190 : decode cX6_reads 190 = .ok (.getfield 25, 3) := by decide +kernel
theorem dX6_reads_193 : decode cX6_reads 193 = .ok (.iload_n 2, 1) := by decide +kernel
theorem dX6_reads_194 : decode cX6_reads 194 = .ok (.iconst (-1), 1) := by decide +kernel
theorem dX6_reads_195 : decode cX6_reads 195 = .ok (.iastore, 1) := by decide +kernel
theorem dX6_reads_196 : decode cX6_reads 196 = .ok (.iinc 1 1, 3) := by decide +kernel
theorem dX6_reads_199 : decode cX6_reads 199 = .ok (.aload_n 0, 1) := by decide +kernel
theorem dX6_reads_200 : decode cX6_reads 200 = .ok (.iload_n 1, 1) := by decide +kernel
theorem dX6_reads_201 : decode cX6_reads 201 = .ok (.aload_n 0, 1) := by decide +kernel
theorem dX6_reads_202 : decode cX6_reads 202 = .ok (.getfield 126, 3) := by decide +kernel
theorem dX6_reads_205 : decode cX6_reads 205 = .ok (.if_icmp .le 7, 3) := by decide +kernel
theorem dX6_reads_208 : decode cX6_reads 208 = .ok (.iload_n 1, 1) := by decide +kernel
theorem dX6_reads_209 : decode cX6_reads 209 = .ok (.goto 7, 3) := by decide +kernel
theorem dX6_reads_212 : decode cX6_reads 212 = .ok (.aload_n 0, 1) := by decide +kernel
theorem dX6_reads_213 : decode cX6_reads 213 = .ok (.getfield 126, 3) := by decide +kernel
theorem dX6_reads_216 : decode cX6_reads 216 = .ok (.putfield 126, 3) := by decide +kernel
theorem dX6_reads_219 : decode cX6_reads 219 = .ok (.aload_n 0, 1) := by decide +kernel
theorem dX6_reads_220 : decode cX6_reads 220 = .ok (.dup, 1) := by decide +kernel
theorem dX6_reads_221 : decode cX6_reads 221 = .ok (.getfield 123, 3) := by decide +kernel
theorem dX6_reads_224 : decode cX6_reads 224 = .ok (.iconst 1, 1) := by decide +kernel
theorem dX6_reads_225 : decode cX6_reads 225 = .ok (.iadd, 1) := by decide +kernel
theorem dX6_reads_226 : decode cX6_reads 226 = .ok (.putfield 123, 3) := by decide +kernel
theorem dX6_reads_229 : decode cX6_reads 229 = .ok (.goto 247, 3) := by decide +kernel
theorem dX6_reads_232 : decode cX6_reads 232 = .ok (.iload_n 3, 1) := by decide +kernel
theorem dX6_reads_233 : decode cX6_reads 233 = .ok (.bipush 33, 2) := by decide +kernel
theorem dX6_reads_235 : decode cX6_reads 235 = .ok (.if_icmp .ne 39, 3) := by decide +kernel
theorem dX6_reads_238 : decode cX6_reads 238 = .ok (.aload_n 0, 1) := by decide +kernel
theorem dX6_reads_239 : decode cX6_reads 239 = .ok (.dup, 1) := by decide +kernel
theorem dX6_reads_240 : decode cX6_reads 240 = .ok (.getfield 113, 3) := by decide +kernel
theorem dX6_reads_243 : decode cX6_reads 243 = .ok (.iconst 1, 1) := by decide +kernel
theorem dX6_reads_244 : decode cX6_reads 244 = .ok (.iadd, 1) := by decide +kernel
theorem dX6_reads_245 : decode cX6_reads 245 = .ok (.putfield 113, 3) := by decide +kernel
theorem dX6_reads_248 : decode cX6_reads 248 = .ok (.aload_n 0, 1) := by decide +kernel
theorem dX6_reads_249 : decode cX6_reads 249 = .ok (.dup, 1) := by decide +kernel
theorem dX6_reads_250 : decode cX6_reads 250 = .ok (.getfield 123, 3) := by decide +kernel
theorem dX6_reads_253 : decode cX6_reads 253 = .ok (.iconst 1, 1) := by decide +kernel
theorem dX6_reads_254 : decode cX6_reads 254 = .ok (.iadd, 1) := by decide +kernel
theorem dX6_reads_255 : decode cX6_reads 255 = .ok (.putfield 123, 3) := by decide +kernel
theorem dX6_reads_258 : decode cX6_reads 258 = .ok (.aload_n 0, 1) := by decide +kernel
theorem dX6_reads_259 : decode cX6_reads 259 = .ok (.bipush 48, 2) := by decide +kernel
theorem dX6_reads_261 : decode cX6_reads 261 = .ok (.bipush 57, 2) := by decide +kernel
theorem dX6_reads_263 : decode cX6_reads 263 = .ok (.invokevirtual 135, 3) := by decide +kernel
theorem dX6_reads_266 : decode cX6_reads 266 = .ok (.ifCond .ne 210, 3) := by decide +kernel
theorem dX6_reads_269 : decode cX6_reads 269 = .ok (.aload_n 0, 1) := by decide +kernel
theorem dX6_reads_270 : decode cX6_reads 270 = .ok (.getfield 113, 3) := by decide +kernel
theorem dX6_reads_273 : decode cX6_reads 273 = .ok (.ireturn, 1) := by decide +kernel
theorem dX6_reads_274 : decode cX6_reads 274 = .ok (.iload_n 3, 1) := by decide +kernel
theorem dX6_reads_275 : decode cX6_reads 275 = .ok (.bipush 108, 2) := by decide +kernel
theorem dX6_reads_277 : decode cX6_reads 277 = .ok (.if_icmp .eq 27, 3) := by decide +kernel
theorem dX6_reads_280 : decode cX6_reads 280 = .ok (.iload_n 3, 1) := by decide +kernel
theorem dX6_reads_281 : decode cX6_reads 281 = .ok (.bipush 107, 2) := by decide +kernel
theorem dX6_reads_283 : decode cX6_reads 283 = .ok (.if_icmp .eq 21, 3) := by decide +kernel
theorem dX6_reads_286 : decode cX6_reads 286 = .ok (.iload_n 3, 1) := by decide +kernel
theorem dX6_reads_287 : decode cX6_reads 287 = .ok (.bipush 119, 2) := by decide +kernel
theorem dX6_reads_289 : decode cX6_reads 289 = .ok (.if_icmp .eq 15, 3) := by decide +kernel
theorem dX6_reads_292 : decode cX6_reads 292 = .ok (.iload_n 3, 1) := by decide +kernel
theorem dX6_reads_293 : decode cX6_reads 293 = .ok (.bipush 98, 2) := by decide +kernel
theorem dX6_reads_295 : decode cX6_reads 295 = .ok (.if_icmp .eq 9, 3) := by decide +kernel
theorem dX6_reads_298 : decode cX6_reads 298 = .ok (.iload_n 3, 1) := by decide +kernel
theorem dX6_reads_299 : decode cX6_reads 299 = .ok (.bipush 43, 2) := by decide +kernel
theorem dX6_reads_301 : decode cX6_reads 301 = .ok (.if_icmp .ne 26, 3) := by decide +kernel
theorem dX6_reads_304 : decode cX6_reads 304 = .ok (.aload_n 0, 1) := by decide +kernel
theorem dX6_reads_305 : decode cX6_reads 305 = .ok (.dup, 1) := by decide +kernel
theorem dX6_reads_306 : decode cX6_reads 306 = .ok (.getfield 113, 3) := by decide +kernel
theorem dX6_reads_309 : decode cX6_reads 309 = .ok (.iconst 1, 1) := by decide +kernel
theorem dX6_reads_310 : decode cX6_reads 310 = .ok (.iadd, 1) := by decide +kernel
theorem dX6_reads_311 : decode cX6_reads 311 = .ok (.putfield 113, 3) := by decide +kernel
theorem dX6_reads_314 : decode cX6_reads 314 = .ok (.aload_n 0, 1) := by decide +kernel
theorem dX6_reads_315 : decode cX6_reads 315 = .ok (.dup, 1) := by decide +kernel
theorem dX6_reads_316 : decode cX6_reads 316 = .ok (.getfield 123, 3) := by decide +kernel
theorem dX6_reads_319 : decode cX6_reads 319 = .ok (.iconst 1, 1) := by decide +kernel
theorem dX6_reads_320 : decode cX6_reads 320 = .ok (.iadd, 1) := by decide +kernel
theorem dX6_reads_321 : decode cX6_reads 321 = .ok (.putfield 123, 3) := by decide +kernel
theorem dX6_reads_324 : decode cX6_reads 324 = .ok (.goto 152, 3) := by decide +kernel
theorem dX6_reads_327 : decode cX6_reads 327 = .ok (.iload 4, 2) := by decide +kernel
theorem dX6_reads_329 : decode cX6_reads 329 = .ok (.iconst (-1), 1) := by decide +kernel
theorem dX6_reads_330 : decode cX6_reads 330 = .ok (.if_icmp .eq 65, 3) := by decide +kernel
theorem dX6_reads_333 : decode cX6_reads 333 = .ok (.iload_n 3, 1) := by decide +kernel
theorem dX6_reads_334 : decode cX6_reads 334 = .ok (.bipush 47, 2) := by decide +kernel
theorem dX6_reads_336 : decode cX6_reads 336 = .ok (.if_icmp .ne 59, 3) := by decide +kernel
theorem dX6_reads_339 : decode cX6_reads 339 = .ok (.aload_n 0, 1) := by decide +kernel
theorem dX6_reads_340 : decode cX6_reads 340 = .ok (.getfield 19, 3) := by decide +kernel
theorem dX6_reads_343 : decode cX6_reads 343 = .ok (.iload 4, 2) := by decide +kernel
theorem dX6_reads_345 : decode cX6_reads 345 = .ok (.iaload, 1) := by decide +kernel
theorem dX6_reads_346 : decode cX6_reads 346 = .ok (.bipush 40, 2) := by decide +kernel
theorem dX6_reads_348 : decode cX6_reads 348 = .ok (.if_icmp .eq 15, 3) := by decide +kernel
theorem dX6_reads_351 : decode cX6_reads 351 = .ok (.aload_n 0, 1) := by decide +kernel
theorem dX6_reads_352 : decode cX6_reads 352 = .ok (.getfield 19, 3) := by decide +kernel
theorem dX6_reads_355 : decode cX6_reads 355 = .ok (.iload 4, 2) := by decide +kernel
theorem dX6_reads_357 : decode cX6_reads 357 = .ok (.iaload, 1) := by decide +kernel
theorem dX6_reads_358 : decode cX6_reads 358 = .ok (.bipush 91, 2) := by decide +kernel
theorem dX6_reads_360 : decode cX6_reads 360 = .ok (.if_icmp .ne 35, 3) := by decide +kernel
theorem dX6_reads_363 : decode cX6_reads 363 = .ok (.aload_n 0, 1) := by decide +kernel
theorem dX6_reads_364 : decode cX6_reads 364 = .ok (.getfield 25, 3) := by decide +kernel
theorem dX6_reads_367 : decode cX6_reads 367 = .ok (.iload 4, 2) := by decide +kernel
theorem dX6_reads_369 : decode cX6_reads 369 = .ok (.iaload, 1) := by decide +kernel
theorem dX6_reads_370 : decode cX6_reads 370 = .ok (.iconst (-1), 1) := by decide +kernel
theorem dX6_reads_371 : decode cX6_reads 371 = .ok (.if_icmp .ne 24, 3) := by decide +kernel
theorem dX6_reads_374 : decode cX6_reads 374 = .ok (.aload_n 0, 1) := by decide +kernel
theorem dX6_reads_375 : decode cX6_reads 375 = .ok (.getfield 25, 3) := by decide +kernel
theorem dX6_reads_378 : decode cX6_reads 378 = .ok (.iload 4, 2) := by decide +kernel
theorem dX6_reads_380 : decode cX6_reads 380 = .ok (.iload_n 2, 1) := by decide +kernel
theorem dX6_reads_381 : decode cX6_reads 381 = .ok (.iastore, 1) := by decide +kernel
theorem dX6_reads_382 : decode cX6_reads 382 = .ok (.aload_n 0, 1) := by decide +kernel
theorem dX6_reads_383 : decode cX6_reads 383 = .ok (.dup, 1) := by decide +kernel
theorem dX6_reads_384 : decode cX6_reads 384 = .ok (.getfield 113, 3) := by decide +kernel
theorem dX6_reads_387 : decode cX6_reads 387 = .ok (.iconst 1, 1) := by decide +kernel
theorem dX6_reads_388 : decode cX6_reads 388 = .ok (.iadd, 1) := by decide +kernel
theorem dX6_reads_389 : decode cX6_reads 389 = .ok (.putfield 113, 3) := by decide +kernel
theorem dX6_reads_392 : decode cX6_reads 392 = .ok (.goto 84, 3) := by decide +kernel
theorem dX6_reads_395 : decode cX6_reads 395 = .ok (.iload 4, 2) := by decide +kernel
theorem dX6_reads_397 : decode cX6_reads 397 = .ok (.iconst (-1), 1) := by decide +kernel
theorem dX6_reads_398 : decode cX6_reads 398 = .ok (.if_icmp .eq 76, 3) := by decide +kernel
theorem dX6_reads_401 : decode cX6_reads 401 = .ok (.iload_n 3, 1) := by decide +kernel
theorem dX6_reads_402 : decode cX6_reads 402 = .ok (.aload_n 0, 1) := by decide +kernel
theorem dX6_reads_403 : decode cX6_reads 403 = .ok (.getfield 19, 3) := by decide +kernel
theorem dX6_reads_406 : decode cX6_reads 406 = .ok (.iload 4, 2) := by decide +kernel
theorem dX6_reads_408 : decode cX6_reads 408 = .ok (.iaload, 1) := by decide +kernel
theorem dX6_reads_409 : decode cX6_reads 409 = .ok (.invokestatic 139, 3) := by decide +kernel
theorem dX6_reads_412 : decode cX6_reads 412 = .ok (.if_icmp .ne 62, 3) := by decide +kernel
theorem dX6_reads_415 : decode cX6_reads 415 = .ok (.aload_n 0, 1) := by decide +kernel
theorem dX6_reads_416 : decode cX6_reads 416 = .ok (.getfield 19, 3) := by decide +kernel
theorem dX6_reads_419 : decode cX6_reads 419 = .ok (.iload 4, 2) := by decide +kernel
theorem dX6_reads_421 : decode cX6_reads 421 = .ok (.iaload, 1) := by decide +kernel
theorem dX6_reads_422 : decode cX6_reads 422 = .ok (.bipush 40, 2) := by decide +kernel
theorem dX6_reads_424 : decode cX6_reads 424 = .ok (.if_icmp .eq 15, 3) := by decide +kernel
theorem dX6_reads_427 : decode cX6_reads 427 = .ok (.aload_n 0, 1) := by decide +kernel
theorem dX6_reads_428 : decode cX6_reads 428 = .ok (.getfield 19, 3) := by decide +kernel
theorem dX6_reads_431 : decode cX6_reads 431 = .ok (.iload 4, 2) := by decide +kernel
theorem dX6_reads_433 : decode cX6_reads 433 = .ok (.iaload, 1) := by decide +kernel
theorem dX6_reads_434 : decode cX6_reads 434 = .ok (.bipush 91, 2) := by decide +kernel
theorem dX6_reads_436 : decode cX6_reads 436 = .ok (.if_icmp .ne 14, 3) := by decide +kernel
theorem dX6_reads_439 : decode cX6_reads 439 = .ok (.aload_n 0, 1) := by decide +kernel
theorem dX6_reads_440 : decode cX6_reads 440 = .ok (.getfield 25, 3) := by decide +kernel
theorem dX6_reads_443 : decode cX6_reads 443 = .ok (.iload 4, 2) := by decide +kernel
theorem dX6_reads_445 : decode cX6_reads 445 = .ok (.iaload, 1) := by decide +kernel
theorem dX6_reads_446 : decode cX6_reads 446 = .ok (.iconst (-1), 1) := by decide +kernel
theorem dX6_reads_447 : decode cX6_reads 447 = .ok (.if_icmp .eq 27, 3) := by decide +kernel
theorem dX6_reads_450 : decode cX6_reads 450 = .ok (.aload_n 0, 1) := by decide +kernel
theorem dX6_reads_451 : decode cX6_reads 451 = .ok (.getfield 22, 3) := by decide +kernel
theorem dX6_reads_454 : decode cX6_reads 454 = .ok (.iload 4, 2) := by decide +kernel
theorem dX6_reads_456 : decode cX6_reads 456 = .ok (.iload_n 2, 1) := by decide +kernel
theorem dX6_reads_457 : decode cX6_reads 457 = .ok (.iastore, 1) := by decide +kernel
theorem dX6_reads_458 : decode cX6_reads 458 = .ok (.iinc 1 (-1), 3) := by decide +kernel
theorem dX6_reads_461 : decode cX6_reads 461 = .ok (.aload_n 0, 1) := by decide +kernel
theorem dX6_reads_462 : decode cX6_reads 462 = .ok (.dup, 1) := by decide +kernel
theorem dX6_reads_463 : decode cX6_reads 463 = .ok (.getfield 113, 3) := by decide +kernel
theorem dX6_reads_466 : decode cX6_reads 466 = .ok (.iconst 1, 1) := by decide +kernel
theorem dX6_reads_467 : decode cX6_reads 467 = .ok (.iadd, 1) := by decide +kernel
theorem dX6_reads_468 : decode cX6_reads 468 = .ok (.putfield 113, 3) := by decide +kernel
theorem dX6_reads_471 : decode cX6_reads 471 = .ok (.goto 5, 3) := by decide +kernel
theorem dX6_reads_474 : decode cX6_reads 474 = .ok (.iload_n 2, 1) := by decide +kernel
theorem dX6_reads_475 : decode cX6_reads 475 = .ok (.ireturn, 1) := by decide +kernel
theorem dX6_reads_476 : decode cX6_reads 476 = .ok (.aload_n 0, 1) := by decide +kernel
theorem dX6_reads_477 : decode cX6_reads 477 = .ok (.invokevirtual 116, 3) := by decide +kernel
theorem dX6_reads_480 : decode cX6_reads 480 = .ok (.goto (-454), 3) := by decide +kernel
theorem dX6_reads_483 : decode cX6_reads 483 = .ok (.iload_n 1, 1) := by decide +kernel
theorem dX6_reads_484 : decode cX6_reads 484 = .ok (.ifCond .le 10, 3) := by decide +kernel
theorem dX6_reads_487 : decode cX6_reads 487 = .ok (.aload_n 0, 1) := by decide +kernel
theorem dX6_reads_488 : decode cX6_reads 488 = .ok (.getfield 107, 3) := by decide +kernel
theorem dX6_reads_491 : decode cX6_reads 491 = .ok (.goto 4, 3) := by decide +kernel
theorem dX6_reads_494 : decode cX6_reads 494 = .ok (.iconst (-1), 1) := by decide +kernel
theorem dX6_reads_495 : decode cX6_reads 495 = .ok (.ireturn, 1) := by decide +kernel
theorem dX6_notes_0 : decode cX6_notes 0 = .ok (.aload_n 0, 1) := by decide +kernel
theorem dX6_notes_1 : decode cX6_notes 1 = .ok (.getfield 142, 3) := by decide +kernel
theorem dX6_notes_4 : decode cX6_notes 4 = .ok (.sipush 150, 3) := by decide +kernel
theorem dX6_notes_7 : decode cX6_notes 7 = .ok (.if_icmp .ge 23, 3) := by decide +kernel
theorem dX6_notes_10 : decode cX6_notes 10 = .ok (.aload_n 0, 1) := by decide +kernel
theorem dX6_notes_11 : decode cX6_notes 11 = .ok (.getfield 31, 3) := by decide +kernel
theorem dX6_notes_14 : decode cX6_notes 14 = .ok (.aload_n 0, 1) := by decide +kernel
theorem dX6_notes_15 : decode cX6_notes 15 = .ok (.getfield 142, 3) := by decide +kernel
theorem dX6_notes_18 : decode cX6_notes 18 = .ok (.iload_n 1, 1) := by decide +kernel
theorem dX6_notes_19 : decode cX6_notes 19 = .ok (.iastore, 1) := by decide +kernel
theorem dX6_notes_20 : decode cX6_notes 20 = .ok (.aload_n 0, 1) := by decide +kernel
theorem dX6_notes_21 : decode cX6_notes 21 = .ok (.dup, 1) := by decide +kernel
theorem dX6_notes_22 : decode cX6_notes 22 = .ok (.getfield 142, 3) := by decide +kernel
theorem dX6_notes_25 : decode cX6_notes 25 = .ok (.iconst 1, 1) := by decide +kernel
theorem dX6_notes_26 : decode cX6_notes 26 = .ok (.iadd, 1) := by decide +kernel
theorem dX6_notes_27 : decode cX6_notes 27 = .ok (.putfield 142, 3) := by decide +kernel
theorem dX6_notes_30 : decode cX6_notes 30 = .ok (.return_, 1) := by decide +kernel
theorem dX6_befalls_0 : decode cX6_befalls 0 = .ok (.aload_n 0, 1) := by decide +kernel
theorem dX6_befalls_1 : decode cX6_befalls 1 = .ok (.iload_n 1, 1) := by decide +kernel
theorem dX6_befalls_2 : decode cX6_befalls 2 = .ok (.putfield 145, 3) := by decide +kernel
theorem dX6_befalls_5 : decode cX6_befalls 5 = .ok (.aload_n 0, 1) := by decide +kernel
theorem dX6_befalls_6 : decode cX6_befalls 6 = .ok (.aload_n 0, 1) := by decide +kernel
theorem dX6_befalls_7 : decode cX6_befalls 7 = .ok (.getfield 148, 3) := by decide +kernel
theorem dX6_befalls_10 : decode cX6_befalls 10 = .ok (.putfield 151, 3) := by decide +kernel
theorem dX6_befalls_13 : decode cX6_befalls 13 = .ok (.aload_n 0, 1) := by decide +kernel
theorem dX6_befalls_14 : decode cX6_befalls 14 = .ok (.iload_n 2, 1) := by decide +kernel
theorem dX6_befalls_15 : decode cX6_befalls 15 = .ok (.putfield 154, 3) := by decide +kernel
theorem dX6_befalls_18 : decode cX6_befalls 18 = .ok (.aload_n 0, 1) := by decide +kernel
theorem dX6_befalls_19 : decode cX6_befalls 19 = .ok (.iconst 0, 1) := by decide +kernel
theorem dX6_befalls_20 : decode cX6_befalls 20 = .ok (.putfield 157, 3) := by decide +kernel
theorem dX6_befalls_23 : decode cX6_befalls 23 = .ok (.aload_n 0, 1) := by decide +kernel
theorem dX6_befalls_24 : decode cX6_befalls 24 = .ok (.iload_n 1, 1) := by decide +kernel
theorem dX6_befalls_25 : decode cX6_befalls 25 = .ok (.putfield 160, 3) := by decide +kernel
theorem dX6_befalls_28 : decode cX6_befalls 28 = .ok (.aload_n 0, 1) := by decide +kernel
theorem dX6_befalls_29 : decode cX6_befalls 29 = .ok (.dup, 1) := by decide +kernel
theorem dX6_befalls_30 : decode cX6_befalls 30 = .ok (.getfield 163, 3) := by decide +kernel
theorem dX6_befalls_33 : decode cX6_befalls 33 = .ok (.iconst 1, 1) := by decide +kernel
theorem dX6_befalls_34 : decode cX6_befalls 34 = .ok (.iadd, 1) := by decide +kernel
theorem dX6_befalls_35 : decode cX6_befalls 35 = .ok (.putfield 163, 3) := by decide +kernel
theorem dX6_befalls_38 : decode cX6_befalls 38 = .ok (.return_, 1) := by decide +kernel
theorem dX6_pushes_0 : decode cX6_pushes 0 = .ok (.aload_n 0, 1) := by decide +kernel
theorem dX6_pushes_1 : decode cX6_pushes 1 = .ok (.getfield 34, 3) := by decide +kernel
theorem dX6_pushes_4 : decode cX6_pushes 4 = .ok (.aload_n 0, 1) := by decide +kernel
theorem dX6_pushes_5 : decode cX6_pushes 5 = .ok (.getfield 166, 3) := by decide +kernel
theorem dX6_pushes_8 : decode cX6_pushes 8 = .ok (.iload_n 1, 1) := by decide +kernel
theorem dX6_pushes_9 : decode cX6_pushes 9 = .ok (.iastore, 1) := by decide +kernel
theorem dX6_pushes_10 : decode cX6_pushes 10 = .ok (.aload_n 0, 1) := by decide +kernel
theorem dX6_pushes_11 : decode cX6_pushes 11 = .ok (.getfield 37, 3) := by decide +kernel
theorem dX6_pushes_14 : decode cX6_pushes 14 = .ok (.aload_n 0, 1) := by decide +kernel
theorem dX6_pushes_15 : decode cX6_pushes 15 = .ok (.getfield 166, 3) := by decide +kernel
theorem dX6_pushes_18 : decode cX6_pushes 18 = .ok (.aload_n 0, 1) := by decide +kernel
theorem dX6_pushes_19 : decode cX6_pushes 19 = .ok (.getfield 148, 3) := by decide +kernel
theorem dX6_pushes_22 : decode cX6_pushes 22 = .ok (.iastore, 1) := by decide +kernel
theorem dX6_pushes_23 : decode cX6_pushes 23 = .ok (.aload_n 0, 1) := by decide +kernel
theorem dX6_pushes_24 : decode cX6_pushes 24 = .ok (.getfield 40, 3) := by decide +kernel
theorem dX6_pushes_27 : decode cX6_pushes 27 = .ok (.aload_n 0, 1) := by decide +kernel
theorem dX6_pushes_28 : decode cX6_pushes 28 = .ok (.getfield 166, 3) := by decide +kernel
theorem dX6_pushes_31 : decode cX6_pushes 31 = .ok (.iload_n 3, 1) := by decide +kernel
theorem dX6_pushes_32 : decode cX6_pushes 32 = .ok (.iastore, 1) := by decide +kernel
theorem dX6_pushes_33 : decode cX6_pushes 33 = .ok (.aload_n 0, 1) := by decide +kernel
theorem dX6_pushes_34 : decode cX6_pushes 34 = .ok (.getfield 43, 3) := by decide +kernel
theorem dX6_pushes_37 : decode cX6_pushes 37 = .ok (.aload_n 0, 1) := by decide +kernel
theorem dX6_pushes_38 : decode cX6_pushes 38 = .ok (.getfield 166, 3) := by decide +kernel
theorem dX6_pushes_41 : decode cX6_pushes 41 = .ok (.iconst 0, 1) := by decide +kernel
theorem dX6_pushes_42 : decode cX6_pushes 42 = .ok (.bastore, 1) := by decide +kernel
theorem dX6_pushes_43 : decode cX6_pushes 43 = .ok (.aload_n 0, 1) := by decide +kernel
theorem dX6_pushes_44 : decode cX6_pushes 44 = .ok (.dup, 1) := by decide +kernel
theorem dX6_pushes_45 : decode cX6_pushes 45 = .ok (.getfield 166, 3) := by decide +kernel
theorem dX6_pushes_48 : decode cX6_pushes 48 = .ok (.iconst 1, 1) := by decide +kernel
theorem dX6_pushes_49 : decode cX6_pushes 49 = .ok (.iadd, 1) := by decide +kernel
theorem dX6_pushes_50 : decode cX6_pushes 50 = .ok (.putfield 166, 3) := by decide +kernel
theorem dX6_pushes_53 : decode cX6_pushes 53 = .ok (.aload_n 0, 1) := by decide +kernel
theorem dX6_pushes_54 : decode cX6_pushes 54 = .ok (.iload_n 2, 1) := by decide +kernel
theorem dX6_pushes_55 : decode cX6_pushes 55 = .ok (.putfield 148, 3) := by decide +kernel
theorem dX6_pushes_58 : decode cX6_pushes 58 = .ok (.return_, 1) := by decide +kernel
theorem dX6_shuts_0 : decode cX6_shuts 0 = .ok (.aload_n 0, 1) := by decide +kernel
theorem dX6_shuts_1 : decode cX6_shuts 1 = .ok (.dup, 1) := by decide +kernel
theorem dX6_shuts_2 : decode cX6_shuts 2 = .ok (.getfield 169, 3) := by decide +kernel
theorem dX6_shuts_5 : decode cX6_shuts 5 = .ok (.iconst 1, 1) := by decide +kernel
theorem dX6_shuts_6 : decode cX6_shuts 6 = .ok (.isub, 1) := by decide +kernel
theorem dX6_shuts_7 : decode cX6_shuts 7 = .ok (.putfield 169, 3) := by decide +kernel
theorem dX6_shuts_10 : decode cX6_shuts 10 = .ok (.aload_n 0, 1) := by decide +kernel
theorem dX6_shuts_11 : decode cX6_shuts 11 = .ok (.bipush 20, 2) := by decide +kernel
theorem dX6_shuts_13 : decode cX6_shuts 13 = .ok (.iload_n 1, 1) := by decide +kernel
theorem dX6_shuts_14 : decode cX6_shuts 14 = .ok (.iadd, 1) := by decide +kernel
theorem dX6_shuts_15 : decode cX6_shuts 15 = .ok (.invokevirtual 172, 3) := by decide +kernel
theorem dX6_shuts_18 : decode cX6_shuts 18 = .ok (.aload_n 0, 1) := by decide +kernel
theorem dX6_shuts_19 : decode cX6_shuts 19 = .ok (.iload_n 1, 1) := by decide +kernel
theorem dX6_shuts_20 : decode cX6_shuts 20 = .ok (.invokevirtual 176, 3) := by decide +kernel
theorem dX6_shuts_23 : decode cX6_shuts 23 = .ok (.ifCond .eq 26, 3) := by decide +kernel
theorem dX6_shuts_26 : decode cX6_shuts 26 = .ok (.aload_n 0, 1) := by decide +kernel
theorem dX6_shuts_27 : decode cX6_shuts 27 = .ok (.iload_n 1, 1) := by decide +kernel
theorem dX6_shuts_28 : decode cX6_shuts 28 = .ok (.invokevirtual 93, 3) := by decide +kernel
theorem dX6_shuts_31 : decode cX6_shuts 31 = .ok (.iconst 1, 1) := by decide +kernel
theorem dX6_shuts_32 : decode cX6_shuts 32 = .ok (.isub, 1) := by decide +kernel
theorem dX6_shuts_33 : decode cX6_shuts 33 = .ok (.aload_n 0, 1) := by decide +kernel
theorem dX6_shuts_34 : decode cX6_shuts 34 = .ok (.iload_n 1, 1) := by decide +kernel
theorem dX6_shuts_35 : decode cX6_shuts 35 = .ok (.iconst 3, 1) := by decide +kernel
theorem dX6_shuts_36 : decode cX6_shuts 36 = .ok (.invokevirtual 69, 3) := by decide +kernel
theorem dX6_shuts_39 : decode cX6_shuts 39 = .ok (.if_icmp .lt 10, 3) := by decide +kernel
theorem dX6_shuts_42 : decode cX6_shuts 42 = .ok (.aload_n 0, 1) := by decide +kernel
theorem dX6_shuts_43 : decode cX6_shuts 43 = .ok (.iload_n 1, 1) := by decide +kernel
theorem dX6_shuts_44 : decode cX6_shuts 44 = .ok (.iconst 4, 1) := by decide +kernel
theorem dX6_shuts_45 : decode cX6_shuts 45 = .ok (.iconst 1, 1) := by decide +kernel
theorem dX6_shuts_46 : decode cX6_shuts 46 = .ok (.invokevirtual 89, 3) := by decide +kernel
theorem dX6_shuts_49 : decode cX6_shuts 49 = .ok (.return_, 1) := by decide +kernel
theorem dX6_pops_0 : decode cX6_pops 0 = .ok (.aload_n 0, 1) := by decide +kernel
theorem dX6_pops_1 : decode cX6_pops 1 = .ok (.dup, 1) := by decide +kernel
theorem dX6_pops_2 : decode cX6_pops 2 = .ok (.getfield 166, 3) := by decide +kernel
theorem dX6_pops_5 : decode cX6_pops 5 = .ok (.iconst 1, 1) := by decide +kernel
theorem dX6_pops_6 : decode cX6_pops 6 = .ok (.isub, 1) := by decide +kernel
theorem dX6_pops_7 : decode cX6_pops 7 = .ok (.putfield 166, 3) := by decide +kernel
theorem dX6_pops_10 : decode cX6_pops 10 = .ok (.aload_n 0, 1) := by decide +kernel
theorem dX6_pops_11 : decode cX6_pops 11 = .ok (.getfield 19, 3) := by decide +kernel
theorem dX6_pops_14 : decode cX6_pops 14 = .ok (.aload_n 0, 1) := by decide +kernel
theorem dX6_pops_15 : decode cX6_pops 15 = .ok (.getfield 34, 3) := by decide +kernel
theorem dX6_pops_18 : decode cX6_pops 18 = .ok (.aload_n 0, 1) := by decide +kernel
theorem dX6_pops_19 : decode cX6_pops 19 = .ok (.getfield 166, 3) := by decide +kernel
theorem dX6_pops_22 : decode cX6_pops 22 = .ok (.iaload, 1) := by decide +kernel
theorem dX6_pops_23 : decode cX6_pops 23 = .ok (.iaload, 1) := by decide +kernel
theorem dX6_pops_24 : decode cX6_pops 24 = .ok (.istore_n 1, 1) := by decide +kernel
theorem dX6_pops_25 : decode cX6_pops 25 = .ok (.iload_n 1, 1) := by decide +kernel
theorem dX6_pops_26 : decode cX6_pops 26 = .ok (.i2l, 1) := by decide +kernel
theorem dX6_pops_27 : decode cX6_pops 27 = .ok (.ldc2_w 119, 3) := by decide +kernel
theorem dX6_pops_30 : decode cX6_pops 30 = .ok (.ldc2_w 121, 3) := by decide +kernel
theorem dX6_pops_33 : decode cX6_pops 33 = .ok (.invokestatic 62, 3) := by decide +kernel
theorem dX6_pops_36 : decode cX6_pops 36 = .ok (.ifCond .eq 11, 3) := by decide +kernel
theorem dX6_pops_39 : decode cX6_pops 39 = .ok (.aload_n 0, 1) := by decide +kernel
theorem dX6_pops_40 : decode cX6_pops 40 = .ok (.iload_n 1, 1) := by decide +kernel
theorem dX6_pops_41 : decode cX6_pops 41 = .ok (.bipush 48, 2) := by decide +kernel
theorem dX6_pops_43 : decode cX6_pops 43 = .ok (.isub, 1) := by decide +kernel
theorem dX6_pops_44 : decode cX6_pops 44 = .ok (.invokevirtual 179, 3) := by decide +kernel
theorem dX6_pops_47 : decode cX6_pops 47 = .ok (.aload_n 0, 1) := by decide +kernel
theorem dX6_pops_48 : decode cX6_pops 48 = .ok (.aload_n 0, 1) := by decide +kernel
theorem dX6_pops_49 : decode cX6_pops 49 = .ok (.getfield 37, 3) := by decide +kernel
theorem dX6_pops_52 : decode cX6_pops 52 = .ok (.aload_n 0, 1) := by decide +kernel
theorem dX6_pops_53 : decode cX6_pops 53 = .ok (.getfield 166, 3) := by decide +kernel
theorem dX6_pops_56 : decode cX6_pops 56 = .ok (.iaload, 1) := by decide +kernel
theorem dX6_pops_57 : decode cX6_pops 57 = .ok (.putfield 148, 3) := by decide +kernel
theorem dX6_pops_60 : decode cX6_pops 60 = .ok (.return_, 1) := by decide +kernel
theorem dX6_goesIn_0 : decode cX6_goesIn 0 = .ok (.aload_n 0, 1) := by decide +kernel
theorem dX6_goesIn_1 : decode cX6_goesIn 1 = .ok (.getfield 19, 3) := by decide +kernel
theorem dX6_goesIn_4 : decode cX6_goesIn 4 = .ok (.iload_n 1, 1) := by decide +kernel
theorem dX6_goesIn_5 : decode cX6_goesIn 5 = .ok (.iaload, 1) := by decide +kernel
theorem dX6_goesIn_6 : decode cX6_goesIn 6 = .ok (.bipush 48, 2) := by decide +kernel
theorem dX6_goesIn_8 : decode cX6_goesIn 8 = .ok (.isub, 1) := by decide +kernel
theorem dX6_goesIn_9 : decode cX6_goesIn 9 = .ok (.istore_n 2, 1) := by decide +kernel
theorem dX6_goesIn_10 : decode cX6_goesIn 10 = .ok (.aload_n 0, 1) := by decide +kernel
theorem dX6_goesIn_11 : decode cX6_goesIn 11 = .ok (.iload_n 2, 1) := by decide +kernel
theorem dX6_goesIn_12 : decode cX6_goesIn 12 = .ok (.iconst 1, 1) := by decide +kernel
theorem dX6_goesIn_13 : decode cX6_goesIn 13 = .ok (.invokevirtual 69, 3) := by decide +kernel
theorem dX6_goesIn_16 : decode cX6_goesIn 16 = .ok (.istore_n 3, 1) := by decide +kernel
theorem dX6_goesIn_17 : decode cX6_goesIn 17 = .ok (.iload_n 3, 1) := by decide +kernel
theorem dX6_goesIn_18 : decode cX6_goesIn 18 = .ok (.ifCond .le 24, 3) := by decide +kernel
theorem dX6_goesIn_21 : decode cX6_goesIn 21 = .ok (.aload_n 0, 1) := by decide +kernel
theorem dX6_goesIn_22 : decode cX6_goesIn 22 = .ok (.getfield 7, 3) := by decide +kernel
theorem dX6_goesIn_25 : decode cX6_goesIn 25 = .ok (.bipush 56, 2) := by decide +kernel
theorem dX6_goesIn_27 : decode cX6_goesIn 27 = .ok (.iaload, 1) := by decide +kernel
theorem dX6_goesIn_28 : decode cX6_goesIn 28 = .ok (.iload_n 3, 1) := by decide +kernel
theorem dX6_goesIn_29 : decode cX6_goesIn 29 = .ok (.ishr, 1) := by decide +kernel
theorem dX6_goesIn_30 : decode cX6_goesIn 30 = .ok (.iconst 1, 1) := by decide +kernel
theorem dX6_goesIn_31 : decode cX6_goesIn 31 = .ok (.iand, 1) := by decide +kernel
theorem dX6_goesIn_32 : decode cX6_goesIn 32 = .ok (.ifCond .ne 10, 3) := by decide +kernel
theorem dX6_goesIn_35 : decode cX6_goesIn 35 = .ok (.aload_n 0, 1) := by decide +kernel
theorem dX6_goesIn_36 : decode cX6_goesIn 36 = .ok (.iconst 1, 1) := by decide +kernel
theorem dX6_goesIn_37 : decode cX6_goesIn 37 = .ok (.iconst (-1), 1) := by decide +kernel
theorem dX6_goesIn_38 : decode cX6_goesIn 38 = .ok (.invokevirtual 182, 3) := by decide +kernel
theorem dX6_goesIn_41 : decode cX6_goesIn 41 = .ok (.return_, 1) := by decide +kernel
theorem dX6_goesIn_42 : decode cX6_goesIn 42 = .ok (.aload_n 0, 1) := by decide +kernel
theorem dX6_goesIn_43 : decode cX6_goesIn 43 = .ok (.iload_n 2, 1) := by decide +kernel
theorem dX6_goesIn_44 : decode cX6_goesIn 44 = .ok (.bipush 6, 2) := by decide +kernel
theorem dX6_goesIn_46 : decode cX6_goesIn 46 = .ok (.aload_n 0, 1) := by decide +kernel
theorem dX6_goesIn_47 : decode cX6_goesIn 47 = .ok (.iload_n 2, 1) := by decide +kernel
theorem dX6_goesIn_48 : decode cX6_goesIn 48 = .ok (.bipush 6, 2) := by decide +kernel
theorem dX6_goesIn_50 : decode cX6_goesIn 50 = .ok (.invokevirtual 69, 3) := by decide +kernel
theorem dX6_goesIn_53 : decode cX6_goesIn 53 = .ok (.sipush 9999, 3) := by decide +kernel
theorem dX6_goesIn_56 : decode cX6_goesIn 56 = .ok (.if_icmp .ne 9, 3) := by decide +kernel
theorem dX6_goesIn_59 : decode cX6_goesIn 59 = .ok (.sipush 9999, 3) := by decide +kernel
theorem dX6_goesIn_62 : decode cX6_goesIn 62 = .ok (.goto 12, 3) := by decide +kernel
theorem dX6_goesIn_65 : decode cX6_goesIn 65 = .ok (.aload_n 0, 1) := by decide +kernel
theorem dX6_goesIn_66 : decode cX6_goesIn 66 = .ok (.iload_n 2, 1) := by decide +kernel
theorem dX6_goesIn_67 : decode cX6_goesIn 67 = .ok (.bipush 6, 2) := by decide +kernel
theorem dX6_goesIn_69 : decode cX6_goesIn 69 = .ok (.invokevirtual 69, 3) := by decide +kernel
theorem dX6_goesIn_72 : decode cX6_goesIn 72 = .ok (.iconst 1, 1) := by decide +kernel
theorem dX6_goesIn_73 : decode cX6_goesIn 73 = .ok (.iadd, 1) := by decide +kernel
theorem dX6_goesIn_74 : decode cX6_goesIn 74 = .ok (.invokevirtual 89, 3) := by decide +kernel
theorem dX6_goesIn_77 : decode cX6_goesIn 77 = .ok (.aload_n 0, 1) := by decide +kernel
theorem dX6_goesIn_78 : decode cX6_goesIn 78 = .ok (.bipush 10, 2) := by decide +kernel
theorem dX6_goesIn_80 : decode cX6_goesIn 80 = .ok (.iload_n 2, 1) := by decide +kernel
theorem dX6_goesIn_81 : decode cX6_goesIn 81 = .ok (.iadd, 1) := by decide +kernel
theorem dX6_goesIn_82 : decode cX6_goesIn 82 = .ok (.invokevirtual 172, 3) := by decide +kernel
theorem dX6_goesIn_85 : decode cX6_goesIn 85 = .ok (.aload_n 0, 1) := by decide +kernel
theorem dX6_goesIn_86 : decode cX6_goesIn 86 = .ok (.dup, 1) := by decide +kernel
theorem dX6_goesIn_87 : decode cX6_goesIn 87 = .ok (.getfield 169, 3) := by decide +kernel
theorem dX6_goesIn_90 : decode cX6_goesIn 90 = .ok (.iconst 1, 1) := by decide +kernel
theorem dX6_goesIn_91 : decode cX6_goesIn 91 = .ok (.iadd, 1) := by decide +kernel
theorem dX6_goesIn_92 : decode cX6_goesIn 92 = .ok (.putfield 169, 3) := by decide +kernel
theorem dX6_goesIn_95 : decode cX6_goesIn 95 = .ok (.aload_n 0, 1) := by decide +kernel
theorem dX6_goesIn_96 : decode cX6_goesIn 96 = .ok (.aload_n 0, 1) := by decide +kernel
theorem dX6_goesIn_97 : decode cX6_goesIn 97 = .ok (.getfield 169, 3) := by decide +kernel
theorem dX6_goesIn_100 : decode cX6_goesIn 100 = .ok (.aload_n 0, 1) := by decide +kernel
theorem dX6_goesIn_101 : decode cX6_goesIn 101 = .ok (.getfield 186, 3) := by decide +kernel
theorem dX6_goesIn_104 : decode cX6_goesIn 104 = .ok (.if_icmp .le 10, 3) := by decide +kernel
theorem dX6_goesIn_107 : decode cX6_goesIn 107 = .ok (.aload_n 0, 1) := by decide +kernel
theorem dX6_goesIn_108 : decode cX6_goesIn 108 = .ok (.getfield 169, 3) := by decide +kernel
theorem dX6_goesIn_111 : decode cX6_goesIn 111 = .ok (.goto 7, 3) := by decide +kernel
theorem dX6_goesIn_114 : decode cX6_goesIn 114 = .ok (.aload_n 0, 1) := by decide +kernel
theorem dX6_goesIn_115 : decode cX6_goesIn 115 = .ok (.getfield 186, 3) := by decide +kernel
theorem dX6_goesIn_118 : decode cX6_goesIn 118 = .ok (.putfield 186, 3) := by decide +kernel
theorem dX6_goesIn_121 : decode cX6_goesIn 121 = .ok (.aload_n 0, 1) := by decide +kernel
theorem dX6_goesIn_122 : decode cX6_goesIn 122 = .ok (.iload_n 1, 1) := by decide +kernel
theorem dX6_goesIn_123 : decode cX6_goesIn 123 = .ok (.iload_n 2, 1) := by decide +kernel
theorem dX6_goesIn_124 : decode cX6_goesIn 124 = .ok (.iconst 0, 1) := by decide +kernel
theorem dX6_goesIn_125 : decode cX6_goesIn 125 = .ok (.invokevirtual 189, 3) := by decide +kernel
theorem dX6_goesIn_128 : decode cX6_goesIn 128 = .ok (.aload_n 0, 1) := by decide +kernel
theorem dX6_goesIn_129 : decode cX6_goesIn 129 = .ok (.iload_n 2, 1) := by decide +kernel
theorem dX6_goesIn_130 : decode cX6_goesIn 130 = .ok (.invokevirtual 176, 3) := by decide +kernel
theorem dX6_goesIn_133 : decode cX6_goesIn 133 = .ok (.ifCond .eq 30, 3) := by decide +kernel
theorem dX6_goesIn_136 : decode cX6_goesIn 136 = .ok (.aload_n 0, 1) := by decide +kernel
theorem dX6_goesIn_137 : decode cX6_goesIn 137 = .ok (.iload_n 2, 1) := by decide +kernel
theorem dX6_goesIn_138 : decode cX6_goesIn 138 = .ok (.invokevirtual 93, 3) := by decide +kernel
theorem dX6_goesIn_141 : decode cX6_goesIn 141 = .ok (.aload_n 0, 1) := by decide +kernel
theorem dX6_goesIn_142 : decode cX6_goesIn 142 = .ok (.iload_n 2, 1) := by decide +kernel
theorem dX6_goesIn_143 : decode cX6_goesIn 143 = .ok (.iconst 3, 1) := by decide +kernel
theorem dX6_goesIn_144 : decode cX6_goesIn 144 = .ok (.invokevirtual 69, 3) := by decide +kernel
theorem dX6_goesIn_147 : decode cX6_goesIn 147 = .ok (.if_icmp .lt 16, 3) := by decide +kernel
theorem dX6_goesIn_150 : decode cX6_goesIn 150 = .ok (.aload_n 0, 1) := by decide +kernel
theorem dX6_goesIn_151 : decode cX6_goesIn 151 = .ok (.iload_n 2, 1) := by decide +kernel
theorem dX6_goesIn_152 : decode cX6_goesIn 152 = .ok (.iconst 4, 1) := by decide +kernel
theorem dX6_goesIn_153 : decode cX6_goesIn 153 = .ok (.iconst 1, 1) := by decide +kernel
theorem dX6_goesIn_154 : decode cX6_goesIn 154 = .ok (.invokevirtual 89, 3) := by decide +kernel
theorem dX6_goesIn_157 : decode cX6_goesIn 157 = .ok (.aload_n 0, 1) := by decide +kernel
theorem dX6_goesIn_158 : decode cX6_goesIn 158 = .ok (.iconst 2, 1) := by decide +kernel
theorem dX6_goesIn_159 : decode cX6_goesIn 159 = .ok (.iconst (-1), 1) := by decide +kernel
theorem dX6_goesIn_160 : decode cX6_goesIn 160 = .ok (.invokevirtual 182, 3) := by decide +kernel
theorem dX6_goesIn_163 : decode cX6_goesIn 163 = .ok (.return_, 1) := by decide +kernel
theorem dX6_takesKey_0 : decode cX6_takesKey 0 = .ok (.aload_n 0, 1) := by decide +kernel
theorem dX6_takesKey_1 : decode cX6_takesKey 1 = .ok (.aload_n 0, 1) := by decide +kernel
theorem dX6_takesKey_2 : decode cX6_takesKey 2 = .ok (.getfield 148, 3) := by decide +kernel
theorem dX6_takesKey_5 : decode cX6_takesKey 5 = .ok (.iconst 2, 1) := by decide +kernel
theorem dX6_takesKey_6 : decode cX6_takesKey 6 = .ok (.invokevirtual 69, 3) := by decide +kernel
theorem dX6_takesKey_9 : decode cX6_takesKey 9 = .ok (.istore_n 1, 1) := by decide +kernel
theorem dX6_takesKey_10 : decode cX6_takesKey 10 = .ok (.iload_n 1, 1) := by decide +kernel
theorem dX6_takesKey_11 : decode cX6_takesKey 11 = .ok (.ifCond .le 26, 3) := by decide +kernel
theorem dX6_takesKey_14 : decode cX6_takesKey 14 = .ok (.aload_n 0, 1) := by decide +kernel
theorem dX6_takesKey_15 : decode cX6_takesKey 15 = .ok (.getfield 7, 3) := by decide +kernel
theorem dX6_takesKey_18 : decode cX6_takesKey 18 = .ok (.bipush 56, 2) := by decide +kernel
theorem dX6_takesKey_20 : decode cX6_takesKey 20 = .ok (.dup2, 1) := by decide +kernel
theorem dX6_takesKey_21 : decode cX6_takesKey 21 = .ok (.iaload, 1) := by decide +kernel
theorem dX6_takesKey_22 : decode cX6_takesKey 22 = .ok (.iconst 1, 1) := by decide +kernel
theorem dX6_takesKey_23 : decode cX6_takesKey 23 = .ok (.iload_n 1, 1) := by decide +kernel
theorem dX6_takesKey_24 : decode cX6_takesKey 24 = .ok (.ishl, 1) := by decide +kernel
theorem dX6_takesKey_25 : decode cX6_takesKey 25 = .ok (.ior, 1) := by decide +kernel
theorem dX6_takesKey_26 : decode cX6_takesKey 26 = .ok (.iastore, 1) := by decide +kernel
theorem dX6_takesKey_27 : decode cX6_takesKey 27 = .ok (.aload_n 0, 1) := by decide +kernel
theorem dX6_takesKey_28 : decode cX6_takesKey 28 = .ok (.aload_n 0, 1) := by decide +kernel
theorem dX6_takesKey_29 : decode cX6_takesKey 29 = .ok (.getfield 148, 3) := by decide +kernel
theorem dX6_takesKey_32 : decode cX6_takesKey 32 = .ok (.iconst 2, 1) := by decide +kernel
theorem dX6_takesKey_33 : decode cX6_takesKey 33 = .ok (.iconst 0, 1) := by decide +kernel
theorem dX6_takesKey_34 : decode cX6_takesKey 34 = .ok (.invokevirtual 89, 3) := by decide +kernel
theorem dX6_takesKey_37 : decode cX6_takesKey 37 = .ok (.return_, 1) := by decide +kernel
theorem dX6_wakes_0 : decode cX6_wakes 0 = .ok (.aload_n 0, 1) := by decide +kernel
theorem dX6_wakes_1 : decode cX6_wakes 1 = .ok (.aload_n 0, 1) := by decide +kernel
theorem dX6_wakes_2 : decode cX6_wakes 2 = .ok (.getfield 148, 3) := by decide +kernel
theorem dX6_wakes_5 : decode cX6_wakes 5 = .ok (.invokevirtual 176, 3) := by decide +kernel
theorem dX6_wakes_8 : decode cX6_wakes 8 = .ok (.ifCond .eq 19, 3) := by decide +kernel
theorem dX6_wakes_11 : decode cX6_wakes 11 = .ok (.aload_n 0, 1) := by decide +kernel
theorem dX6_wakes_12 : decode cX6_wakes 12 = .ok (.aload_n 0, 1) := by decide +kernel
theorem dX6_wakes_13 : decode cX6_wakes 13 = .ok (.getfield 148, 3) := by decide +kernel
theorem dX6_wakes_16 : decode cX6_wakes 16 = .ok (.iconst 4, 1) := by decide +kernel
theorem dX6_wakes_17 : decode cX6_wakes 17 = .ok (.iconst 1, 1) := by decide +kernel
theorem dX6_wakes_18 : decode cX6_wakes 18 = .ok (.invokevirtual 89, 3) := by decide +kernel
theorem dX6_wakes_21 : decode cX6_wakes 21 = .ok (.aload_n 0, 1) := by decide +kernel
theorem dX6_wakes_22 : decode cX6_wakes 22 = .ok (.iconst 2, 1) := by decide +kernel
theorem dX6_wakes_23 : decode cX6_wakes 23 = .ok (.iconst (-1), 1) := by decide +kernel
theorem dX6_wakes_24 : decode cX6_wakes 24 = .ok (.invokevirtual 182, 3) := by decide +kernel
theorem dX6_wakes_27 : decode cX6_wakes 27 = .ok (.return_, 1) := by decide +kernel
theorem dX6_looksIn_0 : decode cX6_looksIn 0 = .ok (.aload_n 0, 1) := by decide +kernel
theorem dX6_looksIn_1 : decode cX6_looksIn 1 = .ok (.aload_n 0, 1) := by decide +kernel
theorem dX6_looksIn_2 : decode cX6_looksIn 2 = .ok (.getfield 148, 3) := by decide +kernel
theorem dX6_looksIn_5 : decode cX6_looksIn 5 = .ok (.iconst 5, 1) := by decide +kernel
theorem dX6_looksIn_6 : decode cX6_looksIn 6 = .ok (.invokevirtual 69, 3) := by decide +kernel
theorem dX6_looksIn_9 : decode cX6_looksIn 9 = .ok (.ifCond .ne 12, 3) := by decide +kernel
theorem dX6_looksIn_12 : decode cX6_looksIn 12 = .ok (.aload_n 0, 1) := by decide +kernel
theorem dX6_looksIn_13 : decode cX6_looksIn 13 = .ok (.iconst 3, 1) := by decide +kernel
theorem dX6_looksIn_14 : decode cX6_looksIn 14 = .ok (.iconst (-1), 1) := by decide +kernel
theorem dX6_looksIn_15 : decode cX6_looksIn 15 = .ok (.invokevirtual 182, 3) := by decide +kernel
theorem dX6_looksIn_18 : decode cX6_looksIn 18 = .ok (.goto 33, 3) := by decide +kernel
theorem dX6_looksIn_21 : decode cX6_looksIn 21 = .ok (.aload_n 0, 1) := by decide +kernel
theorem dX6_looksIn_22 : decode cX6_looksIn 22 = .ok (.aload_n 0, 1) := by decide +kernel
theorem dX6_looksIn_23 : decode cX6_looksIn 23 = .ok (.getfield 148, 3) := by decide +kernel
theorem dX6_looksIn_26 : decode cX6_looksIn 26 = .ok (.invokevirtual 176, 3) := by decide +kernel
theorem dX6_looksIn_29 : decode cX6_looksIn 29 = .ok (.ifCond .eq 22, 3) := by decide +kernel
theorem dX6_looksIn_32 : decode cX6_looksIn 32 = .ok (.aload_n 0, 1) := by decide +kernel
theorem dX6_looksIn_33 : decode cX6_looksIn 33 = .ok (.getfield 7, 3) := by decide +kernel
theorem dX6_looksIn_36 : decode cX6_looksIn 36 = .ok (.bipush 57, 2) := by decide +kernel
theorem dX6_looksIn_38 : decode cX6_looksIn 38 = .ok (.dup2, 1) := by decide +kernel
theorem dX6_looksIn_39 : decode cX6_looksIn 39 = .ok (.iaload, 1) := by decide +kernel
theorem dX6_looksIn_40 : decode cX6_looksIn 40 = .ok (.aload_n 0, 1) := by decide +kernel
theorem dX6_looksIn_41 : decode cX6_looksIn 41 = .ok (.aload_n 0, 1) := by decide +kernel
theorem dX6_looksIn_42 : decode cX6_looksIn 42 = .ok (.getfield 148, 3) := by decide +kernel
theorem dX6_looksIn_45 : decode cX6_looksIn 45 = .ok (.iconst 3, 1) := by decide +kernel
theorem dX6_looksIn_46 : decode cX6_looksIn 46 = .ok (.invokevirtual 69, 3) := by decide +kernel
theorem dX6_looksIn_49 : decode cX6_looksIn 49 = .ok (.iadd, 1) := by decide +kernel
theorem dX6_looksIn_50 : decode cX6_looksIn 50 = .ok (.iastore, 1) := by decide +kernel
theorem dX6_looksIn_51 : decode cX6_looksIn 51 = .ok (.return_, 1) := by decide +kernel
theorem dX6_figureFrom_0 : decode cX6_figureFrom 0 = .ok (.aload_n 0, 1) := by decide +kernel
theorem dX6_figureFrom_1 : decode cX6_figureFrom 1 = .ok (.iload_n 1, 1) := by decide +kernel
theorem dX6_figureFrom_2 : decode cX6_figureFrom 2 = .ok (.putfield 113, 3) := by decide +kernel
theorem dX6_figureFrom_5 : decode cX6_figureFrom 5 = .ok (.aload_n 0, 1) := by decide +kernel
theorem dX6_figureFrom_6 : decode cX6_figureFrom 6 = .ok (.invokevirtual 116, 3) := by decide +kernel
theorem dX6_figureFrom_9 : decode cX6_figureFrom 9 = .ok (.aload_n 0, 1) := by decide +kernel
theorem dX6_figureFrom_10 : decode cX6_figureFrom 10 = .ok (.getfield 19, 3) := by decide +kernel
theorem dX6_figureFrom_13 : decode cX6_figureFrom 13 = .ok (.aload_n 0, 1) := by decide +kernel
theorem dX6_figureFrom_14 : decode cX6_figureFrom 14 = .ok (.getfield 113, 3) := by decide +kernel
theorem dX6_figureFrom_17 : decode cX6_figureFrom 17 = .ok (.iaload, 1) := by decide +kernel
theorem dX6_figureFrom_18 : decode cX6_figureFrom 18 = .ok (.bipush 48, 2) := by decide +kernel
theorem dX6_figureFrom_20 : decode cX6_figureFrom 20 = .ok (.isub, 1) := by decide +kernel
theorem dX6_figureFrom_21 : decode cX6_figureFrom 21 = .ok (.istore_n 2, 1) := by decide +kernel
theorem dX6_figureFrom_22 : decode cX6_figureFrom 22 = .ok (.aload_n 0, 1) := by decide +kernel
theorem dX6_figureFrom_23 : decode cX6_figureFrom 23 = .ok (.dup, 1) := by decide +kernel
theorem dX6_figureFrom_24 : decode cX6_figureFrom 24 = .ok (.getfield 113, 3) := by decide +kernel
theorem dX6_figureFrom_27 : decode cX6_figureFrom 27 = .ok (.iconst 1, 1) := by decide +kernel
theorem dX6_figureFrom_28 : decode cX6_figureFrom 28 = .ok (.iadd, 1) := by decide +kernel
theorem dX6_figureFrom_29 : decode cX6_figureFrom 29 = .ok (.putfield 113, 3) := by decide +kernel
theorem dX6_figureFrom_32 : decode cX6_figureFrom 32 = .ok (.iload_n 2, 1) := by decide +kernel
theorem dX6_figureFrom_33 : decode cX6_figureFrom 33 = .ok (.ireturn, 1) := by decide +kernel
theorem dX6_behindByte_0 : decode cX6_behindByte 0 = .ok (.aload_n 0, 1) := by decide +kernel
theorem dX6_behindByte_1 : decode cX6_behindByte 1 = .ok (.invokevirtual 116, 3) := by decide +kernel
theorem dX6_behindByte_4 : decode cX6_behindByte 4 = .ok (.aload_n 0, 1) := by decide +kernel
theorem dX6_behindByte_5 : decode cX6_behindByte 5 = .ok (.getfield 19, 3) := by decide +kernel
theorem dX6_behindByte_8 : decode cX6_behindByte 8 = .ok (.aload_n 0, 1) := by decide +kernel
theorem dX6_behindByte_9 : decode cX6_behindByte 9 = .ok (.getfield 113, 3) := by decide +kernel
theorem dX6_behindByte_12 : decode cX6_behindByte 12 = .ok (.iaload, 1) := by decide +kernel
theorem dX6_behindByte_13 : decode cX6_behindByte 13 = .ok (.iload_n 1, 1) := by decide +kernel
theorem dX6_behindByte_14 : decode cX6_behindByte 14 = .ok (.if_icmp .eq 16, 3) := by decide +kernel
theorem dX6_behindByte_17 : decode cX6_behindByte 17 = .ok (.aload_n 0, 1) := by decide +kernel
theorem dX6_behindByte_18 : decode cX6_behindByte 18 = .ok (.dup, 1) := by decide +kernel
theorem dX6_behindByte_19 : decode cX6_behindByte 19 = .ok (.getfield 113, 3) := by decide +kernel
theorem dX6_behindByte_22 : decode cX6_behindByte 22 = .ok (.iconst 1, 1) := by decide +kernel
theorem dX6_behindByte_23 : decode cX6_behindByte 23 = .ok (.iadd, 1) := by decide +kernel
theorem dX6_behindByte_24 : decode cX6_behindByte 24 = .ok (.putfield 113, 3) := by decide +kernel
theorem dX6_behindByte_27 : decode cX6_behindByte 27 = .ok (.goto (-23), 3) := by decide +kernel
theorem dX6_behindByte_30 : decode cX6_behindByte 30 = .ok (.aload_n 0, 1) := by decide +kernel
theorem dX6_behindByte_31 : decode cX6_behindByte 31 = .ok (.dup, 1) := by decide +kernel
theorem dX6_behindByte_32 : decode cX6_behindByte 32 = .ok (.getfield 113, 3) := by decide +kernel
theorem dX6_behindByte_35 : decode cX6_behindByte 35 = .ok (.iconst 1, 1) := by decide +kernel
theorem dX6_behindByte_36 : decode cX6_behindByte 36 = .ok (.iadd, 1) := by decide +kernel
theorem dX6_behindByte_37 : decode cX6_behindByte 37 = .ok (.putfield 113, 3) := by decide +kernel
theorem dX6_behindByte_40 : decode cX6_behindByte 40 = .ok (.return_, 1) := by decide +kernel
theorem dX6_begins_0 : decode cX6_begins 0 = .ok (.aload_n 0, 1) := by decide +kernel
theorem dX6_begins_1 : decode cX6_begins 1 = .ok (.getfield 19, 3) := by decide +kernel
theorem dX6_begins_4 : decode cX6_begins 4 = .ok (.iload_n 1, 1) := by decide +kernel
theorem dX6_begins_5 : decode cX6_begins 5 = .ok (.iaload, 1) := by decide +kernel
theorem dX6_begins_6 : decode cX6_begins 6 = .ok (.istore_n 2, 1) := by decide +kernel
theorem dX6_begins_7 : decode cX6_begins 7 = .ok (.aload_n 0, 1) := by decide +kernel
theorem dX6_begins_8 : decode cX6_begins 8 = .ok (.getfield 192, 3) := by decide +kernel
theorem dX6_begins_11 : decode cX6_begins 11 = .ok (.bipush 40, 2) := by decide +kernel
theorem dX6_begins_13 : decode cX6_begins 13 = .ok (.if_icmp .ne 11, 3) := by decide +kernel
theorem dX6_begins_16 : decode cX6_begins 16 = .ok (.aload_n 0, 1) := by decide +kernel
theorem dX6_begins_17 : decode cX6_begins 17 = .ok (.bipush 6, 2) := by decide +kernel
theorem dX6_begins_19 : decode cX6_begins 19 = .ok (.iconst (-1), 1) := by decide +kernel
theorem dX6_begins_20 : decode cX6_begins 20 = .ok (.invokevirtual 182, 3) := by decide +kernel
theorem dX6_begins_23 : decode cX6_begins 23 = .ok (.return_, 1) := by decide +kernel
theorem dX6_begins_24 : decode cX6_begins 24 = .ok (.aload_n 0, 1) := by decide +kernel
theorem dX6_begins_25 : decode cX6_begins 25 = .ok (.dup, 1) := by decide +kernel
theorem dX6_begins_26 : decode cX6_begins 26 = .ok (.getfield 192, 3) := by decide +kernel
theorem dX6_begins_29 : decode cX6_begins 29 = .ok (.iconst 1, 1) := by decide +kernel
theorem dX6_begins_30 : decode cX6_begins 30 = .ok (.iadd, 1) := by decide +kernel
theorem dX6_begins_31 : decode cX6_begins 31 = .ok (.putfield 192, 3) := by decide +kernel
theorem dX6_begins_34 : decode cX6_begins 34 = .ok (.aload_n 0, 1) := by decide +kernel
theorem dX6_begins_35 : decode cX6_begins 35 = .ok (.iload_n 1, 1) := by decide +kernel
theorem dX6_begins_36 : decode cX6_begins 36 = .ok (.iconst 1, 1) := by decide +kernel
theorem dX6_begins_37 : decode cX6_begins 37 = .ok (.iadd, 1) := by decide +kernel
theorem dX6_begins_38 : decode cX6_begins 38 = .ok (.putfield 113, 3) := by decide +kernel
theorem dX6_begins_41 : decode cX6_begins 41 = .ok (.iload_n 2, 1) := by decide +kernel
theorem dX6_begins_42 : decode cX6_begins 42 = .ok (.i2l, 1) := by decide +kernel
theorem dX6_begins_43 : decode cX6_begins 43 = .ok (.ldc2_w 119, 3) := by decide +kernel
theorem dX6_begins_46 : decode cX6_begins 46 = .ok (.ldc2_w 121, 3) := by decide +kernel
theorem dX6_begins_49 : decode cX6_begins 49 = .ok (.invokestatic 62, 3) := by decide +kernel
theorem dX6_begins_52 : decode cX6_begins 52 = .ok (.ifCond .eq 17, 3) := by decide +kernel
theorem dX6_begins_55 : decode cX6_begins 55 = .ok (.aload_n 0, 1) := by decide +kernel
theorem dX6_begins_56 : decode cX6_begins 56 = .ok (.bipush 123, 2) := by decide +kernel
theorem dX6_begins_58 : decode cX6_begins 58 = .ok (.invokevirtual 195, 3) := by decide +kernel
theorem dX6_begins_61 : decode cX6_begins 61 = .ok (.aload_n 0, 1) := by decide +kernel
theorem dX6_begins_62 : decode cX6_begins 62 = .ok (.iload_n 1, 1) := by decide +kernel
theorem dX6_begins_63 : decode cX6_begins 63 = .ok (.invokevirtual 198, 3) := by decide +kernel
theorem dX6_begins_66 : decode cX6_begins 66 = .ok (.goto 206, 3) := by decide +kernel
theorem dX6_begins_69 : decode cX6_begins 69 = .ok (.iload_n 2, 1) := by decide +kernel
theorem dX6_begins_70 : decode cX6_begins 70 = .ok (.bipush 40, 2) := by decide +kernel
theorem dX6_begins_72 : decode cX6_begins 72 = .ok (.if_icmp .eq 15, 3) := by decide +kernel
theorem dX6_begins_75 : decode cX6_begins 75 = .ok (.iload_n 2, 1) := by decide +kernel
theorem dX6_begins_76 : decode cX6_begins 76 = .ok (.bipush 91, 2) := by decide +kernel
theorem dX6_begins_78 : decode cX6_begins 78 = .ok (.if_icmp .eq 9, 3) := by decide +kernel
theorem dX6_begins_81 : decode cX6_begins 81 = .ok (.iload_n 2, 1) := by decide +kernel
theorem dX6_begins_82 : decode cX6_begins 82 = .ok (.bipush 60, 2) := by decide +kernel
theorem dX6_begins_84 : decode cX6_begins 84 = .ok (.if_icmp .ne 16, 3) := by decide +kernel
theorem dX6_begins_87 : decode cX6_begins 87 = .ok (.aload_n 0, 1) := by decide +kernel
theorem dX6_begins_88 : decode cX6_begins 88 = .ok (.iload_n 1, 1) := by decide +kernel
theorem dX6_begins_89 : decode cX6_begins 89 = .ok (.aload_n 0, 1) := by decide +kernel
theorem dX6_begins_90 : decode cX6_begins 90 = .ok (.getfield 148, 3) := by decide +kernel
theorem dX6_begins_93 : decode cX6_begins 93 = .ok (.iconst 0, 1) := by decide +kernel
theorem dX6_begins_94 : decode cX6_begins 94 = .ok (.invokevirtual 189, 3) := by decide +kernel
theorem dX6_begins_97 : decode cX6_begins 97 = .ok (.goto 175, 3) := by decide +kernel
theorem dX6_begins_100 : decode cX6_begins 100 = .ok (.iload_n 2, 1) := by decide +kernel
theorem dX6_begins_101 : decode cX6_begins 101 = .ok (.bipush 120, 2) := by decide +kernel
theorem dX6_begins_103 : decode cX6_begins 103 = .ok (.if_icmp .ne 49, 3) := by decide +kernel
theorem dX6_begins_106 : decode cX6_begins 106 = .ok (.aload_n 0, 1) := by decide +kernel
theorem dX6_begins_107 : decode cX6_begins 107 = .ok (.iload_n 1, 1) := by decide +kernel
theorem dX6_begins_108 : decode cX6_begins 108 = .ok (.iconst 1, 1) := by decide +kernel
theorem dX6_begins_109 : decode cX6_begins 109 = .ok (.iadd, 1) := by decide +kernel
theorem dX6_begins_110 : decode cX6_begins 110 = .ok (.invokevirtual 201, 3) := by decide +kernel
theorem dX6_begins_113 : decode cX6_begins 113 = .ok (.istore_n 3, 1) := by decide +kernel
theorem dX6_begins_114 : decode cX6_begins 114 = .ok (.aload_n 0, 1) := by decide +kernel
theorem dX6_begins_115 : decode cX6_begins 115 = .ok (.bipush 58, 2) := by decide +kernel
theorem dX6_begins_117 : decode cX6_begins 117 = .ok (.invokevirtual 195, 3) := by decide +kernel
theorem dX6_begins_120 : decode cX6_begins 120 = .ok (.iload_n 3, 1) := by decide +kernel
theorem dX6_begins_121 : decode cX6_begins 121 = .ok (.ifCond .ne 18, 3) := by decide +kernel
theorem dX6_begins_124 : decode cX6_begins 124 = .ok (.aload_n 0, 1) := by decide +kernel
theorem dX6_begins_125 : decode cX6_begins 125 = .ok (.aload_n 0, 1) := by decide +kernel
theorem dX6_begins_126 : decode cX6_begins 126 = .ok (.getfield 22, 3) := by decide +kernel
theorem dX6_begins_129 : decode cX6_begins 129 = .ok (.iload_n 1, 1) := by decide +kernel
theorem dX6_begins_130 : decode cX6_begins 130 = .ok (.iaload, 1) := by decide +kernel
theorem dX6_begins_131 : decode cX6_begins 131 = .ok (.iconst 1, 1) := by decide +kernel
theorem dX6_begins_132 : decode cX6_begins 132 = .ok (.iadd, 1) := by decide +kernel
theorem dX6_begins_133 : decode cX6_begins 133 = .ok (.putfield 113, 3) := by decide +kernel
theorem dX6_begins_136 : decode cX6_begins 136 = .ok (.goto 13, 3) := by decide +kernel
theorem dX6_begins_139 : decode cX6_begins 139 = .ok (.aload_n 0, 1) := by decide +kernel
theorem dX6_begins_140 : decode cX6_begins 140 = .ok (.iload_n 1, 1) := by decide +kernel
theorem dX6_begins_141 : decode cX6_begins 141 = .ok (.aload_n 0, 1) := by decide +kernel
theorem dX6_begins_142 : decode cX6_begins 142 = .ok (.getfield 148, 3) := by decide +kernel
theorem dX6_begins_145 : decode cX6_begins 145 = .ok (.iload_n 3, 1) := by decide +kernel
theorem dX6_begins_146 : decode cX6_begins 146 = .ok (.invokevirtual 189, 3) := by decide +kernel
theorem dX6_begins_149 : decode cX6_begins 149 = .ok (.goto 123, 3) := by decide +kernel
theorem dX6_begins_152 : decode cX6_begins 152 = .ok (.iload_n 2, 1) := by decide +kernel
theorem dX6_begins_153 : decode cX6_begins 153 = .ok (.bipush 33, 2) := by decide +kernel
theorem dX6_begins_155 : decode cX6_begins 155 = .ok (.if_icmp .ne 18, 3) := by decide +kernel
theorem dX6_begins_158 : decode cX6_begins 158 = .ok (.aload_n 0, 1) := by decide +kernel
theorem dX6_begins_159 : decode cX6_begins 159 = .ok (.iconst 4, 1) := by decide +kernel
theorem dX6_begins_160 : decode cX6_begins 160 = .ok (.aload_n 0, 1) := by decide +kernel
theorem dX6_begins_161 : decode cX6_begins 161 = .ok (.iload_n 1, 1) := by decide +kernel
theorem dX6_begins_162 : decode cX6_begins 162 = .ok (.iconst 1, 1) := by decide +kernel
theorem dX6_begins_163 : decode cX6_begins 163 = .ok (.iadd, 1) := by decide +kernel
theorem dX6_begins_164 : decode cX6_begins 164 = .ok (.invokevirtual 201, 3) := by decide +kernel
theorem dX6_begins_167 : decode cX6_begins 167 = .ok (.invokevirtual 182, 3) := by decide +kernel
theorem dX6_begins_170 : decode cX6_begins 170 = .ok (.goto 102, 3) := by decide +kernel
theorem dX6_begins_173 : decode cX6_begins 173 = .ok (.iload_n 2, 1) := by decide +kernel
theorem dX6_begins_174 : decode cX6_begins 174 = .ok (.bipush 43, 2) := by decide +kernel
theorem dX6_begins_176 : decode cX6_begins 176 = .ok (.if_icmp .ne 20, 3) := by decide +kernel
theorem dX6_begins_179 : decode cX6_begins 179 = .ok (.aload_n 0, 1) := by decide +kernel
theorem dX6_begins_180 : decode cX6_begins 180 = .ok (.getfield 7, 3) := by decide +kernel
theorem dX6_begins_183 : decode cX6_begins 183 = .ok (.bipush 57, 2) := by decide +kernel
theorem dX6_begins_185 : decode cX6_begins 185 = .ok (.dup2, 1) := by decide +kernel
theorem dX6_begins_186 : decode cX6_begins 186 = .ok (.iaload, 1) := by decide +kernel
theorem dX6_begins_187 : decode cX6_begins 187 = .ok (.aload_n 0, 1) := by decide +kernel
theorem dX6_begins_188 : decode cX6_begins 188 = .ok (.getfield 169, 3) := by decide +kernel
theorem dX6_begins_191 : decode cX6_begins 191 = .ok (.iadd, 1) := by decide +kernel
theorem dX6_begins_192 : decode cX6_begins 192 = .ok (.iastore, 1) := by decide +kernel
theorem dX6_begins_193 : decode cX6_begins 193 = .ok (.goto 79, 3) := by decide +kernel
theorem dX6_begins_196 : decode cX6_begins 196 = .ok (.aload_n 0, 1) := by decide +kernel
theorem dX6_begins_197 : decode cX6_begins 197 = .ok (.getfield 148, 3) := by decide +kernel
theorem dX6_begins_200 : decode cX6_begins 200 = .ok (.iconst (-1), 1) := by decide +kernel
theorem dX6_begins_201 : decode cX6_begins 201 = .ok (.if_icmp .ne 12, 3) := by decide +kernel
theorem dX6_begins_204 : decode cX6_begins 204 = .ok (.aload_n 0, 1) := by decide +kernel
theorem dX6_begins_205 : decode cX6_begins 205 = .ok (.iconst 3, 1) := by decide +kernel
theorem dX6_begins_206 : decode cX6_begins 206 = .ok (.iconst (-1), 1) := by decide +kernel
theorem dX6_begins_207 : decode cX6_begins 207 = .ok (.invokevirtual 182, 3) := by decide +kernel
theorem dX6_begins_210 : decode cX6_begins 210 = .ok (.goto 62, 3) := by decide +kernel
theorem dX6_begins_213 : decode cX6_begins 213 = .ok (.iload_n 2, 1) := by decide +kernel
theorem dX6_begins_214 : decode cX6_begins 214 = .ok (.bipush 108, 2) := by decide +kernel
theorem dX6_begins_216 : decode cX6_begins 216 = .ok (.if_icmp .ne 26, 3) := by decide +kernel
theorem dX6_begins_219 : decode cX6_begins 219 = .ok (.aload_n 0, 1) := by decide +kernel
theorem dX6_begins_220 : decode cX6_begins 220 = .ok (.aload_n 0, 1) := by decide +kernel
theorem dX6_begins_221 : decode cX6_begins 221 = .ok (.getfield 148, 3) := by decide +kernel
theorem dX6_begins_224 : decode cX6_begins 224 = .ok (.iconst 5, 1) := by decide +kernel
theorem dX6_begins_225 : decode cX6_begins 225 = .ok (.iconst 1, 1) := by decide +kernel
theorem dX6_begins_226 : decode cX6_begins 226 = .ok (.aload_n 0, 1) := by decide +kernel
theorem dX6_begins_227 : decode cX6_begins 227 = .ok (.aload_n 0, 1) := by decide +kernel
theorem dX6_begins_228 : decode cX6_begins 228 = .ok (.getfield 148, 3) := by decide +kernel
theorem dX6_begins_231 : decode cX6_begins 231 = .ok (.iconst 5, 1) := by decide +kernel
theorem dX6_begins_232 : decode cX6_begins 232 = .ok (.invokevirtual 69, 3) := by decide +kernel
theorem dX6_begins_235 : decode cX6_begins 235 = .ok (.isub, 1) := by decide +kernel
theorem dX6_begins_236 : decode cX6_begins 236 = .ok (.invokevirtual 89, 3) := by decide +kernel
theorem dX6_begins_239 : decode cX6_begins 239 = .ok (.goto 33, 3) := by decide +kernel
theorem dX6_begins_242 : decode cX6_begins 242 = .ok (.iload_n 2, 1) := by decide +kernel
theorem dX6_begins_243 : decode cX6_begins 243 = .ok (.bipush 107, 2) := by decide +kernel
theorem dX6_begins_245 : decode cX6_begins 245 = .ok (.if_icmp .ne 10, 3) := by decide +kernel
theorem dX6_begins_248 : decode cX6_begins 248 = .ok (.aload_n 0, 1) := by decide +kernel
theorem dX6_begins_249 : decode cX6_begins 249 = .ok (.invokevirtual 204, 3) := by decide +kernel
theorem dX6_begins_252 : decode cX6_begins 252 = .ok (.goto 20, 3) := by decide +kernel
theorem dX6_begins_255 : decode cX6_begins 255 = .ok (.iload_n 2, 1) := by decide +kernel
theorem dX6_begins_256 : decode cX6_begins 256 = .ok (.bipush 119, 2) := by decide +kernel
theorem dX6_begins_258 : decode cX6_begins 258 = .ok (.if_icmp .ne 10, 3) := by decide +kernel
theorem dX6_begins_261 : decode cX6_begins 261 = .ok (.aload_n 0, 1) := by decide +kernel
theorem dX6_begins_262 : decode cX6_begins 262 = .ok (.invokevirtual 207, 3) := by decide +kernel
theorem dX6_begins_265 : decode cX6_begins 265 = .ok (.goto 7, 3) := by decide +kernel
theorem dX6_begins_268 : decode cX6_begins 268 = .ok (.aload_n 0, 1) := by decide +kernel
theorem dX6_begins_269 : decode cX6_begins 269 = .ok (.invokevirtual 210, 3) := by decide +kernel
theorem dX6_begins_272 : decode cX6_begins 272 = .ok (.return_, 1) := by decide +kernel
theorem dX6_goesDown_0 : decode cX6_goesDown 0 = .ok (.aload_n 0, 1) := by decide +kernel
theorem dX6_goesDown_1 : decode cX6_goesDown 1 = .ok (.getfield 166, 3) := by decide +kernel
theorem dX6_goesDown_4 : decode cX6_goesDown 4 = .ok (.iconst 1, 1) := by decide +kernel
theorem dX6_goesDown_5 : decode cX6_goesDown 5 = .ok (.isub, 1) := by decide +kernel
theorem dX6_goesDown_6 : decode cX6_goesDown 6 = .ok (.istore_n 1, 1) := by decide +kernel
theorem dX6_goesDown_7 : decode cX6_goesDown 7 = .ok (.aload_n 0, 1) := by decide +kernel
theorem dX6_goesDown_8 : decode cX6_goesDown 8 = .ok (.getfield 34, 3) := by decide +kernel
theorem dX6_goesDown_11 : decode cX6_goesDown 11 = .ok (.iload_n 1, 1) := by decide +kernel
theorem dX6_goesDown_12 : decode cX6_goesDown 12 = .ok (.iaload, 1) := by decide +kernel
theorem dX6_goesDown_13 : decode cX6_goesDown 13 = .ok (.istore_n 2, 1) := by decide +kernel
theorem dX6_goesDown_14 : decode cX6_goesDown 14 = .ok (.aload_n 0, 1) := by decide +kernel
theorem dX6_goesDown_15 : decode cX6_goesDown 15 = .ok (.getfield 19, 3) := by decide +kernel
theorem dX6_goesDown_18 : decode cX6_goesDown 18 = .ok (.iload_n 2, 1) := by decide +kernel
theorem dX6_goesDown_19 : decode cX6_goesDown 19 = .ok (.iaload, 1) := by decide +kernel
theorem dX6_goesDown_20 : decode cX6_goesDown 20 = .ok (.istore_n 3, 1) := by decide +kernel
theorem dX6_goesDown_21 : decode cX6_goesDown 21 = .ok (.aload_n 0, 1) := by decide +kernel
theorem dX6_goesDown_22 : decode cX6_goesDown 22 = .ok (.getfield 43, 3) := by decide +kernel
theorem dX6_goesDown_25 : decode cX6_goesDown 25 = .ok (.iload_n 1, 1) := by decide +kernel
theorem dX6_goesDown_26 : decode cX6_goesDown 26 = .ok (.baload, 1) := by decide +kernel
theorem dX6_goesDown_27 : decode cX6_goesDown 27 = .ok (.ifCond .ne 7, 3) := by decide +kernel
theorem dX6_goesDown_30 : decode cX6_goesDown 30 = .ok (.iconst 1, 1) := by decide +kernel
theorem dX6_goesDown_31 : decode cX6_goesDown 31 = .ok (.goto 4, 3) := by decide +kernel
theorem dX6_goesDown_34 : decode cX6_goesDown 34 = .ok (.iconst 0, 1) := by decide +kernel
theorem dX6_goesDown_35 : decode cX6_goesDown 35 = .ok (.istore 4, 2) := by decide +kernel
theorem dX6_goesDown_37 : decode cX6_goesDown 37 = .ok (.iload_n 3, 1) := by decide +kernel
theorem dX6_goesDown_38 : decode cX6_goesDown 38 = .ok (.bipush 40, 2) := by decide +kernel
theorem dX6_goesDown_40 : decode cX6_goesDown 40 = .ok (.if_icmp .ne 43, 3) := by decide +kernel
theorem dX6_goesDown_43 : decode cX6_goesDown 43 = .ok (.iload 4, 2) := by decide +kernel
theorem dX6_goesDown_45 : decode cX6_goesDown 45 = .ok (.ifCond .eq 38, 3) := by decide +kernel
theorem dX6_goesDown_48 : decode cX6_goesDown 48 = .ok (.aload_n 0, 1) := by decide +kernel
theorem dX6_goesDown_49 : decode cX6_goesDown 49 = .ok (.getfield 145, 3) := by decide +kernel
theorem dX6_goesDown_52 : decode cX6_goesDown 52 = .ok (.iconst 3, 1) := by decide +kernel
theorem dX6_goesDown_53 : decode cX6_goesDown 53 = .ok (.if_icmp .gt 30, 3) := by decide +kernel
theorem dX6_goesDown_56 : decode cX6_goesDown 56 = .ok (.aload_n 0, 1) := by decide +kernel
theorem dX6_goesDown_57 : decode cX6_goesDown 57 = .ok (.iconst 0, 1) := by decide +kernel
theorem dX6_goesDown_58 : decode cX6_goesDown 58 = .ok (.putfield 145, 3) := by decide +kernel
theorem dX6_goesDown_61 : decode cX6_goesDown 61 = .ok (.aload_n 0, 1) := by decide +kernel
theorem dX6_goesDown_62 : decode cX6_goesDown 62 = .ok (.getfield 43, 3) := by decide +kernel
theorem dX6_goesDown_65 : decode cX6_goesDown 65 = .ok (.iload_n 1, 1) := by decide +kernel
theorem dX6_goesDown_66 : decode cX6_goesDown 66 = .ok (.iconst 1, 1) := by decide +kernel
theorem dX6_goesDown_67 : decode cX6_goesDown 67 = .ok (.bastore, 1) := by decide +kernel
theorem dX6_goesDown_68 : decode cX6_goesDown 68 = .ok (.aload_n 0, 1) := by decide +kernel
theorem dX6_goesDown_69 : decode cX6_goesDown 69 = .ok (.aload_n 0, 1) := by decide +kernel
theorem dX6_goesDown_70 : decode cX6_goesDown 70 = .ok (.getfield 25, 3) := by decide +kernel
theorem dX6_goesDown_73 : decode cX6_goesDown 73 = .ok (.iload_n 2, 1) := by decide +kernel
theorem dX6_goesDown_74 : decode cX6_goesDown 74 = .ok (.iaload, 1) := by decide +kernel
theorem dX6_goesDown_75 : decode cX6_goesDown 75 = .ok (.iconst 1, 1) := by decide +kernel
theorem dX6_goesDown_76 : decode cX6_goesDown 76 = .ok (.iadd, 1) := by decide +kernel
theorem dX6_goesDown_77 : decode cX6_goesDown 77 = .ok (.putfield 113, 3) := by decide +kernel
theorem dX6_goesDown_80 : decode cX6_goesDown 80 = .ok (.goto 130, 3) := by decide +kernel
theorem dX6_goesDown_83 : decode cX6_goesDown 83 = .ok (.iload_n 3, 1) := by decide +kernel
theorem dX6_goesDown_84 : decode cX6_goesDown 84 = .ok (.bipush 91, 2) := by decide +kernel
theorem dX6_goesDown_86 : decode cX6_goesDown 86 = .ok (.if_icmp .ne 80, 3) := by decide +kernel
theorem dX6_goesDown_89 : decode cX6_goesDown 89 = .ok (.iload 4, 2) := by decide +kernel
theorem dX6_goesDown_91 : decode cX6_goesDown 91 = .ok (.ifCond .eq 75, 3) := by decide +kernel
theorem dX6_goesDown_94 : decode cX6_goesDown 94 = .ok (.aload_n 0, 1) := by decide +kernel
theorem dX6_goesDown_95 : decode cX6_goesDown 95 = .ok (.getfield 145, 3) := by decide +kernel
theorem dX6_goesDown_98 : decode cX6_goesDown 98 = .ok (.iconst 4, 1) := by decide +kernel
theorem dX6_goesDown_99 : decode cX6_goesDown 99 = .ok (.if_icmp .eq 11, 3) := by decide +kernel
theorem dX6_goesDown_102 : decode cX6_goesDown 102 = .ok (.aload_n 0, 1) := by decide +kernel
theorem dX6_goesDown_103 : decode cX6_goesDown 103 = .ok (.getfield 145, 3) := by decide +kernel
theorem dX6_goesDown_106 : decode cX6_goesDown 106 = .ok (.iconst 5, 1) := by decide +kernel
theorem dX6_goesDown_107 : decode cX6_goesDown 107 = .ok (.if_icmp .ne 59, 3) := by decide +kernel
theorem dX6_goesDown_110 : decode cX6_goesDown 110 = .ok (.aload_n 0, 1) := by decide +kernel
theorem dX6_goesDown_111 : decode cX6_goesDown 111 = .ok (.getfield 7, 3) := by decide +kernel
theorem dX6_goesDown_114 : decode cX6_goesDown 114 = .ok (.bipush 57, 2) := by decide +kernel
theorem dX6_goesDown_116 : decode cX6_goesDown 116 = .ok (.dup2, 1) := by decide +kernel
theorem dX6_goesDown_117 : decode cX6_goesDown 117 = .ok (.iaload, 1) := by decide +kernel
theorem dX6_goesDown_118 : decode cX6_goesDown 118 = .ok (.aload_n 0, 1) := by decide +kernel
theorem dX6_goesDown_119 : decode cX6_goesDown 119 = .ok (.getfield 145, 3) := by decide +kernel
theorem dX6_goesDown_122 : decode cX6_goesDown 122 = .ok (.iconst 4, 1) := by decide +kernel
theorem dX6_goesDown_123 : decode cX6_goesDown 123 = .ok (.if_icmp .ne 10, 3) := by decide +kernel
theorem dX6_goesDown_126 : decode cX6_goesDown 126 = .ok (.aload_n 0, 1) := by decide +kernel
theorem dX6_goesDown_127 : decode cX6_goesDown 127 = .ok (.getfield 154, 3) := by decide +kernel
theorem dX6_goesDown_130 : decode cX6_goesDown 130 = .ok (.goto 7, 3) := by decide +kernel
theorem dX6_goesDown_133 : decode cX6_goesDown 133 = .ok (.aload_n 0, 1) := by decide +kernel
theorem dX6_goesDown_134 : decode cX6_goesDown 134 = .ok (.getfield 157, 3) := by decide +kernel
theorem dX6_goesDown_137 : decode cX6_goesDown 137 = .ok (.iadd, 1) := by decide +kernel
theorem dX6_goesDown_138 : decode cX6_goesDown 138 = .ok (.iastore, 1) := by decide +kernel
theorem dX6_goesDown_139 : decode cX6_goesDown 139 = .ok (.aload_n 0, 1) := by decide +kernel
theorem dX6_goesDown_140 : decode cX6_goesDown 140 = .ok (.iconst 0, 1) := by decide +kernel
theorem dX6_goesDown_141 : decode cX6_goesDown 141 = .ok (.putfield 145, 3) := by decide +kernel
theorem dX6_goesDown_144 : decode cX6_goesDown 144 = .ok (.aload_n 0, 1) := by decide +kernel
theorem dX6_goesDown_145 : decode cX6_goesDown 145 = .ok (.getfield 43, 3) := by decide +kernel
theorem dX6_goesDown_148 : decode cX6_goesDown 148 = .ok (.iload_n 1, 1) := by decide +kernel
theorem dX6_goesDown_149 : decode cX6_goesDown 149 = .ok (.iconst 1, 1) := by decide +kernel
theorem dX6_goesDown_150 : decode cX6_goesDown 150 = .ok (.bastore, 1) := by decide +kernel
theorem dX6_goesDown_151 : decode cX6_goesDown 151 = .ok (.aload_n 0, 1) := by decide +kernel
theorem dX6_goesDown_152 : decode cX6_goesDown 152 = .ok (.aload_n 0, 1) := by decide +kernel
theorem dX6_goesDown_153 : decode cX6_goesDown 153 = .ok (.getfield 25, 3) := by decide +kernel
theorem dX6_goesDown_156 : decode cX6_goesDown 156 = .ok (.iload_n 2, 1) := by decide +kernel
theorem dX6_goesDown_157 : decode cX6_goesDown 157 = .ok (.iaload, 1) := by decide +kernel
theorem dX6_goesDown_158 : decode cX6_goesDown 158 = .ok (.iconst 1, 1) := by decide +kernel
theorem dX6_goesDown_159 : decode cX6_goesDown 159 = .ok (.iadd, 1) := by decide +kernel
theorem dX6_goesDown_160 : decode cX6_goesDown 160 = .ok (.putfield 113, 3) := by decide +kernel
theorem dX6_goesDown_163 : decode cX6_goesDown 163 = .ok (.goto 47, 3) := by decide +kernel
theorem dX6_goesDown_166 : decode cX6_goesDown 166 = .ok (.iload_n 3, 1) := by decide +kernel
theorem dX6_goesDown_167 : decode cX6_goesDown 167 = .ok (.bipush 60, 2) := by decide +kernel
theorem dX6_goesDown_169 : decode cX6_goesDown 169 = .ok (.if_icmp .ne 37, 3) := by decide +kernel
theorem dX6_goesDown_172 : decode cX6_goesDown 172 = .ok (.aload_n 0, 1) := by decide +kernel
theorem dX6_goesDown_173 : decode cX6_goesDown 173 = .ok (.getfield 145, 3) := by decide +kernel
theorem dX6_goesDown_176 : decode cX6_goesDown 176 = .ok (.bipush 6, 2) := by decide +kernel
theorem dX6_goesDown_178 : decode cX6_goesDown 178 = .ok (.if_icmp .eq 28, 3) := by decide +kernel
theorem dX6_goesDown_181 : decode cX6_goesDown 181 = .ok (.aload_n 0, 1) := by decide +kernel
theorem dX6_goesDown_182 : decode cX6_goesDown 182 = .ok (.iconst 5, 1) := by decide +kernel
theorem dX6_goesDown_183 : decode cX6_goesDown 183 = .ok (.putfield 145, 3) := by decide +kernel
theorem dX6_goesDown_186 : decode cX6_goesDown 186 = .ok (.aload_n 0, 1) := by decide +kernel
theorem dX6_goesDown_187 : decode cX6_goesDown 187 = .ok (.dup, 1) := by decide +kernel
theorem dX6_goesDown_188 : decode cX6_goesDown 188 = .ok (.getfield 157, 3) := by decide +kernel
theorem dX6_goesDown_191 : decode cX6_goesDown 191 = .ok (.iconst 1, 1) := by decide +kernel
theorem dX6_goesDown_192 : decode cX6_goesDown 192 = .ok (.iadd, 1) := by decide +kernel
theorem dX6_goesDown_193 : decode cX6_goesDown 193 = .ok (.putfield 157, 3) := by decide +kernel
theorem dX6_goesDown_196 : decode cX6_goesDown 196 = .ok (.aload_n 0, 1) := by decide +kernel
theorem dX6_goesDown_197 : decode cX6_goesDown 197 = .ok (.dup, 1) := by decide +kernel
theorem dX6_goesDown_198 : decode cX6_goesDown 198 = .ok (.getfield 163, 3) := by decide +kernel
theorem dX6_goesDown_201 : decode cX6_goesDown 201 = .ok (.iconst 1, 1) := by decide +kernel
theorem dX6_goesDown_202 : decode cX6_goesDown 202 = .ok (.iadd, 1) := by decide +kernel
theorem dX6_goesDown_203 : decode cX6_goesDown 203 = .ok (.putfield 163, 3) := by decide +kernel
theorem dX6_goesDown_206 : decode cX6_goesDown 206 = .ok (.aload_n 0, 1) := by decide +kernel
theorem dX6_goesDown_207 : decode cX6_goesDown 207 = .ok (.invokevirtual 213, 3) := by decide +kernel
theorem dX6_goesDown_210 : decode cX6_goesDown 210 = .ok (.return_, 1) := by decide +kernel
theorem dX6_endsAt_0 : decode cX6_endsAt 0 = .ok (.aload_n 0, 1) := by decide +kernel
theorem dX6_endsAt_1 : decode cX6_endsAt 1 = .ok (.getfield 34, 3) := by decide +kernel
theorem dX6_endsAt_4 : decode cX6_endsAt 4 = .ok (.aload_n 0, 1) := by decide +kernel
theorem dX6_endsAt_5 : decode cX6_endsAt 5 = .ok (.getfield 166, 3) := by decide +kernel
theorem dX6_endsAt_8 : decode cX6_endsAt 8 = .ok (.iconst 1, 1) := by decide +kernel
theorem dX6_endsAt_9 : decode cX6_endsAt 9 = .ok (.isub, 1) := by decide +kernel
theorem dX6_endsAt_10 : decode cX6_endsAt 10 = .ok (.iaload, 1) := by decide +kernel
theorem dX6_endsAt_11 : decode cX6_endsAt 11 = .ok (.istore_n 2, 1) := by decide +kernel
theorem dX6_endsAt_12 : decode cX6_endsAt 12 = .ok (.iload_n 1, 1) := by decide +kernel
theorem dX6_endsAt_13 : decode cX6_endsAt 13 = .ok (.bipush 59, 2) := by decide +kernel
theorem dX6_endsAt_15 : decode cX6_endsAt 15 = .ok (.if_icmp .ne 49, 3) := by decide +kernel
theorem dX6_endsAt_18 : decode cX6_endsAt 18 = .ok (.aload_n 0, 1) := by decide +kernel
theorem dX6_endsAt_19 : decode cX6_endsAt 19 = .ok (.getfield 40, 3) := by decide +kernel
theorem dX6_endsAt_22 : decode cX6_endsAt 22 = .ok (.aload_n 0, 1) := by decide +kernel
theorem dX6_endsAt_23 : decode cX6_endsAt 23 = .ok (.getfield 166, 3) := by decide +kernel
theorem dX6_endsAt_26 : decode cX6_endsAt 26 = .ok (.iconst 1, 1) := by decide +kernel
theorem dX6_endsAt_27 : decode cX6_endsAt 27 = .ok (.isub, 1) := by decide +kernel
theorem dX6_endsAt_28 : decode cX6_endsAt 28 = .ok (.iaload, 1) := by decide +kernel
theorem dX6_endsAt_29 : decode cX6_endsAt 29 = .ok (.iconst 1, 1) := by decide +kernel
theorem dX6_endsAt_30 : decode cX6_endsAt 30 = .ok (.if_icmp .le 34, 3) := by decide +kernel
theorem dX6_endsAt_33 : decode cX6_endsAt 33 = .ok (.aload_n 0, 1) := by decide +kernel
theorem dX6_endsAt_34 : decode cX6_endsAt 34 = .ok (.getfield 40, 3) := by decide +kernel
theorem dX6_endsAt_37 : decode cX6_endsAt 37 = .ok (.aload_n 0, 1) := by decide +kernel
theorem dX6_endsAt_38 : decode cX6_endsAt 38 = .ok (.getfield 166, 3) := by decide +kernel
theorem dX6_endsAt_41 : decode cX6_endsAt 41 = .ok (.iconst 1, 1) := by decide +kernel
theorem dX6_endsAt_42 : decode cX6_endsAt 42 = .ok (.isub, 1) := by decide +kernel
theorem dX6_endsAt_43 : decode cX6_endsAt 43 = .ok (.dup2, 1) := by decide +kernel
theorem dX6_endsAt_44 : decode cX6_endsAt 44 = .ok (.iaload, 1) := by decide +kernel
theorem dX6_endsAt_45 : decode cX6_endsAt 45 = .ok (.iconst 1, 1) := by decide +kernel
theorem dX6_endsAt_46 : decode cX6_endsAt 46 = .ok (.isub, 1) := by decide +kernel
theorem dX6_endsAt_47 : decode cX6_endsAt 47 = .ok (.iastore, 1) := by decide +kernel
theorem dX6_endsAt_48 : decode cX6_endsAt 48 = .ok (.aload_n 0, 1) := by decide +kernel
theorem dX6_endsAt_49 : decode cX6_endsAt 49 = .ok (.iload_n 2, 1) := by decide +kernel
theorem dX6_endsAt_50 : decode cX6_endsAt 50 = .ok (.iconst 1, 1) := by decide +kernel
theorem dX6_endsAt_51 : decode cX6_endsAt 51 = .ok (.iadd, 1) := by decide +kernel
theorem dX6_endsAt_52 : decode cX6_endsAt 52 = .ok (.putfield 113, 3) := by decide +kernel
theorem dX6_endsAt_55 : decode cX6_endsAt 55 = .ok (.aload_n 0, 1) := by decide +kernel
theorem dX6_endsAt_56 : decode cX6_endsAt 56 = .ok (.bipush 58, 2) := by decide +kernel
theorem dX6_endsAt_58 : decode cX6_endsAt 58 = .ok (.invokevirtual 195, 3) := by decide +kernel
theorem dX6_endsAt_61 : decode cX6_endsAt 61 = .ok (.goto 19, 3) := by decide +kernel
theorem dX6_endsAt_64 : decode cX6_endsAt 64 = .ok (.aload_n 0, 1) := by decide +kernel
theorem dX6_endsAt_65 : decode cX6_endsAt 65 = .ok (.aload_n 0, 1) := by decide +kernel
theorem dX6_endsAt_66 : decode cX6_endsAt 66 = .ok (.getfield 22, 3) := by decide +kernel
theorem dX6_endsAt_69 : decode cX6_endsAt 69 = .ok (.iload_n 2, 1) := by decide +kernel
theorem dX6_endsAt_70 : decode cX6_endsAt 70 = .ok (.iaload, 1) := by decide +kernel
theorem dX6_endsAt_71 : decode cX6_endsAt 71 = .ok (.iconst 1, 1) := by decide +kernel
theorem dX6_endsAt_72 : decode cX6_endsAt 72 = .ok (.iadd, 1) := by decide +kernel
theorem dX6_endsAt_73 : decode cX6_endsAt 73 = .ok (.putfield 113, 3) := by decide +kernel
theorem dX6_endsAt_76 : decode cX6_endsAt 76 = .ok (.aload_n 0, 1) := by decide +kernel
theorem dX6_endsAt_77 : decode cX6_endsAt 77 = .ok (.invokevirtual 213, 3) := by decide +kernel
theorem dX6_endsAt_80 : decode cX6_endsAt 80 = .ok (.return_, 1) := by decide +kernel
theorem dX6_round_0 : decode cX6_round 0 = .ok (.aload_n 0, 1) := by decide +kernel
theorem dX6_round_1 : decode cX6_round 1 = .ok (.iconst 0, 1) := by decide +kernel
theorem dX6_round_2 : decode cX6_round 2 = .ok (.putfield 142, 3) := by decide +kernel
theorem dX6_round_5 : decode cX6_round 5 = .ok (.aload_n 0, 1) := by decide +kernel
theorem dX6_round_6 : decode cX6_round 6 = .ok (.iconst 0, 1) := by decide +kernel
theorem dX6_round_7 : decode cX6_round 7 = .ok (.putfield 192, 3) := by decide +kernel
theorem dX6_round_10 : decode cX6_round 10 = .ok (.aload_n 0, 1) := by decide +kernel
theorem dX6_round_11 : decode cX6_round 11 = .ok (.iconst 0, 1) := by decide +kernel
theorem dX6_round_12 : decode cX6_round 12 = .ok (.putfield 186, 3) := by decide +kernel
theorem dX6_round_15 : decode cX6_round 15 = .ok (.aload_n 0, 1) := by decide +kernel
theorem dX6_round_16 : decode cX6_round 16 = .ok (.iconst 0, 1) := by decide +kernel
theorem dX6_round_17 : decode cX6_round 17 = .ok (.putfield 163, 3) := by decide +kernel
theorem dX6_round_20 : decode cX6_round 20 = .ok (.aload_n 0, 1) := by decide +kernel
theorem dX6_round_21 : decode cX6_round 21 = .ok (.iconst 0, 1) := by decide +kernel
theorem dX6_round_22 : decode cX6_round 22 = .ok (.putfield 145, 3) := by decide +kernel
theorem dX6_round_25 : decode cX6_round 25 = .ok (.aload_n 0, 1) := by decide +kernel
theorem dX6_round_26 : decode cX6_round 26 = .ok (.iconst (-1), 1) := by decide +kernel
theorem dX6_round_27 : decode cX6_round 27 = .ok (.putfield 151, 3) := by decide +kernel
theorem dX6_round_30 : decode cX6_round 30 = .ok (.aload_n 0, 1) := by decide +kernel
theorem dX6_round_31 : decode cX6_round 31 = .ok (.iconst 0, 1) := by decide +kernel
theorem dX6_round_32 : decode cX6_round 32 = .ok (.putfield 166, 3) := by decide +kernel
theorem dX6_round_35 : decode cX6_round 35 = .ok (.aload_n 0, 1) := by decide +kernel
theorem dX6_round_36 : decode cX6_round 36 = .ok (.iconst (-1), 1) := by decide +kernel
theorem dX6_round_37 : decode cX6_round 37 = .ok (.putfield 148, 3) := by decide +kernel
theorem dX6_round_40 : decode cX6_round 40 = .ok (.aload_n 0, 1) := by decide +kernel
theorem dX6_round_41 : decode cX6_round 41 = .ok (.iconst 0, 1) := by decide +kernel
theorem dX6_round_42 : decode cX6_round 42 = .ok (.putfield 169, 3) := by decide +kernel
theorem dX6_round_45 : decode cX6_round 45 = .ok (.aload_n 0, 1) := by decide +kernel
theorem dX6_round_46 : decode cX6_round 46 = .ok (.iconst 0, 1) := by decide +kernel
theorem dX6_round_47 : decode cX6_round 47 = .ok (.putfield 113, 3) := by decide +kernel
theorem dX6_round_50 : decode cX6_round 50 = .ok (.aload_n 0, 1) := by decide +kernel
theorem dX6_round_51 : decode cX6_round 51 = .ok (.invokevirtual 116, 3) := by decide +kernel
theorem dX6_round_54 : decode cX6_round 54 = .ok (.aload_n 0, 1) := by decide +kernel
theorem dX6_round_55 : decode cX6_round 55 = .ok (.getfield 145, 3) := by decide +kernel
theorem dX6_round_58 : decode cX6_round 58 = .ok (.ifCond .ne 17, 3) := by decide +kernel
theorem dX6_round_61 : decode cX6_round 61 = .ok (.aload_n 0, 1) := by decide +kernel
theorem dX6_round_62 : decode cX6_round 62 = .ok (.getfield 113, 3) := by decide +kernel
theorem dX6_round_65 : decode cX6_round 65 = .ok (.aload_n 0, 1) := by decide +kernel
theorem dX6_round_66 : decode cX6_round 66 = .ok (.getfield 107, 3) := by decide +kernel
theorem dX6_round_69 : decode cX6_round 69 = .ok (.if_icmp .ge 96, 3) := by decide +kernel
theorem dX6_round_72 : decode cX6_round 72 = .ok (.goto 10, 3) := by decide +kernel
theorem dX6_round_75 : decode cX6_round 75 = .ok (.aload_n 0, 1) := by decide +kernel
theorem dX6_round_76 : decode cX6_round 76 = .ok (.getfield 166, 3) := by decide +kernel
theorem dX6_round_79 : decode cX6_round 79 = .ok (.ifCond .le 86, 3) := by decide +kernel
theorem dX6_round_82 : decode cX6_round 82 = .ok (.aload_n 0, 1) := by decide +kernel
theorem dX6_round_83 : decode cX6_round 83 = .ok (.getfield 145, 3) := by decide +kernel
theorem dX6_round_86 : decode cX6_round 86 = .ok (.ifCond .eq 10, 3) := by decide +kernel
theorem dX6_round_89 : decode cX6_round 89 = .ok (.aload_n 0, 1) := by decide +kernel
theorem dX6_round_90 : decode cX6_round 90 = .ok (.invokevirtual 216, 3) := by decide +kernel
theorem dX6_round_93 : decode cX6_round 93 = .ok (.goto 65, 3) := by decide +kernel
theorem dX6_round_96 : decode cX6_round 96 = .ok (.aload_n 0, 1) := by decide +kernel
theorem dX6_round_97 : decode cX6_round 97 = .ok (.getfield 19, 3) := by decide +kernel
theorem dX6_round_100 : decode cX6_round 100 = .ok (.aload_n 0, 1) := by decide +kernel
theorem dX6_round_101 : decode cX6_round 101 = .ok (.getfield 113, 3) := by decide +kernel
theorem dX6_round_104 : decode cX6_round 104 = .ok (.iaload, 1) := by decide +kernel
theorem dX6_round_105 : decode cX6_round 105 = .ok (.istore_n 1, 1) := by decide +kernel
theorem dX6_round_106 : decode cX6_round 106 = .ok (.iload_n 1, 1) := by decide +kernel
theorem dX6_round_107 : decode cX6_round 107 = .ok (.bipush 47, 2) := by decide +kernel
theorem dX6_round_109 : decode cX6_round 109 = .ok (.if_icmp .eq 33, 3) := by decide +kernel
theorem dX6_round_112 : decode cX6_round 112 = .ok (.iload_n 1, 1) := by decide +kernel
theorem dX6_round_113 : decode cX6_round 113 = .ok (.bipush 125, 2) := by decide +kernel
theorem dX6_round_115 : decode cX6_round 115 = .ok (.if_icmp .eq 27, 3) := by decide +kernel
theorem dX6_round_118 : decode cX6_round 118 = .ok (.iload_n 1, 1) := by decide +kernel
theorem dX6_round_119 : decode cX6_round 119 = .ok (.bipush 41, 2) := by decide +kernel
theorem dX6_round_121 : decode cX6_round 121 = .ok (.if_icmp .eq 21, 3) := by decide +kernel
theorem dX6_round_124 : decode cX6_round 124 = .ok (.iload_n 1, 1) := by decide +kernel
theorem dX6_round_125 : decode cX6_round 125 = .ok (.bipush 93, 2) := by decide +kernel
theorem dX6_round_127 : decode cX6_round 127 = .ok (.if_icmp .eq 15, 3) := by decide +kernel
theorem dX6_round_130 : decode cX6_round 130 = .ok (.iload_n 1, 1) := by decide +kernel
theorem dX6_round_131 : decode cX6_round 131 = .ok (.bipush 62, 2) := by decide +kernel
theorem dX6_round_133 : decode cX6_round 133 = .ok (.if_icmp .eq 9, 3) := by decide +kernel
theorem dX6_round_136 : decode cX6_round 136 = .ok (.iload_n 1, 1) := by decide +kernel
theorem dX6_round_137 : decode cX6_round 137 = .ok (.bipush 59, 2) := by decide +kernel
theorem dX6_round_139 : decode cX6_round 139 = .ok (.if_icmp .ne 11, 3) := by decide +kernel
theorem dX6_round_142 : decode cX6_round 142 = .ok (.aload_n 0, 1) := by decide +kernel
theorem dX6_round_143 : decode cX6_round 143 = .ok (.iload_n 1, 1) := by decide +kernel
theorem dX6_round_144 : decode cX6_round 144 = .ok (.invokevirtual 219, 3) := by decide +kernel
theorem dX6_round_147 : decode cX6_round 147 = .ok (.goto 11, 3) := by decide +kernel
theorem dX6_round_150 : decode cX6_round 150 = .ok (.aload_n 0, 1) := by decide +kernel
theorem dX6_round_151 : decode cX6_round 151 = .ok (.aload_n 0, 1) := by decide +kernel
theorem dX6_round_152 : decode cX6_round 152 = .ok (.getfield 113, 3) := by decide +kernel
theorem dX6_round_155 : decode cX6_round 155 = .ok (.invokevirtual 222, 3) := by decide +kernel
theorem dX6_round_158 : decode cX6_round 158 = .ok (.aload_n 0, 1) := by decide +kernel
theorem dX6_round_159 : decode cX6_round 159 = .ok (.invokevirtual 116, 3) := by decide +kernel
theorem dX6_round_162 : decode cX6_round 162 = .ok (.goto (-108), 3) := by decide +kernel
theorem dX6_round_165 : decode cX6_round 165 = .ok (.aload_n 0, 1) := by decide +kernel
theorem dX6_round_166 : decode cX6_round 166 = .ok (.getfield 145, 3) := by decide +kernel
theorem dX6_round_169 : decode cX6_round 169 = .ok (.ireturn, 1) := by decide +kernel
theorem dX6_keepsWas_0 : decode cX6_keepsWas 0 = .ok (.aload_n 0, 1) := by decide +kernel
theorem dX6_keepsWas_1 : decode cX6_keepsWas 1 = .ok (.iconst 1, 1) := by decide +kernel
theorem dX6_keepsWas_2 : decode cX6_keepsWas 2 = .ok (.putfield 225, 3) := by decide +kernel
theorem dX6_keepsWas_5 : decode cX6_keepsWas 5 = .ok (.aload_n 0, 1) := by decide +kernel
theorem dX6_keepsWas_6 : decode cX6_keepsWas 6 = .ok (.getfield 47, 3) := by decide +kernel
theorem dX6_keepsWas_9 : decode cX6_keepsWas 9 = .ok (.iconst 0, 1) := by decide +kernel
theorem dX6_keepsWas_10 : decode cX6_keepsWas 10 = .ok (.iload_n 1, 1) := by decide +kernel
theorem dX6_keepsWas_11 : decode cX6_keepsWas 11 = .ok (.iastore, 1) := by decide +kernel
theorem dX6_keepsWas_12 : decode cX6_keepsWas 12 = .ok (.aload_n 0, 1) := by decide +kernel
theorem dX6_keepsWas_13 : decode cX6_keepsWas 13 = .ok (.getfield 47, 3) := by decide +kernel
theorem dX6_keepsWas_16 : decode cX6_keepsWas 16 = .ok (.iconst 1, 1) := by decide +kernel
theorem dX6_keepsWas_17 : decode cX6_keepsWas 17 = .ok (.iload_n 1, 1) := by decide +kernel
theorem dX6_keepsWas_18 : decode cX6_keepsWas 18 = .ok (.ifCond .ne 7, 3) := by decide +kernel
theorem dX6_keepsWas_21 : decode cX6_keepsWas 21 = .ok (.iconst (-1), 1) := by decide +kernel
theorem dX6_keepsWas_22 : decode cX6_keepsWas 22 = .ok (.goto 7, 3) := by decide +kernel
theorem dX6_keepsWas_25 : decode cX6_keepsWas 25 = .ok (.aload_n 0, 1) := by decide +kernel
theorem dX6_keepsWas_26 : decode cX6_keepsWas 26 = .ok (.getfield 151, 3) := by decide +kernel
theorem dX6_keepsWas_29 : decode cX6_keepsWas 29 = .ok (.iastore, 1) := by decide +kernel
theorem dX6_keepsWas_30 : decode cX6_keepsWas 30 = .ok (.aload_n 0, 1) := by decide +kernel
theorem dX6_keepsWas_31 : decode cX6_keepsWas 31 = .ok (.getfield 47, 3) := by decide +kernel
theorem dX6_keepsWas_34 : decode cX6_keepsWas 34 = .ok (.iconst 2, 1) := by decide +kernel
theorem dX6_keepsWas_35 : decode cX6_keepsWas 35 = .ok (.iload_n 1, 1) := by decide +kernel
theorem dX6_keepsWas_36 : decode cX6_keepsWas 36 = .ok (.iconst 4, 1) := by decide +kernel
theorem dX6_keepsWas_37 : decode cX6_keepsWas 37 = .ok (.if_icmp .ne 10, 3) := by decide +kernel
theorem dX6_keepsWas_40 : decode cX6_keepsWas 40 = .ok (.aload_n 0, 1) := by decide +kernel
theorem dX6_keepsWas_41 : decode cX6_keepsWas 41 = .ok (.getfield 154, 3) := by decide +kernel
theorem dX6_keepsWas_44 : decode cX6_keepsWas 44 = .ok (.goto 4, 3) := by decide +kernel
theorem dX6_keepsWas_47 : decode cX6_keepsWas 47 = .ok (.iconst (-1), 1) := by decide +kernel
theorem dX6_keepsWas_48 : decode cX6_keepsWas 48 = .ok (.iastore, 1) := by decide +kernel
theorem dX6_keepsWas_49 : decode cX6_keepsWas 49 = .ok (.aload_n 0, 1) := by decide +kernel
theorem dX6_keepsWas_50 : decode cX6_keepsWas 50 = .ok (.getfield 47, 3) := by decide +kernel
theorem dX6_keepsWas_53 : decode cX6_keepsWas 53 = .ok (.iconst 3, 1) := by decide +kernel
theorem dX6_keepsWas_54 : decode cX6_keepsWas 54 = .ok (.iload_n 1, 1) := by decide +kernel
theorem dX6_keepsWas_55 : decode cX6_keepsWas 55 = .ok (.iconst 5, 1) := by decide +kernel
theorem dX6_keepsWas_56 : decode cX6_keepsWas 56 = .ok (.if_icmp .ne 10, 3) := by decide +kernel
theorem dX6_keepsWas_59 : decode cX6_keepsWas 59 = .ok (.aload_n 0, 1) := by decide +kernel
theorem dX6_keepsWas_60 : decode cX6_keepsWas 60 = .ok (.getfield 157, 3) := by decide +kernel
theorem dX6_keepsWas_63 : decode cX6_keepsWas 63 = .ok (.goto 4, 3) := by decide +kernel
theorem dX6_keepsWas_66 : decode cX6_keepsWas 66 = .ok (.iconst 0, 1) := by decide +kernel
theorem dX6_keepsWas_67 : decode cX6_keepsWas 67 = .ok (.iastore, 1) := by decide +kernel
theorem dX6_keepsWas_68 : decode cX6_keepsWas 68 = .ok (.aload_n 0, 1) := by decide +kernel
theorem dX6_keepsWas_69 : decode cX6_keepsWas 69 = .ok (.getfield 47, 3) := by decide +kernel
theorem dX6_keepsWas_72 : decode cX6_keepsWas 72 = .ok (.iconst 4, 1) := by decide +kernel
theorem dX6_keepsWas_73 : decode cX6_keepsWas 73 = .ok (.aload_n 0, 1) := by decide +kernel
theorem dX6_keepsWas_74 : decode cX6_keepsWas 74 = .ok (.getfield 192, 3) := by decide +kernel
theorem dX6_keepsWas_77 : decode cX6_keepsWas 77 = .ok (.iastore, 1) := by decide +kernel
theorem dX6_keepsWas_78 : decode cX6_keepsWas 78 = .ok (.aload_n 0, 1) := by decide +kernel
theorem dX6_keepsWas_79 : decode cX6_keepsWas 79 = .ok (.getfield 47, 3) := by decide +kernel
theorem dX6_keepsWas_82 : decode cX6_keepsWas 82 = .ok (.iconst 5, 1) := by decide +kernel
theorem dX6_keepsWas_83 : decode cX6_keepsWas 83 = .ok (.aload_n 0, 1) := by decide +kernel
theorem dX6_keepsWas_84 : decode cX6_keepsWas 84 = .ok (.getfield 7, 3) := by decide +kernel
theorem dX6_keepsWas_87 : decode cX6_keepsWas 87 = .ok (.bipush 57, 2) := by decide +kernel
theorem dX6_keepsWas_89 : decode cX6_keepsWas 89 = .ok (.iaload, 1) := by decide +kernel
theorem dX6_keepsWas_90 : decode cX6_keepsWas 90 = .ok (.iastore, 1) := by decide +kernel
theorem dX6_keepsWas_91 : decode cX6_keepsWas 91 = .ok (.aload_n 0, 1) := by decide +kernel
theorem dX6_keepsWas_92 : decode cX6_keepsWas 92 = .ok (.getfield 47, 3) := by decide +kernel
theorem dX6_keepsWas_95 : decode cX6_keepsWas 95 = .ok (.bipush 6, 2) := by decide +kernel
theorem dX6_keepsWas_97 : decode cX6_keepsWas 97 = .ok (.aload_n 0, 1) := by decide +kernel
theorem dX6_keepsWas_98 : decode cX6_keepsWas 98 = .ok (.getfield 186, 3) := by decide +kernel
theorem dX6_keepsWas_101 : decode cX6_keepsWas 101 = .ok (.iastore, 1) := by decide +kernel
theorem dX6_keepsWas_102 : decode cX6_keepsWas 102 = .ok (.aload_n 0, 1) := by decide +kernel
theorem dX6_keepsWas_103 : decode cX6_keepsWas 103 = .ok (.getfield 47, 3) := by decide +kernel
theorem dX6_keepsWas_106 : decode cX6_keepsWas 106 = .ok (.bipush 7, 2) := by decide +kernel
theorem dX6_keepsWas_108 : decode cX6_keepsWas 108 = .ok (.aload_n 0, 1) := by decide +kernel
theorem dX6_keepsWas_109 : decode cX6_keepsWas 109 = .ok (.getfield 163, 3) := by decide +kernel
theorem dX6_keepsWas_112 : decode cX6_keepsWas 112 = .ok (.iastore, 1) := by decide +kernel
theorem dX6_keepsWas_113 : decode cX6_keepsWas 113 = .ok (.aload_n 0, 1) := by decide +kernel
theorem dX6_keepsWas_114 : decode cX6_keepsWas 114 = .ok (.iload_n 1, 1) := by decide +kernel
theorem dX6_keepsWas_115 : decode cX6_keepsWas 115 = .ok (.iconst 5, 1) := by decide +kernel
theorem dX6_keepsWas_116 : decode cX6_keepsWas 116 = .ok (.if_icmp .ne 10, 3) := by decide +kernel
theorem dX6_keepsWas_119 : decode cX6_keepsWas 119 = .ok (.aload_n 0, 1) := by decide +kernel
theorem dX6_keepsWas_120 : decode cX6_keepsWas 120 = .ok (.getfield 160, 3) := by decide +kernel
theorem dX6_keepsWas_123 : decode cX6_keepsWas 123 = .ok (.goto 4, 3) := by decide +kernel
theorem dX6_keepsWas_126 : decode cX6_keepsWas 126 = .ok (.iconst (-1), 1) := by decide +kernel
theorem dX6_keepsWas_127 : decode cX6_keepsWas 127 = .ok (.putfield 50, 3) := by decide +kernel
theorem dX6_keepsWas_130 : decode cX6_keepsWas 130 = .ok (.iconst 0, 1) := by decide +kernel
theorem dX6_keepsWas_131 : decode cX6_keepsWas 131 = .ok (.istore_n 2, 1) := by decide +kernel
theorem dX6_keepsWas_132 : decode cX6_keepsWas 132 = .ok (.iload_n 2, 1) := by decide +kernel
theorem dX6_keepsWas_133 : decode cX6_keepsWas 133 = .ok (.aload_n 0, 1) := by decide +kernel
theorem dX6_keepsWas_134 : decode cX6_keepsWas 134 = .ok (.getfield 142, 3) := by decide +kernel
theorem dX6_keepsWas_137 : decode cX6_keepsWas 137 = .ok (.if_icmp .ge 21, 3) := by decide +kernel
theorem dX6_keepsWas_140 : decode cX6_keepsWas 140 = .ok (.aload_n 0, 1) := by decide +kernel
theorem dX6_keepsWas_141 : decode cX6_keepsWas 141 = .ok (.getfield 54, 3) := by decide +kernel
theorem dX6_keepsWas_144 : decode cX6_keepsWas 144 = .ok (.iload_n 2, 1) := by decide +kernel
theorem dX6_keepsWas_145 : decode cX6_keepsWas 145 = .ok (.aload_n 0, 1) := by decide +kernel
theorem dX6_keepsWas_146 : decode cX6_keepsWas 146 = .ok (.getfield 31, 3) := by decide +kernel
theorem dX6_keepsWas_149 : decode cX6_keepsWas 149 = .ok (.iload_n 2, 1) := by decide +kernel
theorem dX6_keepsWas_150 : decode cX6_keepsWas 150 = .ok (.iaload, 1) := by decide +kernel
theorem dX6_keepsWas_151 : decode cX6_keepsWas 151 = .ok (.iastore, 1) := by decide +kernel
theorem dX6_keepsWas_152 : decode cX6_keepsWas 152 = .ok (.iinc 2 1, 3) := by decide +kernel
theorem dX6_keepsWas_155 : decode cX6_keepsWas 155 = .ok (.goto (-23), 3) := by decide +kernel
theorem dX6_keepsWas_158 : decode cX6_keepsWas 158 = .ok (.aload_n 0, 1) := by decide +kernel
theorem dX6_keepsWas_159 : decode cX6_keepsWas 159 = .ok (.aload_n 0, 1) := by decide +kernel
theorem dX6_keepsWas_160 : decode cX6_keepsWas 160 = .ok (.getfield 142, 3) := by decide +kernel
theorem dX6_keepsWas_163 : decode cX6_keepsWas 163 = .ok (.putfield 229, 3) := by decide +kernel
theorem dX6_keepsWas_166 : decode cX6_keepsWas 166 = .ok (.return_, 1) := by decide +kernel
theorem dX6_keep_0 : decode cX6_keep 0 = .ok (.iconst 0, 1) := by decide +kernel
theorem dX6_keep_1 : decode cX6_keep 1 = .ok (.istore_n 1, 1) := by decide +kernel
theorem dX6_keep_2 : decode cX6_keep 2 = .ok (.iload_n 1, 1) := by decide +kernel
theorem dX6_keep_3 : decode cX6_keep 3 = .ok (.bipush 58, 2) := by decide +kernel
theorem dX6_keep_5 : decode cX6_keep 5 = .ok (.if_icmp .ge 21, 3) := by decide +kernel
theorem dX6_keep_8 : decode cX6_keep 8 = .ok (.aload_n 0, 1) := by decide +kernel
theorem dX6_keep_9 : decode cX6_keep 9 = .ok (.getfield 57, 3) := by decide +kernel
theorem dX6_keep_12 : decode cX6_keep 12 = .ok (.iload_n 1, 1) := by decide +kernel
theorem dX6_keep_13 : decode cX6_keep 13 = .ok (.aload_n 0, 1) := by decide +kernel
theorem dX6_keep_14 : decode cX6_keep 14 = .ok (.getfield 7, 3) := by decide +kernel
theorem dX6_keep_17 : decode cX6_keep 17 = .ok (.iload_n 1, 1) := by decide +kernel
theorem dX6_keep_18 : decode cX6_keep 18 = .ok (.iaload, 1) := by decide +kernel
theorem dX6_keep_19 : decode cX6_keep 19 = .ok (.iastore, 1) := by decide +kernel
