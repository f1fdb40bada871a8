theorem dX2_init_0 : decode cX2_init 0 = .ok (.aload_n 0, 1) := by decide +kernel
theorem dX2_init_1 : decode cX2_init 1 = .ok (.invokespecial 3, 3) := by decide +kernel
theorem dX2_init_4 : decode cX2_init 4 = .ok (.aload_n 0, 1) := by decide +kernel
theorem dX2_init_5 : decode cX2_init 5 = .ok (.bipush 40, 2) := by decide +kernel
theorem dX2_init_7 : decode cX2_init 7 = .ok (.newarray .int, 2) := by decide +kernel
theorem dX2_init_9 : decode cX2_init 9 = .ok (.putfield 9, 3) := by decide +kernel
theorem dX2_init_12 : decode cX2_init 12 = .ok (.return_, 1) := by decide +kernel
theorem dX2_joins_0 : decode cX2_joins 0 = .ok (.aload_n 0, 1) := by decide +kernel
theorem dX2_joins_1 : decode cX2_joins 1 = .ok (.getfield 9, 3) := by decide +kernel
theorem dX2_joins_4 : decode cX2_joins 4 = .ok (.iload_n 1, 1) := by decide +kernel
theorem dX2_joins_5 : decode cX2_joins 5 = .ok (.iaload, 1) := by decide +kernel
theorem dX2_joins_6 : decode cX2_joins 6 = .ok (.aload_n 0, 1) := by decide +kernel
theorem dX2_joins_7 : decode cX2_joins 7 = .ok (.getfield 9, 3) := by decide +kernel
theorem dX2_joins_10 : decode cX2_joins 10 = .ok (.iload_n 2, 1) := by decide +kernel
theorem dX2_joins_11 : decode cX2_joins 11 = .ok (.iaload, 1) := by decide +kernel
theorem dX2_joins_12 : decode cX2_joins 12 = .ok (.if_icmp .ne 7, 3) := by decide +kernel
theorem dX2_joins_15 : decode cX2_joins 15 = .ok (.iconst 1, 1) := by decide +kernel
theorem dX2_joins_16 : decode cX2_joins 16 = .ok (.goto 4, 3) := by decide +kernel
theorem dX2_joins_19 : decode cX2_joins 19 = .ok (.iconst 0, 1) := by decide +kernel
theorem dX2_joins_20 : decode cX2_joins 20 = .ok (.ireturn, 1) := by decide +kernel
theorem dX2_classCount_0 : decode cX2_classCount 0 = .ok (.iconst 0, 1) := by decide +kernel
theorem dX2_classCount_1 : decode cX2_classCount 1 = .ok (.istore_n 2, 1) := by decide +kernel
theorem dX2_classCount_2 : decode cX2_classCount 2 = .ok (.iconst 0, 1) := by decide +kernel
theorem dX2_classCount_3 : decode cX2_classCount 3 = .ok (.istore_n 3, 1) := by decide +kernel
theorem dX2_classCount_4 : decode cX2_classCount 4 = .ok (.iload_n 3, 1) := by decide +kernel
theorem dX2_classCount_5 : decode cX2_classCount 5 = .ok (.iload_n 1, 1) := by decide +kernel
theorem dX2_classCount_6 : decode cX2_classCount 6 = .ok (.if_icmp .ge 22, 3) := by decide +kernel
theorem dX2_classCount_9 : decode cX2_classCount 9 = .ok (.aload_n 0, 1) := by decide +kernel
theorem dX2_classCount_10 : decode cX2_classCount 10 = .ok (.getfield 9, 3) := by decide +kernel
theorem dX2_classCount_13 : decode cX2_classCount 13 = .ok (.iload_n 3, 1) := by decide +kernel
theorem dX2_classCount_14 : decode cX2_classCount 14 = .ok (.iaload, 1) := by decide +kernel
theorem dX2_classCount_15 : decode cX2_classCount 15 = .ok (.iload_n 3, 1) := by decide +kernel
theorem dX2_classCount_16 : decode cX2_classCount 16 = .ok (.if_icmp .ne 6, 3) := by decide +kernel
theorem dX2_classCount_19 : decode cX2_classCount 19 = .ok (.iinc 2 1, 3) := by decide +kernel
theorem dX2_classCount_22 : decode cX2_classCount 22 = .ok (.iinc 3 1, 3) := by decide +kernel
theorem dX2_classCount_25 : decode cX2_classCount 25 = .ok (.goto (-21), 3) := by decide +kernel
theorem dX2_classCount_28 : decode cX2_classCount 28 = .ok (.iload_n 2, 1) := by decide +kernel
theorem dX2_classCount_29 : decode cX2_classCount 29 = .ok (.ireturn, 1) := by decide +kernel
theorem dX2_fits_0 : decode cX2_fits 0 = .ok (.aload_n 1, 1) := by decide +kernel
theorem dX2_fits_1 : decode cX2_fits 1 = .ok (.getfield 15, 3) := by decide +kernel
theorem dX2_fits_4 : decode cX2_fits 4 = .ok (.iload_n 2, 1) := by decide +kernel
theorem dX2_fits_5 : decode cX2_fits 5 = .ok (.iaload, 1) := by decide +kernel
theorem dX2_fits_6 : decode cX2_fits 6 = .ok (.iload_n 3, 1) := by decide +kernel
theorem dX2_fits_7 : decode cX2_fits 7 = .ok (.if_icmp .ne 37, 3) := by decide +kernel
theorem dX2_fits_10 : decode cX2_fits 10 = .ok (.aload_n 0, 1) := by decide +kernel
theorem dX2_fits_11 : decode cX2_fits 11 = .ok (.aload_n 1, 1) := by decide +kernel
theorem dX2_fits_12 : decode cX2_fits 12 = .ok (.getfield 20, 3) := by decide +kernel
theorem dX2_fits_15 : decode cX2_fits 15 = .ok (.iload_n 2, 1) := by decide +kernel
theorem dX2_fits_16 : decode cX2_fits 16 = .ok (.iaload, 1) := by decide +kernel
theorem dX2_fits_17 : decode cX2_fits 17 = .ok (.iload 4, 2) := by decide +kernel
theorem dX2_fits_19 : decode cX2_fits 19 = .ok (.invokevirtual 23, 3) := by decide +kernel
theorem dX2_fits_22 : decode cX2_fits 22 = .ok (.ifCond .eq 22, 3) := by decide +kernel
theorem dX2_fits_25 : decode cX2_fits 25 = .ok (.aload_n 0, 1) := by decide +kernel
theorem dX2_fits_26 : decode cX2_fits 26 = .ok (.aload_n 1, 1) := by decide +kernel
theorem dX2_fits_27 : decode cX2_fits 27 = .ok (.getfield 27, 3) := by decide +kernel
theorem dX2_fits_30 : decode cX2_fits 30 = .ok (.iload_n 2, 1) := by decide +kernel
theorem dX2_fits_31 : decode cX2_fits 31 = .ok (.iaload, 1) := by decide +kernel
theorem dX2_fits_32 : decode cX2_fits 32 = .ok (.iload 5, 2) := by decide +kernel
theorem dX2_fits_34 : decode cX2_fits 34 = .ok (.invokevirtual 23, 3) := by decide +kernel
theorem dX2_fits_37 : decode cX2_fits 37 = .ok (.ifCond .eq 7, 3) := by decide +kernel
theorem dX2_fits_40 : decode cX2_fits 40 = .ok (.iconst 1, 1) := by decide +kernel
theorem dX2_fits_41 : decode cX2_fits 41 = .ok (.goto 4, 3) := by decide +kernel
theorem dX2_fits_44 : decode cX2_fits 44 = .ok (.iconst 0, 1) := by decide +kernel
theorem dX2_fits_45 : decode cX2_fits 45 = .ok (.ireturn, 1) := by decide +kernel
theorem dX2_sameArgument_0 : decode cX2_sameArgument 0 = .ok (.iload_n 1, 1) := by decide +kernel
theorem dX2_sameArgument_1 : decode cX2_sameArgument 1 = .ok (.iconst (-1), 1) := by decide +kernel
theorem dX2_sameArgument_2 : decode cX2_sameArgument 2 = .ok (.if_icmp .eq 8, 3) := by decide +kernel
theorem dX2_sameArgument_5 : decode cX2_sameArgument 5 = .ok (.iload_n 2, 1) := by decide +kernel
theorem dX2_sameArgument_6 : decode cX2_sameArgument 6 = .ok (.iconst (-1), 1) := by decide +kernel
theorem dX2_sameArgument_7 : decode cX2_sameArgument 7 = .ok (.if_icmp .ne 14, 3) := by decide +kernel
theorem dX2_sameArgument_10 : decode cX2_sameArgument 10 = .ok (.iload_n 1, 1) := by decide +kernel
theorem dX2_sameArgument_11 : decode cX2_sameArgument 11 = .ok (.iload_n 2, 1) := by decide +kernel
theorem dX2_sameArgument_12 : decode cX2_sameArgument 12 = .ok (.if_icmp .ne 7, 3) := by decide +kernel
theorem dX2_sameArgument_15 : decode cX2_sameArgument 15 = .ok (.iconst 1, 1) := by decide +kernel
theorem dX2_sameArgument_16 : decode cX2_sameArgument 16 = .ok (.goto 4, 3) := by decide +kernel
theorem dX2_sameArgument_19 : decode cX2_sameArgument 19 = .ok (.iconst 0, 1) := by decide +kernel
theorem dX2_sameArgument_20 : decode cX2_sameArgument 20 = .ok (.ireturn, 1) := by decide +kernel
theorem dX2_sameArgument_21 : decode cX2_sameArgument 21 = .ok (.aload_n 0, 1) := by decide +kernel
theorem dX2_sameArgument_22 : decode cX2_sameArgument 22 = .ok (.iload_n 1, 1) := by decide +kernel
theorem dX2_sameArgument_23 : decode cX2_sameArgument 23 = .ok (.iload_n 2, 1) := by decide +kernel
theorem dX2_sameArgument_24 : decode cX2_sameArgument 24 = .ok (.invokevirtual 30, 3) := by decide +kernel
theorem dX2_sameArgument_27 : decode cX2_sameArgument 27 = .ok (.ireturn, 1) := by decide +kernel
theorem dX2_settle_0 : decode cX2_settle 0 = .ok (.iconst 0, 1) := by decide +kernel
theorem dX2_settle_1 : decode cX2_settle 1 = .ok (.istore 4, 2) := by decide +kernel
theorem dX2_settle_3 : decode cX2_settle 3 = .ok (.iload 4, 2) := by decide +kernel
theorem dX2_settle_5 : decode cX2_settle 5 = .ok (.aload_n 1, 1) := by decide +kernel
theorem dX2_settle_6 : decode cX2_settle 6 = .ok (.getfield 33, 3) := by decide +kernel
theorem dX2_settle_9 : decode cX2_settle 9 = .ok (.if_icmp .ge 18, 3) := by decide +kernel
theorem dX2_settle_12 : decode cX2_settle 12 = .ok (.aload_n 0, 1) := by decide +kernel
theorem dX2_settle_13 : decode cX2_settle 13 = .ok (.getfield 9, 3) := by decide +kernel
theorem dX2_settle_16 : decode cX2_settle 16 = .ok (.iload 4, 2) := by decide +kernel
theorem dX2_settle_18 : decode cX2_settle 18 = .ok (.iload 4, 2) := by decide +kernel
theorem dX2_settle_20 : decode cX2_settle 20 = .ok (.iastore, 1) := by decide +kernel
theorem dX2_settle_21 : decode cX2_settle 21 = .ok (.iinc 4 1, 3) := by decide +kernel
theorem dX2_settle_24 : decode cX2_settle 24 = .ok (.goto (-21), 3) := by decide +kernel
theorem dX2_settle_27 : decode cX2_settle 27 = .ok (.iconst 0, 1) := by decide +kernel
theorem dX2_settle_28 : decode cX2_settle 28 = .ok (.istore 4, 2) := by decide +kernel
theorem dX2_settle_30 : decode cX2_settle 30 = .ok (.iload 4, 2) := by decide +kernel
theorem dX2_settle_32 : decode cX2_settle 32 = .ok (.aload_n 2, 1) := by decide +kernel
theorem dX2_settle_33 : decode cX2_settle 33 = .ok (.getfield 37, 3) := by decide +kernel
theorem dX2_settle_36 : decode cX2_settle 36 = .ok (.if_icmp .ge 40, 3) := by decide +kernel
theorem dX2_settle_39 : decode cX2_settle 39 = .ok (.iload_n 3, 1) := by decide +kernel
theorem dX2_settle_40 : decode cX2_settle 40 = .ok (.iconst 1, 1) := by decide +kernel
theorem dX2_settle_41 : decode cX2_settle 41 = .ok (.iload 4, 2) := by decide +kernel
theorem dX2_settle_43 : decode cX2_settle 43 = .ok (.ishl, 1) := by decide +kernel
theorem dX2_settle_44 : decode cX2_settle 44 = .ok (.iand, 1) := by decide +kernel
theorem dX2_settle_45 : decode cX2_settle 45 = .ok (.ifCond .eq 25, 3) := by decide +kernel
theorem dX2_settle_48 : decode cX2_settle 48 = .ok (.aload_n 0, 1) := by decide +kernel
theorem dX2_settle_49 : decode cX2_settle 49 = .ok (.aload_n 2, 1) := by decide +kernel
theorem dX2_settle_50 : decode cX2_settle 50 = .ok (.getfield 40, 3) := by decide +kernel
theorem dX2_settle_53 : decode cX2_settle 53 = .ok (.iload 4, 2) := by decide +kernel
theorem dX2_settle_55 : decode cX2_settle 55 = .ok (.iaload, 1) := by decide +kernel
theorem dX2_settle_56 : decode cX2_settle 56 = .ok (.aload_n 2, 1) := by decide +kernel
theorem dX2_settle_57 : decode cX2_settle 57 = .ok (.getfield 43, 3) := by decide +kernel
theorem dX2_settle_60 : decode cX2_settle 60 = .ok (.iload 4, 2) := by decide +kernel
theorem dX2_settle_62 : decode cX2_settle 62 = .ok (.iaload, 1) := by decide +kernel
theorem dX2_settle_63 : decode cX2_settle 63 = .ok (.aload_n 1, 1) := by decide +kernel
theorem dX2_settle_64 : decode cX2_settle 64 = .ok (.getfield 33, 3) := by decide +kernel
theorem dX2_settle_67 : decode cX2_settle 67 = .ok (.invokevirtual 46, 3) := by decide +kernel
theorem dX2_settle_70 : decode cX2_settle 70 = .ok (.iinc 4 1, 3) := by decide +kernel
theorem dX2_settle_73 : decode cX2_settle 73 = .ok (.goto (-43), 3) := by decide +kernel
theorem dX2_settle_76 : decode cX2_settle 76 = .ok (.iconst 1, 1) := by decide +kernel
theorem dX2_settle_77 : decode cX2_settle 77 = .ok (.istore 4, 2) := by decide +kernel
theorem dX2_settle_79 : decode cX2_settle 79 = .ok (.iconst 0, 1) := by decide +kernel
theorem dX2_settle_80 : decode cX2_settle 80 = .ok (.istore 5, 2) := by decide +kernel
theorem dX2_settle_82 : decode cX2_settle 82 = .ok (.iload 5, 2) := by decide +kernel
theorem dX2_settle_84 : decode cX2_settle 84 = .ok (.aload_n 1, 1) := by decide +kernel
theorem dX2_settle_85 : decode cX2_settle 85 = .ok (.getfield 33, 3) := by decide +kernel
theorem dX2_settle_88 : decode cX2_settle 88 = .ok (.if_icmp .ge 21, 3) := by decide +kernel
theorem dX2_settle_91 : decode cX2_settle 91 = .ok (.iload 4, 2) := by decide +kernel
theorem dX2_settle_93 : decode cX2_settle 93 = .ok (.ifCond .eq 16, 3) := by decide +kernel
theorem dX2_settle_96 : decode cX2_settle 96 = .ok (.aload_n 0, 1) := by decide +kernel
theorem dX2_settle_97 : decode cX2_settle 97 = .ok (.aload_n 1, 1) := by decide +kernel
theorem dX2_settle_98 : decode cX2_settle 98 = .ok (.invokevirtual 50, 3) := by decide +kernel
theorem dX2_settle_101 : decode cX2_settle 101 = .ok (.istore 4, 2) := by decide +kernel
theorem dX2_settle_103 : decode cX2_settle 103 = .ok (.iinc 5 1, 3) := by decide +kernel
theorem dX2_settle_106 : decode cX2_settle 106 = .ok (.goto (-24), 3) := by decide +kernel
theorem dX2_settle_109 : decode cX2_settle 109 = .ok (.return_, 1) := by decide +kernel
theorem dX2_mergeCongruent_0 : decode cX2_mergeCongruent 0 = .ok (.iconst 0, 1) := by decide +kernel
theorem dX2_mergeCongruent_1 : decode cX2_mergeCongruent 1 = .ok (.istore_n 2, 1) := by decide +kernel
theorem dX2_mergeCongruent_2 : decode cX2_mergeCongruent 2 = .ok (.iconst 0, 1) := by decide +kernel
theorem dX2_mergeCongruent_3 : decode cX2_mergeCongruent 3 = .ok (.istore_n 3, 1) := by decide +kernel
theorem dX2_mergeCongruent_4 : decode cX2_mergeCongruent 4 = .ok (.iload_n 3, 1) := by decide +kernel
theorem dX2_mergeCongruent_5 : decode cX2_mergeCongruent 5 = .ok (.aload_n 1, 1) := by decide +kernel
theorem dX2_mergeCongruent_6 : decode cX2_mergeCongruent 6 = .ok (.getfield 33, 3) := by decide +kernel
theorem dX2_mergeCongruent_9 : decode cX2_mergeCongruent 9 = .ok (.if_icmp .ge 58, 3) := by decide +kernel
theorem dX2_mergeCongruent_12 : decode cX2_mergeCongruent 12 = .ok (.iconst 0, 1) := by decide +kernel
theorem dX2_mergeCongruent_13 : decode cX2_mergeCongruent 13 = .ok (.istore 4, 2) := by decide +kernel
theorem dX2_mergeCongruent_15 : decode cX2_mergeCongruent 15 = .ok (.iload 4, 2) := by decide +kernel
theorem dX2_mergeCongruent_17 : decode cX2_mergeCongruent 17 = .ok (.iload_n 3, 1) := by decide +kernel
theorem dX2_mergeCongruent_18 : decode cX2_mergeCongruent 18 = .ok (.if_icmp .ge 43, 3) := by decide +kernel
theorem dX2_mergeCongruent_21 : decode cX2_mergeCongruent 21 = .ok (.aload_n 0, 1) := by decide +kernel
theorem dX2_mergeCongruent_22 : decode cX2_mergeCongruent 22 = .ok (.iload 4, 2) := by decide +kernel
theorem dX2_mergeCongruent_24 : decode cX2_mergeCongruent 24 = .ok (.iload_n 3, 1) := by decide +kernel
theorem dX2_mergeCongruent_25 : decode cX2_mergeCongruent 25 = .ok (.invokevirtual 30, 3) := by decide +kernel
theorem dX2_mergeCongruent_28 : decode cX2_mergeCongruent 28 = .ok (.ifCond .ne 27, 3) := by decide +kernel
theorem dX2_mergeCongruent_31 : decode cX2_mergeCongruent 31 = .ok (.aload_n 0, 1) := by decide +kernel
theorem dX2_mergeCongruent_32 : decode cX2_mergeCongruent 32 = .ok (.aload_n 1, 1) := by decide +kernel
theorem dX2_mergeCongruent_33 : decode cX2_mergeCongruent 33 = .ok (.iload 4, 2) := by decide +kernel
theorem dX2_mergeCongruent_35 : decode cX2_mergeCongruent 35 = .ok (.iload_n 3, 1) := by decide +kernel
theorem dX2_mergeCongruent_36 : decode cX2_mergeCongruent 36 = .ok (.invokevirtual 54, 3) := by decide +kernel
theorem dX2_mergeCongruent_39 : decode cX2_mergeCongruent 39 = .ok (.ifCond .eq 16, 3) := by decide +kernel
theorem dX2_mergeCongruent_42 : decode cX2_mergeCongruent 42 = .ok (.aload_n 0, 1) := by decide +kernel
theorem dX2_mergeCongruent_43 : decode cX2_mergeCongruent 43 = .ok (.iload 4, 2) := by decide +kernel
theorem dX2_mergeCongruent_45 : decode cX2_mergeCongruent 45 = .ok (.iload_n 3, 1) := by decide +kernel
theorem dX2_mergeCongruent_46 : decode cX2_mergeCongruent 46 = .ok (.aload_n 1, 1) := by decide +kernel
theorem dX2_mergeCongruent_47 : decode cX2_mergeCongruent 47 = .ok (.getfield 33, 3) := by decide +kernel
theorem dX2_mergeCongruent_50 : decode cX2_mergeCongruent 50 = .ok (.invokevirtual 46, 3) := by decide +kernel
theorem dX2_mergeCongruent_53 : decode cX2_mergeCongruent 53 = .ok (.iconst 1, 1) := by decide +kernel
theorem dX2_mergeCongruent_54 : decode cX2_mergeCongruent 54 = .ok (.istore_n 2, 1) := by decide +kernel
theorem dX2_mergeCongruent_55 : decode cX2_mergeCongruent 55 = .ok (.iinc 4 1, 3) := by decide +kernel
theorem dX2_mergeCongruent_58 : decode cX2_mergeCongruent 58 = .ok (.goto (-43), 3) := by decide +kernel
theorem dX2_mergeCongruent_61 : decode cX2_mergeCongruent 61 = .ok (.iinc 3 1, 3) := by decide +kernel
theorem dX2_mergeCongruent_64 : decode cX2_mergeCongruent 64 = .ok (.goto (-60), 3) := by decide +kernel
theorem dX2_mergeCongruent_67 : decode cX2_mergeCongruent 67 = .ok (.iload_n 2, 1) := by decide +kernel
theorem dX2_mergeCongruent_68 : decode cX2_mergeCongruent 68 = .ok (.ireturn, 1) := by decide +kernel
theorem dX2_congruent_0 : decode cX2_congruent 0 = .ok (.aload_n 0, 1) := by decide +kernel
theorem dX2_congruent_1 : decode cX2_congruent 1 = .ok (.aload_n 1, 1) := by decide +kernel
theorem dX2_congruent_2 : decode cX2_congruent 2 = .ok (.iload_n 2, 1) := by decide +kernel
theorem dX2_congruent_3 : decode cX2_congruent 3 = .ok (.aload_n 1, 1) := by decide +kernel
theorem dX2_congruent_4 : decode cX2_congruent 4 = .ok (.getfield 15, 3) := by decide +kernel
theorem dX2_congruent_7 : decode cX2_congruent 7 = .ok (.iload_n 3, 1) := by decide +kernel
theorem dX2_congruent_8 : decode cX2_congruent 8 = .ok (.iaload, 1) := by decide +kernel
theorem dX2_congruent_9 : decode cX2_congruent 9 = .ok (.aload_n 1, 1) := by decide +kernel
theorem dX2_congruent_10 : decode cX2_congruent 10 = .ok (.getfield 20, 3) := by decide +kernel
theorem dX2_congruent_13 : decode cX2_congruent 13 = .ok (.iload_n 3, 1) := by decide +kernel
theorem dX2_congruent_14 : decode cX2_congruent 14 = .ok (.iaload, 1) := by decide +kernel
theorem dX2_congruent_15 : decode cX2_congruent 15 = .ok (.aload_n 1, 1) := by decide +kernel
theorem dX2_congruent_16 : decode cX2_congruent 16 = .ok (.getfield 27, 3) := by decide +kernel
theorem dX2_congruent_19 : decode cX2_congruent 19 = .ok (.iload_n 3, 1) := by decide +kernel
theorem dX2_congruent_20 : decode cX2_congruent 20 = .ok (.iaload, 1) := by decide +kernel
theorem dX2_congruent_21 : decode cX2_congruent 21 = .ok (.invokevirtual 58, 3) := by decide +kernel
theorem dX2_congruent_24 : decode cX2_congruent 24 = .ok (.ireturn, 1) := by decide +kernel
theorem dX2_merge_0 : decode cX2_merge 0 = .ok (.aload_n 0, 1) := by decide +kernel
theorem dX2_merge_1 : decode cX2_merge 1 = .ok (.getfield 9, 3) := by decide +kernel
theorem dX2_merge_4 : decode cX2_merge 4 = .ok (.iload_n 1, 1) := by decide +kernel
theorem dX2_merge_5 : decode cX2_merge 5 = .ok (.iaload, 1) := by decide +kernel
theorem dX2_merge_6 : decode cX2_merge 6 = .ok (.aload_n 0, 1) := by decide +kernel
theorem dX2_merge_7 : decode cX2_merge 7 = .ok (.getfield 9, 3) := by decide +kernel
theorem dX2_merge_10 : decode cX2_merge 10 = .ok (.iload_n 2, 1) := by decide +kernel
theorem dX2_merge_11 : decode cX2_merge 11 = .ok (.iaload, 1) := by decide +kernel
theorem dX2_merge_12 : decode cX2_merge 12 = .ok (.invokestatic 62, 3) := by decide +kernel
theorem dX2_merge_15 : decode cX2_merge 15 = .ok (.istore 4, 2) := by decide +kernel
theorem dX2_merge_17 : decode cX2_merge 17 = .ok (.aload_n 0, 1) := by decide +kernel
theorem dX2_merge_18 : decode cX2_merge 18 = .ok (.getfield 9, 3) := by decide +kernel
theorem dX2_merge_21 : decode cX2_merge 21 = .ok (.iload_n 1, 1) := by decide +kernel
theorem dX2_merge_22 : decode cX2_merge 22 = .ok (.iaload, 1) := by decide +kernel
theorem dX2_merge_23 : decode cX2_merge 23 = .ok (.aload_n 0, 1) := by decide +kernel
theorem dX2_merge_24 : decode cX2_merge 24 = .ok (.getfield 9, 3) := by decide +kernel
theorem dX2_merge_27 : decode cX2_merge 27 = .ok (.iload_n 2, 1) := by decide +kernel
theorem dX2_merge_28 : decode cX2_merge 28 = .ok (.iaload, 1) := by decide +kernel
theorem dX2_merge_29 : decode cX2_merge 29 = .ok (.invokestatic 68, 3) := by decide +kernel
theorem dX2_merge_32 : decode cX2_merge 32 = .ok (.istore 5, 2) := by decide +kernel
theorem dX2_merge_34 : decode cX2_merge 34 = .ok (.iconst 0, 1) := by decide +kernel
theorem dX2_merge_35 : decode cX2_merge 35 = .ok (.istore 6, 2) := by decide +kernel
theorem dX2_merge_37 : decode cX2_merge 37 = .ok (.iload 6, 2) := by decide +kernel
theorem dX2_merge_39 : decode cX2_merge 39 = .ok (.iload_n 3, 1) := by decide +kernel
theorem dX2_merge_40 : decode cX2_merge 40 = .ok (.if_icmp .ge 30, 3) := by decide +kernel
theorem dX2_merge_43 : decode cX2_merge 43 = .ok (.aload_n 0, 1) := by decide +kernel
theorem dX2_merge_44 : decode cX2_merge 44 = .ok (.getfield 9, 3) := by decide +kernel
theorem dX2_merge_47 : decode cX2_merge 47 = .ok (.iload 6, 2) := by decide +kernel
theorem dX2_merge_49 : decode cX2_merge 49 = .ok (.iaload, 1) := by decide +kernel
theorem dX2_merge_50 : decode cX2_merge 50 = .ok (.iload 5, 2) := by decide +kernel
theorem dX2_merge_52 : decode cX2_merge 52 = .ok (.if_icmp .ne 12, 3) := by decide +kernel
theorem dX2_merge_55 : decode cX2_merge 55 = .ok (.aload_n 0, 1) := by decide +kernel
theorem dX2_merge_56 : decode cX2_merge 56 = .ok (.getfield 9, 3) := by decide +kernel
theorem dX2_merge_59 : decode cX2_merge 59 = .ok (.iload 6, 2) := by decide +kernel
theorem dX2_merge_61 : decode cX2_merge 61 = .ok (.iload 4, 2) := by decide +kernel
theorem dX2_merge_63 : decode cX2_merge 63 = .ok (.iastore, 1) := by decide +kernel
theorem dX2_merge_64 : decode cX2_merge 64 = .ok (.iinc 6 1, 3) := by decide +kernel
theorem dX2_merge_67 : decode cX2_merge 67 = .ok (.goto (-30), 3) := by decide +kernel
theorem dX2_merge_70 : decode cX2_merge 70 = .ok (.return_, 1) := by decide +kernel
