theorem dX4_init_0 : decode cX4_init 0 = .ok (.aload_n 0, 1) := by decide +kernel
theorem dX4_init_1 : decode cX4_init 1 = .ok (.invokespecial 3, 3) := by decide +kernel
theorem dX4_init_4 : decode cX4_init 4 = .ok (.aload_n 0, 1) := by decide +kernel
theorem dX4_init_5 : decode cX4_init 5 = .ok (.bipush 40, 2) := by decide +kernel
theorem dX4_init_7 : decode cX4_init 7 = .ok (.newarray .long, 2) := by decide +kernel
theorem dX4_init_9 : decode cX4_init 9 = .ok (.putfield 9, 3) := by decide +kernel
theorem dX4_init_12 : decode cX4_init 12 = .ok (.return_, 1) := by decide +kernel
theorem dX4_weigh_0 : decode cX4_weigh 0 = .ok (.aload_n 0, 1) := by decide +kernel
theorem dX4_weigh_1 : decode cX4_weigh 1 = .ok (.getfield 9, 3) := by decide +kernel
theorem dX4_weigh_4 : decode cX4_weigh 4 = .ok (.ldc2_w 15, 3) := by decide +kernel
theorem dX4_weigh_7 : decode cX4_weigh 7 = .ok (.invokestatic 17, 3) := by decide +kernel
theorem dX4_weigh_10 : decode cX4_weigh 10 = .ok (.iconst 1, 1) := by decide +kernel
theorem dX4_weigh_11 : decode cX4_weigh 11 = .ok (.istore_n 3, 1) := by decide +kernel
theorem dX4_weigh_12 : decode cX4_weigh 12 = .ok (.iconst 0, 1) := by decide +kernel
theorem dX4_weigh_13 : decode cX4_weigh 13 = .ok (.istore 4, 2) := by decide +kernel
theorem dX4_weigh_15 : decode cX4_weigh 15 = .ok (.iload 4, 2) := by decide +kernel
theorem dX4_weigh_17 : decode cX4_weigh 17 = .ok (.aload_n 1, 1) := by decide +kernel
theorem dX4_weigh_18 : decode cX4_weigh 18 = .ok (.getfield 23, 3) := by decide +kernel
theorem dX4_weigh_21 : decode cX4_weigh 21 = .ok (.if_icmp .ge 20, 3) := by decide +kernel
theorem dX4_weigh_24 : decode cX4_weigh 24 = .ok (.iload_n 3, 1) := by decide +kernel
theorem dX4_weigh_25 : decode cX4_weigh 25 = .ok (.ifCond .eq 16, 3) := by decide +kernel
theorem dX4_weigh_28 : decode cX4_weigh 28 = .ok (.aload_n 0, 1) := by decide +kernel
theorem dX4_weigh_29 : decode cX4_weigh 29 = .ok (.aload_n 1, 1) := by decide +kernel
theorem dX4_weigh_30 : decode cX4_weigh 30 = .ok (.aload_n 2, 1) := by decide +kernel
theorem dX4_weigh_31 : decode cX4_weigh 31 = .ok (.invokevirtual 29, 3) := by decide +kernel
theorem dX4_weigh_34 : decode cX4_weigh 34 = .ok (.istore_n 3, 1) := by decide +kernel
theorem dX4_weigh_35 : decode cX4_weigh 35 = .ok (.iinc 4 1, 3) := by decide +kernel
theorem dX4_weigh_38 : decode cX4_weigh 38 = .ok (.goto (-23), 3) := by decide +kernel
theorem dX4_weigh_41 : decode cX4_weigh 41 = .ok (.return_, 1) := by decide +kernel
theorem dX4_lower_0 : decode cX4_lower 0 = .ok (.iconst 0, 1) := by decide +kernel
theorem dX4_lower_1 : decode cX4_lower 1 = .ok (.istore_n 3, 1) := by decide +kernel
theorem dX4_lower_2 : decode cX4_lower 2 = .ok (.iconst 0, 1) := by decide +kernel
theorem dX4_lower_3 : decode cX4_lower 3 = .ok (.istore 4, 2) := by decide +kernel
theorem dX4_lower_5 : decode cX4_lower 5 = .ok (.iload 4, 2) := by decide +kernel
theorem dX4_lower_7 : decode cX4_lower 7 = .ok (.aload_n 1, 1) := by decide +kernel
theorem dX4_lower_8 : decode cX4_lower 8 = .ok (.getfield 23, 3) := by decide +kernel
theorem dX4_lower_11 : decode cX4_lower 11 = .ok (.if_icmp .ge 53, 3) := by decide +kernel
theorem dX4_lower_14 : decode cX4_lower 14 = .ok (.aload_n 0, 1) := by decide +kernel
theorem dX4_lower_15 : decode cX4_lower 15 = .ok (.aload_n 1, 1) := by decide +kernel
theorem dX4_lower_16 : decode cX4_lower 16 = .ok (.aload_n 2, 1) := by decide +kernel
theorem dX4_lower_17 : decode cX4_lower 17 = .ok (.iload 4, 2) := by decide +kernel
theorem dX4_lower_19 : decode cX4_lower 19 = .ok (.invokevirtual 33, 3) := by decide +kernel
theorem dX4_lower_22 : decode cX4_lower 22 = .ok (.lstore 5, 2) := by decide +kernel
theorem dX4_lower_24 : decode cX4_lower 24 = .ok (.lload 5, 2) := by decide +kernel
theorem dX4_lower_26 : decode cX4_lower 26 = .ok (.aload_n 0, 1) := by decide +kernel
theorem dX4_lower_27 : decode cX4_lower 27 = .ok (.getfield 9, 3) := by decide +kernel
theorem dX4_lower_30 : decode cX4_lower 30 = .ok (.aload_n 2, 1) := by decide +kernel
theorem dX4_lower_31 : decode cX4_lower 31 = .ok (.getfield 37, 3) := by decide +kernel
theorem dX4_lower_34 : decode cX4_lower 34 = .ok (.iload 4, 2) := by decide +kernel
theorem dX4_lower_36 : decode cX4_lower 36 = .ok (.iaload, 1) := by decide +kernel
theorem dX4_lower_37 : decode cX4_lower 37 = .ok (.laload, 1) := by decide +kernel
theorem dX4_lower_38 : decode cX4_lower 38 = .ok (.lcmp, 1) := by decide +kernel
theorem dX4_lower_39 : decode cX4_lower 39 = .ok (.ifCond .ge 19, 3) := by decide +kernel
theorem dX4_lower_42 : decode cX4_lower 42 = .ok (.aload_n 0, 1) := by decide +kernel
theorem dX4_lower_43 : decode cX4_lower 43 = .ok (.getfield 9, 3) := by decide +kernel
theorem dX4_lower_46 : decode cX4_lower 46 = .ok (.aload_n 2, 1) := by decide +kernel
theorem dX4_lower_47 : decode cX4_lower 47 = .ok (.getfield 37, 3) := by decide +kernel
theorem dX4_lower_50 : decode cX4_lower 50 = .ok (.iload 4, 2) := by decide +kernel
theorem dX4_lower_52 : decode cX4_lower 52 = .ok (.iaload, 1) := by decide +kernel
theorem dX4_lower_53 : decode cX4_lower 53 = .ok (.lload 5, 2) := by decide +kernel
theorem dX4_lower_55 : decode cX4_lower 55 = .ok (.lastore, 1) := by decide +kernel
theorem dX4_lower_56 : decode cX4_lower 56 = .ok (.iconst 1, 1) := by decide +kernel
theorem dX4_lower_57 : decode cX4_lower 57 = .ok (.istore_n 3, 1) := by decide +kernel
theorem dX4_lower_58 : decode cX4_lower 58 = .ok (.iinc 4 1, 3) := by decide +kernel
theorem dX4_lower_61 : decode cX4_lower 61 = .ok (.goto (-56), 3) := by decide +kernel
theorem dX4_lower_64 : decode cX4_lower 64 = .ok (.iload_n 3, 1) := by decide +kernel
theorem dX4_lower_65 : decode cX4_lower 65 = .ok (.ireturn, 1) := by decide +kernel
theorem dX4_costOf_0 : decode cX4_costOf 0 = .ok (.lconst 1, 1) := by decide +kernel
theorem dX4_costOf_1 : decode cX4_costOf 1 = .ok (.aload_n 0, 1) := by decide +kernel
theorem dX4_costOf_2 : decode cX4_costOf 2 = .ok (.aload_n 2, 1) := by decide +kernel
theorem dX4_costOf_3 : decode cX4_costOf 3 = .ok (.aload_n 1, 1) := by decide +kernel
theorem dX4_costOf_4 : decode cX4_costOf 4 = .ok (.getfield 43, 3) := by decide +kernel
theorem dX4_costOf_7 : decode cX4_costOf 7 = .ok (.iload_n 3, 1) := by decide +kernel
theorem dX4_costOf_8 : decode cX4_costOf 8 = .ok (.iaload, 1) := by decide +kernel
theorem dX4_costOf_9 : decode cX4_costOf 9 = .ok (.invokevirtual 46, 3) := by decide +kernel
theorem dX4_costOf_12 : decode cX4_costOf 12 = .ok (.ladd, 1) := by decide +kernel
theorem dX4_costOf_13 : decode cX4_costOf 13 = .ok (.aload_n 0, 1) := by decide +kernel
theorem dX4_costOf_14 : decode cX4_costOf 14 = .ok (.aload_n 2, 1) := by decide +kernel
theorem dX4_costOf_15 : decode cX4_costOf 15 = .ok (.aload_n 1, 1) := by decide +kernel
theorem dX4_costOf_16 : decode cX4_costOf 16 = .ok (.getfield 50, 3) := by decide +kernel
theorem dX4_costOf_19 : decode cX4_costOf 19 = .ok (.iload_n 3, 1) := by decide +kernel
theorem dX4_costOf_20 : decode cX4_costOf 20 = .ok (.iaload, 1) := by decide +kernel
theorem dX4_costOf_21 : decode cX4_costOf 21 = .ok (.invokevirtual 46, 3) := by decide +kernel
theorem dX4_costOf_24 : decode cX4_costOf 24 = .ok (.ladd, 1) := by decide +kernel
theorem dX4_costOf_25 : decode cX4_costOf 25 = .ok (.lreturn, 1) := by decide +kernel
theorem dX4_ofArgument_0 : decode cX4_ofArgument 0 = .ok (.iload_n 2, 1) := by decide +kernel
theorem dX4_ofArgument_1 : decode cX4_ofArgument 1 = .ok (.iconst (-1), 1) := by decide +kernel
theorem dX4_ofArgument_2 : decode cX4_ofArgument 2 = .ok (.if_icmp .ne 7, 3) := by decide +kernel
theorem dX4_ofArgument_5 : decode cX4_ofArgument 5 = .ok (.lconst 0, 1) := by decide +kernel
theorem dX4_ofArgument_6 : decode cX4_ofArgument 6 = .ok (.goto 9, 3) := by decide +kernel
theorem dX4_ofArgument_9 : decode cX4_ofArgument 9 = .ok (.aload_n 0, 1) := by decide +kernel
theorem dX4_ofArgument_10 : decode cX4_ofArgument 10 = .ok (.aload_n 1, 1) := by decide +kernel
theorem dX4_ofArgument_11 : decode cX4_ofArgument 11 = .ok (.iload_n 2, 1) := by decide +kernel
theorem dX4_ofArgument_12 : decode cX4_ofArgument 12 = .ok (.invokevirtual 53, 3) := by decide +kernel
theorem dX4_ofArgument_15 : decode cX4_ofArgument 15 = .ok (.lreturn, 1) := by decide +kernel
theorem dX4_ofTerm_0 : decode cX4_ofTerm 0 = .ok (.aload_n 0, 1) := by decide +kernel
theorem dX4_ofTerm_1 : decode cX4_ofTerm 1 = .ok (.getfield 9, 3) := by decide +kernel
theorem dX4_ofTerm_4 : decode cX4_ofTerm 4 = .ok (.aload_n 1, 1) := by decide +kernel
theorem dX4_ofTerm_5 : decode cX4_ofTerm 5 = .ok (.getfield 37, 3) := by decide +kernel
theorem dX4_ofTerm_8 : decode cX4_ofTerm 8 = .ok (.iload_n 2, 1) := by decide +kernel
theorem dX4_ofTerm_9 : decode cX4_ofTerm 9 = .ok (.iaload, 1) := by decide +kernel
theorem dX4_ofTerm_10 : decode cX4_ofTerm 10 = .ok (.laload, 1) := by decide +kernel
theorem dX4_ofTerm_11 : decode cX4_ofTerm 11 = .ok (.lreturn, 1) := by decide +kernel
theorem dX4_lightest_0 : decode cX4_lightest 0 = .ok (.iconst 0, 1) := by decide +kernel
theorem dX4_lightest_1 : decode cX4_lightest 1 = .ok (.istore 4, 2) := by decide +kernel
theorem dX4_lightest_3 : decode cX4_lightest 3 = .ok (.iload 4, 2) := by decide +kernel
theorem dX4_lightest_5 : decode cX4_lightest 5 = .ok (.aload_n 1, 1) := by decide +kernel
theorem dX4_lightest_6 : decode cX4_lightest 6 = .ok (.getfield 23, 3) := by decide +kernel
theorem dX4_lightest_9 : decode cX4_lightest 9 = .ok (.if_icmp .ge 40, 3) := by decide +kernel
theorem dX4_lightest_12 : decode cX4_lightest 12 = .ok (.aload_n 2, 1) := by decide +kernel
theorem dX4_lightest_13 : decode cX4_lightest 13 = .ok (.iload 4, 2) := by decide +kernel
theorem dX4_lightest_15 : decode cX4_lightest 15 = .ok (.iload_n 3, 1) := by decide +kernel
theorem dX4_lightest_16 : decode cX4_lightest 16 = .ok (.invokevirtual 56, 3) := by decide +kernel
theorem dX4_lightest_19 : decode cX4_lightest 19 = .ok (.ifCond .eq 24, 3) := by decide +kernel
theorem dX4_lightest_22 : decode cX4_lightest 22 = .ok (.aload_n 0, 1) := by decide +kernel
theorem dX4_lightest_23 : decode cX4_lightest 23 = .ok (.aload_n 1, 1) := by decide +kernel
theorem dX4_lightest_24 : decode cX4_lightest 24 = .ok (.aload_n 2, 1) := by decide +kernel
theorem dX4_lightest_25 : decode cX4_lightest 25 = .ok (.iload 4, 2) := by decide +kernel
theorem dX4_lightest_27 : decode cX4_lightest 27 = .ok (.invokevirtual 33, 3) := by decide +kernel
theorem dX4_lightest_30 : decode cX4_lightest 30 = .ok (.aload_n 0, 1) := by decide +kernel
theorem dX4_lightest_31 : decode cX4_lightest 31 = .ok (.aload_n 2, 1) := by decide +kernel
theorem dX4_lightest_32 : decode cX4_lightest 32 = .ok (.iload_n 3, 1) := by decide +kernel
theorem dX4_lightest_33 : decode cX4_lightest 33 = .ok (.invokevirtual 53, 3) := by decide +kernel
theorem dX4_lightest_36 : decode cX4_lightest 36 = .ok (.lcmp, 1) := by decide +kernel
theorem dX4_lightest_37 : decode cX4_lightest 37 = .ok (.ifCond .ne 6, 3) := by decide +kernel
theorem dX4_lightest_40 : decode cX4_lightest 40 = .ok (.iload 4, 2) := by decide +kernel
theorem dX4_lightest_42 : decode cX4_lightest 42 = .ok (.ireturn, 1) := by decide +kernel
theorem dX4_lightest_43 : decode cX4_lightest 43 = .ok (.iinc 4 1, 3) := by decide +kernel
theorem dX4_lightest_46 : decode cX4_lightest 46 = .ok (.goto (-43), 3) := by decide +kernel
theorem dX4_lightest_49 : decode cX4_lightest 49 = .ok (.iload_n 3, 1) := by decide +kernel
theorem dX4_lightest_50 : decode cX4_lightest 50 = .ok (.ireturn, 1) := by decide +kernel
theorem dX4_symbolAt_0 : decode cX4_symbolAt 0 = .ok (.aload_n 0, 1) := by decide +kernel
theorem dX4_symbolAt_1 : decode cX4_symbolAt 1 = .ok (.aload_n 1, 1) := by decide +kernel
theorem dX4_symbolAt_2 : decode cX4_symbolAt 2 = .ok (.aload_n 2, 1) := by decide +kernel
theorem dX4_symbolAt_3 : decode cX4_symbolAt 3 = .ok (.iload_n 3, 1) := by decide +kernel
theorem dX4_symbolAt_4 : decode cX4_symbolAt 4 = .ok (.invokevirtual 60, 3) := by decide +kernel
theorem dX4_symbolAt_7 : decode cX4_symbolAt 7 = .ok (.istore 5, 2) := by decide +kernel
theorem dX4_symbolAt_9 : decode cX4_symbolAt 9 = .ok (.iload 4, 2) := by decide +kernel
theorem dX4_symbolAt_11 : decode cX4_symbolAt 11 = .ok (.i2l, 1) := by decide +kernel
theorem dX4_symbolAt_12 : decode cX4_symbolAt 12 = .ok (.lstore 6, 2) := by decide +kernel
theorem dX4_symbolAt_14 : decode cX4_symbolAt 14 = .ok (.iconst 0, 1) := by decide +kernel
theorem dX4_symbolAt_15 : decode cX4_symbolAt 15 = .ok (.istore 8, 2) := by decide +kernel
theorem dX4_symbolAt_17 : decode cX4_symbolAt 17 = .ok (.iload 8, 2) := by decide +kernel
theorem dX4_symbolAt_19 : decode cX4_symbolAt 19 = .ok (.bipush 40, 2) := by decide +kernel
theorem dX4_symbolAt_21 : decode cX4_symbolAt 21 = .ok (.if_icmp .ge 82, 3) := by decide +kernel
theorem dX4_symbolAt_24 : decode cX4_symbolAt 24 = .ok (.lload 6, 2) := by decide +kernel
theorem dX4_symbolAt_26 : decode cX4_symbolAt 26 = .ok (.lconst 0, 1) := by decide +kernel
theorem dX4_symbolAt_27 : decode cX4_symbolAt 27 = .ok (.lcmp, 1) := by decide +kernel
theorem dX4_symbolAt_28 : decode cX4_symbolAt 28 = .ok (.ifCond .le 75, 3) := by decide +kernel
theorem dX4_symbolAt_31 : decode cX4_symbolAt 31 = .ok (.lload 6, 2) := by decide +kernel
theorem dX4_symbolAt_33 : decode cX4_symbolAt 33 = .ok (.lconst 1, 1) := by decide +kernel
theorem dX4_symbolAt_34 : decode cX4_symbolAt 34 = .ok (.lsub, 1) := by decide +kernel
theorem dX4_symbolAt_35 : decode cX4_symbolAt 35 = .ok (.lstore 6, 2) := by decide +kernel
theorem dX4_symbolAt_37 : decode cX4_symbolAt 37 = .ok (.aload_n 1, 1) := by decide +kernel
theorem dX4_symbolAt_38 : decode cX4_symbolAt 38 = .ok (.getfield 43, 3) := by decide +kernel
theorem dX4_symbolAt_41 : decode cX4_symbolAt 41 = .ok (.iload 5, 2) := by decide +kernel
theorem dX4_symbolAt_43 : decode cX4_symbolAt 43 = .ok (.iaload, 1) := by decide +kernel
theorem dX4_symbolAt_44 : decode cX4_symbolAt 44 = .ok (.istore 9, 2) := by decide +kernel
theorem dX4_symbolAt_46 : decode cX4_symbolAt 46 = .ok (.aload_n 0, 1) := by decide +kernel
theorem dX4_symbolAt_47 : decode cX4_symbolAt 47 = .ok (.aload_n 2, 1) := by decide +kernel
theorem dX4_symbolAt_48 : decode cX4_symbolAt 48 = .ok (.iload 9, 2) := by decide +kernel
theorem dX4_symbolAt_50 : decode cX4_symbolAt 50 = .ok (.invokevirtual 46, 3) := by decide +kernel
theorem dX4_symbolAt_53 : decode cX4_symbolAt 53 = .ok (.lstore 10, 2) := by decide +kernel
theorem dX4_symbolAt_55 : decode cX4_symbolAt 55 = .ok (.lload 6, 2) := by decide +kernel
theorem dX4_symbolAt_57 : decode cX4_symbolAt 57 = .ok (.lload 10, 2) := by decide +kernel
theorem dX4_symbolAt_59 : decode cX4_symbolAt 59 = .ok (.lcmp, 1) := by decide +kernel
theorem dX4_symbolAt_60 : decode cX4_symbolAt 60 = .ok (.ifCond .lt 19, 3) := by decide +kernel
theorem dX4_symbolAt_63 : decode cX4_symbolAt 63 = .ok (.lload 6, 2) := by decide +kernel
theorem dX4_symbolAt_65 : decode cX4_symbolAt 65 = .ok (.lload 10, 2) := by decide +kernel
theorem dX4_symbolAt_67 : decode cX4_symbolAt 67 = .ok (.lsub, 1) := by decide +kernel
theorem dX4_symbolAt_68 : decode cX4_symbolAt 68 = .ok (.lstore 6, 2) := by decide +kernel
theorem dX4_symbolAt_70 : decode cX4_symbolAt 70 = .ok (.aload_n 1, 1) := by decide +kernel
theorem dX4_symbolAt_71 : decode cX4_symbolAt 71 = .ok (.getfield 50, 3) := by decide +kernel
theorem dX4_symbolAt_74 : decode cX4_symbolAt 74 = .ok (.iload 5, 2) := by decide +kernel
theorem dX4_symbolAt_76 : decode cX4_symbolAt 76 = .ok (.iaload, 1) := by decide +kernel
theorem dX4_symbolAt_77 : decode cX4_symbolAt 77 = .ok (.istore 9, 2) := by decide +kernel
theorem dX4_symbolAt_79 : decode cX4_symbolAt 79 = .ok (.iload 9, 2) := by decide +kernel
theorem dX4_symbolAt_81 : decode cX4_symbolAt 81 = .ok (.iconst (-1), 1) := by decide +kernel
theorem dX4_symbolAt_82 : decode cX4_symbolAt 82 = .ok (.if_icmp .ne 5, 3) := by decide +kernel
theorem dX4_symbolAt_85 : decode cX4_symbolAt 85 = .ok (.iconst (-1), 1) := by decide +kernel
theorem dX4_symbolAt_86 : decode cX4_symbolAt 86 = .ok (.ireturn, 1) := by decide +kernel
theorem dX4_symbolAt_87 : decode cX4_symbolAt 87 = .ok (.aload_n 0, 1) := by decide +kernel
theorem dX4_symbolAt_88 : decode cX4_symbolAt 88 = .ok (.aload_n 1, 1) := by decide +kernel
theorem dX4_symbolAt_89 : decode cX4_symbolAt 89 = .ok (.aload_n 2, 1) := by decide +kernel
theorem dX4_symbolAt_90 : decode cX4_symbolAt 90 = .ok (.iload 9, 2) := by decide +kernel
theorem dX4_symbolAt_92 : decode cX4_symbolAt 92 = .ok (.invokevirtual 60, 3) := by decide +kernel
theorem dX4_symbolAt_95 : decode cX4_symbolAt 95 = .ok (.istore 5, 2) := by decide +kernel
theorem dX4_symbolAt_97 : decode cX4_symbolAt 97 = .ok (.iinc 8 1, 3) := by decide +kernel
theorem dX4_symbolAt_100 : decode cX4_symbolAt 100 = .ok (.goto (-83), 3) := by decide +kernel
theorem dX4_symbolAt_103 : decode cX4_symbolAt 103 = .ok (.aload_n 1, 1) := by decide +kernel
theorem dX4_symbolAt_104 : decode cX4_symbolAt 104 = .ok (.getfield 64, 3) := by decide +kernel
theorem dX4_symbolAt_107 : decode cX4_symbolAt 107 = .ok (.iload 5, 2) := by decide +kernel
theorem dX4_symbolAt_109 : decode cX4_symbolAt 109 = .ok (.iaload, 1) := by decide +kernel
theorem dX4_symbolAt_110 : decode cX4_symbolAt 110 = .ok (.ireturn, 1) := by decide +kernel
