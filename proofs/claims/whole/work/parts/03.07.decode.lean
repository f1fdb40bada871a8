theorem dX6_init_0 : decode cX6_init 0 = .ok (.aload_n 0, 1) := by decide +kernel
theorem dX6_init_1 : decode cX6_init 1 = .ok (.invokespecial 1, 3) := by decide +kernel
theorem dX6_init_4 : decode cX6_init 4 = .ok (.aload_n 0, 1) := by decide +kernel
theorem dX6_init_5 : decode cX6_init 5 = .ok (.bipush 40, 2) := by decide +kernel
theorem dX6_init_7 : decode cX6_init 7 = .ok (.newarray .int, 2) := by decide +kernel
theorem dX6_init_9 : decode cX6_init 9 = .ok (.putfield 7, 3) := by decide +kernel
theorem dX6_init_12 : decode cX6_init 12 = .ok (.aload_n 0, 1) := by decide +kernel
theorem dX6_init_13 : decode cX6_init 13 = .ok (.bipush 40, 2) := by decide +kernel
theorem dX6_init_15 : decode cX6_init 15 = .ok (.newarray .int, 2) := by decide +kernel
theorem dX6_init_17 : decode cX6_init 17 = .ok (.putfield 13, 3) := by decide +kernel
theorem dX6_init_20 : decode cX6_init 20 = .ok (.aload_n 0, 1) := by decide +kernel
theorem dX6_init_21 : decode cX6_init 21 = .ok (.bipush 40, 2) := by decide +kernel
theorem dX6_init_23 : decode cX6_init 23 = .ok (.newarray .int, 2) := by decide +kernel
theorem dX6_init_25 : decode cX6_init 25 = .ok (.putfield 16, 3) := by decide +kernel
theorem dX6_init_28 : decode cX6_init 28 = .ok (.aload_n 0, 1) := by decide +kernel
theorem dX6_init_29 : decode cX6_init 29 = .ok (.bipush 24, 2) := by decide +kernel
theorem dX6_init_31 : decode cX6_init 31 = .ok (.newarray .int, 2) := by decide +kernel
theorem dX6_init_33 : decode cX6_init 33 = .ok (.putfield 19, 3) := by decide +kernel
theorem dX6_init_36 : decode cX6_init 36 = .ok (.aload_n 0, 1) := by decide +kernel
theorem dX6_init_37 : decode cX6_init 37 = .ok (.bipush 24, 2) := by decide +kernel
theorem dX6_init_39 : decode cX6_init 39 = .ok (.newarray .int, 2) := by decide +kernel
theorem dX6_init_41 : decode cX6_init 41 = .ok (.putfield 22, 3) := by decide +kernel
theorem dX6_init_44 : decode cX6_init 44 = .ok (.aload_n 0, 1) := by decide +kernel
theorem dX6_init_45 : decode cX6_init 45 = .ok (.bipush 16, 2) := by decide +kernel
theorem dX6_init_47 : decode cX6_init 47 = .ok (.newarray .int, 2) := by decide +kernel
theorem dX6_init_49 : decode cX6_init 49 = .ok (.putfield 25, 3) := by decide +kernel
theorem dX6_init_52 : decode cX6_init 52 = .ok (.aload_n 0, 1) := by decide +kernel
theorem dX6_init_53 : decode cX6_init 53 = .ok (.bipush 16, 2) := by decide +kernel
theorem dX6_init_55 : decode cX6_init 55 = .ok (.newarray .int, 2) := by decide +kernel
theorem dX6_init_57 : decode cX6_init 57 = .ok (.putfield 28, 3) := by decide +kernel
theorem dX6_init_60 : decode cX6_init 60 = .ok (.aload_n 0, 1) := by decide +kernel
theorem dX6_init_61 : decode cX6_init 61 = .ok (.bipush 6, 2) := by decide +kernel
theorem dX6_init_63 : decode cX6_init 63 = .ok (.newarray .int, 2) := by decide +kernel
theorem dX6_init_65 : decode cX6_init 65 = .ok (.putfield 31, 3) := by decide +kernel
theorem dX6_init_68 : decode cX6_init 68 = .ok (.aload_n 0, 1) := by decide +kernel
theorem dX6_init_69 : decode cX6_init 69 = .ok (.bipush 6, 2) := by decide +kernel
theorem dX6_init_71 : decode cX6_init 71 = .ok (.newarray .int, 2) := by decide +kernel
theorem dX6_init_73 : decode cX6_init 73 = .ok (.putfield 34, 3) := by decide +kernel
theorem dX6_init_76 : decode cX6_init 76 = .ok (.aload_n 0, 1) := by decide +kernel
theorem dX6_init_77 : decode cX6_init 77 = .ok (.bipush 6, 2) := by decide +kernel
theorem dX6_init_79 : decode cX6_init 79 = .ok (.newarray .int, 2) := by decide +kernel
theorem dX6_init_81 : decode cX6_init 81 = .ok (.putfield 37, 3) := by decide +kernel
theorem dX6_init_84 : decode cX6_init 84 = .ok (.aload_n 0, 1) := by decide +kernel
theorem dX6_init_85 : decode cX6_init 85 = .ok (.bipush 40, 2) := by decide +kernel
theorem dX6_init_87 : decode cX6_init 87 = .ok (.newarray .int, 2) := by decide +kernel
theorem dX6_init_89 : decode cX6_init 89 = .ok (.putfield 40, 3) := by decide +kernel
theorem dX6_init_92 : decode cX6_init 92 = .ok (.aload_n 0, 1) := by decide +kernel
theorem dX6_init_93 : decode cX6_init 93 = .ok (.bipush 40, 2) := by decide +kernel
theorem dX6_init_95 : decode cX6_init 95 = .ok (.newarray .long, 2) := by decide +kernel
theorem dX6_init_97 : decode cX6_init 97 = .ok (.putfield 43, 3) := by decide +kernel
theorem dX6_init_100 : decode cX6_init 100 = .ok (.return_, 1) := by decide +kernel
theorem dX6_isTerm_0 : decode cX6_isTerm 0 = .ok (.iload_n 1, 1) := by decide +kernel
theorem dX6_isTerm_1 : decode cX6_isTerm 1 = .ok (.ifCond .lt 15, 3) := by decide +kernel
theorem dX6_isTerm_4 : decode cX6_isTerm 4 = .ok (.iload_n 1, 1) := by decide +kernel
theorem dX6_isTerm_5 : decode cX6_isTerm 5 = .ok (.aload_n 0, 1) := by decide +kernel
theorem dX6_isTerm_6 : decode cX6_isTerm 6 = .ok (.getfield 47, 3) := by decide +kernel
theorem dX6_isTerm_9 : decode cX6_isTerm 9 = .ok (.if_icmp .ge 7, 3) := by decide +kernel
theorem dX6_isTerm_12 : decode cX6_isTerm 12 = .ok (.iconst 1, 1) := by decide +kernel
theorem dX6_isTerm_13 : decode cX6_isTerm 13 = .ok (.goto 4, 3) := by decide +kernel
theorem dX6_isTerm_16 : decode cX6_isTerm 16 = .ok (.iconst 0, 1) := by decide +kernel
theorem dX6_isTerm_17 : decode cX6_isTerm 17 = .ok (.ireturn, 1) := by decide +kernel
theorem dX6_alone_0 : decode cX6_alone 0 = .ok (.iconst 0, 1) := by decide +kernel
theorem dX6_alone_1 : decode cX6_alone 1 = .ok (.istore_n 1, 1) := by decide +kernel
theorem dX6_alone_2 : decode cX6_alone 2 = .ok (.iload_n 1, 1) := by decide +kernel
theorem dX6_alone_3 : decode cX6_alone 3 = .ok (.aload_n 0, 1) := by decide +kernel
theorem dX6_alone_4 : decode cX6_alone 4 = .ok (.getfield 47, 3) := by decide +kernel
theorem dX6_alone_7 : decode cX6_alone 7 = .ok (.if_icmp .ge 16, 3) := by decide +kernel
theorem dX6_alone_10 : decode cX6_alone 10 = .ok (.aload_n 0, 1) := by decide +kernel
theorem dX6_alone_11 : decode cX6_alone 11 = .ok (.getfield 40, 3) := by decide +kernel
theorem dX6_alone_14 : decode cX6_alone 14 = .ok (.iload_n 1, 1) := by decide +kernel
theorem dX6_alone_15 : decode cX6_alone 15 = .ok (.iload_n 1, 1) := by decide +kernel
theorem dX6_alone_16 : decode cX6_alone 16 = .ok (.iastore, 1) := by decide +kernel
theorem dX6_alone_17 : decode cX6_alone 17 = .ok (.iinc 1 1, 3) := by decide +kernel
theorem dX6_alone_20 : decode cX6_alone 20 = .ok (.goto (-18), 3) := by decide +kernel
theorem dX6_alone_23 : decode cX6_alone 23 = .ok (.return_, 1) := by decide +kernel
theorem dX6_join_0 : decode cX6_join 0 = .ok (.aload_n 0, 1) := by decide +kernel
theorem dX6_join_1 : decode cX6_join 1 = .ok (.getfield 40, 3) := by decide +kernel
theorem dX6_join_4 : decode cX6_join 4 = .ok (.iload_n 1, 1) := by decide +kernel
theorem dX6_join_5 : decode cX6_join 5 = .ok (.iaload, 1) := by decide +kernel
theorem dX6_join_6 : decode cX6_join 6 = .ok (.aload_n 0, 1) := by decide +kernel
theorem dX6_join_7 : decode cX6_join 7 = .ok (.getfield 40, 3) := by decide +kernel
theorem dX6_join_10 : decode cX6_join 10 = .ok (.iload_n 2, 1) := by decide +kernel
theorem dX6_join_11 : decode cX6_join 11 = .ok (.iaload, 1) := by decide +kernel
theorem dX6_join_12 : decode cX6_join 12 = .ok (.if_icmp .ge 12, 3) := by decide +kernel
theorem dX6_join_15 : decode cX6_join 15 = .ok (.aload_n 0, 1) := by decide +kernel
theorem dX6_join_16 : decode cX6_join 16 = .ok (.getfield 40, 3) := by decide +kernel
theorem dX6_join_19 : decode cX6_join 19 = .ok (.iload_n 1, 1) := by decide +kernel
theorem dX6_join_20 : decode cX6_join 20 = .ok (.iaload, 1) := by decide +kernel
theorem dX6_join_21 : decode cX6_join 21 = .ok (.goto 9, 3) := by decide +kernel
theorem dX6_join_24 : decode cX6_join 24 = .ok (.aload_n 0, 1) := by decide +kernel
theorem dX6_join_25 : decode cX6_join 25 = .ok (.getfield 40, 3) := by decide +kernel
theorem dX6_join_28 : decode cX6_join 28 = .ok (.iload_n 2, 1) := by decide +kernel
theorem dX6_join_29 : decode cX6_join 29 = .ok (.iaload, 1) := by decide +kernel
theorem dX6_join_30 : decode cX6_join 30 = .ok (.istore_n 3, 1) := by decide +kernel
theorem dX6_join_31 : decode cX6_join 31 = .ok (.aload_n 0, 1) := by decide +kernel
theorem dX6_join_32 : decode cX6_join 32 = .ok (.getfield 40, 3) := by decide +kernel
theorem dX6_join_35 : decode cX6_join 35 = .ok (.iload_n 1, 1) := by decide +kernel
theorem dX6_join_36 : decode cX6_join 36 = .ok (.iaload, 1) := by decide +kernel
theorem dX6_join_37 : decode cX6_join 37 = .ok (.aload_n 0, 1) := by decide +kernel
theorem dX6_join_38 : decode cX6_join 38 = .ok (.getfield 40, 3) := by decide +kernel
theorem dX6_join_41 : decode cX6_join 41 = .ok (.iload_n 2, 1) := by decide +kernel
theorem dX6_join_42 : decode cX6_join 42 = .ok (.iaload, 1) := by decide +kernel
theorem dX6_join_43 : decode cX6_join 43 = .ok (.if_icmp .ge 12, 3) := by decide +kernel
theorem dX6_join_46 : decode cX6_join 46 = .ok (.aload_n 0, 1) := by decide +kernel
theorem dX6_join_47 : decode cX6_join 47 = .ok (.getfield 40, 3) := by decide +kernel
theorem dX6_join_50 : decode cX6_join 50 = .ok (.iload_n 2, 1) := by decide +kernel
theorem dX6_join_51 : decode cX6_join 51 = .ok (.iaload, 1) := by decide +kernel
theorem dX6_join_52 : decode cX6_join 52 = .ok (.goto 9, 3) := by decide +kernel
theorem dX6_join_55 : decode cX6_join 55 = .ok (.aload_n 0, 1) := by decide +kernel
theorem dX6_join_56 : decode cX6_join 56 = .ok (.getfield 40, 3) := by decide +kernel
theorem dX6_join_59 : decode cX6_join 59 = .ok (.iload_n 1, 1) := by decide +kernel
theorem dX6_join_60 : decode cX6_join 60 = .ok (.iaload, 1) := by decide +kernel
theorem dX6_join_61 : decode cX6_join 61 = .ok (.istore 4, 2) := by decide +kernel
theorem dX6_join_63 : decode cX6_join 63 = .ok (.iconst 0, 1) := by decide +kernel
theorem dX6_join_64 : decode cX6_join 64 = .ok (.istore 5, 2) := by decide +kernel
theorem dX6_join_66 : decode cX6_join 66 = .ok (.iload 5, 2) := by decide +kernel
theorem dX6_join_68 : decode cX6_join 68 = .ok (.aload_n 0, 1) := by decide +kernel
theorem dX6_join_69 : decode cX6_join 69 = .ok (.getfield 47, 3) := by decide +kernel
theorem dX6_join_72 : decode cX6_join 72 = .ok (.if_icmp .ge 39, 3) := by decide +kernel
theorem dX6_join_75 : decode cX6_join 75 = .ok (.aload_n 0, 1) := by decide +kernel
theorem dX6_join_76 : decode cX6_join 76 = .ok (.getfield 40, 3) := by decide +kernel
theorem dX6_join_79 : decode cX6_join 79 = .ok (.iload 5, 2) := by decide +kernel
theorem dX6_join_81 : decode cX6_join 81 = .ok (.aload_n 0, 1) := by decide +kernel
theorem dX6_join_82 : decode cX6_join 82 = .ok (.getfield 40, 3) := by decide +kernel
theorem dX6_join_85 : decode cX6_join 85 = .ok (.iload 5, 2) := by decide +kernel
theorem dX6_join_87 : decode cX6_join 87 = .ok (.iaload, 1) := by decide +kernel
theorem dX6_join_88 : decode cX6_join 88 = .ok (.iload 4, 2) := by decide +kernel
theorem dX6_join_90 : decode cX6_join 90 = .ok (.if_icmp .ne 7, 3) := by decide +kernel
theorem dX6_join_93 : decode cX6_join 93 = .ok (.iload_n 3, 1) := by decide +kernel
theorem dX6_join_94 : decode cX6_join 94 = .ok (.goto 10, 3) := by decide +kernel
theorem dX6_join_97 : decode cX6_join 97 = .ok (.aload_n 0, 1) := by decide +kernel
theorem dX6_join_98 : decode cX6_join 98 = .ok (.getfield 40, 3) := by decide +kernel
theorem dX6_join_101 : decode cX6_join 101 = .ok (.iload 5, 2) := by decide +kernel
theorem dX6_join_103 : decode cX6_join 103 = .ok (.iaload, 1) := by decide +kernel
theorem dX6_join_104 : decode cX6_join 104 = .ok (.iastore, 1) := by decide +kernel
theorem dX6_join_105 : decode cX6_join 105 = .ok (.iinc 5 1, 3) := by decide +kernel
theorem dX6_join_108 : decode cX6_join 108 = .ok (.goto (-42), 3) := by decide +kernel
theorem dX6_join_111 : decode cX6_join 111 = .ok (.return_, 1) := by decide +kernel
theorem dX6_sameArgument_0 : decode cX6_sameArgument 0 = .ok (.iload_n 1, 1) := by decide +kernel
theorem dX6_sameArgument_1 : decode cX6_sameArgument 1 = .ok (.ifCond .lt 7, 3) := by decide +kernel
theorem dX6_sameArgument_4 : decode cX6_sameArgument 4 = .ok (.iload_n 2, 1) := by decide +kernel
theorem dX6_sameArgument_5 : decode cX6_sameArgument 5 = .ok (.ifCond .ge 16, 3) := by decide +kernel
theorem dX6_sameArgument_8 : decode cX6_sameArgument 8 = .ok (.iload_n 1, 1) := by decide +kernel
theorem dX6_sameArgument_9 : decode cX6_sameArgument 9 = .ok (.iload_n 2, 1) := by decide +kernel
theorem dX6_sameArgument_10 : decode cX6_sameArgument 10 = .ok (.if_icmp .ne 7, 3) := by decide +kernel
theorem dX6_sameArgument_13 : decode cX6_sameArgument 13 = .ok (.iconst 1, 1) := by decide +kernel
theorem dX6_sameArgument_14 : decode cX6_sameArgument 14 = .ok (.goto 27, 3) := by decide +kernel
theorem dX6_sameArgument_17 : decode cX6_sameArgument 17 = .ok (.iconst 0, 1) := by decide +kernel
theorem dX6_sameArgument_18 : decode cX6_sameArgument 18 = .ok (.goto 23, 3) := by decide +kernel
theorem dX6_sameArgument_21 : decode cX6_sameArgument 21 = .ok (.aload_n 0, 1) := by decide +kernel
theorem dX6_sameArgument_22 : decode cX6_sameArgument 22 = .ok (.getfield 40, 3) := by decide +kernel
theorem dX6_sameArgument_25 : decode cX6_sameArgument 25 = .ok (.iload_n 1, 1) := by decide +kernel
theorem dX6_sameArgument_26 : decode cX6_sameArgument 26 = .ok (.iaload, 1) := by decide +kernel
theorem dX6_sameArgument_27 : decode cX6_sameArgument 27 = .ok (.aload_n 0, 1) := by decide +kernel
theorem dX6_sameArgument_28 : decode cX6_sameArgument 28 = .ok (.getfield 40, 3) := by decide +kernel
theorem dX6_sameArgument_31 : decode cX6_sameArgument 31 = .ok (.iload_n 2, 1) := by decide +kernel
theorem dX6_sameArgument_32 : decode cX6_sameArgument 32 = .ok (.iaload, 1) := by decide +kernel
theorem dX6_sameArgument_33 : decode cX6_sameArgument 33 = .ok (.if_icmp .ne 7, 3) := by decide +kernel
theorem dX6_sameArgument_36 : decode cX6_sameArgument 36 = .ok (.iconst 1, 1) := by decide +kernel
theorem dX6_sameArgument_37 : decode cX6_sameArgument 37 = .ok (.goto 4, 3) := by decide +kernel
theorem dX6_sameArgument_40 : decode cX6_sameArgument 40 = .ok (.iconst 0, 1) := by decide +kernel
theorem dX6_sameArgument_41 : decode cX6_sameArgument 41 = .ok (.ireturn, 1) := by decide +kernel
theorem dX6_alike_0 : decode cX6_alike 0 = .ok (.aload_n 0, 1) := by decide +kernel
theorem dX6_alike_1 : decode cX6_alike 1 = .ok (.getfield 7, 3) := by decide +kernel
theorem dX6_alike_4 : decode cX6_alike 4 = .ok (.iload_n 1, 1) := by decide +kernel
theorem dX6_alike_5 : decode cX6_alike 5 = .ok (.iaload, 1) := by decide +kernel
theorem dX6_alike_6 : decode cX6_alike 6 = .ok (.aload_n 0, 1) := by decide +kernel
theorem dX6_alike_7 : decode cX6_alike 7 = .ok (.getfield 7, 3) := by decide +kernel
theorem dX6_alike_10 : decode cX6_alike 10 = .ok (.iload_n 2, 1) := by decide +kernel
theorem dX6_alike_11 : decode cX6_alike 11 = .ok (.iaload, 1) := by decide +kernel
theorem dX6_alike_12 : decode cX6_alike 12 = .ok (.if_icmp .ne 45, 3) := by decide +kernel
theorem dX6_alike_15 : decode cX6_alike 15 = .ok (.aload_n 0, 1) := by decide +kernel
theorem dX6_alike_16 : decode cX6_alike 16 = .ok (.aload_n 0, 1) := by decide +kernel
theorem dX6_alike_17 : decode cX6_alike 17 = .ok (.getfield 13, 3) := by decide +kernel
theorem dX6_alike_20 : decode cX6_alike 20 = .ok (.iload_n 1, 1) := by decide +kernel
theorem dX6_alike_21 : decode cX6_alike 21 = .ok (.iaload, 1) := by decide +kernel
theorem dX6_alike_22 : decode cX6_alike 22 = .ok (.aload_n 0, 1) := by decide +kernel
theorem dX6_alike_23 : decode cX6_alike 23 = .ok (.getfield 13, 3) := by decide +kernel
theorem dX6_alike_26 : decode cX6_alike 26 = .ok (.iload_n 2, 1) := by decide +kernel
theorem dX6_alike_27 : decode cX6_alike 27 = .ok (.iaload, 1) := by decide +kernel
theorem dX6_alike_28 : decode cX6_alike 28 = .ok (.invokevirtual 51, 3) := by decide +kernel
theorem dX6_alike_31 : decode cX6_alike 31 = .ok (.ifCond .eq 26, 3) := by decide +kernel
theorem dX6_alike_34 : decode cX6_alike 34 = .ok (.aload_n 0, 1) := by decide +kernel
theorem dX6_alike_35 : decode cX6_alike 35 = .ok (.aload_n 0, 1) := by decide +kernel
theorem dX6_alike_36 : decode cX6_alike 36 = .ok (.getfield 16, 3) := by decide +kernel
theorem dX6_alike_39 : decode cX6_alike 39 = .ok (.iload_n 1, 1) := by decide +kernel
theorem dX6_alike_40 : decode cX6_alike 40 = .ok (.iaload, 1) := by decide +kernel
theorem dX6_alike_41 : decode cX6_alike 41 = .ok (.aload_n 0, 1) := by decide +kernel
theorem dX6_alike_42 : decode cX6_alike 42 = .ok (.getfield 16, 3) := by decide +kernel
theorem dX6_alike_45 : decode cX6_alike 45 = .ok (.iload_n 2, 1) := by decide +kernel
theorem dX6_alike_46 : decode cX6_alike 46 = .ok (.iaload, 1) := by decide +kernel
theorem dX6_alike_47 : decode cX6_alike 47 = .ok (.invokevirtual 51, 3) := by decide +kernel
theorem dX6_alike_50 : decode cX6_alike 50 = .ok (.ifCond .eq 7, 3) := by decide +kernel
theorem dX6_alike_53 : decode cX6_alike 53 = .ok (.iconst 1, 1) := by decide +kernel
theorem dX6_alike_54 : decode cX6_alike 54 = .ok (.goto 4, 3) := by decide +kernel
theorem dX6_alike_57 : decode cX6_alike 57 = .ok (.iconst 0, 1) := by decide +kernel
theorem dX6_alike_58 : decode cX6_alike 58 = .ok (.ireturn, 1) := by decide +kernel
theorem dX6_settle_0 : decode cX6_settle 0 = .ok (.iconst 1, 1) := by decide +kernel
theorem dX6_settle_1 : decode cX6_settle 1 = .ok (.istore_n 1, 1) := by decide +kernel
theorem dX6_settle_2 : decode cX6_settle 2 = .ok (.iconst 0, 1) := by decide +kernel
theorem dX6_settle_3 : decode cX6_settle 3 = .ok (.istore_n 2, 1) := by decide +kernel
theorem dX6_settle_4 : decode cX6_settle 4 = .ok (.iload_n 2, 1) := by decide +kernel
theorem dX6_settle_5 : decode cX6_settle 5 = .ok (.bipush 50, 2) := by decide +kernel
theorem dX6_settle_7 : decode cX6_settle 7 = .ok (.if_icmp .ge 81, 3) := by decide +kernel
theorem dX6_settle_10 : decode cX6_settle 10 = .ok (.iload_n 1, 1) := by decide +kernel
theorem dX6_settle_11 : decode cX6_settle 11 = .ok (.ifCond .eq 77, 3) := by decide +kernel
theorem dX6_settle_14 : decode cX6_settle 14 = .ok (.iconst 0, 1) := by decide +kernel
theorem dX6_settle_15 : decode cX6_settle 15 = .ok (.istore_n 1, 1) := by decide +kernel
theorem dX6_settle_16 : decode cX6_settle 16 = .ok (.iconst 0, 1) := by decide +kernel
theorem dX6_settle_17 : decode cX6_settle 17 = .ok (.istore_n 3, 1) := by decide +kernel
theorem dX6_settle_18 : decode cX6_settle 18 = .ok (.iload_n 3, 1) := by decide +kernel
theorem dX6_settle_19 : decode cX6_settle 19 = .ok (.aload_n 0, 1) := by decide +kernel
theorem dX6_settle_20 : decode cX6_settle 20 = .ok (.getfield 47, 3) := by decide +kernel
theorem dX6_settle_23 : decode cX6_settle 23 = .ok (.if_icmp .ge 59, 3) := by decide +kernel
theorem dX6_settle_26 : decode cX6_settle 26 = .ok (.iconst 0, 1) := by decide +kernel
theorem dX6_settle_27 : decode cX6_settle 27 = .ok (.istore 4, 2) := by decide +kernel
theorem dX6_settle_29 : decode cX6_settle 29 = .ok (.iload 4, 2) := by decide +kernel
theorem dX6_settle_31 : decode cX6_settle 31 = .ok (.iload_n 3, 1) := by decide +kernel
theorem dX6_settle_32 : decode cX6_settle 32 = .ok (.if_icmp .ge 44, 3) := by decide +kernel
theorem dX6_settle_35 : decode cX6_settle 35 = .ok (.aload_n 0, 1) := by decide +kernel
theorem dX6_settle_36 : decode cX6_settle 36 = .ok (.getfield 40, 3) := by decide +kernel
theorem dX6_settle_39 : decode cX6_settle 39 = .ok (.iload_n 3, 1) := by decide +kernel
theorem dX6_settle_40 : decode cX6_settle 40 = .ok (.iaload, 1) := by decide +kernel
theorem dX6_settle_41 : decode cX6_settle 41 = .ok (.aload_n 0, 1) := by decide +kernel
theorem dX6_settle_42 : decode cX6_settle 42 = .ok (.getfield 40, 3) := by decide +kernel
theorem dX6_settle_45 : decode cX6_settle 45 = .ok (.iload 4, 2) := by decide +kernel
theorem dX6_settle_47 : decode cX6_settle 47 = .ok (.iaload, 1) := by decide +kernel
theorem dX6_settle_48 : decode cX6_settle 48 = .ok (.if_icmp .eq 22, 3) := by decide +kernel
theorem dX6_settle_51 : decode cX6_settle 51 = .ok (.aload_n 0, 1) := by decide +kernel
theorem dX6_settle_52 : decode cX6_settle 52 = .ok (.iload_n 3, 1) := by decide +kernel
theorem dX6_settle_53 : decode cX6_settle 53 = .ok (.iload 4, 2) := by decide +kernel
theorem dX6_settle_55 : decode cX6_settle 55 = .ok (.invokevirtual 55, 3) := by decide +kernel
theorem dX6_settle_58 : decode cX6_settle 58 = .ok (.ifCond .eq 12, 3) := by decide +kernel
theorem dX6_settle_61 : decode cX6_settle 61 = .ok (.aload_n 0, 1) := by decide +kernel
theorem dX6_settle_62 : decode cX6_settle 62 = .ok (.iload_n 3, 1) := by decide +kernel
theorem dX6_settle_63 : decode cX6_settle 63 = .ok (.iload 4, 2) := by decide +kernel
theorem dX6_settle_65 : decode cX6_settle 65 = .ok (.invokevirtual 58, 3) := by decide +kernel
theorem dX6_settle_68 : decode cX6_settle 68 = .ok (.iconst 1, 1) := by decide +kernel
theorem dX6_settle_69 : decode cX6_settle 69 = .ok (.istore_n 1, 1) := by decide +kernel
theorem dX6_settle_70 : decode cX6_settle 70 = .ok (.iinc 4 1, 3) := by decide +kernel
theorem dX6_settle_73 : decode cX6_settle 73 = .ok (.goto (-44), 3) := by decide +kernel
theorem dX6_settle_76 : decode cX6_settle 76 = .ok (.iinc 3 1, 3) := by decide +kernel
theorem dX6_settle_79 : decode cX6_settle 79 = .ok (.goto (-61), 3) := by decide +kernel
theorem dX6_settle_82 : decode cX6_settle 82 = .ok (.iinc 2 1, 3) := by decide +kernel
theorem dX6_settle_85 : decode cX6_settle 85 = .ok (.goto (-81), 3) := by decide +kernel
theorem dX6_settle_88 : decode cX6_settle 88 = .ok (.return_, 1) := by decide +kernel
theorem dX6_work_0 : decode cX6_work 0 = .ok (.aload_n 0, 1) := by decide +kernel
theorem dX6_work_1 : decode cX6_work 1 = .ok (.invokevirtual 62, 3) := by decide +kernel
theorem dX6_work_4 : decode cX6_work 4 = .ok (.iconst 0, 1) := by decide +kernel
theorem dX6_work_5 : decode cX6_work 5 = .ok (.istore_n 3, 1) := by decide +kernel
theorem dX6_work_6 : decode cX6_work 6 = .ok (.iload_n 3, 1) := by decide +kernel
theorem dX6_work_7 : decode cX6_work 7 = .ok (.aload_n 0, 1) := by decide +kernel
theorem dX6_work_8 : decode cX6_work 8 = .ok (.getfield 65, 3) := by decide +kernel
theorem dX6_work_11 : decode cX6_work 11 = .ok (.if_icmp .ge 39, 3) := by decide +kernel
theorem dX6_work_14 : decode cX6_work 14 = .ok (.iload_n 3, 1) := by decide +kernel
theorem dX6_work_15 : decode cX6_work 15 = .ok (.iload_n 2, 1) := by decide +kernel
theorem dX6_work_16 : decode cX6_work 16 = .ok (.if_icmp .lt 12, 3) := by decide +kernel
theorem dX6_work_19 : decode cX6_work 19 = .ok (.iload_n 1, 1) := by decide +kernel
theorem dX6_work_20 : decode cX6_work 20 = .ok (.iload_n 3, 1) := by decide +kernel
theorem dX6_work_21 : decode cX6_work 21 = .ok (.ishr, 1) := by decide +kernel
theorem dX6_work_22 : decode cX6_work 22 = .ok (.iconst 1, 1) := by decide +kernel
theorem dX6_work_23 : decode cX6_work 23 = .ok (.iand, 1) := by decide +kernel
theorem dX6_work_24 : decode cX6_work 24 = .ok (.iconst 1, 1) := by decide +kernel
theorem dX6_work_25 : decode cX6_work 25 = .ok (.if_icmp .ne 19, 3) := by decide +kernel
theorem dX6_work_28 : decode cX6_work 28 = .ok (.aload_n 0, 1) := by decide +kernel
theorem dX6_work_29 : decode cX6_work 29 = .ok (.aload_n 0, 1) := by decide +kernel
theorem dX6_work_30 : decode cX6_work 30 = .ok (.getfield 19, 3) := by decide +kernel
theorem dX6_work_33 : decode cX6_work 33 = .ok (.iload_n 3, 1) := by decide +kernel
theorem dX6_work_34 : decode cX6_work 34 = .ok (.iaload, 1) := by decide +kernel
theorem dX6_work_35 : decode cX6_work 35 = .ok (.aload_n 0, 1) := by decide +kernel
theorem dX6_work_36 : decode cX6_work 36 = .ok (.getfield 22, 3) := by decide +kernel
theorem dX6_work_39 : decode cX6_work 39 = .ok (.iload_n 3, 1) := by decide +kernel
theorem dX6_work_40 : decode cX6_work 40 = .ok (.iaload, 1) := by decide +kernel
theorem dX6_work_41 : decode cX6_work 41 = .ok (.invokevirtual 58, 3) := by decide +kernel
theorem dX6_work_44 : decode cX6_work 44 = .ok (.iinc 3 1, 3) := by decide +kernel
theorem dX6_work_47 : decode cX6_work 47 = .ok (.goto (-41), 3) := by decide +kernel
theorem dX6_work_50 : decode cX6_work 50 = .ok (.aload_n 0, 1) := by decide +kernel
theorem dX6_work_51 : decode cX6_work 51 = .ok (.invokevirtual 68, 3) := by decide +kernel
theorem dX6_work_54 : decode cX6_work 54 = .ok (.return_, 1) := by decide +kernel
theorem dX6_workAll_0 : decode cX6_workAll 0 = .ok (.aload_n 0, 1) := by decide +kernel
theorem dX6_workAll_1 : decode cX6_workAll 1 = .ok (.iconst 0, 1) := by decide +kernel
theorem dX6_workAll_2 : decode cX6_workAll 2 = .ok (.aload_n 0, 1) := by decide +kernel
theorem dX6_workAll_3 : decode cX6_workAll 3 = .ok (.getfield 65, 3) := by decide +kernel
theorem dX6_workAll_6 : decode cX6_workAll 6 = .ok (.invokevirtual 71, 3) := by decide +kernel
theorem dX6_workAll_9 : decode cX6_workAll 9 = .ok (.return_, 1) := by decide +kernel
theorem dX6_joined_0 : decode cX6_joined 0 = .ok (.aload_n 0, 1) := by decide +kernel
theorem dX6_joined_1 : decode cX6_joined 1 = .ok (.getfield 40, 3) := by decide +kernel
theorem dX6_joined_4 : decode cX6_joined 4 = .ok (.iload_n 1, 1) := by decide +kernel
theorem dX6_joined_5 : decode cX6_joined 5 = .ok (.iaload, 1) := by decide +kernel
theorem dX6_joined_6 : decode cX6_joined 6 = .ok (.aload_n 0, 1) := by decide +kernel
theorem dX6_joined_7 : decode cX6_joined 7 = .ok (.getfield 40, 3) := by decide +kernel
theorem dX6_joined_10 : decode cX6_joined 10 = .ok (.iload_n 2, 1) := by decide +kernel
theorem dX6_joined_11 : decode cX6_joined 11 = .ok (.iaload, 1) := by decide +kernel
theorem dX6_joined_12 : decode cX6_joined 12 = .ok (.if_icmp .ne 7, 3) := by decide +kernel
theorem dX6_joined_15 : decode cX6_joined 15 = .ok (.iconst 1, 1) := by decide +kernel
theorem dX6_joined_16 : decode cX6_joined 16 = .ok (.goto 4, 3) := by decide +kernel
theorem dX6_joined_19 : decode cX6_joined 19 = .ok (.iconst 0, 1) := by decide +kernel
theorem dX6_joined_20 : decode cX6_joined 20 = .ok (.ireturn, 1) := by decide +kernel
theorem dX6_first_0 : decode cX6_first 0 = .ok (.iconst 0, 1) := by decide +kernel
theorem dX6_first_1 : decode cX6_first 1 = .ok (.istore 4, 2) := by decide +kernel
theorem dX6_first_3 : decode cX6_first 3 = .ok (.iload 4, 2) := by decide +kernel
theorem dX6_first_5 : decode cX6_first 5 = .ok (.aload_n 0, 1) := by decide +kernel
theorem dX6_first_6 : decode cX6_first 6 = .ok (.getfield 65, 3) := by decide +kernel
theorem dX6_first_9 : decode cX6_first 9 = .ok (.if_icmp .gt 28, 3) := by decide +kernel
theorem dX6_first_12 : decode cX6_first 12 = .ok (.aload_n 0, 1) := by decide +kernel
theorem dX6_first_13 : decode cX6_first 13 = .ok (.iload_n 1, 1) := by decide +kernel
theorem dX6_first_14 : decode cX6_first 14 = .ok (.iload 4, 2) := by decide +kernel
theorem dX6_first_16 : decode cX6_first 16 = .ok (.invokevirtual 71, 3) := by decide +kernel
theorem dX6_first_19 : decode cX6_first 19 = .ok (.aload_n 0, 1) := by decide +kernel
theorem dX6_first_20 : decode cX6_first 20 = .ok (.iload_n 2, 1) := by decide +kernel
theorem dX6_first_21 : decode cX6_first 21 = .ok (.iload_n 3, 1) := by decide +kernel
theorem dX6_first_22 : decode cX6_first 22 = .ok (.invokevirtual 74, 3) := by decide +kernel
theorem dX6_first_25 : decode cX6_first 25 = .ok (.ifCond .eq 6, 3) := by decide +kernel
theorem dX6_first_28 : decode cX6_first 28 = .ok (.iload 4, 2) := by decide +kernel
theorem dX6_first_30 : decode cX6_first 30 = .ok (.ireturn, 1) := by decide +kernel
theorem dX6_first_31 : decode cX6_first 31 = .ok (.iinc 4 1, 3) := by decide +kernel
theorem dX6_first_34 : decode cX6_first 34 = .ok (.goto (-31), 3) := by decide +kernel
theorem dX6_first_37 : decode cX6_first 37 = .ok (.iconst (-1), 1) := by decide +kernel
theorem dX6_first_38 : decode cX6_first 38 = .ok (.ireturn, 1) := by decide +kernel
theorem dX6_kinds_0 : decode cX6_kinds 0 = .ok (.iconst 0, 1) := by decide +kernel
theorem dX6_kinds_1 : decode cX6_kinds 1 = .ok (.istore_n 1, 1) := by decide +kernel
theorem dX6_kinds_2 : decode cX6_kinds 2 = .ok (.iconst 0, 1) := by decide +kernel
theorem dX6_kinds_3 : decode cX6_kinds 3 = .ok (.istore_n 2, 1) := by decide +kernel
theorem dX6_kinds_4 : decode cX6_kinds 4 = .ok (.iload_n 2, 1) := by decide +kernel
theorem dX6_kinds_5 : decode cX6_kinds 5 = .ok (.aload_n 0, 1) := by decide +kernel
theorem dX6_kinds_6 : decode cX6_kinds 6 = .ok (.getfield 47, 3) := by decide +kernel
theorem dX6_kinds_9 : decode cX6_kinds 9 = .ok (.if_icmp .ge 27, 3) := by decide +kernel
theorem dX6_kinds_12 : decode cX6_kinds 12 = .ok (.aload_n 0, 1) := by decide +kernel
theorem dX6_kinds_13 : decode cX6_kinds 13 = .ok (.getfield 40, 3) := by decide +kernel
theorem dX6_kinds_16 : decode cX6_kinds 16 = .ok (.iload_n 2, 1) := by decide +kernel
theorem dX6_kinds_17 : decode cX6_kinds 17 = .ok (.iaload, 1) := by decide +kernel
theorem dX6_kinds_18 : decode cX6_kinds 18 = .ok (.iload_n 2, 1) := by decide +kernel
theorem dX6_kinds_19 : decode cX6_kinds 19 = .ok (.if_icmp .ne 9, 3) := by decide +kernel
theorem dX6_kinds_22 : decode cX6_kinds 22 = .ok (.iload_n 1, 1) := by decide +kernel
theorem dX6_kinds_23 : decode cX6_kinds 23 = .ok (.iconst 1, 1) := by decide +kernel
theorem dX6_kinds_24 : decode cX6_kinds 24 = .ok (.iadd, 1) := by decide +kernel
theorem dX6_kinds_25 : decode cX6_kinds 25 = .ok (.goto 4, 3) := by decide +kernel
theorem dX6_kinds_28 : decode cX6_kinds 28 = .ok (.iload_n 1, 1) := by decide +kernel
theorem dX6_kinds_29 : decode cX6_kinds 29 = .ok (.istore_n 1, 1) := by decide +kernel
theorem dX6_kinds_30 : decode cX6_kinds 30 = .ok (.iinc 2 1, 3) := by decide +kernel
theorem dX6_kinds_33 : decode cX6_kinds 33 = .ok (.goto (-29), 3) := by decide +kernel
theorem dX6_kinds_36 : decode cX6_kinds 36 = .ok (.iload_n 1, 1) := by decide +kernel
theorem dX6_kinds_37 : decode cX6_kinds 37 = .ok (.ireturn, 1) := by decide +kernel
theorem dX6_wrongParts_0 : decode cX6_wrongParts 0 = .ok (.iload_n 1, 1) := by decide +kernel
theorem dX6_wrongParts_1 : decode cX6_wrongParts 1 = .ok (.ifCond .lt 49, 3) := by decide +kernel
theorem dX6_wrongParts_4 : decode cX6_wrongParts 4 = .ok (.iload_n 1, 1) := by decide +kernel
theorem dX6_wrongParts_5 : decode cX6_wrongParts 5 = .ok (.bipush 15, 2) := by decide +kernel
theorem dX6_wrongParts_7 : decode cX6_wrongParts 7 = .ok (.if_icmp .gt 43, 3) := by decide +kernel
theorem dX6_wrongParts_10 : decode cX6_wrongParts 10 = .ok (.iload_n 2, 1) := by decide +kernel
theorem dX6_wrongParts_11 : decode cX6_wrongParts 11 = .ok (.iconst (-1), 1) := by decide +kernel
theorem dX6_wrongParts_12 : decode cX6_wrongParts 12 = .ok (.if_icmp .eq 11, 3) := by decide +kernel
theorem dX6_wrongParts_15 : decode cX6_wrongParts 15 = .ok (.aload_n 0, 1) := by decide +kernel
theorem dX6_wrongParts_16 : decode cX6_wrongParts 16 = .ok (.iload_n 2, 1) := by decide +kernel
theorem dX6_wrongParts_17 : decode cX6_wrongParts 17 = .ok (.invokevirtual 77, 3) := by decide +kernel
theorem dX6_wrongParts_20 : decode cX6_wrongParts 20 = .ok (.ifCond .eq 30, 3) := by decide +kernel
theorem dX6_wrongParts_23 : decode cX6_wrongParts 23 = .ok (.iload_n 3, 1) := by decide +kernel
theorem dX6_wrongParts_24 : decode cX6_wrongParts 24 = .ok (.iconst (-1), 1) := by decide +kernel
theorem dX6_wrongParts_25 : decode cX6_wrongParts 25 = .ok (.if_icmp .eq 11, 3) := by decide +kernel
theorem dX6_wrongParts_28 : decode cX6_wrongParts 28 = .ok (.aload_n 0, 1) := by decide +kernel
theorem dX6_wrongParts_29 : decode cX6_wrongParts 29 = .ok (.iload_n 3, 1) := by decide +kernel
theorem dX6_wrongParts_30 : decode cX6_wrongParts 30 = .ok (.invokevirtual 77, 3) := by decide +kernel
theorem dX6_wrongParts_33 : decode cX6_wrongParts 33 = .ok (.ifCond .eq 17, 3) := by decide +kernel
theorem dX6_wrongParts_36 : decode cX6_wrongParts 36 = .ok (.iload_n 2, 1) := by decide +kernel
theorem dX6_wrongParts_37 : decode cX6_wrongParts 37 = .ok (.iconst (-1), 1) := by decide +kernel
theorem dX6_wrongParts_38 : decode cX6_wrongParts 38 = .ok (.if_icmp .ne 8, 3) := by decide +kernel
theorem dX6_wrongParts_41 : decode cX6_wrongParts 41 = .ok (.iload_n 3, 1) := by decide +kernel
theorem dX6_wrongParts_42 : decode cX6_wrongParts 42 = .ok (.iconst (-1), 1) := by decide +kernel
theorem dX6_wrongParts_43 : decode cX6_wrongParts 43 = .ok (.if_icmp .ne 7, 3) := by decide +kernel
theorem dX6_wrongParts_46 : decode cX6_wrongParts 46 = .ok (.iconst 1, 1) := by decide +kernel
theorem dX6_wrongParts_47 : decode cX6_wrongParts 47 = .ok (.goto 4, 3) := by decide +kernel
theorem dX6_wrongParts_50 : decode cX6_wrongParts 50 = .ok (.iconst 0, 1) := by decide +kernel
theorem dX6_wrongParts_51 : decode cX6_wrongParts 51 = .ok (.istore 4, 2) := by decide +kernel
theorem dX6_wrongParts_53 : decode cX6_wrongParts 53 = .ok (.iload 4, 2) := by decide +kernel
theorem dX6_wrongParts_55 : decode cX6_wrongParts 55 = .ok (.ifCond .ne 7, 3) := by decide +kernel
theorem dX6_wrongParts_58 : decode cX6_wrongParts 58 = .ok (.iconst 1, 1) := by decide +kernel
theorem dX6_wrongParts_59 : decode cX6_wrongParts 59 = .ok (.goto 4, 3) := by decide +kernel
theorem dX6_wrongParts_62 : decode cX6_wrongParts 62 = .ok (.iconst 0, 1) := by decide +kernel
theorem dX6_wrongParts_63 : decode cX6_wrongParts 63 = .ok (.ireturn, 1) := by decide +kernel
theorem dX6_make_0 : decode cX6_make 0 = .ok (.aload_n 0, 1) := by decide +kernel
theorem dX6_make_1 : decode cX6_make 1 = .ok (.iload_n 1, 1) := by decide +kernel
theorem dX6_make_2 : decode cX6_make 2 = .ok (.iload_n 2, 1) := by decide +kernel
theorem dX6_make_3 : decode cX6_make 3 = .ok (.iload_n 3, 1) := by decide +kernel
theorem dX6_make_4 : decode cX6_make 4 = .ok (.invokevirtual 81, 3) := by decide +kernel
theorem dX6_make_7 : decode cX6_make 7 = .ok (.ifCond .eq 6, 3) := by decide +kernel
theorem dX6_make_10 : decode cX6_make 10 = .ok (.bipush (-2), 2) := by decide +kernel
theorem dX6_make_12 : decode cX6_make 12 = .ok (.ireturn, 1) := by decide +kernel
theorem dX6_make_13 : decode cX6_make 13 = .ok (.iconst 0, 1) := by decide +kernel
theorem dX6_make_14 : decode cX6_make 14 = .ok (.istore 4, 2) := by decide +kernel
theorem dX6_make_16 : decode cX6_make 16 = .ok (.iload 4, 2) := by decide +kernel
theorem dX6_make_18 : decode cX6_make 18 = .ok (.aload_n 0, 1) := by decide +kernel
theorem dX6_make_19 : decode cX6_make 19 = .ok (.getfield 47, 3) := by decide +kernel
theorem dX6_make_22 : decode cX6_make 22 = .ok (.if_icmp .ge 45, 3) := by decide +kernel
theorem dX6_make_25 : decode cX6_make 25 = .ok (.aload_n 0, 1) := by decide +kernel
theorem dX6_make_26 : decode cX6_make 26 = .ok (.getfield 7, 3) := by decide +kernel
theorem dX6_make_29 : decode cX6_make 29 = .ok (.iload 4, 2) := by decide +kernel
theorem dX6_make_31 : decode cX6_make 31 = .ok (.iaload, 1) := by decide +kernel
theorem dX6_make_32 : decode cX6_make 32 = .ok (.iload_n 1, 1) := by decide +kernel
theorem dX6_make_33 : decode cX6_make 33 = .ok (.if_icmp .ne 28, 3) := by decide +kernel
theorem dX6_make_36 : decode cX6_make 36 = .ok (.aload_n 0, 1) := by decide +kernel
theorem dX6_make_37 : decode cX6_make 37 = .ok (.getfield 13, 3) := by decide +kernel
theorem dX6_make_40 : decode cX6_make 40 = .ok (.iload 4, 2) := by decide +kernel
theorem dX6_make_42 : decode cX6_make 42 = .ok (.iaload, 1) := by decide +kernel
theorem dX6_make_43 : decode cX6_make 43 = .ok (.iload_n 2, 1) := by decide +kernel
theorem dX6_make_44 : decode cX6_make 44 = .ok (.if_icmp .ne 17, 3) := by decide +kernel
theorem dX6_make_47 : decode cX6_make 47 = .ok (.aload_n 0, 1) := by decide +kernel
theorem dX6_make_48 : decode cX6_make 48 = .ok (.getfield 16, 3) := by decide +kernel
theorem dX6_make_51 : decode cX6_make 51 = .ok (.iload 4, 2) := by decide +kernel
theorem dX6_make_53 : decode cX6_make 53 = .ok (.iaload, 1) := by decide +kernel
theorem dX6_make_54 : decode cX6_make 54 = .ok (.iload_n 3, 1) := by decide +kernel
theorem dX6_make_55 : decode cX6_make 55 = .ok (.if_icmp .ne 6, 3) := by decide +kernel
theorem dX6_make_58 : decode cX6_make 58 = .ok (.iload 4, 2) := by decide +kernel
theorem dX6_make_60 : decode cX6_make 60 = .ok (.ireturn, 1) := by decide +kernel
theorem dX6_make_61 : decode cX6_make 61 = .ok (.iinc 4 1, 3) := by decide +kernel
theorem dX6_make_64 : decode cX6_make 64 = .ok (.goto (-48), 3) := by decide +kernel
theorem dX6_make_67 : decode cX6_make 67 = .ok (.aload_n 0, 1) := by decide +kernel
theorem dX6_make_68 : decode cX6_make 68 = .ok (.getfield 47, 3) := by decide +kernel
theorem dX6_make_71 : decode cX6_make 71 = .ok (.bipush 40, 2) := by decide +kernel
theorem dX6_make_73 : decode cX6_make 73 = .ok (.if_icmp .ne 6, 3) := by decide +kernel
theorem dX6_make_76 : decode cX6_make 76 = .ok (.bipush (-3), 2) := by decide +kernel
theorem dX6_make_78 : decode cX6_make 78 = .ok (.ireturn, 1) := by decide +kernel
theorem dX6_make_79 : decode cX6_make 79 = .ok (.aload_n 0, 1) := by decide +kernel
theorem dX6_make_80 : decode cX6_make 80 = .ok (.getfield 7, 3) := by decide +kernel
theorem dX6_make_83 : decode cX6_make 83 = .ok (.aload_n 0, 1) := by decide +kernel
theorem dX6_make_84 : decode cX6_make 84 = .ok (.getfield 47, 3) := by decide +kernel
theorem dX6_make_87 : decode cX6_make 87 = .ok (.iload_n 1, 1) := by decide +kernel
theorem dX6_make_88 : decode cX6_make 88 = .ok (.iastore, 1) := by decide +kernel
theorem dX6_make_89 : decode cX6_make 89 = .ok (.aload_n 0, 1) := by decide +kernel
theorem dX6_make_90 : decode cX6_make 90 = .ok (.getfield 13, 3) := by decide +kernel
theorem dX6_make_93 : decode cX6_make 93 = .ok (.aload_n 0, 1) := by decide +kernel
theorem dX6_make_94 : decode cX6_make 94 = .ok (.getfield 47, 3) := by decide +kernel
theorem dX6_make_97 : decode cX6_make 97 = .ok (.iload_n 2, 1) := by decide +kernel
theorem dX6_make_98 : decode cX6_make 98 = .ok (.iastore, 1) := by decide +kernel
theorem dX6_make_99 : decode cX6_make 99 = .ok (.aload_n 0, 1) := by decide +kernel
theorem dX6_make_100 : decode cX6_make 100 = .ok (.getfield 16, 3) := by decide +kernel
theorem dX6_make_103 : decode cX6_make 103 = .ok (.aload_n 0, 1) := by decide +kernel
theorem dX6_make_104 : decode cX6_make 104 = .ok (.getfield 47, 3) := by decide +kernel
theorem dX6_make_107 : decode cX6_make 107 = .ok (.iload_n 3, 1) := by decide +kernel
theorem dX6_make_108 : decode cX6_make 108 = .ok (.iastore, 1) := by decide +kernel
theorem dX6_make_109 : decode cX6_make 109 = .ok (.aload_n 0, 1) := by decide +kernel
theorem dX6_make_110 : decode cX6_make 110 = .ok (.dup, 1) := by decide +kernel
theorem dX6_make_111 : decode cX6_make 111 = .ok (.getfield 47, 3) := by decide +kernel
theorem dX6_make_114 : decode cX6_make 114 = .ok (.iconst 1, 1) := by decide +kernel
theorem dX6_make_115 : decode cX6_make 115 = .ok (.iadd, 1) := by decide +kernel
theorem dX6_make_116 : decode cX6_make 116 = .ok (.putfield 47, 3) := by decide +kernel
theorem dX6_make_119 : decode cX6_make 119 = .ok (.aload_n 0, 1) := by decide +kernel
theorem dX6_make_120 : decode cX6_make 120 = .ok (.getfield 47, 3) := by decide +kernel
theorem dX6_make_123 : decode cX6_make 123 = .ok (.iconst 1, 1) := by decide +kernel
theorem dX6_make_124 : decode cX6_make 124 = .ok (.isub, 1) := by decide +kernel
theorem dX6_make_125 : decode cX6_make 125 = .ok (.ireturn, 1) := by decide +kernel
theorem dX6_equate_0 : decode cX6_equate 0 = .ok (.aload_n 0, 1) := by decide +kernel
theorem dX6_equate_1 : decode cX6_equate 1 = .ok (.iload_n 1, 1) := by decide +kernel
theorem dX6_equate_2 : decode cX6_equate 2 = .ok (.invokevirtual 77, 3) := by decide +kernel
theorem dX6_equate_5 : decode cX6_equate 5 = .ok (.ifCond .eq 11, 3) := by decide +kernel
theorem dX6_equate_8 : decode cX6_equate 8 = .ok (.aload_n 0, 1) := by decide +kernel
theorem dX6_equate_9 : decode cX6_equate 9 = .ok (.iload_n 2, 1) := by decide +kernel
theorem dX6_equate_10 : decode cX6_equate 10 = .ok (.invokevirtual 77, 3) := by decide +kernel
theorem dX6_equate_13 : decode cX6_equate 13 = .ok (.ifCond .ne 6, 3) := by decide +kernel
theorem dX6_equate_16 : decode cX6_equate 16 = .ok (.bipush (-2), 2) := by decide +kernel
theorem dX6_equate_18 : decode cX6_equate 18 = .ok (.ireturn, 1) := by decide +kernel
theorem dX6_equate_19 : decode cX6_equate 19 = .ok (.aload_n 0, 1) := by decide +kernel
theorem dX6_equate_20 : decode cX6_equate 20 = .ok (.getfield 65, 3) := by decide +kernel
theorem dX6_equate_23 : decode cX6_equate 23 = .ok (.bipush 24, 2) := by decide +kernel
theorem dX6_equate_25 : decode cX6_equate 25 = .ok (.if_icmp .ne 6, 3) := by decide +kernel
theorem dX6_equate_28 : decode cX6_equate 28 = .ok (.bipush (-3), 2) := by decide +kernel
theorem dX6_equate_30 : decode cX6_equate 30 = .ok (.ireturn, 1) := by decide +kernel
theorem dX6_equate_31 : decode cX6_equate 31 = .ok (.aload_n 0, 1) := by decide +kernel
theorem dX6_equate_32 : decode cX6_equate 32 = .ok (.invokevirtual 85, 3) := by decide +kernel
theorem dX6_equate_35 : decode cX6_equate 35 = .ok (.aload_n 0, 1) := by decide +kernel
theorem dX6_equate_36 : decode cX6_equate 36 = .ok (.invokevirtual 88, 3) := by decide +kernel
theorem dX6_equate_39 : decode cX6_equate 39 = .ok (.istore_n 3, 1) := by decide +kernel
theorem dX6_equate_40 : decode cX6_equate 40 = .ok (.aload_n 0, 1) := by decide +kernel
theorem dX6_equate_41 : decode cX6_equate 41 = .ok (.getfield 19, 3) := by decide +kernel
theorem dX6_equate_44 : decode cX6_equate 44 = .ok (.aload_n 0, 1) := by decide +kernel
theorem dX6_equate_45 : decode cX6_equate 45 = .ok (.getfield 65, 3) := by decide +kernel
theorem dX6_equate_48 : decode cX6_equate 48 = .ok (.iload_n 1, 1) := by decide +kernel
theorem dX6_equate_49 : decode cX6_equate 49 = .ok (.iastore, 1) := by decide +kernel
theorem dX6_equate_50 : decode cX6_equate 50 = .ok (.aload_n 0, 1) := by decide +kernel
theorem dX6_equate_51 : decode cX6_equate 51 = .ok (.getfield 22, 3) := by decide +kernel
theorem dX6_equate_54 : decode cX6_equate 54 = .ok (.aload_n 0, 1) := by decide +kernel
theorem dX6_equate_55 : decode cX6_equate 55 = .ok (.getfield 65, 3) := by decide +kernel
theorem dX6_equate_58 : decode cX6_equate 58 = .ok (.iload_n 2, 1) := by decide +kernel
theorem dX6_equate_59 : decode cX6_equate 59 = .ok (.iastore, 1) := by decide +kernel
theorem dX6_equate_60 : decode cX6_equate 60 = .ok (.aload_n 0, 1) := by decide +kernel
theorem dX6_equate_61 : decode cX6_equate 61 = .ok (.dup, 1) := by decide +kernel
theorem dX6_equate_62 : decode cX6_equate 62 = .ok (.getfield 65, 3) := by decide +kernel
theorem dX6_equate_65 : decode cX6_equate 65 = .ok (.iconst 1, 1) := by decide +kernel
theorem dX6_equate_66 : decode cX6_equate 66 = .ok (.iadd, 1) := by decide +kernel
theorem dX6_equate_67 : decode cX6_equate 67 = .ok (.putfield 65, 3) := by decide +kernel
theorem dX6_equate_70 : decode cX6_equate 70 = .ok (.aload_n 0, 1) := by decide +kernel
theorem dX6_equate_71 : decode cX6_equate 71 = .ok (.invokevirtual 85, 3) := by decide +kernel
theorem dX6_equate_74 : decode cX6_equate 74 = .ok (.iload_n 3, 1) := by decide +kernel
theorem dX6_equate_75 : decode cX6_equate 75 = .ok (.aload_n 0, 1) := by decide +kernel
theorem dX6_equate_76 : decode cX6_equate 76 = .ok (.invokevirtual 88, 3) := by decide +kernel
theorem dX6_equate_79 : decode cX6_equate 79 = .ok (.isub, 1) := by decide +kernel
theorem dX6_equate_80 : decode cX6_equate 80 = .ok (.ireturn, 1) := by decide +kernel
theorem dX6_differ_0 : decode cX6_differ 0 = .ok (.aload_n 0, 1) := by decide +kernel
theorem dX6_differ_1 : decode cX6_differ 1 = .ok (.iload_n 1, 1) := by decide +kernel
theorem dX6_differ_2 : decode cX6_differ 2 = .ok (.invokevirtual 77, 3) := by decide +kernel
theorem dX6_differ_5 : decode cX6_differ 5 = .ok (.ifCond .eq 11, 3) := by decide +kernel
theorem dX6_differ_8 : decode cX6_differ 8 = .ok (.aload_n 0, 1) := by decide +kernel
theorem dX6_differ_9 : decode cX6_differ 9 = .ok (.iload_n 2, 1) := by decide +kernel
theorem dX6_differ_10 : decode cX6_differ 10 = .ok (.invokevirtual 77, 3) := by decide +kernel
theorem dX6_differ_13 : decode cX6_differ 13 = .ok (.ifCond .ne 6, 3) := by decide +kernel
theorem dX6_differ_16 : decode cX6_differ 16 = .ok (.bipush (-2), 2) := by decide +kernel
theorem dX6_differ_18 : decode cX6_differ 18 = .ok (.ireturn, 1) := by decide +kernel
theorem dX6_differ_19 : decode cX6_differ 19 = .ok (.aload_n 0, 1) := by decide +kernel
theorem dX6_differ_20 : decode cX6_differ 20 = .ok (.getfield 92, 3) := by decide +kernel
theorem dX6_differ_23 : decode cX6_differ 23 = .ok (.bipush 16, 2) := by decide +kernel
theorem dX6_differ_25 : decode cX6_differ 25 = .ok (.if_icmp .ne 6, 3) := by decide +kernel
theorem dX6_differ_28 : decode cX6_differ 28 = .ok (.bipush (-3), 2) := by decide +kernel
theorem dX6_differ_30 : decode cX6_differ 30 = .ok (.ireturn, 1) := by decide +kernel
theorem dX6_differ_31 : decode cX6_differ 31 = .ok (.aload_n 0, 1) := by decide +kernel
theorem dX6_differ_32 : decode cX6_differ 32 = .ok (.getfield 25, 3) := by decide +kernel
theorem dX6_differ_35 : decode cX6_differ 35 = .ok (.aload_n 0, 1) := by decide +kernel
theorem dX6_differ_36 : decode cX6_differ 36 = .ok (.getfield 92, 3) := by decide +kernel
theorem dX6_differ_39 : decode cX6_differ 39 = .ok (.iload_n 1, 1) := by decide +kernel
theorem dX6_differ_40 : decode cX6_differ 40 = .ok (.iastore, 1) := by decide +kernel
theorem dX6_differ_41 : decode cX6_differ 41 = .ok (.aload_n 0, 1) := by decide +kernel
theorem dX6_differ_42 : decode cX6_differ 42 = .ok (.getfield 28, 3) := by decide +kernel
theorem dX6_differ_45 : decode cX6_differ 45 = .ok (.aload_n 0, 1) := by decide +kernel
theorem dX6_differ_46 : decode cX6_differ 46 = .ok (.getfield 92, 3) := by decide +kernel
theorem dX6_differ_49 : decode cX6_differ 49 = .ok (.iload_n 2, 1) := by decide +kernel
theorem dX6_differ_50 : decode cX6_differ 50 = .ok (.iastore, 1) := by decide +kernel
theorem dX6_differ_51 : decode cX6_differ 51 = .ok (.aload_n 0, 1) := by decide +kernel
theorem dX6_differ_52 : decode cX6_differ 52 = .ok (.dup, 1) := by decide +kernel
theorem dX6_differ_53 : decode cX6_differ 53 = .ok (.getfield 92, 3) := by decide +kernel
theorem dX6_differ_56 : decode cX6_differ 56 = .ok (.iconst 1, 1) := by decide +kernel
theorem dX6_differ_57 : decode cX6_differ 57 = .ok (.iadd, 1) := by decide +kernel
theorem dX6_differ_58 : decode cX6_differ 58 = .ok (.putfield 92, 3) := by decide +kernel
theorem dX6_differ_61 : decode cX6_differ 61 = .ok (.aload_n 0, 1) := by decide +kernel
theorem dX6_differ_62 : decode cX6_differ 62 = .ok (.getfield 92, 3) := by decide +kernel
theorem dX6_differ_65 : decode cX6_differ 65 = .ok (.iconst 1, 1) := by decide +kernel
theorem dX6_differ_66 : decode cX6_differ 66 = .ok (.isub, 1) := by decide +kernel
theorem dX6_differ_67 : decode cX6_differ 67 = .ok (.ireturn, 1) := by decide +kernel
theorem dX6_open_0 : decode cX6_open 0 = .ok (.aload_n 0, 1) := by decide +kernel
theorem dX6_open_1 : decode cX6_open 1 = .ok (.getfield 95, 3) := by decide +kernel
theorem dX6_open_4 : decode cX6_open 4 = .ok (.bipush 6, 2) := by decide +kernel
theorem dX6_open_6 : decode cX6_open 6 = .ok (.if_icmp .ne 6, 3) := by decide +kernel
theorem dX6_open_9 : decode cX6_open 9 = .ok (.bipush (-3), 2) := by decide +kernel
theorem dX6_open_11 : decode cX6_open 11 = .ok (.ireturn, 1) := by decide +kernel
theorem dX6_open_12 : decode cX6_open 12 = .ok (.aload_n 0, 1) := by decide +kernel
theorem dX6_open_13 : decode cX6_open 13 = .ok (.getfield 31, 3) := by decide +kernel
theorem dX6_open_16 : decode cX6_open 16 = .ok (.aload_n 0, 1) := by decide +kernel
theorem dX6_open_17 : decode cX6_open 17 = .ok (.getfield 95, 3) := by decide +kernel
theorem dX6_open_20 : decode cX6_open 20 = .ok (.aload_n 0, 1) := by decide +kernel
theorem dX6_open_21 : decode cX6_open 21 = .ok (.getfield 47, 3) := by decide +kernel
theorem dX6_open_24 : decode cX6_open 24 = .ok (.iastore, 1) := by decide +kernel
theorem dX6_open_25 : decode cX6_open 25 = .ok (.aload_n 0, 1) := by decide +kernel
theorem dX6_open_26 : decode cX6_open 26 = .ok (.getfield 34, 3) := by decide +kernel
theorem dX6_open_29 : decode cX6_open 29 = .ok (.aload_n 0, 1) := by decide +kernel
theorem dX6_open_30 : decode cX6_open 30 = .ok (.getfield 95, 3) := by decide +kernel
theorem dX6_open_33 : decode cX6_open 33 = .ok (.aload_n 0, 1) := by decide +kernel
theorem dX6_open_34 : decode cX6_open 34 = .ok (.getfield 65, 3) := by decide +kernel
theorem dX6_open_37 : decode cX6_open 37 = .ok (.iastore, 1) := by decide +kernel
theorem dX6_open_38 : decode cX6_open 38 = .ok (.aload_n 0, 1) := by decide +kernel
theorem dX6_open_39 : decode cX6_open 39 = .ok (.getfield 37, 3) := by decide +kernel
theorem dX6_open_42 : decode cX6_open 42 = .ok (.aload_n 0, 1) := by decide +kernel
theorem dX6_open_43 : decode cX6_open 43 = .ok (.getfield 95, 3) := by decide +kernel
theorem dX6_open_46 : decode cX6_open 46 = .ok (.aload_n 0, 1) := by decide +kernel
theorem dX6_open_47 : decode cX6_open 47 = .ok (.getfield 92, 3) := by decide +kernel
theorem dX6_open_50 : decode cX6_open 50 = .ok (.iastore, 1) := by decide +kernel
theorem dX6_open_51 : decode cX6_open 51 = .ok (.aload_n 0, 1) := by decide +kernel
theorem dX6_open_52 : decode cX6_open 52 = .ok (.dup, 1) := by decide +kernel
theorem dX6_open_53 : decode cX6_open 53 = .ok (.getfield 95, 3) := by decide +kernel
theorem dX6_open_56 : decode cX6_open 56 = .ok (.iconst 1, 1) := by decide +kernel
theorem dX6_open_57 : decode cX6_open 57 = .ok (.iadd, 1) := by decide +kernel
theorem dX6_open_58 : decode cX6_open 58 = .ok (.putfield 95, 3) := by decide +kernel
theorem dX6_open_61 : decode cX6_open 61 = .ok (.aload_n 0, 1) := by decide +kernel
theorem dX6_open_62 : decode cX6_open 62 = .ok (.getfield 95, 3) := by decide +kernel
theorem dX6_open_65 : decode cX6_open 65 = .ok (.ireturn, 1) := by decide +kernel
theorem dX6_close_0 : decode cX6_close 0 = .ok (.aload_n 0, 1) := by decide +kernel
theorem dX6_close_1 : decode cX6_close 1 = .ok (.getfield 95, 3) := by decide +kernel
theorem dX6_close_4 : decode cX6_close 4 = .ok (.ifCond .ne 5, 3) := by decide +kernel
theorem dX6_close_7 : decode cX6_close 7 = .ok (.iconst (-1), 1) := by decide +kernel
theorem dX6_close_8 : decode cX6_close 8 = .ok (.ireturn, 1) := by decide +kernel
theorem dX6_close_9 : decode cX6_close 9 = .ok (.aload_n 0, 1) := by decide +kernel
theorem dX6_close_10 : decode cX6_close 10 = .ok (.dup, 1) := by decide +kernel
theorem dX6_close_11 : decode cX6_close 11 = .ok (.getfield 95, 3) := by decide +kernel
theorem dX6_close_14 : decode cX6_close 14 = .ok (.iconst 1, 1) := by decide +kernel
theorem dX6_close_15 : decode cX6_close 15 = .ok (.isub, 1) := by decide +kernel
theorem dX6_close_16 : decode cX6_close 16 = .ok (.putfield 95, 3) := by decide +kernel
theorem dX6_close_19 : decode cX6_close 19 = .ok (.aload_n 0, 1) := by decide +kernel
theorem dX6_close_20 : decode cX6_close 20 = .ok (.aload_n 0, 1) := by decide +kernel
theorem dX6_close_21 : decode cX6_close 21 = .ok (.getfield 31, 3) := by decide +kernel
theorem dX6_close_24 : decode cX6_close 24 = .ok (.aload_n 0, 1) := by decide +kernel
theorem dX6_close_25 : decode cX6_close 25 = .ok (.getfield 95, 3) := by decide +kernel
theorem dX6_close_28 : decode cX6_close 28 = .ok (.iaload, 1) := by decide +kernel
theorem dX6_close_29 : decode cX6_close 29 = .ok (.putfield 47, 3) := by decide +kernel
theorem dX6_close_32 : decode cX6_close 32 = .ok (.aload_n 0, 1) := by decide +kernel
theorem dX6_close_33 : decode cX6_close 33 = .ok (.aload_n 0, 1) := by decide +kernel
theorem dX6_close_34 : decode cX6_close 34 = .ok (.getfield 34, 3) := by decide +kernel
theorem dX6_close_37 : decode cX6_close 37 = .ok (.aload_n 0, 1) := by decide +kernel
theorem dX6_close_38 : decode cX6_close 38 = .ok (.getfield 95, 3) := by decide +kernel
theorem dX6_close_41 : decode cX6_close 41 = .ok (.iaload, 1) := by decide +kernel
theorem dX6_close_42 : decode cX6_close 42 = .ok (.putfield 65, 3) := by decide +kernel
theorem dX6_close_45 : decode cX6_close 45 = .ok (.aload_n 0, 1) := by decide +kernel
theorem dX6_close_46 : decode cX6_close 46 = .ok (.aload_n 0, 1) := by decide +kernel
theorem dX6_close_47 : decode cX6_close 47 = .ok (.getfield 37, 3) := by decide +kernel
theorem dX6_close_50 : decode cX6_close 50 = .ok (.aload_n 0, 1) := by decide +kernel
theorem dX6_close_51 : decode cX6_close 51 = .ok (.getfield 95, 3) := by decide +kernel
theorem dX6_close_54 : decode cX6_close 54 = .ok (.iaload, 1) := by decide +kernel
theorem dX6_close_55 : decode cX6_close 55 = .ok (.putfield 92, 3) := by decide +kernel
theorem dX6_close_58 : decode cX6_close 58 = .ok (.aload_n 0, 1) := by decide +kernel
theorem dX6_close_59 : decode cX6_close 59 = .ok (.getfield 95, 3) := by decide +kernel
theorem dX6_close_62 : decode cX6_close 62 = .ok (.ireturn, 1) := by decide +kernel
theorem dX6_equal_0 : decode cX6_equal 0 = .ok (.aload_n 0, 1) := by decide +kernel
theorem dX6_equal_1 : decode cX6_equal 1 = .ok (.iload_n 1, 1) := by decide +kernel
theorem dX6_equal_2 : decode cX6_equal 2 = .ok (.invokevirtual 77, 3) := by decide +kernel
theorem dX6_equal_5 : decode cX6_equal 5 = .ok (.ifCond .eq 11, 3) := by decide +kernel
theorem dX6_equal_8 : decode cX6_equal 8 = .ok (.aload_n 0, 1) := by decide +kernel
theorem dX6_equal_9 : decode cX6_equal 9 = .ok (.iload_n 2, 1) := by decide +kernel
theorem dX6_equal_10 : decode cX6_equal 10 = .ok (.invokevirtual 77, 3) := by decide +kernel
theorem dX6_equal_13 : decode cX6_equal 13 = .ok (.ifCond .ne 6, 3) := by decide +kernel
theorem dX6_equal_16 : decode cX6_equal 16 = .ok (.bipush (-2), 2) := by decide +kernel
theorem dX6_equal_18 : decode cX6_equal 18 = .ok (.ireturn, 1) := by decide +kernel
theorem dX6_equal_19 : decode cX6_equal 19 = .ok (.aload_n 0, 1) := by decide +kernel
theorem dX6_equal_20 : decode cX6_equal 20 = .ok (.invokevirtual 85, 3) := by decide +kernel
theorem dX6_equal_23 : decode cX6_equal 23 = .ok (.aload_n 0, 1) := by decide +kernel
theorem dX6_equal_24 : decode cX6_equal 24 = .ok (.iload_n 1, 1) := by decide +kernel
theorem dX6_equal_25 : decode cX6_equal 25 = .ok (.iload_n 2, 1) := by decide +kernel
theorem dX6_equal_26 : decode cX6_equal 26 = .ok (.invokevirtual 74, 3) := by decide +kernel
theorem dX6_equal_29 : decode cX6_equal 29 = .ok (.ifCond .eq 7, 3) := by decide +kernel
theorem dX6_equal_32 : decode cX6_equal 32 = .ok (.iconst 1, 1) := by decide +kernel
theorem dX6_equal_33 : decode cX6_equal 33 = .ok (.goto 4, 3) := by decide +kernel
theorem dX6_equal_36 : decode cX6_equal 36 = .ok (.iconst 0, 1) := by decide +kernel
theorem dX6_equal_37 : decode cX6_equal 37 = .ok (.ireturn, 1) := by decide +kernel
theorem dX6_apart_0 : decode cX6_apart 0 = .ok (.aload_n 0, 1) := by decide +kernel
theorem dX6_apart_1 : decode cX6_apart 1 = .ok (.iload_n 1, 1) := by decide +kernel
theorem dX6_apart_2 : decode cX6_apart 2 = .ok (.invokevirtual 77, 3) := by decide +kernel
theorem dX6_apart_5 : decode cX6_apart 5 = .ok (.ifCond .eq 11, 3) := by decide +kernel
theorem dX6_apart_8 : decode cX6_apart 8 = .ok (.aload_n 0, 1) := by decide +kernel
theorem dX6_apart_9 : decode cX6_apart 9 = .ok (.iload_n 2, 1) := by decide +kernel
theorem dX6_apart_10 : decode cX6_apart 10 = .ok (.invokevirtual 77, 3) := by decide +kernel
theorem dX6_apart_13 : decode cX6_apart 13 = .ok (.ifCond .ne 6, 3) := by decide +kernel
theorem dX6_apart_16 : decode cX6_apart 16 = .ok (.bipush (-2), 2) := by decide +kernel
theorem dX6_apart_18 : decode cX6_apart 18 = .ok (.ireturn, 1) := by decide +kernel
theorem dX6_apart_19 : decode cX6_apart 19 = .ok (.aload_n 0, 1) := by decide +kernel
theorem dX6_apart_20 : decode cX6_apart 20 = .ok (.invokevirtual 85, 3) := by decide +kernel
theorem dX6_apart_23 : decode cX6_apart 23 = .ok (.iconst 0, 1) := by decide +kernel
theorem dX6_apart_24 : decode cX6_apart 24 = .ok (.istore_n 3, 1) := by decide +kernel
theorem dX6_apart_25 : decode cX6_apart 25 = .ok (.iload_n 3, 1) := by decide +kernel
theorem dX6_apart_26 : decode cX6_apart 26 = .ok (.aload_n 0, 1) := by decide +kernel
theorem dX6_apart_27 : decode cX6_apart 27 = .ok (.getfield 92, 3) := by decide +kernel
theorem dX6_apart_30 : decode cX6_apart 30 = .ok (.if_icmp .ge 91, 3) := by decide +kernel
theorem dX6_apart_33 : decode cX6_apart 33 = .ok (.aload_n 0, 1) := by decide +kernel
theorem dX6_apart_34 : decode cX6_apart 34 = .ok (.aload_n 0, 1) := by decide +kernel
theorem dX6_apart_35 : decode cX6_apart 35 = .ok (.getfield 25, 3) := by decide +kernel
theorem dX6_apart_38 : decode cX6_apart 38 = .ok (.iload_n 3, 1) := by decide +kernel
theorem dX6_apart_39 : decode cX6_apart 39 = .ok (.iaload, 1) := by decide +kernel
theorem dX6_apart_40 : decode cX6_apart 40 = .ok (.iload_n 1, 1) := by decide +kernel
theorem dX6_apart_41 : decode cX6_apart 41 = .ok (.invokevirtual 74, 3) := by decide +kernel
theorem dX6_apart_44 : decode cX6_apart 44 = .ok (.ifCond .eq 21, 3) := by decide +kernel
theorem dX6_apart_47 : decode cX6_apart 47 = .ok (.aload_n 0, 1) := by decide +kernel
theorem dX6_apart_48 : decode cX6_apart 48 = .ok (.aload_n 0, 1) := by decide +kernel
theorem dX6_apart_49 : decode cX6_apart 49 = .ok (.getfield 28, 3) := by decide +kernel
theorem dX6_apart_52 : decode cX6_apart 52 = .ok (.iload_n 3, 1) := by decide +kernel
theorem dX6_apart_53 : decode cX6_apart 53 = .ok (.iaload, 1) := by decide +kernel
theorem dX6_apart_54 : decode cX6_apart 54 = .ok (.iload_n 2, 1) := by decide +kernel
theorem dX6_apart_55 : decode cX6_apart 55 = .ok (.invokevirtual 74, 3) := by decide +kernel
theorem dX6_apart_58 : decode cX6_apart 58 = .ok (.ifCond .eq 7, 3) := by decide +kernel
theorem dX6_apart_61 : decode cX6_apart 61 = .ok (.iconst 1, 1) := by decide +kernel
theorem dX6_apart_62 : decode cX6_apart 62 = .ok (.goto 4, 3) := by decide +kernel
theorem dX6_apart_65 : decode cX6_apart 65 = .ok (.iconst 0, 1) := by decide +kernel
theorem dX6_apart_66 : decode cX6_apart 66 = .ok (.istore 4, 2) := by decide +kernel
theorem dX6_apart_68 : decode cX6_apart 68 = .ok (.aload_n 0, 1) := by decide +kernel
theorem dX6_apart_69 : decode cX6_apart 69 = .ok (.aload_n 0, 1) := by decide +kernel
theorem dX6_apart_70 : decode cX6_apart 70 = .ok (.getfield 25, 3) := by decide +kernel
theorem dX6_apart_73 : decode cX6_apart 73 = .ok (.iload_n 3, 1) := by decide +kernel
theorem dX6_apart_74 : decode cX6_apart 74 = .ok (.iaload, 1) := by decide +kernel
theorem dX6_apart_75 : decode cX6_apart 75 = .ok (.iload_n 2, 1) := by decide +kernel
theorem dX6_apart_76 : decode cX6_apart 76 = .ok (.invokevirtual 74, 3) := by decide +kernel
theorem dX6_apart_79 : decode cX6_apart 79 = .ok (.ifCond .eq 21, 3) := by decide +kernel
theorem dX6_apart_82 : decode cX6_apart 82 = .ok (.aload_n 0, 1) := by decide +kernel
theorem dX6_apart_83 : decode cX6_apart 83 = .ok (.aload_n 0, 1) := by decide +kernel
theorem dX6_apart_84 : decode cX6_apart 84 = .ok (.getfield 28, 3) := by decide +kernel
theorem dX6_apart_87 : decode cX6_apart 87 = .ok (.iload_n 3, 1) := by decide +kernel
theorem dX6_apart_88 : decode cX6_apart 88 = .ok (.iaload, 1) := by decide +kernel
theorem dX6_apart_89 : decode cX6_apart 89 = .ok (.iload_n 1, 1) := by decide +kernel
theorem dX6_apart_90 : decode cX6_apart 90 = .ok (.invokevirtual 74, 3) := by decide +kernel
theorem dX6_apart_93 : decode cX6_apart 93 = .ok (.ifCond .eq 7, 3) := by decide +kernel
theorem dX6_apart_96 : decode cX6_apart 96 = .ok (.iconst 1, 1) := by decide +kernel
theorem dX6_apart_97 : decode cX6_apart 97 = .ok (.goto 4, 3) := by decide +kernel
theorem dX6_apart_100 : decode cX6_apart 100 = .ok (.iconst 0, 1) := by decide +kernel
theorem dX6_apart_101 : decode cX6_apart 101 = .ok (.istore 5, 2) := by decide +kernel
theorem dX6_apart_103 : decode cX6_apart 103 = .ok (.iload 4, 2) := by decide +kernel
theorem dX6_apart_105 : decode cX6_apart 105 = .ok (.ifCond .ne 8, 3) := by decide +kernel
theorem dX6_apart_108 : decode cX6_apart 108 = .ok (.iload 5, 2) := by decide +kernel
theorem dX6_apart_110 : decode cX6_apart 110 = .ok (.ifCond .eq 5, 3) := by decide +kernel
theorem dX6_apart_113 : decode cX6_apart 113 = .ok (.iconst 1, 1) := by decide +kernel
theorem dX6_apart_114 : decode cX6_apart 114 = .ok (.ireturn, 1) := by decide +kernel
theorem dX6_apart_115 : decode cX6_apart 115 = .ok (.iinc 3 1, 3) := by decide +kernel
theorem dX6_apart_118 : decode cX6_apart 118 = .ok (.goto (-93), 3) := by decide +kernel
theorem dX6_apart_121 : decode cX6_apart 121 = .ok (.iconst 0, 1) := by decide +kernel
theorem dX6_apart_122 : decode cX6_apart 122 = .ok (.ireturn, 1) := by decide +kernel
theorem dX6_consistent_0 : decode cX6_consistent 0 = .ok (.aload_n 0, 1) := by decide +kernel
theorem dX6_consistent_1 : decode cX6_consistent 1 = .ok (.invokevirtual 85, 3) := by decide +kernel
theorem dX6_consistent_4 : decode cX6_consistent 4 = .ok (.iconst 1, 1) := by decide +kernel
theorem dX6_consistent_5 : decode cX6_consistent 5 = .ok (.istore_n 1, 1) := by decide +kernel
theorem dX6_consistent_6 : decode cX6_consistent 6 = .ok (.iconst 0, 1) := by decide +kernel
theorem dX6_consistent_7 : decode cX6_consistent 7 = .ok (.istore_n 2, 1) := by decide +kernel
