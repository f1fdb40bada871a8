theorem dX5_init_0 : decode cX5_init 0 = .ok (.aload_n 0, 1) := by decide +kernel
theorem dX5_init_1 : decode cX5_init 1 = .ok (.invokespecial 1, 3) := by decide +kernel
theorem dX5_init_4 : decode cX5_init 4 = .ok (.aload_n 0, 1) := by decide +kernel
theorem dX5_init_5 : decode cX5_init 5 = .ok (.new 7, 3) := by decide +kernel
theorem dX5_init_8 : decode cX5_init 8 = .ok (.dup, 1) := by decide +kernel
theorem dX5_init_9 : decode cX5_init 9 = .ok (.invokespecial 9, 3) := by decide +kernel
theorem dX5_init_12 : decode cX5_init 12 = .ok (.putfield 10, 3) := by decide +kernel
theorem dX5_init_15 : decode cX5_init 15 = .ok (.aload_n 0, 1) := by decide +kernel
theorem dX5_init_16 : decode cX5_init 16 = .ok (.new 16, 3) := by decide +kernel
theorem dX5_init_19 : decode cX5_init 19 = .ok (.dup, 1) := by decide +kernel
theorem dX5_init_20 : decode cX5_init 20 = .ok (.bipush 24, 2) := by decide +kernel
theorem dX5_init_22 : decode cX5_init 22 = .ok (.invokespecial 18, 3) := by decide +kernel
theorem dX5_init_25 : decode cX5_init 25 = .ok (.putfield 21, 3) := by decide +kernel
theorem dX5_init_28 : decode cX5_init 28 = .ok (.aload_n 0, 1) := by decide +kernel
theorem dX5_init_29 : decode cX5_init 29 = .ok (.new 16, 3) := by decide +kernel
theorem dX5_init_32 : decode cX5_init 32 = .ok (.dup, 1) := by decide +kernel
theorem dX5_init_33 : decode cX5_init 33 = .ok (.bipush 16, 2) := by decide +kernel
theorem dX5_init_35 : decode cX5_init 35 = .ok (.invokespecial 18, 3) := by decide +kernel
theorem dX5_init_38 : decode cX5_init 38 = .ok (.putfield 25, 3) := by decide +kernel
theorem dX5_init_41 : decode cX5_init 41 = .ok (.aload_n 0, 1) := by decide +kernel
theorem dX5_init_42 : decode cX5_init 42 = .ok (.new 28, 3) := by decide +kernel
theorem dX5_init_45 : decode cX5_init 45 = .ok (.dup, 1) := by decide +kernel
theorem dX5_init_46 : decode cX5_init 46 = .ok (.invokespecial 30, 3) := by decide +kernel
theorem dX5_init_49 : decode cX5_init 49 = .ok (.putfield 31, 3) := by decide +kernel
theorem dX5_init_52 : decode cX5_init 52 = .ok (.aload_n 0, 1) := by decide +kernel
theorem dX5_init_53 : decode cX5_init 53 = .ok (.new 35, 3) := by decide +kernel
theorem dX5_init_56 : decode cX5_init 56 = .ok (.dup, 1) := by decide +kernel
theorem dX5_init_57 : decode cX5_init 57 = .ok (.invokespecial 37, 3) := by decide +kernel
theorem dX5_init_60 : decode cX5_init 60 = .ok (.putfield 38, 3) := by decide +kernel
theorem dX5_init_63 : decode cX5_init 63 = .ok (.aload_n 0, 1) := by decide +kernel
theorem dX5_init_64 : decode cX5_init 64 = .ok (.new 35, 3) := by decide +kernel
theorem dX5_init_67 : decode cX5_init 67 = .ok (.dup, 1) := by decide +kernel
theorem dX5_init_68 : decode cX5_init 68 = .ok (.invokespecial 37, 3) := by decide +kernel
theorem dX5_init_71 : decode cX5_init 71 = .ok (.putfield 42, 3) := by decide +kernel
theorem dX5_init_74 : decode cX5_init 74 = .ok (.aload_n 0, 1) := by decide +kernel
theorem dX5_init_75 : decode cX5_init 75 = .ok (.new 45, 3) := by decide +kernel
theorem dX5_init_78 : decode cX5_init 78 = .ok (.dup, 1) := by decide +kernel
theorem dX5_init_79 : decode cX5_init 79 = .ok (.invokespecial 47, 3) := by decide +kernel
theorem dX5_init_82 : decode cX5_init 82 = .ok (.putfield 48, 3) := by decide +kernel
theorem dX5_init_85 : decode cX5_init 85 = .ok (.return_, 1) := by decide +kernel
theorem dX5_make_0 : decode cX5_make 0 = .ok (.aload_n 0, 1) := by decide +kernel
theorem dX5_make_1 : decode cX5_make 1 = .ok (.iload_n 1, 1) := by decide +kernel
theorem dX5_make_2 : decode cX5_make 2 = .ok (.iload_n 2, 1) := by decide +kernel
theorem dX5_make_3 : decode cX5_make 3 = .ok (.iload_n 3, 1) := by decide +kernel
theorem dX5_make_4 : decode cX5_make 4 = .ok (.invokevirtual 52, 3) := by decide +kernel
theorem dX5_make_7 : decode cX5_make 7 = .ok (.ifCond .ne 6, 3) := by decide +kernel
theorem dX5_make_10 : decode cX5_make 10 = .ok (.bipush (-2), 2) := by decide +kernel
theorem dX5_make_12 : decode cX5_make 12 = .ok (.ireturn, 1) := by decide +kernel
theorem dX5_make_13 : decode cX5_make 13 = .ok (.aload_n 0, 1) := by decide +kernel
theorem dX5_make_14 : decode cX5_make 14 = .ok (.getfield 10, 3) := by decide +kernel
theorem dX5_make_17 : decode cX5_make 17 = .ok (.iload_n 1, 1) := by decide +kernel
theorem dX5_make_18 : decode cX5_make 18 = .ok (.iload_n 2, 1) := by decide +kernel
theorem dX5_make_19 : decode cX5_make 19 = .ok (.iload_n 3, 1) := by decide +kernel
theorem dX5_make_20 : decode cX5_make 20 = .ok (.invokevirtual 56, 3) := by decide +kernel
theorem dX5_make_23 : decode cX5_make 23 = .ok (.istore 4, 2) := by decide +kernel
theorem dX5_make_25 : decode cX5_make 25 = .ok (.iload 4, 2) := by decide +kernel
theorem dX5_make_27 : decode cX5_make 27 = .ok (.iconst (-1), 1) := by decide +kernel
theorem dX5_make_28 : decode cX5_make 28 = .ok (.if_icmp .eq 6, 3) := by decide +kernel
theorem dX5_make_31 : decode cX5_make 31 = .ok (.iload 4, 2) := by decide +kernel
theorem dX5_make_33 : decode cX5_make 33 = .ok (.ireturn, 1) := by decide +kernel
theorem dX5_make_34 : decode cX5_make 34 = .ok (.aload_n 0, 1) := by decide +kernel
theorem dX5_make_35 : decode cX5_make 35 = .ok (.getfield 10, 3) := by decide +kernel
theorem dX5_make_38 : decode cX5_make 38 = .ok (.getfield 60, 3) := by decide +kernel
theorem dX5_make_41 : decode cX5_make 41 = .ok (.bipush 40, 2) := by decide +kernel
theorem dX5_make_43 : decode cX5_make 43 = .ok (.if_icmp .lt 6, 3) := by decide +kernel
theorem dX5_make_46 : decode cX5_make 46 = .ok (.bipush (-3), 2) := by decide +kernel
theorem dX5_make_48 : decode cX5_make 48 = .ok (.ireturn, 1) := by decide +kernel
theorem dX5_make_49 : decode cX5_make 49 = .ok (.aload_n 0, 1) := by decide +kernel
theorem dX5_make_50 : decode cX5_make 50 = .ok (.getfield 10, 3) := by decide +kernel
theorem dX5_make_53 : decode cX5_make 53 = .ok (.iload_n 1, 1) := by decide +kernel
theorem dX5_make_54 : decode cX5_make 54 = .ok (.iload_n 2, 1) := by decide +kernel
theorem dX5_make_55 : decode cX5_make 55 = .ok (.iload_n 3, 1) := by decide +kernel
theorem dX5_make_56 : decode cX5_make 56 = .ok (.invokevirtual 64, 3) := by decide +kernel
theorem dX5_make_59 : decode cX5_make 59 = .ok (.istore 5, 2) := by decide +kernel
theorem dX5_make_61 : decode cX5_make 61 = .ok (.aload_n 0, 1) := by decide +kernel
theorem dX5_make_62 : decode cX5_make 62 = .ok (.invokevirtual 67, 3) := by decide +kernel
theorem dX5_make_65 : decode cX5_make 65 = .ok (.iload 5, 2) := by decide +kernel
theorem dX5_make_67 : decode cX5_make 67 = .ok (.ireturn, 1) := by decide +kernel
theorem dX5_equate_0 : decode cX5_equate 0 = .ok (.aload_n 0, 1) := by decide +kernel
theorem dX5_equate_1 : decode cX5_equate 1 = .ok (.iload_n 1, 1) := by decide +kernel
theorem dX5_equate_2 : decode cX5_equate 2 = .ok (.iload_n 2, 1) := by decide +kernel
theorem dX5_equate_3 : decode cX5_equate 3 = .ok (.invokevirtual 70, 3) := by decide +kernel
theorem dX5_equate_6 : decode cX5_equate 6 = .ok (.ifCond .ne 6, 3) := by decide +kernel
theorem dX5_equate_9 : decode cX5_equate 9 = .ok (.bipush (-2), 2) := by decide +kernel
theorem dX5_equate_11 : decode cX5_equate 11 = .ok (.ireturn, 1) := by decide +kernel
theorem dX5_equate_12 : decode cX5_equate 12 = .ok (.aload_n 0, 1) := by decide +kernel
theorem dX5_equate_13 : decode cX5_equate 13 = .ok (.getfield 21, 3) := by decide +kernel
theorem dX5_equate_16 : decode cX5_equate 16 = .ok (.invokevirtual 74, 3) := by decide +kernel
theorem dX5_equate_19 : decode cX5_equate 19 = .ok (.ifCond .eq 6, 3) := by decide +kernel
theorem dX5_equate_22 : decode cX5_equate 22 = .ok (.bipush (-3), 2) := by decide +kernel
theorem dX5_equate_24 : decode cX5_equate 24 = .ok (.ireturn, 1) := by decide +kernel
theorem dX5_equate_25 : decode cX5_equate 25 = .ok (.aload_n 0, 1) := by decide +kernel
theorem dX5_equate_26 : decode cX5_equate 26 = .ok (.getfield 38, 3) := by decide +kernel
theorem dX5_equate_29 : decode cX5_equate 29 = .ok (.aload_n 0, 1) := by decide +kernel
theorem dX5_equate_30 : decode cX5_equate 30 = .ok (.getfield 10, 3) := by decide +kernel
theorem dX5_equate_33 : decode cX5_equate 33 = .ok (.getfield 60, 3) := by decide +kernel
theorem dX5_equate_36 : decode cX5_equate 36 = .ok (.invokevirtual 78, 3) := by decide +kernel
theorem dX5_equate_39 : decode cX5_equate 39 = .ok (.istore_n 3, 1) := by decide +kernel
theorem dX5_equate_40 : decode cX5_equate 40 = .ok (.aload_n 0, 1) := by decide +kernel
theorem dX5_equate_41 : decode cX5_equate 41 = .ok (.getfield 21, 3) := by decide +kernel
theorem dX5_equate_44 : decode cX5_equate 44 = .ok (.iload_n 1, 1) := by decide +kernel
theorem dX5_equate_45 : decode cX5_equate 45 = .ok (.iload_n 2, 1) := by decide +kernel
theorem dX5_equate_46 : decode cX5_equate 46 = .ok (.invokevirtual 82, 3) := by decide +kernel
theorem dX5_equate_49 : decode cX5_equate 49 = .ok (.pop, 1) := by decide +kernel
theorem dX5_equate_50 : decode cX5_equate 50 = .ok (.aload_n 0, 1) := by decide +kernel
theorem dX5_equate_51 : decode cX5_equate 51 = .ok (.invokevirtual 67, 3) := by decide +kernel
theorem dX5_equate_54 : decode cX5_equate 54 = .ok (.iload_n 3, 1) := by decide +kernel
theorem dX5_equate_55 : decode cX5_equate 55 = .ok (.aload_n 0, 1) := by decide +kernel
theorem dX5_equate_56 : decode cX5_equate 56 = .ok (.getfield 38, 3) := by decide +kernel
theorem dX5_equate_59 : decode cX5_equate 59 = .ok (.aload_n 0, 1) := by decide +kernel
theorem dX5_equate_60 : decode cX5_equate 60 = .ok (.getfield 10, 3) := by decide +kernel
theorem dX5_equate_63 : decode cX5_equate 63 = .ok (.getfield 60, 3) := by decide +kernel
theorem dX5_equate_66 : decode cX5_equate 66 = .ok (.invokevirtual 78, 3) := by decide +kernel
theorem dX5_equate_69 : decode cX5_equate 69 = .ok (.isub, 1) := by decide +kernel
theorem dX5_equate_70 : decode cX5_equate 70 = .ok (.ireturn, 1) := by decide +kernel
theorem dX5_differ_0 : decode cX5_differ 0 = .ok (.aload_n 0, 1) := by decide +kernel
theorem dX5_differ_1 : decode cX5_differ 1 = .ok (.iload_n 1, 1) := by decide +kernel
theorem dX5_differ_2 : decode cX5_differ 2 = .ok (.iload_n 2, 1) := by decide +kernel
theorem dX5_differ_3 : decode cX5_differ 3 = .ok (.invokevirtual 70, 3) := by decide +kernel
theorem dX5_differ_6 : decode cX5_differ 6 = .ok (.ifCond .ne 6, 3) := by decide +kernel
theorem dX5_differ_9 : decode cX5_differ 9 = .ok (.bipush (-2), 2) := by decide +kernel
theorem dX5_differ_11 : decode cX5_differ 11 = .ok (.ireturn, 1) := by decide +kernel
theorem dX5_differ_12 : decode cX5_differ 12 = .ok (.aload_n 0, 1) := by decide +kernel
theorem dX5_differ_13 : decode cX5_differ 13 = .ok (.getfield 25, 3) := by decide +kernel
theorem dX5_differ_16 : decode cX5_differ 16 = .ok (.invokevirtual 74, 3) := by decide +kernel
theorem dX5_differ_19 : decode cX5_differ 19 = .ok (.ifCond .eq 6, 3) := by decide +kernel
theorem dX5_differ_22 : decode cX5_differ 22 = .ok (.bipush (-3), 2) := by decide +kernel
theorem dX5_differ_24 : decode cX5_differ 24 = .ok (.ireturn, 1) := by decide +kernel
theorem dX5_differ_25 : decode cX5_differ 25 = .ok (.aload_n 0, 1) := by decide +kernel
theorem dX5_differ_26 : decode cX5_differ 26 = .ok (.getfield 25, 3) := by decide +kernel
theorem dX5_differ_29 : decode cX5_differ 29 = .ok (.iload_n 1, 1) := by decide +kernel
theorem dX5_differ_30 : decode cX5_differ 30 = .ok (.iload_n 2, 1) := by decide +kernel
theorem dX5_differ_31 : decode cX5_differ 31 = .ok (.invokevirtual 82, 3) := by decide +kernel
theorem dX5_differ_34 : decode cX5_differ 34 = .ok (.ireturn, 1) := by decide +kernel
theorem dX5_open_0 : decode cX5_open 0 = .ok (.aload_n 0, 1) := by decide +kernel
theorem dX5_open_1 : decode cX5_open 1 = .ok (.getfield 31, 3) := by decide +kernel
theorem dX5_open_4 : decode cX5_open 4 = .ok (.getfield 85, 3) := by decide +kernel
theorem dX5_open_7 : decode cX5_open 7 = .ok (.bipush 6, 2) := by decide +kernel
theorem dX5_open_9 : decode cX5_open 9 = .ok (.if_icmp .lt 6, 3) := by decide +kernel
theorem dX5_open_12 : decode cX5_open 12 = .ok (.bipush (-3), 2) := by decide +kernel
theorem dX5_open_14 : decode cX5_open 14 = .ok (.ireturn, 1) := by decide +kernel
theorem dX5_open_15 : decode cX5_open 15 = .ok (.aload_n 0, 1) := by decide +kernel
theorem dX5_open_16 : decode cX5_open 16 = .ok (.getfield 31, 3) := by decide +kernel
theorem dX5_open_19 : decode cX5_open 19 = .ok (.aload_n 0, 1) := by decide +kernel
theorem dX5_open_20 : decode cX5_open 20 = .ok (.getfield 10, 3) := by decide +kernel
theorem dX5_open_23 : decode cX5_open 23 = .ok (.getfield 60, 3) := by decide +kernel
theorem dX5_open_26 : decode cX5_open 26 = .ok (.aload_n 0, 1) := by decide +kernel
theorem dX5_open_27 : decode cX5_open 27 = .ok (.getfield 21, 3) := by decide +kernel
theorem dX5_open_30 : decode cX5_open 30 = .ok (.getfield 88, 3) := by decide +kernel
theorem dX5_open_33 : decode cX5_open 33 = .ok (.aload_n 0, 1) := by decide +kernel
theorem dX5_open_34 : decode cX5_open 34 = .ok (.getfield 25, 3) := by decide +kernel
theorem dX5_open_37 : decode cX5_open 37 = .ok (.getfield 88, 3) := by decide +kernel
theorem dX5_open_40 : decode cX5_open 40 = .ok (.invokevirtual 89, 3) := by decide +kernel
theorem dX5_open_43 : decode cX5_open 43 = .ok (.aload_n 0, 1) := by decide +kernel
theorem dX5_open_44 : decode cX5_open 44 = .ok (.getfield 31, 3) := by decide +kernel
theorem dX5_open_47 : decode cX5_open 47 = .ok (.getfield 85, 3) := by decide +kernel
theorem dX5_open_50 : decode cX5_open 50 = .ok (.ireturn, 1) := by decide +kernel
theorem dX5_close_0 : decode cX5_close 0 = .ok (.aload_n 0, 1) := by decide +kernel
theorem dX5_close_1 : decode cX5_close 1 = .ok (.getfield 31, 3) := by decide +kernel
theorem dX5_close_4 : decode cX5_close 4 = .ok (.getfield 85, 3) := by decide +kernel
theorem dX5_close_7 : decode cX5_close 7 = .ok (.ifCond .gt 5, 3) := by decide +kernel
theorem dX5_close_10 : decode cX5_close 10 = .ok (.iconst (-1), 1) := by decide +kernel
theorem dX5_close_11 : decode cX5_close 11 = .ok (.ireturn, 1) := by decide +kernel
theorem dX5_close_12 : decode cX5_close 12 = .ok (.aload_n 0, 1) := by decide +kernel
theorem dX5_close_13 : decode cX5_close 13 = .ok (.getfield 31, 3) := by decide +kernel
theorem dX5_close_16 : decode cX5_close 16 = .ok (.dup, 1) := by decide +kernel
theorem dX5_close_17 : decode cX5_close 17 = .ok (.getfield 85, 3) := by decide +kernel
theorem dX5_close_20 : decode cX5_close 20 = .ok (.iconst 1, 1) := by decide +kernel
theorem dX5_close_21 : decode cX5_close 21 = .ok (.isub, 1) := by decide +kernel
theorem dX5_close_22 : decode cX5_close 22 = .ok (.putfield 85, 3) := by decide +kernel
theorem dX5_close_25 : decode cX5_close 25 = .ok (.aload_n 0, 1) := by decide +kernel
theorem dX5_close_26 : decode cX5_close 26 = .ok (.getfield 10, 3) := by decide +kernel
theorem dX5_close_29 : decode cX5_close 29 = .ok (.aload_n 0, 1) := by decide +kernel
theorem dX5_close_30 : decode cX5_close 30 = .ok (.getfield 31, 3) := by decide +kernel
theorem dX5_close_33 : decode cX5_close 33 = .ok (.getfield 93, 3) := by decide +kernel
theorem dX5_close_36 : decode cX5_close 36 = .ok (.aload_n 0, 1) := by decide +kernel
theorem dX5_close_37 : decode cX5_close 37 = .ok (.getfield 31, 3) := by decide +kernel
theorem dX5_close_40 : decode cX5_close 40 = .ok (.getfield 85, 3) := by decide +kernel
theorem dX5_close_43 : decode cX5_close 43 = .ok (.iaload, 1) := by decide +kernel
theorem dX5_close_44 : decode cX5_close 44 = .ok (.putfield 60, 3) := by decide +kernel
theorem dX5_close_47 : decode cX5_close 47 = .ok (.aload_n 0, 1) := by decide +kernel
theorem dX5_close_48 : decode cX5_close 48 = .ok (.getfield 21, 3) := by decide +kernel
theorem dX5_close_51 : decode cX5_close 51 = .ok (.aload_n 0, 1) := by decide +kernel
theorem dX5_close_52 : decode cX5_close 52 = .ok (.getfield 31, 3) := by decide +kernel
theorem dX5_close_55 : decode cX5_close 55 = .ok (.getfield 97, 3) := by decide +kernel
theorem dX5_close_58 : decode cX5_close 58 = .ok (.aload_n 0, 1) := by decide +kernel
theorem dX5_close_59 : decode cX5_close 59 = .ok (.getfield 31, 3) := by decide +kernel
theorem dX5_close_62 : decode cX5_close 62 = .ok (.getfield 85, 3) := by decide +kernel
theorem dX5_close_65 : decode cX5_close 65 = .ok (.iaload, 1) := by decide +kernel
theorem dX5_close_66 : decode cX5_close 66 = .ok (.putfield 88, 3) := by decide +kernel
theorem dX5_close_69 : decode cX5_close 69 = .ok (.aload_n 0, 1) := by decide +kernel
theorem dX5_close_70 : decode cX5_close 70 = .ok (.getfield 25, 3) := by decide +kernel
theorem dX5_close_73 : decode cX5_close 73 = .ok (.aload_n 0, 1) := by decide +kernel
theorem dX5_close_74 : decode cX5_close 74 = .ok (.getfield 31, 3) := by decide +kernel
theorem dX5_close_77 : decode cX5_close 77 = .ok (.getfield 100, 3) := by decide +kernel
theorem dX5_close_80 : decode cX5_close 80 = .ok (.aload_n 0, 1) := by decide +kernel
theorem dX5_close_81 : decode cX5_close 81 = .ok (.getfield 31, 3) := by decide +kernel
theorem dX5_close_84 : decode cX5_close 84 = .ok (.getfield 85, 3) := by decide +kernel
theorem dX5_close_87 : decode cX5_close 87 = .ok (.iaload, 1) := by decide +kernel
theorem dX5_close_88 : decode cX5_close 88 = .ok (.putfield 88, 3) := by decide +kernel
theorem dX5_close_91 : decode cX5_close 91 = .ok (.aload_n 0, 1) := by decide +kernel
theorem dX5_close_92 : decode cX5_close 92 = .ok (.invokevirtual 67, 3) := by decide +kernel
theorem dX5_close_95 : decode cX5_close 95 = .ok (.aload_n 0, 1) := by decide +kernel
theorem dX5_close_96 : decode cX5_close 96 = .ok (.getfield 31, 3) := by decide +kernel
theorem dX5_close_99 : decode cX5_close 99 = .ok (.getfield 85, 3) := by decide +kernel
theorem dX5_close_102 : decode cX5_close 102 = .ok (.ireturn, 1) := by decide +kernel
theorem dX5_equal_0 : decode cX5_equal 0 = .ok (.aload_n 0, 1) := by decide +kernel
theorem dX5_equal_1 : decode cX5_equal 1 = .ok (.iload_n 1, 1) := by decide +kernel
theorem dX5_equal_2 : decode cX5_equal 2 = .ok (.iload_n 2, 1) := by decide +kernel
theorem dX5_equal_3 : decode cX5_equal 3 = .ok (.invokevirtual 70, 3) := by decide +kernel
theorem dX5_equal_6 : decode cX5_equal 6 = .ok (.ifCond .ne 6, 3) := by decide +kernel
theorem dX5_equal_9 : decode cX5_equal 9 = .ok (.bipush (-2), 2) := by decide +kernel
theorem dX5_equal_11 : decode cX5_equal 11 = .ok (.ireturn, 1) := by decide +kernel
theorem dX5_equal_12 : decode cX5_equal 12 = .ok (.aload_n 0, 1) := by decide +kernel
theorem dX5_equal_13 : decode cX5_equal 13 = .ok (.getfield 38, 3) := by decide +kernel
theorem dX5_equal_16 : decode cX5_equal 16 = .ok (.iload_n 1, 1) := by decide +kernel
theorem dX5_equal_17 : decode cX5_equal 17 = .ok (.iload_n 2, 1) := by decide +kernel
theorem dX5_equal_18 : decode cX5_equal 18 = .ok (.invokevirtual 103, 3) := by decide +kernel
theorem dX5_equal_21 : decode cX5_equal 21 = .ok (.ifCond .eq 7, 3) := by decide +kernel
theorem dX5_equal_24 : decode cX5_equal 24 = .ok (.iconst 1, 1) := by decide +kernel
theorem dX5_equal_25 : decode cX5_equal 25 = .ok (.goto 4, 3) := by decide +kernel
theorem dX5_equal_28 : decode cX5_equal 28 = .ok (.iconst 0, 1) := by decide +kernel
theorem dX5_equal_29 : decode cX5_equal 29 = .ok (.ireturn, 1) := by decide +kernel
theorem dX5_apart_0 : decode cX5_apart 0 = .ok (.aload_n 0, 1) := by decide +kernel
theorem dX5_apart_1 : decode cX5_apart 1 = .ok (.iload_n 1, 1) := by decide +kernel
theorem dX5_apart_2 : decode cX5_apart 2 = .ok (.iload_n 2, 1) := by decide +kernel
theorem dX5_apart_3 : decode cX5_apart 3 = .ok (.invokevirtual 70, 3) := by decide +kernel
theorem dX5_apart_6 : decode cX5_apart 6 = .ok (.ifCond .ne 6, 3) := by decide +kernel
theorem dX5_apart_9 : decode cX5_apart 9 = .ok (.bipush (-2), 2) := by decide +kernel
theorem dX5_apart_11 : decode cX5_apart 11 = .ok (.ireturn, 1) := by decide +kernel
theorem dX5_apart_12 : decode cX5_apart 12 = .ok (.iconst 0, 1) := by decide +kernel
theorem dX5_apart_13 : decode cX5_apart 13 = .ok (.istore_n 3, 1) := by decide +kernel
theorem dX5_apart_14 : decode cX5_apart 14 = .ok (.iload_n 3, 1) := by decide +kernel
theorem dX5_apart_15 : decode cX5_apart 15 = .ok (.aload_n 0, 1) := by decide +kernel
theorem dX5_apart_16 : decode cX5_apart 16 = .ok (.getfield 25, 3) := by decide +kernel
theorem dX5_apart_19 : decode cX5_apart 19 = .ok (.getfield 88, 3) := by decide +kernel
theorem dX5_apart_22 : decode cX5_apart 22 = .ok (.if_icmp .ge 109, 3) := by decide +kernel
theorem dX5_apart_25 : decode cX5_apart 25 = .ok (.aload_n 0, 1) := by decide +kernel
theorem dX5_apart_26 : decode cX5_apart 26 = .ok (.getfield 25, 3) := by decide +kernel
theorem dX5_apart_29 : decode cX5_apart 29 = .ok (.getfield 106, 3) := by decide +kernel
theorem dX5_apart_32 : decode cX5_apart 32 = .ok (.iload_n 3, 1) := by decide +kernel
theorem dX5_apart_33 : decode cX5_apart 33 = .ok (.iaload, 1) := by decide +kernel
theorem dX5_apart_34 : decode cX5_apart 34 = .ok (.istore 4, 2) := by decide +kernel
theorem dX5_apart_36 : decode cX5_apart 36 = .ok (.aload_n 0, 1) := by decide +kernel
theorem dX5_apart_37 : decode cX5_apart 37 = .ok (.getfield 25, 3) := by decide +kernel
theorem dX5_apart_40 : decode cX5_apart 40 = .ok (.getfield 109, 3) := by decide +kernel
theorem dX5_apart_43 : decode cX5_apart 43 = .ok (.iload_n 3, 1) := by decide +kernel
theorem dX5_apart_44 : decode cX5_apart 44 = .ok (.iaload, 1) := by decide +kernel
theorem dX5_apart_45 : decode cX5_apart 45 = .ok (.istore 5, 2) := by decide +kernel
theorem dX5_apart_47 : decode cX5_apart 47 = .ok (.aload_n 0, 1) := by decide +kernel
theorem dX5_apart_48 : decode cX5_apart 48 = .ok (.getfield 38, 3) := by decide +kernel
theorem dX5_apart_51 : decode cX5_apart 51 = .ok (.iload 4, 2) := by decide +kernel
theorem dX5_apart_53 : decode cX5_apart 53 = .ok (.iload_n 1, 1) := by decide +kernel
theorem dX5_apart_54 : decode cX5_apart 54 = .ok (.invokevirtual 103, 3) := by decide +kernel
theorem dX5_apart_57 : decode cX5_apart 57 = .ok (.ifCond .eq 20, 3) := by decide +kernel
theorem dX5_apart_60 : decode cX5_apart 60 = .ok (.aload_n 0, 1) := by decide +kernel
theorem dX5_apart_61 : decode cX5_apart 61 = .ok (.getfield 38, 3) := by decide +kernel
theorem dX5_apart_64 : decode cX5_apart 64 = .ok (.iload 5, 2) := by decide +kernel
theorem dX5_apart_66 : decode cX5_apart 66 = .ok (.iload_n 2, 1) := by decide +kernel
theorem dX5_apart_67 : decode cX5_apart 67 = .ok (.invokevirtual 103, 3) := by decide +kernel
theorem dX5_apart_70 : decode cX5_apart 70 = .ok (.ifCond .eq 7, 3) := by decide +kernel
theorem dX5_apart_73 : decode cX5_apart 73 = .ok (.iconst 1, 1) := by decide +kernel
theorem dX5_apart_74 : decode cX5_apart 74 = .ok (.goto 4, 3) := by decide +kernel
theorem dX5_apart_77 : decode cX5_apart 77 = .ok (.iconst 0, 1) := by decide +kernel
theorem dX5_apart_78 : decode cX5_apart 78 = .ok (.istore 6, 2) := by decide +kernel
theorem dX5_apart_80 : decode cX5_apart 80 = .ok (.aload_n 0, 1) := by decide +kernel
theorem dX5_apart_81 : decode cX5_apart 81 = .ok (.getfield 38, 3) := by decide +kernel
theorem dX5_apart_84 : decode cX5_apart 84 = .ok (.iload 4, 2) := by decide +kernel
theorem dX5_apart_86 : decode cX5_apart 86 = .ok (.iload_n 2, 1) := by decide +kernel
theorem dX5_apart_87 : decode cX5_apart 87 = .ok (.invokevirtual 103, 3) := by decide +kernel
theorem dX5_apart_90 : decode cX5_apart 90 = .ok (.ifCond .eq 20, 3) := by decide +kernel
theorem dX5_apart_93 : decode cX5_apart 93 = .ok (.aload_n 0, 1) := by decide +kernel
theorem dX5_apart_94 : decode cX5_apart 94 = .ok (.getfield 38, 3) := by decide +kernel
theorem dX5_apart_97 : decode cX5_apart 97 = .ok (.iload 5, 2) := by decide +kernel
theorem dX5_apart_99 : decode cX5_apart 99 = .ok (.iload_n 1, 1) := by decide +kernel
theorem dX5_apart_100 : decode cX5_apart 100 = .ok (.invokevirtual 103, 3) := by decide +kernel
theorem dX5_apart_103 : decode cX5_apart 103 = .ok (.ifCond .eq 7, 3) := by decide +kernel
theorem dX5_apart_106 : decode cX5_apart 106 = .ok (.iconst 1, 1) := by decide +kernel
theorem dX5_apart_107 : decode cX5_apart 107 = .ok (.goto 4, 3) := by decide +kernel
theorem dX5_apart_110 : decode cX5_apart 110 = .ok (.iconst 0, 1) := by decide +kernel
theorem dX5_apart_111 : decode cX5_apart 111 = .ok (.istore 7, 2) := by decide +kernel
theorem dX5_apart_113 : decode cX5_apart 113 = .ok (.iload 6, 2) := by decide +kernel
theorem dX5_apart_115 : decode cX5_apart 115 = .ok (.ifCond .ne 8, 3) := by decide +kernel
theorem dX5_apart_118 : decode cX5_apart 118 = .ok (.iload 7, 2) := by decide +kernel
theorem dX5_apart_120 : decode cX5_apart 120 = .ok (.ifCond .eq 5, 3) := by decide +kernel
theorem dX5_apart_123 : decode cX5_apart 123 = .ok (.iconst 1, 1) := by decide +kernel
theorem dX5_apart_124 : decode cX5_apart 124 = .ok (.ireturn, 1) := by decide +kernel
theorem dX5_apart_125 : decode cX5_apart 125 = .ok (.iinc 3 1, 3) := by decide +kernel
theorem dX5_apart_128 : decode cX5_apart 128 = .ok (.goto (-114), 3) := by decide +kernel
theorem dX5_apart_131 : decode cX5_apart 131 = .ok (.iconst 0, 1) := by decide +kernel
theorem dX5_apart_132 : decode cX5_apart 132 = .ok (.ireturn, 1) := by decide +kernel
theorem dX5_consistent_0 : decode cX5_consistent 0 = .ok (.iconst 0, 1) := by decide +kernel
theorem dX5_consistent_1 : decode cX5_consistent 1 = .ok (.istore_n 1, 1) := by decide +kernel
theorem dX5_consistent_2 : decode cX5_consistent 2 = .ok (.iload_n 1, 1) := by decide +kernel
theorem dX5_consistent_3 : decode cX5_consistent 3 = .ok (.aload_n 0, 1) := by decide +kernel
theorem dX5_consistent_4 : decode cX5_consistent 4 = .ok (.getfield 25, 3) := by decide +kernel
theorem dX5_consistent_7 : decode cX5_consistent 7 = .ok (.getfield 88, 3) := by decide +kernel
theorem dX5_consistent_10 : decode cX5_consistent 10 = .ok (.if_icmp .ge 39, 3) := by decide +kernel
theorem dX5_consistent_13 : decode cX5_consistent 13 = .ok (.aload_n 0, 1) := by decide +kernel
theorem dX5_consistent_14 : decode cX5_consistent 14 = .ok (.getfield 38, 3) := by decide +kernel
theorem dX5_consistent_17 : decode cX5_consistent 17 = .ok (.aload_n 0, 1) := by decide +kernel
theorem dX5_consistent_18 : decode cX5_consistent 18 = .ok (.getfield 25, 3) := by decide +kernel
theorem dX5_consistent_21 : decode cX5_consistent 21 = .ok (.getfield 106, 3) := by decide +kernel
theorem dX5_consistent_24 : decode cX5_consistent 24 = .ok (.iload_n 1, 1) := by decide +kernel
theorem dX5_consistent_25 : decode cX5_consistent 25 = .ok (.iaload, 1) := by decide +kernel
theorem dX5_consistent_26 : decode cX5_consistent 26 = .ok (.aload_n 0, 1) := by decide +kernel
theorem dX5_consistent_27 : decode cX5_consistent 27 = .ok (.getfield 25, 3) := by decide +kernel
theorem dX5_consistent_30 : decode cX5_consistent 30 = .ok (.getfield 109, 3) := by decide +kernel
theorem dX5_consistent_33 : decode cX5_consistent 33 = .ok (.iload_n 1, 1) := by decide +kernel
theorem dX5_consistent_34 : decode cX5_consistent 34 = .ok (.iaload, 1) := by decide +kernel
theorem dX5_consistent_35 : decode cX5_consistent 35 = .ok (.invokevirtual 103, 3) := by decide +kernel
theorem dX5_consistent_38 : decode cX5_consistent 38 = .ok (.ifCond .eq 5, 3) := by decide +kernel
theorem dX5_consistent_41 : decode cX5_consistent 41 = .ok (.iconst 0, 1) := by decide +kernel
theorem dX5_consistent_42 : decode cX5_consistent 42 = .ok (.ireturn, 1) := by decide +kernel
theorem dX5_consistent_43 : decode cX5_consistent 43 = .ok (.iinc 1 1, 3) := by decide +kernel
theorem dX5_consistent_46 : decode cX5_consistent 46 = .ok (.goto (-44), 3) := by decide +kernel
theorem dX5_consistent_49 : decode cX5_consistent 49 = .ok (.iconst 1, 1) := by decide +kernel
theorem dX5_consistent_50 : decode cX5_consistent 50 = .ok (.ireturn, 1) := by decide +kernel
theorem dX5_leader_0 : decode cX5_leader 0 = .ok (.aload_n 0, 1) := by decide +kernel
theorem dX5_leader_1 : decode cX5_leader 1 = .ok (.iload_n 1, 1) := by decide +kernel
theorem dX5_leader_2 : decode cX5_leader 2 = .ok (.invokevirtual 112, 3) := by decide +kernel
theorem dX5_leader_5 : decode cX5_leader 5 = .ok (.ifCond .eq 15, 3) := by decide +kernel
theorem dX5_leader_8 : decode cX5_leader 8 = .ok (.aload_n 0, 1) := by decide +kernel
theorem dX5_leader_9 : decode cX5_leader 9 = .ok (.getfield 38, 3) := by decide +kernel
theorem dX5_leader_12 : decode cX5_leader 12 = .ok (.getfield 116, 3) := by decide +kernel
theorem dX5_leader_15 : decode cX5_leader 15 = .ok (.iload_n 1, 1) := by decide +kernel
theorem dX5_leader_16 : decode cX5_leader 16 = .ok (.iaload, 1) := by decide +kernel
theorem dX5_leader_17 : decode cX5_leader 17 = .ok (.goto 5, 3) := by decide +kernel
theorem dX5_leader_20 : decode cX5_leader 20 = .ok (.bipush (-2), 2) := by decide +kernel
theorem dX5_leader_22 : decode cX5_leader 22 = .ok (.ireturn, 1) := by decide +kernel
theorem dX5_members_0 : decode cX5_members 0 = .ok (.aload_n 0, 1) := by decide +kernel
theorem dX5_members_1 : decode cX5_members 1 = .ok (.iload_n 1, 1) := by decide +kernel
theorem dX5_members_2 : decode cX5_members 2 = .ok (.invokevirtual 112, 3) := by decide +kernel
theorem dX5_members_5 : decode cX5_members 5 = .ok (.ifCond .ne 6, 3) := by decide +kernel
theorem dX5_members_8 : decode cX5_members 8 = .ok (.bipush (-2), 2) := by decide +kernel
theorem dX5_members_10 : decode cX5_members 10 = .ok (.ireturn, 1) := by decide +kernel
theorem dX5_members_11 : decode cX5_members 11 = .ok (.iconst 0, 1) := by decide +kernel
theorem dX5_members_12 : decode cX5_members 12 = .ok (.istore_n 2, 1) := by decide +kernel
theorem dX5_members_13 : decode cX5_members 13 = .ok (.iconst 0, 1) := by decide +kernel
theorem dX5_members_14 : decode cX5_members 14 = .ok (.istore_n 3, 1) := by decide +kernel
theorem dX5_members_15 : decode cX5_members 15 = .ok (.iload_n 3, 1) := by decide +kernel
theorem dX5_members_16 : decode cX5_members 16 = .ok (.aload_n 0, 1) := by decide +kernel
theorem dX5_members_17 : decode cX5_members 17 = .ok (.getfield 10, 3) := by decide +kernel
theorem dX5_members_20 : decode cX5_members 20 = .ok (.getfield 60, 3) := by decide +kernel
theorem dX5_members_23 : decode cX5_members 23 = .ok (.if_icmp .ge 24, 3) := by decide +kernel
theorem dX5_members_26 : decode cX5_members 26 = .ok (.aload_n 0, 1) := by decide +kernel
theorem dX5_members_27 : decode cX5_members 27 = .ok (.getfield 38, 3) := by decide +kernel
theorem dX5_members_30 : decode cX5_members 30 = .ok (.iload_n 3, 1) := by decide +kernel
theorem dX5_members_31 : decode cX5_members 31 = .ok (.iload_n 1, 1) := by decide +kernel
theorem dX5_members_32 : decode cX5_members 32 = .ok (.invokevirtual 103, 3) := by decide +kernel
theorem dX5_members_35 : decode cX5_members 35 = .ok (.ifCond .eq 6, 3) := by decide +kernel
theorem dX5_members_38 : decode cX5_members 38 = .ok (.iinc 2 1, 3) := by decide +kernel
theorem dX5_members_41 : decode cX5_members 41 = .ok (.iinc 3 1, 3) := by decide +kernel
theorem dX5_members_44 : decode cX5_members 44 = .ok (.goto (-29), 3) := by decide +kernel
theorem dX5_members_47 : decode cX5_members 47 = .ok (.iload_n 2, 1) := by decide +kernel
theorem dX5_members_48 : decode cX5_members 48 = .ok (.ireturn, 1) := by decide +kernel
theorem dX5_classes_0 : decode cX5_classes 0 = .ok (.aload_n 0, 1) := by decide +kernel
theorem dX5_classes_1 : decode cX5_classes 1 = .ok (.getfield 38, 3) := by decide +kernel
theorem dX5_classes_4 : decode cX5_classes 4 = .ok (.aload_n 0, 1) := by decide +kernel
theorem dX5_classes_5 : decode cX5_classes 5 = .ok (.getfield 10, 3) := by decide +kernel
theorem dX5_classes_8 : decode cX5_classes 8 = .ok (.getfield 60, 3) := by decide +kernel
theorem dX5_classes_11 : decode cX5_classes 11 = .ok (.invokevirtual 78, 3) := by decide +kernel
theorem dX5_classes_14 : decode cX5_classes 14 = .ok (.ireturn, 1) := by decide +kernel
theorem dX5_find_0 : decode cX5_find 0 = .ok (.aload_n 0, 1) := by decide +kernel
theorem dX5_find_1 : decode cX5_find 1 = .ok (.iload_n 1, 1) := by decide +kernel
theorem dX5_find_2 : decode cX5_find 2 = .ok (.iload_n 2, 1) := by decide +kernel
theorem dX5_find_3 : decode cX5_find 3 = .ok (.iload_n 3, 1) := by decide +kernel
theorem dX5_find_4 : decode cX5_find 4 = .ok (.invokevirtual 52, 3) := by decide +kernel
theorem dX5_find_7 : decode cX5_find 7 = .ok (.ifCond .ne 6, 3) := by decide +kernel
theorem dX5_find_10 : decode cX5_find 10 = .ok (.bipush (-2), 2) := by decide +kernel
theorem dX5_find_12 : decode cX5_find 12 = .ok (.ireturn, 1) := by decide +kernel
theorem dX5_find_13 : decode cX5_find 13 = .ok (.iconst 0, 1) := by decide +kernel
theorem dX5_find_14 : decode cX5_find 14 = .ok (.istore 4, 2) := by decide +kernel
theorem dX5_find_16 : decode cX5_find 16 = .ok (.iload 4, 2) := by decide +kernel
theorem dX5_find_18 : decode cX5_find 18 = .ok (.aload_n 0, 1) := by decide +kernel
theorem dX5_find_19 : decode cX5_find 19 = .ok (.getfield 10, 3) := by decide +kernel
theorem dX5_find_22 : decode cX5_find 22 = .ok (.getfield 60, 3) := by decide +kernel
theorem dX5_find_25 : decode cX5_find 25 = .ok (.if_icmp .ge 39, 3) := by decide +kernel
theorem dX5_find_28 : decode cX5_find 28 = .ok (.aload_n 0, 1) := by decide +kernel
theorem dX5_find_29 : decode cX5_find 29 = .ok (.getfield 38, 3) := by decide +kernel
theorem dX5_find_32 : decode cX5_find 32 = .ok (.aload_n 0, 1) := by decide +kernel
theorem dX5_find_33 : decode cX5_find 33 = .ok (.getfield 10, 3) := by decide +kernel
theorem dX5_find_36 : decode cX5_find 36 = .ok (.iload 4, 2) := by decide +kernel
theorem dX5_find_38 : decode cX5_find 38 = .ok (.iload_n 1, 1) := by decide +kernel
theorem dX5_find_39 : decode cX5_find 39 = .ok (.iload_n 2, 1) := by decide +kernel
theorem dX5_find_40 : decode cX5_find 40 = .ok (.iload_n 3, 1) := by decide +kernel
theorem dX5_find_41 : decode cX5_find 41 = .ok (.invokevirtual 119, 3) := by decide +kernel
theorem dX5_find_44 : decode cX5_find 44 = .ok (.ifCond .eq 14, 3) := by decide +kernel
theorem dX5_find_47 : decode cX5_find 47 = .ok (.aload_n 0, 1) := by decide +kernel
theorem dX5_find_48 : decode cX5_find 48 = .ok (.getfield 38, 3) := by decide +kernel
theorem dX5_find_51 : decode cX5_find 51 = .ok (.getfield 116, 3) := by decide +kernel
theorem dX5_find_54 : decode cX5_find 54 = .ok (.iload 4, 2) := by decide +kernel
theorem dX5_find_56 : decode cX5_find 56 = .ok (.iaload, 1) := by decide +kernel
theorem dX5_find_57 : decode cX5_find 57 = .ok (.ireturn, 1) := by decide +kernel
theorem dX5_find_58 : decode cX5_find 58 = .ok (.iinc 4 1, 3) := by decide +kernel
theorem dX5_find_61 : decode cX5_find 61 = .ok (.goto (-45), 3) := by decide +kernel
theorem dX5_find_64 : decode cX5_find 64 = .ok (.iconst (-1), 1) := by decide +kernel
theorem dX5_find_65 : decode cX5_find 65 = .ok (.ireturn, 1) := by decide +kernel
theorem dX5_since_0 : decode cX5_since 0 = .ok (.aload_n 0, 1) := by decide +kernel
theorem dX5_since_1 : decode cX5_since 1 = .ok (.iload_n 1, 1) := by decide +kernel
theorem dX5_since_2 : decode cX5_since 2 = .ok (.iload_n 2, 1) := by decide +kernel
theorem dX5_since_3 : decode cX5_since 3 = .ok (.invokevirtual 70, 3) := by decide +kernel
theorem dX5_since_6 : decode cX5_since 6 = .ok (.ifCond .ne 6, 3) := by decide +kernel
theorem dX5_since_9 : decode cX5_since 9 = .ok (.bipush (-2), 2) := by decide +kernel
theorem dX5_since_11 : decode cX5_since 11 = .ok (.ireturn, 1) := by decide +kernel
theorem dX5_since_12 : decode cX5_since 12 = .ok (.iconst 0, 1) := by decide +kernel
theorem dX5_since_13 : decode cX5_since 13 = .ok (.istore_n 3, 1) := by decide +kernel
theorem dX5_since_14 : decode cX5_since 14 = .ok (.iload_n 3, 1) := by decide +kernel
theorem dX5_since_15 : decode cX5_since 15 = .ok (.aload_n 0, 1) := by decide +kernel
theorem dX5_since_16 : decode cX5_since 16 = .ok (.getfield 21, 3) := by decide +kernel
theorem dX5_since_19 : decode cX5_since 19 = .ok (.getfield 88, 3) := by decide +kernel
theorem dX5_since_22 : decode cX5_since 22 = .ok (.if_icmp .gt 24, 3) := by decide +kernel
theorem dX5_since_25 : decode cX5_since 25 = .ok (.aload_n 0, 1) := by decide +kernel
theorem dX5_since_26 : decode cX5_since 26 = .ok (.iload_n 3, 1) := by decide +kernel
theorem dX5_since_27 : decode cX5_since 27 = .ok (.invokestatic 123, 3) := by decide +kernel
theorem dX5_since_30 : decode cX5_since 30 = .ok (.iload_n 1, 1) := by decide +kernel
theorem dX5_since_31 : decode cX5_since 31 = .ok (.iload_n 2, 1) := by decide +kernel
theorem dX5_since_32 : decode cX5_since 32 = .ok (.invokevirtual 126, 3) := by decide +kernel
theorem dX5_since_35 : decode cX5_since 35 = .ok (.ifCond .eq 5, 3) := by decide +kernel
theorem dX5_since_38 : decode cX5_since 38 = .ok (.iload_n 3, 1) := by decide +kernel
theorem dX5_since_39 : decode cX5_since 39 = .ok (.ireturn, 1) := by decide +kernel
theorem dX5_since_40 : decode cX5_since 40 = .ok (.iinc 3 1, 3) := by decide +kernel
theorem dX5_since_43 : decode cX5_since 43 = .ok (.goto (-29), 3) := by decide +kernel
theorem dX5_since_46 : decode cX5_since 46 = .ok (.iconst (-1), 1) := by decide +kernel
theorem dX5_since_47 : decode cX5_since 47 = .ok (.ireturn, 1) := by decide +kernel
theorem dX5_explanation_0 : decode cX5_explanation 0 = .ok (.aload_n 0, 1) := by decide +kernel
theorem dX5_explanation_1 : decode cX5_explanation 1 = .ok (.iload_n 1, 1) := by decide +kernel
theorem dX5_explanation_2 : decode cX5_explanation 2 = .ok (.iload_n 2, 1) := by decide +kernel
theorem dX5_explanation_3 : decode cX5_explanation 3 = .ok (.invokevirtual 70, 3) := by decide +kernel
theorem dX5_explanation_6 : decode cX5_explanation 6 = .ok (.ifCond .ne 6, 3) := by decide +kernel
theorem dX5_explanation_9 : decode cX5_explanation 9 = .ok (.bipush (-2), 2) := by decide +kernel
theorem dX5_explanation_11 : decode cX5_explanation 11 = .ok (.ireturn, 1) := by decide +kernel
theorem dX5_explanation_12 : decode cX5_explanation 12 = .ok (.aload_n 0, 1) := by decide +kernel
theorem dX5_explanation_13 : decode cX5_explanation 13 = .ok (.getfield 38, 3) := by decide +kernel
theorem dX5_explanation_16 : decode cX5_explanation 16 = .ok (.iload_n 1, 1) := by decide +kernel
theorem dX5_explanation_17 : decode cX5_explanation 17 = .ok (.iload_n 2, 1) := by decide +kernel
theorem dX5_explanation_18 : decode cX5_explanation 18 = .ok (.invokevirtual 103, 3) := by decide +kernel
theorem dX5_explanation_21 : decode cX5_explanation 21 = .ok (.ifCond .ne 5, 3) := by decide +kernel
theorem dX5_explanation_24 : decode cX5_explanation 24 = .ok (.iconst (-1), 1) := by decide +kernel
theorem dX5_explanation_25 : decode cX5_explanation 25 = .ok (.ireturn, 1) := by decide +kernel
theorem dX5_explanation_26 : decode cX5_explanation 26 = .ok (.iconst 0, 1) := by decide +kernel
theorem dX5_explanation_27 : decode cX5_explanation 27 = .ok (.istore_n 3, 1) := by decide +kernel
theorem dX5_explanation_28 : decode cX5_explanation 28 = .ok (.aload_n 0, 1) := by decide +kernel
theorem dX5_explanation_29 : decode cX5_explanation 29 = .ok (.getfield 21, 3) := by decide +kernel
theorem dX5_explanation_32 : decode cX5_explanation 32 = .ok (.getfield 88, 3) := by decide +kernel
theorem dX5_explanation_35 : decode cX5_explanation 35 = .ok (.iconst 1, 1) := by decide +kernel
theorem dX5_explanation_36 : decode cX5_explanation 36 = .ok (.isub, 1) := by decide +kernel
theorem dX5_explanation_37 : decode cX5_explanation 37 = .ok (.istore 4, 2) := by decide +kernel
theorem dX5_explanation_39 : decode cX5_explanation 39 = .ok (.iload 4, 2) := by decide +kernel
theorem dX5_explanation_41 : decode cX5_explanation 41 = .ok (.ifCond .lt 32, 3) := by decide +kernel
theorem dX5_explanation_44 : decode cX5_explanation 44 = .ok (.aload_n 0, 1) := by decide +kernel
theorem dX5_explanation_45 : decode cX5_explanation 45 = .ok (.iload_n 3, 1) := by decide +kernel
theorem dX5_explanation_46 : decode cX5_explanation 46 = .ok (.iload 4, 2) := by decide +kernel
theorem dX5_explanation_48 : decode cX5_explanation 48 = .ok (.invokestatic 123, 3) := by decide +kernel
theorem dX5_explanation_51 : decode cX5_explanation 51 = .ok (.ior, 1) := by decide +kernel
theorem dX5_explanation_52 : decode cX5_explanation 52 = .ok (.iload_n 1, 1) := by decide +kernel
theorem dX5_explanation_53 : decode cX5_explanation 53 = .ok (.iload_n 2, 1) := by decide +kernel
theorem dX5_explanation_54 : decode cX5_explanation 54 = .ok (.invokevirtual 126, 3) := by decide +kernel
theorem dX5_explanation_57 : decode cX5_explanation 57 = .ok (.ifCond .ne 10, 3) := by decide +kernel
theorem dX5_explanation_60 : decode cX5_explanation 60 = .ok (.iload_n 3, 1) := by decide +kernel
theorem dX5_explanation_61 : decode cX5_explanation 61 = .ok (.iconst 1, 1) := by decide +kernel
theorem dX5_explanation_62 : decode cX5_explanation 62 = .ok (.iload 4, 2) := by decide +kernel
theorem dX5_explanation_64 : decode cX5_explanation 64 = .ok (.ishl, 1) := by decide +kernel
theorem dX5_explanation_65 : decode cX5_explanation 65 = .ok (.ior, 1) := by decide +kernel
theorem dX5_explanation_66 : decode cX5_explanation 66 = .ok (.istore_n 3, 1) := by decide +kernel
theorem dX5_explanation_67 : decode cX5_explanation 67 = .ok (.iinc 4 (-1), 3) := by decide +kernel
theorem dX5_explanation_70 : decode cX5_explanation 70 = .ok (.goto (-31), 3) := by decide +kernel
theorem dX5_explanation_73 : decode cX5_explanation 73 = .ok (.iload_n 3, 1) := by decide +kernel
theorem dX5_explanation_74 : decode cX5_explanation 74 = .ok (.ireturn, 1) := by decide +kernel
theorem dX5_needed_0 : decode cX5_needed 0 = .ok (.aload_n 0, 1) := by decide +kernel
theorem dX5_needed_1 : decode cX5_needed 1 = .ok (.iload_n 1, 1) := by decide +kernel
theorem dX5_needed_2 : decode cX5_needed 2 = .ok (.iload_n 2, 1) := by decide +kernel
theorem dX5_needed_3 : decode cX5_needed 3 = .ok (.invokevirtual 70, 3) := by decide +kernel
theorem dX5_needed_6 : decode cX5_needed 6 = .ok (.ifCond .ne 6, 3) := by decide +kernel
theorem dX5_needed_9 : decode cX5_needed 9 = .ok (.bipush (-2), 2) := by decide +kernel
theorem dX5_needed_11 : decode cX5_needed 11 = .ok (.ireturn, 1) := by decide +kernel
theorem dX5_needed_12 : decode cX5_needed 12 = .ok (.aload_n 0, 1) := by decide +kernel
theorem dX5_needed_13 : decode cX5_needed 13 = .ok (.getfield 38, 3) := by decide +kernel
theorem dX5_needed_16 : decode cX5_needed 16 = .ok (.iload_n 1, 1) := by decide +kernel
theorem dX5_needed_17 : decode cX5_needed 17 = .ok (.iload_n 2, 1) := by decide +kernel
theorem dX5_needed_18 : decode cX5_needed 18 = .ok (.invokevirtual 103, 3) := by decide +kernel
theorem dX5_needed_21 : decode cX5_needed 21 = .ok (.ifCond .ne 5, 3) := by decide +kernel
theorem dX5_needed_24 : decode cX5_needed 24 = .ok (.iconst (-1), 1) := by decide +kernel
theorem dX5_needed_25 : decode cX5_needed 25 = .ok (.ireturn, 1) := by decide +kernel
theorem dX5_needed_26 : decode cX5_needed 26 = .ok (.aload_n 0, 1) := by decide +kernel
theorem dX5_needed_27 : decode cX5_needed 27 = .ok (.getfield 21, 3) := by decide +kernel
theorem dX5_needed_30 : decode cX5_needed 30 = .ok (.getfield 88, 3) := by decide +kernel
theorem dX5_needed_33 : decode cX5_needed 33 = .ok (.invokestatic 123, 3) := by decide +kernel
theorem dX5_needed_36 : decode cX5_needed 36 = .ok (.istore_n 3, 1) := by decide +kernel
theorem dX5_needed_37 : decode cX5_needed 37 = .ok (.iconst 0, 1) := by decide +kernel
theorem dX5_needed_38 : decode cX5_needed 38 = .ok (.istore 4, 2) := by decide +kernel
theorem dX5_needed_40 : decode cX5_needed 40 = .ok (.iconst 0, 1) := by decide +kernel
theorem dX5_needed_41 : decode cX5_needed 41 = .ok (.istore 5, 2) := by decide +kernel
theorem dX5_needed_43 : decode cX5_needed 43 = .ok (.iload 5, 2) := by decide +kernel
theorem dX5_needed_45 : decode cX5_needed 45 = .ok (.aload_n 0, 1) := by decide +kernel
theorem dX5_needed_46 : decode cX5_needed 46 = .ok (.getfield 21, 3) := by decide +kernel
theorem dX5_needed_49 : decode cX5_needed 49 = .ok (.getfield 88, 3) := by decide +kernel
theorem dX5_needed_52 : decode cX5_needed 52 = .ok (.if_icmp .ge 35, 3) := by decide +kernel
theorem dX5_needed_55 : decode cX5_needed 55 = .ok (.aload_n 0, 1) := by decide +kernel
theorem dX5_needed_56 : decode cX5_needed 56 = .ok (.iload_n 3, 1) := by decide +kernel
theorem dX5_needed_57 : decode cX5_needed 57 = .ok (.iconst 1, 1) := by decide +kernel
theorem dX5_needed_58 : decode cX5_needed 58 = .ok (.iload 5, 2) := by decide +kernel
theorem dX5_needed_60 : decode cX5_needed 60 = .ok (.ishl, 1) := by decide +kernel
theorem dX5_needed_61 : decode cX5_needed 61 = .ok (.iconst (-1), 1) := by decide +kernel
theorem dX5_needed_62 : decode cX5_needed 62 = .ok (.ixor, 1) := by decide +kernel
theorem dX5_needed_63 : decode cX5_needed 63 = .ok (.iand, 1) := by decide +kernel
theorem dX5_needed_64 : decode cX5_needed 64 = .ok (.iload_n 1, 1) := by decide +kernel
theorem dX5_needed_65 : decode cX5_needed 65 = .ok (.iload_n 2, 1) := by decide +kernel
theorem dX5_needed_66 : decode cX5_needed 66 = .ok (.invokevirtual 126, 3) := by decide +kernel
theorem dX5_needed_69 : decode cX5_needed 69 = .ok (.ifCond .ne 12, 3) := by decide +kernel
theorem dX5_needed_72 : decode cX5_needed 72 = .ok (.iload 4, 2) := by decide +kernel
theorem dX5_needed_74 : decode cX5_needed 74 = .ok (.iconst 1, 1) := by decide +kernel
theorem dX5_needed_75 : decode cX5_needed 75 = .ok (.iload 5, 2) := by decide +kernel
theorem dX5_needed_77 : decode cX5_needed 77 = .ok (.ishl, 1) := by decide +kernel
theorem dX5_needed_78 : decode cX5_needed 78 = .ok (.ior, 1) := by decide +kernel
theorem dX5_needed_79 : decode cX5_needed 79 = .ok (.istore 4, 2) := by decide +kernel
theorem dX5_needed_81 : decode cX5_needed 81 = .ok (.iinc 5 1, 3) := by decide +kernel
theorem dX5_needed_84 : decode cX5_needed 84 = .ok (.goto (-41), 3) := by decide +kernel
theorem dX5_needed_87 : decode cX5_needed 87 = .ok (.iload 4, 2) := by decide +kernel
theorem dX5_needed_89 : decode cX5_needed 89 = .ok (.ireturn, 1) := by decide +kernel
theorem dX5_weight_0 : decode cX5_weight 0 = .ok (.aload_n 0, 1) := by decide +kernel
theorem dX5_weight_1 : decode cX5_weight 1 = .ok (.iload_n 1, 1) := by decide +kernel
theorem dX5_weight_2 : decode cX5_weight 2 = .ok (.invokevirtual 112, 3) := by decide +kernel
theorem dX5_weight_5 : decode cX5_weight 5 = .ok (.ifCond .ne 5, 3) := by decide +kernel
theorem dX5_weight_8 : decode cX5_weight 8 = .ok (.lconst 0, 1) := by decide +kernel
theorem dX5_weight_9 : decode cX5_weight 9 = .ok (.lreturn, 1) := by decide +kernel
theorem dX5_weight_10 : decode cX5_weight 10 = .ok (.aload_n 0, 1) := by decide +kernel
theorem dX5_weight_11 : decode cX5_weight 11 = .ok (.getfield 48, 3) := by decide +kernel
theorem dX5_weight_14 : decode cX5_weight 14 = .ok (.aload_n 0, 1) := by decide +kernel
theorem dX5_weight_15 : decode cX5_weight 15 = .ok (.getfield 10, 3) := by decide +kernel
theorem dX5_weight_18 : decode cX5_weight 18 = .ok (.aload_n 0, 1) := by decide +kernel
theorem dX5_weight_19 : decode cX5_weight 19 = .ok (.getfield 38, 3) := by decide +kernel
theorem dX5_weight_22 : decode cX5_weight 22 = .ok (.invokevirtual 129, 3) := by decide +kernel
theorem dX5_weight_25 : decode cX5_weight 25 = .ok (.aload_n 0, 1) := by decide +kernel
theorem dX5_weight_26 : decode cX5_weight 26 = .ok (.getfield 48, 3) := by decide +kernel
theorem dX5_weight_29 : decode cX5_weight 29 = .ok (.aload_n 0, 1) := by decide +kernel
theorem dX5_weight_30 : decode cX5_weight 30 = .ok (.getfield 38, 3) := by decide +kernel
theorem dX5_weight_33 : decode cX5_weight 33 = .ok (.iload_n 1, 1) := by decide +kernel
theorem dX5_weight_34 : decode cX5_weight 34 = .ok (.invokevirtual 133, 3) := by decide +kernel
theorem dX5_weight_37 : decode cX5_weight 37 = .ok (.lreturn, 1) := by decide +kernel
theorem dX5_best_0 : decode cX5_best 0 = .ok (.aload_n 0, 1) := by decide +kernel
theorem dX5_best_1 : decode cX5_best 1 = .ok (.iload_n 1, 1) := by decide +kernel
theorem dX5_best_2 : decode cX5_best 2 = .ok (.invokevirtual 112, 3) := by decide +kernel
theorem dX5_best_5 : decode cX5_best 5 = .ok (.ifCond .ne 6, 3) := by decide +kernel
theorem dX5_best_8 : decode cX5_best 8 = .ok (.bipush (-2), 2) := by decide +kernel
theorem dX5_best_10 : decode cX5_best 10 = .ok (.ireturn, 1) := by decide +kernel
theorem dX5_best_11 : decode cX5_best 11 = .ok (.aload_n 0, 1) := by decide +kernel
theorem dX5_best_12 : decode cX5_best 12 = .ok (.getfield 48, 3) := by decide +kernel
theorem dX5_best_15 : decode cX5_best 15 = .ok (.aload_n 0, 1) := by decide +kernel
theorem dX5_best_16 : decode cX5_best 16 = .ok (.getfield 10, 3) := by decide +kernel
theorem dX5_best_19 : decode cX5_best 19 = .ok (.aload_n 0, 1) := by decide +kernel
theorem dX5_best_20 : decode cX5_best 20 = .ok (.getfield 38, 3) := by decide +kernel
theorem dX5_best_23 : decode cX5_best 23 = .ok (.invokevirtual 129, 3) := by decide +kernel
theorem dX5_best_26 : decode cX5_best 26 = .ok (.aload_n 0, 1) := by decide +kernel
theorem dX5_best_27 : decode cX5_best 27 = .ok (.getfield 48, 3) := by decide +kernel
theorem dX5_best_30 : decode cX5_best 30 = .ok (.aload_n 0, 1) := by decide +kernel
theorem dX5_best_31 : decode cX5_best 31 = .ok (.getfield 10, 3) := by decide +kernel
theorem dX5_best_34 : decode cX5_best 34 = .ok (.aload_n 0, 1) := by decide +kernel
theorem dX5_best_35 : decode cX5_best 35 = .ok (.getfield 38, 3) := by decide +kernel
theorem dX5_best_38 : decode cX5_best 38 = .ok (.iload_n 1, 1) := by decide +kernel
theorem dX5_best_39 : decode cX5_best 39 = .ok (.invokevirtual 137, 3) := by decide +kernel
theorem dX5_best_42 : decode cX5_best 42 = .ok (.ireturn, 1) := by decide +kernel
theorem dX5_written_0 : decode cX5_written 0 = .ok (.aload_n 0, 1) := by decide +kernel
theorem dX5_written_1 : decode cX5_written 1 = .ok (.iload_n 1, 1) := by decide +kernel
theorem dX5_written_2 : decode cX5_written 2 = .ok (.invokevirtual 112, 3) := by decide +kernel
theorem dX5_written_5 : decode cX5_written 5 = .ok (.ifCond .ne 6, 3) := by decide +kernel
theorem dX5_written_8 : decode cX5_written 8 = .ok (.bipush (-2), 2) := by decide +kernel
theorem dX5_written_10 : decode cX5_written 10 = .ok (.ireturn, 1) := by decide +kernel
theorem dX5_written_11 : decode cX5_written 11 = .ok (.aload_n 0, 1) := by decide +kernel
theorem dX5_written_12 : decode cX5_written 12 = .ok (.getfield 48, 3) := by decide +kernel
theorem dX5_written_15 : decode cX5_written 15 = .ok (.aload_n 0, 1) := by decide +kernel
theorem dX5_written_16 : decode cX5_written 16 = .ok (.getfield 10, 3) := by decide +kernel
theorem dX5_written_19 : decode cX5_written 19 = .ok (.aload_n 0, 1) := by decide +kernel
theorem dX5_written_20 : decode cX5_written 20 = .ok (.getfield 38, 3) := by decide +kernel
theorem dX5_written_23 : decode cX5_written 23 = .ok (.invokevirtual 129, 3) := by decide +kernel
theorem dX5_written_26 : decode cX5_written 26 = .ok (.iload_n 2, 1) := by decide +kernel
theorem dX5_written_27 : decode cX5_written 27 = .ok (.ifCond .lt 21, 3) := by decide +kernel
theorem dX5_written_30 : decode cX5_written 30 = .ok (.iload_n 2, 1) := by decide +kernel
theorem dX5_written_31 : decode cX5_written 31 = .ok (.i2l, 1) := by decide +kernel
theorem dX5_written_32 : decode cX5_written 32 = .ok (.aload_n 0, 1) := by decide +kernel
theorem dX5_written_33 : decode cX5_written 33 = .ok (.getfield 48, 3) := by decide +kernel
theorem dX5_written_36 : decode cX5_written 36 = .ok (.aload_n 0, 1) := by decide +kernel
theorem dX5_written_37 : decode cX5_written 37 = .ok (.getfield 38, 3) := by decide +kernel
theorem dX5_written_40 : decode cX5_written 40 = .ok (.iload_n 1, 1) := by decide +kernel
theorem dX5_written_41 : decode cX5_written 41 = .ok (.invokevirtual 133, 3) := by decide +kernel
theorem dX5_written_44 : decode cX5_written 44 = .ok (.lcmp, 1) := by decide +kernel
theorem dX5_written_45 : decode cX5_written 45 = .ok (.ifCond .lt 5, 3) := by decide +kernel
theorem dX5_written_48 : decode cX5_written 48 = .ok (.iconst (-1), 1) := by decide +kernel
theorem dX5_written_49 : decode cX5_written 49 = .ok (.ireturn, 1) := by decide +kernel
theorem dX5_written_50 : decode cX5_written 50 = .ok (.aload_n 0, 1) := by decide +kernel
theorem dX5_written_51 : decode cX5_written 51 = .ok (.getfield 48, 3) := by decide +kernel
theorem dX5_written_54 : decode cX5_written 54 = .ok (.aload_n 0, 1) := by decide +kernel
theorem dX5_written_55 : decode cX5_written 55 = .ok (.getfield 10, 3) := by decide +kernel
theorem dX5_written_58 : decode cX5_written 58 = .ok (.aload_n 0, 1) := by decide +kernel
theorem dX5_written_59 : decode cX5_written 59 = .ok (.getfield 38, 3) := by decide +kernel
theorem dX5_written_62 : decode cX5_written 62 = .ok (.iload_n 1, 1) := by decide +kernel
theorem dX5_written_63 : decode cX5_written 63 = .ok (.iload_n 2, 1) := by decide +kernel
theorem dX5_written_64 : decode cX5_written 64 = .ok (.invokevirtual 141, 3) := by decide +kernel
theorem dX5_written_67 : decode cX5_written 67 = .ok (.ireturn, 1) := by decide +kernel
theorem dX5_terms_0 : decode cX5_terms 0 = .ok (.aload_n 0, 1) := by decide +kernel
theorem dX5_terms_1 : decode cX5_terms 1 = .ok (.getfield 10, 3) := by decide +kernel
theorem dX5_terms_4 : decode cX5_terms 4 = .ok (.getfield 60, 3) := by decide +kernel
theorem dX5_terms_7 : decode cX5_terms 7 = .ok (.ireturn, 1) := by decide +kernel
theorem dX5_equations_0 : decode cX5_equations 0 = .ok (.aload_n 0, 1) := by decide +kernel
theorem dX5_equations_1 : decode cX5_equations 1 = .ok (.getfield 21, 3) := by decide +kernel
theorem dX5_equations_4 : decode cX5_equations 4 = .ok (.getfield 88, 3) := by decide +kernel
theorem dX5_equations_7 : decode cX5_equations 7 = .ok (.ireturn, 1) := by decide +kernel
theorem dX5_isTerm_0 : decode cX5_isTerm 0 = .ok (.iload_n 1, 1) := by decide +kernel
theorem dX5_isTerm_1 : decode cX5_isTerm 1 = .ok (.ifCond .lt 18, 3) := by decide +kernel
theorem dX5_isTerm_4 : decode cX5_isTerm 4 = .ok (.iload_n 1, 1) := by decide +kernel
theorem dX5_isTerm_5 : decode cX5_isTerm 5 = .ok (.aload_n 0, 1) := by decide +kernel
theorem dX5_isTerm_6 : decode cX5_isTerm 6 = .ok (.getfield 10, 3) := by decide +kernel
theorem dX5_isTerm_9 : decode cX5_isTerm 9 = .ok (.getfield 60, 3) := by decide +kernel
theorem dX5_isTerm_12 : decode cX5_isTerm 12 = .ok (.if_icmp .ge 7, 3) := by decide +kernel
theorem dX5_isTerm_15 : decode cX5_isTerm 15 = .ok (.iconst 1, 1) := by decide +kernel
theorem dX5_isTerm_16 : decode cX5_isTerm 16 = .ok (.goto 4, 3) := by decide +kernel
theorem dX5_isTerm_19 : decode cX5_isTerm 19 = .ok (.iconst 0, 1) := by decide +kernel
theorem dX5_isTerm_20 : decode cX5_isTerm 20 = .ok (.ireturn, 1) := by decide +kernel
theorem dX5_areTerms_0 : decode cX5_areTerms 0 = .ok (.aload_n 0, 1) := by decide +kernel
theorem dX5_areTerms_1 : decode cX5_areTerms 1 = .ok (.iload_n 1, 1) := by decide +kernel
theorem dX5_areTerms_2 : decode cX5_areTerms 2 = .ok (.invokevirtual 112, 3) := by decide +kernel
theorem dX5_areTerms_5 : decode cX5_areTerms 5 = .ok (.ifCond .eq 15, 3) := by decide +kernel
theorem dX5_areTerms_8 : decode cX5_areTerms 8 = .ok (.aload_n 0, 1) := by decide +kernel
theorem dX5_areTerms_9 : decode cX5_areTerms 9 = .ok (.iload_n 2, 1) := by decide +kernel
theorem dX5_areTerms_10 : decode cX5_areTerms 10 = .ok (.invokevirtual 112, 3) := by decide +kernel
theorem dX5_areTerms_13 : decode cX5_areTerms 13 = .ok (.ifCond .eq 7, 3) := by decide +kernel
theorem dX5_areTerms_16 : decode cX5_areTerms 16 = .ok (.iconst 1, 1) := by decide +kernel
theorem dX5_areTerms_17 : decode cX5_areTerms 17 = .ok (.goto 4, 3) := by decide +kernel
theorem dX5_areTerms_20 : decode cX5_areTerms 20 = .ok (.iconst 0, 1) := by decide +kernel
theorem dX5_areTerms_21 : decode cX5_areTerms 21 = .ok (.ireturn, 1) := by decide +kernel
theorem dX5_isShape_0 : decode cX5_isShape 0 = .ok (.iload_n 1, 1) := by decide +kernel
theorem dX5_isShape_1 : decode cX5_isShape 1 = .ok (.ifCond .lt 9, 3) := by decide +kernel
theorem dX5_isShape_4 : decode cX5_isShape 4 = .ok (.iload_n 1, 1) := by decide +kernel
theorem dX5_isShape_5 : decode cX5_isShape 5 = .ok (.bipush 16, 2) := by decide +kernel
theorem dX5_isShape_7 : decode cX5_isShape 7 = .ok (.if_icmp .lt 5, 3) := by decide +kernel
theorem dX5_isShape_10 : decode cX5_isShape 10 = .ok (.iconst 0, 1) := by decide +kernel
theorem dX5_isShape_11 : decode cX5_isShape 11 = .ok (.ireturn, 1) := by decide +kernel
theorem dX5_isShape_12 : decode cX5_isShape 12 = .ok (.iload_n 2, 1) := by decide +kernel
theorem dX5_isShape_13 : decode cX5_isShape 13 = .ok (.iconst (-1), 1) := by decide +kernel
theorem dX5_isShape_14 : decode cX5_isShape 14 = .ok (.if_icmp .ne 14, 3) := by decide +kernel
theorem dX5_isShape_17 : decode cX5_isShape 17 = .ok (.iload_n 3, 1) := by decide +kernel
theorem dX5_isShape_18 : decode cX5_isShape 18 = .ok (.iconst (-1), 1) := by decide +kernel
theorem dX5_isShape_19 : decode cX5_isShape 19 = .ok (.if_icmp .ne 7, 3) := by decide +kernel
theorem dX5_isShape_22 : decode cX5_isShape 22 = .ok (.iconst 1, 1) := by decide +kernel
theorem dX5_isShape_23 : decode cX5_isShape 23 = .ok (.goto 4, 3) := by decide +kernel
theorem dX5_isShape_26 : decode cX5_isShape 26 = .ok (.iconst 0, 1) := by decide +kernel
theorem dX5_isShape_27 : decode cX5_isShape 27 = .ok (.ireturn, 1) := by decide +kernel
theorem dX5_isShape_28 : decode cX5_isShape 28 = .ok (.aload_n 0, 1) := by decide +kernel
theorem dX5_isShape_29 : decode cX5_isShape 29 = .ok (.iload_n 2, 1) := by decide +kernel
theorem dX5_isShape_30 : decode cX5_isShape 30 = .ok (.invokevirtual 112, 3) := by decide +kernel
theorem dX5_isShape_33 : decode cX5_isShape 33 = .ok (.ifCond .eq 20, 3) := by decide +kernel
theorem dX5_isShape_36 : decode cX5_isShape 36 = .ok (.iload_n 3, 1) := by decide +kernel
theorem dX5_isShape_37 : decode cX5_isShape 37 = .ok (.iconst (-1), 1) := by decide +kernel
theorem dX5_isShape_38 : decode cX5_isShape 38 = .ok (.if_icmp .eq 11, 3) := by decide +kernel
theorem dX5_isShape_41 : decode cX5_isShape 41 = .ok (.aload_n 0, 1) := by decide +kernel
theorem dX5_isShape_42 : decode cX5_isShape 42 = .ok (.iload_n 3, 1) := by decide +kernel
theorem dX5_isShape_43 : decode cX5_isShape 43 = .ok (.invokevirtual 112, 3) := by decide +kernel
theorem dX5_isShape_46 : decode cX5_isShape 46 = .ok (.ifCond .eq 7, 3) := by decide +kernel
theorem dX5_isShape_49 : decode cX5_isShape 49 = .ok (.iconst 1, 1) := by decide +kernel
theorem dX5_isShape_50 : decode cX5_isShape 50 = .ok (.goto 4, 3) := by decide +kernel
theorem dX5_isShape_53 : decode cX5_isShape 53 = .ok (.iconst 0, 1) := by decide +kernel
theorem dX5_isShape_54 : decode cX5_isShape 54 = .ok (.ireturn, 1) := by decide +kernel
theorem dX5_settleCurrent_0 : decode cX5_settleCurrent 0 = .ok (.aload_n 0, 1) := by decide +kernel
theorem dX5_settleCurrent_1 : decode cX5_settleCurrent 1 = .ok (.getfield 38, 3) := by decide +kernel
theorem dX5_settleCurrent_4 : decode cX5_settleCurrent 4 = .ok (.aload_n 0, 1) := by decide +kernel
theorem dX5_settleCurrent_5 : decode cX5_settleCurrent 5 = .ok (.getfield 10, 3) := by decide +kernel
theorem dX5_settleCurrent_8 : decode cX5_settleCurrent 8 = .ok (.aload_n 0, 1) := by decide +kernel
theorem dX5_settleCurrent_9 : decode cX5_settleCurrent 9 = .ok (.getfield 21, 3) := by decide +kernel
theorem dX5_settleCurrent_12 : decode cX5_settleCurrent 12 = .ok (.aload_n 0, 1) := by decide +kernel
theorem dX5_settleCurrent_13 : decode cX5_settleCurrent 13 = .ok (.getfield 21, 3) := by decide +kernel
theorem dX5_settleCurrent_16 : decode cX5_settleCurrent 16 = .ok (.getfield 88, 3) := by decide +kernel
theorem dX5_settleCurrent_19 : decode cX5_settleCurrent 19 = .ok (.invokestatic 123, 3) := by decide +kernel
theorem dX5_settleCurrent_22 : decode cX5_settleCurrent 22 = .ok (.invokevirtual 145, 3) := by decide +kernel
theorem dX5_settleCurrent_25 : decode cX5_settleCurrent 25 = .ok (.return_, 1) := by decide +kernel
theorem dX5_followsFrom_0 : decode cX5_followsFrom 0 = .ok (.aload_n 0, 1) := by decide +kernel
theorem dX5_followsFrom_1 : decode cX5_followsFrom 1 = .ok (.getfield 42, 3) := by decide +kernel
theorem dX5_followsFrom_4 : decode cX5_followsFrom 4 = .ok (.aload_n 0, 1) := by decide +kernel
theorem dX5_followsFrom_5 : decode cX5_followsFrom 5 = .ok (.getfield 10, 3) := by decide +kernel
theorem dX5_followsFrom_8 : decode cX5_followsFrom 8 = .ok (.aload_n 0, 1) := by decide +kernel
theorem dX5_followsFrom_9 : decode cX5_followsFrom 9 = .ok (.getfield 21, 3) := by decide +kernel
theorem dX5_followsFrom_12 : decode cX5_followsFrom 12 = .ok (.iload_n 1, 1) := by decide +kernel
theorem dX5_followsFrom_13 : decode cX5_followsFrom 13 = .ok (.invokevirtual 145, 3) := by decide +kernel
theorem dX5_followsFrom_16 : decode cX5_followsFrom 16 = .ok (.aload_n 0, 1) := by decide +kernel
theorem dX5_followsFrom_17 : decode cX5_followsFrom 17 = .ok (.getfield 42, 3) := by decide +kernel
theorem dX5_followsFrom_20 : decode cX5_followsFrom 20 = .ok (.iload_n 2, 1) := by decide +kernel
theorem dX5_followsFrom_21 : decode cX5_followsFrom 21 = .ok (.iload_n 3, 1) := by decide +kernel
theorem dX5_followsFrom_22 : decode cX5_followsFrom 22 = .ok (.invokevirtual 103, 3) := by decide +kernel
theorem dX5_followsFrom_25 : decode cX5_followsFrom 25 = .ok (.ireturn, 1) := by decide +kernel
theorem dX5_allBelow_0 : decode cX5_allBelow 0 = .ok (.iconst 1, 1) := by decide +kernel
theorem dX5_allBelow_1 : decode cX5_allBelow 1 = .ok (.iload_n 0, 1) := by decide +kernel
theorem dX5_allBelow_2 : decode cX5_allBelow 2 = .ok (.ishl, 1) := by decide +kernel
theorem dX5_allBelow_3 : decode cX5_allBelow 3 = .ok (.iconst 1, 1) := by decide +kernel
theorem dX5_allBelow_4 : decode cX5_allBelow 4 = .ok (.isub, 1) := by decide +kernel
theorem dX5_allBelow_5 : decode cX5_allBelow 5 = .ok (.ireturn, 1) := by decide +kernel
