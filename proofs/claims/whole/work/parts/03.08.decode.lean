theorem dX6_consistent_8 : decode cX6_consistent 8 = .ok (.iload_n 2, 1) := by decide +kernel
theorem dX6_consistent_9 : decode cX6_consistent 9 = .ok (.aload_n 0, 1) := by decide +kernel
theorem dX6_consistent_10 : decode cX6_consistent 10 = .ok (.getfield 92, 3) := by decide +kernel
theorem dX6_consistent_13 : decode cX6_consistent 13 = .ok (.if_icmp .ge 38, 3) := by decide +kernel
theorem dX6_consistent_16 : decode cX6_consistent 16 = .ok (.iload_n 1, 1) := by decide +kernel
theorem dX6_consistent_17 : decode cX6_consistent 17 = .ok (.ifCond .eq 26, 3) := by decide +kernel
theorem dX6_consistent_20 : decode cX6_consistent 20 = .ok (.aload_n 0, 1) := by decide +kernel
theorem dX6_consistent_21 : decode cX6_consistent 21 = .ok (.aload_n 0, 1) := by decide +kernel
theorem dX6_consistent_22 : decode cX6_consistent 22 = .ok (.getfield 25, 3) := by decide +kernel
theorem dX6_consistent_25 : decode cX6_consistent 25 = .ok (.iload_n 2, 1) := by decide +kernel
theorem dX6_consistent_26 : decode cX6_consistent 26 = .ok (.iaload, 1) := by decide +kernel
theorem dX6_consistent_27 : decode cX6_consistent 27 = .ok (.aload_n 0, 1) := by decide +kernel
theorem dX6_consistent_28 : decode cX6_consistent 28 = .ok (.getfield 28, 3) := by decide +kernel
theorem dX6_consistent_31 : decode cX6_consistent 31 = .ok (.iload_n 2, 1) := by decide +kernel
theorem dX6_consistent_32 : decode cX6_consistent 32 = .ok (.iaload, 1) := by decide +kernel
theorem dX6_consistent_33 : decode cX6_consistent 33 = .ok (.invokevirtual 74, 3) := by decide +kernel
theorem dX6_consistent_36 : decode cX6_consistent 36 = .ok (.ifCond .ne 7, 3) := by decide +kernel
theorem dX6_consistent_39 : decode cX6_consistent 39 = .ok (.iconst 1, 1) := by decide +kernel
theorem dX6_consistent_40 : decode cX6_consistent 40 = .ok (.goto 4, 3) := by decide +kernel
theorem dX6_consistent_43 : decode cX6_consistent 43 = .ok (.iconst 0, 1) := by decide +kernel
theorem dX6_consistent_44 : decode cX6_consistent 44 = .ok (.istore_n 1, 1) := by decide +kernel
theorem dX6_consistent_45 : decode cX6_consistent 45 = .ok (.iinc 2 1, 3) := by decide +kernel
theorem dX6_consistent_48 : decode cX6_consistent 48 = .ok (.goto (-40), 3) := by decide +kernel
theorem dX6_consistent_51 : decode cX6_consistent 51 = .ok (.iload_n 1, 1) := by decide +kernel
theorem dX6_consistent_52 : decode cX6_consistent 52 = .ok (.ireturn, 1) := by decide +kernel
theorem dX6_leader_0 : decode cX6_leader 0 = .ok (.aload_n 0, 1) := by decide +kernel
theorem dX6_leader_1 : decode cX6_leader 1 = .ok (.iload_n 1, 1) := by decide +kernel
theorem dX6_leader_2 : decode cX6_leader 2 = .ok (.invokevirtual 77, 3) := by decide +kernel
theorem dX6_leader_5 : decode cX6_leader 5 = .ok (.ifCond .ne 6, 3) := by decide +kernel
theorem dX6_leader_8 : decode cX6_leader 8 = .ok (.bipush (-2), 2) := by decide +kernel
theorem dX6_leader_10 : decode cX6_leader 10 = .ok (.ireturn, 1) := by decide +kernel
theorem dX6_leader_11 : decode cX6_leader 11 = .ok (.aload_n 0, 1) := by decide +kernel
theorem dX6_leader_12 : decode cX6_leader 12 = .ok (.invokevirtual 85, 3) := by decide +kernel
theorem dX6_leader_15 : decode cX6_leader 15 = .ok (.aload_n 0, 1) := by decide +kernel
theorem dX6_leader_16 : decode cX6_leader 16 = .ok (.getfield 40, 3) := by decide +kernel
theorem dX6_leader_19 : decode cX6_leader 19 = .ok (.iload_n 1, 1) := by decide +kernel
theorem dX6_leader_20 : decode cX6_leader 20 = .ok (.iaload, 1) := by decide +kernel
theorem dX6_leader_21 : decode cX6_leader 21 = .ok (.ireturn, 1) := by decide +kernel
theorem dX6_members_0 : decode cX6_members 0 = .ok (.aload_n 0, 1) := by decide +kernel
theorem dX6_members_1 : decode cX6_members 1 = .ok (.iload_n 1, 1) := by decide +kernel
theorem dX6_members_2 : decode cX6_members 2 = .ok (.invokevirtual 77, 3) := by decide +kernel
theorem dX6_members_5 : decode cX6_members 5 = .ok (.ifCond .ne 6, 3) := by decide +kernel
theorem dX6_members_8 : decode cX6_members 8 = .ok (.bipush (-2), 2) := by decide +kernel
theorem dX6_members_10 : decode cX6_members 10 = .ok (.ireturn, 1) := by decide +kernel
theorem dX6_members_11 : decode cX6_members 11 = .ok (.aload_n 0, 1) := by decide +kernel
theorem dX6_members_12 : decode cX6_members 12 = .ok (.invokevirtual 85, 3) := by decide +kernel
theorem dX6_members_15 : decode cX6_members 15 = .ok (.iconst 0, 1) := by decide +kernel
theorem dX6_members_16 : decode cX6_members 16 = .ok (.istore_n 2, 1) := by decide +kernel
theorem dX6_members_17 : decode cX6_members 17 = .ok (.iconst 0, 1) := by decide +kernel
theorem dX6_members_18 : decode cX6_members 18 = .ok (.istore_n 3, 1) := by decide +kernel
theorem dX6_members_19 : decode cX6_members 19 = .ok (.iload_n 3, 1) := by decide +kernel
theorem dX6_members_20 : decode cX6_members 20 = .ok (.aload_n 0, 1) := by decide +kernel
theorem dX6_members_21 : decode cX6_members 21 = .ok (.getfield 47, 3) := by decide +kernel
theorem dX6_members_24 : decode cX6_members 24 = .ok (.if_icmp .ge 26, 3) := by decide +kernel
theorem dX6_members_27 : decode cX6_members 27 = .ok (.aload_n 0, 1) := by decide +kernel
theorem dX6_members_28 : decode cX6_members 28 = .ok (.iload_n 1, 1) := by decide +kernel
theorem dX6_members_29 : decode cX6_members 29 = .ok (.iload_n 3, 1) := by decide +kernel
theorem dX6_members_30 : decode cX6_members 30 = .ok (.invokevirtual 74, 3) := by decide +kernel
theorem dX6_members_33 : decode cX6_members 33 = .ok (.ifCond .eq 9, 3) := by decide +kernel
theorem dX6_members_36 : decode cX6_members 36 = .ok (.iload_n 2, 1) := by decide +kernel
theorem dX6_members_37 : decode cX6_members 37 = .ok (.iconst 1, 1) := by decide +kernel
theorem dX6_members_38 : decode cX6_members 38 = .ok (.iadd, 1) := by decide +kernel
theorem dX6_members_39 : decode cX6_members 39 = .ok (.goto 4, 3) := by decide +kernel
theorem dX6_members_42 : decode cX6_members 42 = .ok (.iload_n 2, 1) := by decide +kernel
theorem dX6_members_43 : decode cX6_members 43 = .ok (.istore_n 2, 1) := by decide +kernel
theorem dX6_members_44 : decode cX6_members 44 = .ok (.iinc 3 1, 3) := by decide +kernel
theorem dX6_members_47 : decode cX6_members 47 = .ok (.goto (-28), 3) := by decide +kernel
theorem dX6_members_50 : decode cX6_members 50 = .ok (.iload_n 2, 1) := by decide +kernel
theorem dX6_members_51 : decode cX6_members 51 = .ok (.ireturn, 1) := by decide +kernel
theorem dX6_classes_0 : decode cX6_classes 0 = .ok (.aload_n 0, 1) := by decide +kernel
theorem dX6_classes_1 : decode cX6_classes 1 = .ok (.invokevirtual 85, 3) := by decide +kernel
theorem dX6_classes_4 : decode cX6_classes 4 = .ok (.aload_n 0, 1) := by decide +kernel
theorem dX6_classes_5 : decode cX6_classes 5 = .ok (.invokevirtual 88, 3) := by decide +kernel
theorem dX6_classes_8 : decode cX6_classes 8 = .ok (.ireturn, 1) := by decide +kernel
theorem dX6_find_0 : decode cX6_find 0 = .ok (.aload_n 0, 1) := by decide +kernel
theorem dX6_find_1 : decode cX6_find 1 = .ok (.iload_n 1, 1) := by decide +kernel
theorem dX6_find_2 : decode cX6_find 2 = .ok (.iload_n 2, 1) := by decide +kernel
theorem dX6_find_3 : decode cX6_find 3 = .ok (.iload_n 3, 1) := by decide +kernel
theorem dX6_find_4 : decode cX6_find 4 = .ok (.invokevirtual 81, 3) := by decide +kernel
theorem dX6_find_7 : decode cX6_find 7 = .ok (.ifCond .eq 6, 3) := by decide +kernel
theorem dX6_find_10 : decode cX6_find 10 = .ok (.bipush (-2), 2) := by decide +kernel
theorem dX6_find_12 : decode cX6_find 12 = .ok (.ireturn, 1) := by decide +kernel
theorem dX6_find_13 : decode cX6_find 13 = .ok (.aload_n 0, 1) := by decide +kernel
theorem dX6_find_14 : decode cX6_find 14 = .ok (.invokevirtual 85, 3) := by decide +kernel
theorem dX6_find_17 : decode cX6_find 17 = .ok (.iconst 0, 1) := by decide +kernel
theorem dX6_find_18 : decode cX6_find 18 = .ok (.istore 4, 2) := by decide +kernel
theorem dX6_find_20 : decode cX6_find 20 = .ok (.iload 4, 2) := by decide +kernel
theorem dX6_find_22 : decode cX6_find 22 = .ok (.aload_n 0, 1) := by decide +kernel
theorem dX6_find_23 : decode cX6_find 23 = .ok (.getfield 47, 3) := by decide +kernel
theorem dX6_find_26 : decode cX6_find 26 = .ok (.if_icmp .ge 58, 3) := by decide +kernel
theorem dX6_find_29 : decode cX6_find 29 = .ok (.aload_n 0, 1) := by decide +kernel
theorem dX6_find_30 : decode cX6_find 30 = .ok (.getfield 7, 3) := by decide +kernel
theorem dX6_find_33 : decode cX6_find 33 = .ok (.iload 4, 2) := by decide +kernel
theorem dX6_find_35 : decode cX6_find 35 = .ok (.iaload, 1) := by decide +kernel
theorem dX6_find_36 : decode cX6_find 36 = .ok (.iload_n 1, 1) := by decide +kernel
theorem dX6_find_37 : decode cX6_find 37 = .ok (.if_icmp .ne 41, 3) := by decide +kernel
theorem dX6_find_40 : decode cX6_find 40 = .ok (.aload_n 0, 1) := by decide +kernel
theorem dX6_find_41 : decode cX6_find 41 = .ok (.aload_n 0, 1) := by decide +kernel
theorem dX6_find_42 : decode cX6_find 42 = .ok (.getfield 13, 3) := by decide +kernel
theorem dX6_find_45 : decode cX6_find 45 = .ok (.iload 4, 2) := by decide +kernel
theorem dX6_find_47 : decode cX6_find 47 = .ok (.iaload, 1) := by decide +kernel
theorem dX6_find_48 : decode cX6_find 48 = .ok (.iload_n 2, 1) := by decide +kernel
theorem dX6_find_49 : decode cX6_find 49 = .ok (.invokevirtual 51, 3) := by decide +kernel
theorem dX6_find_52 : decode cX6_find 52 = .ok (.ifCond .eq 26, 3) := by decide +kernel
theorem dX6_find_55 : decode cX6_find 55 = .ok (.aload_n 0, 1) := by decide +kernel
theorem dX6_find_56 : decode cX6_find 56 = .ok (.aload_n 0, 1) := by decide +kernel
theorem dX6_find_57 : decode cX6_find 57 = .ok (.getfield 16, 3) := by decide +kernel
theorem dX6_find_60 : decode cX6_find 60 = .ok (.iload 4, 2) := by decide +kernel
theorem dX6_find_62 : decode cX6_find 62 = .ok (.iaload, 1) := by decide +kernel
theorem dX6_find_63 : decode cX6_find 63 = .ok (.iload_n 3, 1) := by decide +kernel
theorem dX6_find_64 : decode cX6_find 64 = .ok (.invokevirtual 51, 3) := by decide +kernel
theorem dX6_find_67 : decode cX6_find 67 = .ok (.ifCond .eq 11, 3) := by decide +kernel
theorem dX6_find_70 : decode cX6_find 70 = .ok (.aload_n 0, 1) := by decide +kernel
theorem dX6_find_71 : decode cX6_find 71 = .ok (.getfield 40, 3) := by decide +kernel
theorem dX6_find_74 : decode cX6_find 74 = .ok (.iload 4, 2) := by decide +kernel
theorem dX6_find_76 : decode cX6_find 76 = .ok (.iaload, 1) := by decide +kernel
theorem dX6_find_77 : decode cX6_find 77 = .ok (.ireturn, 1) := by decide +kernel
theorem dX6_find_78 : decode cX6_find 78 = .ok (.iinc 4 1, 3) := by decide +kernel
theorem dX6_find_81 : decode cX6_find 81 = .ok (.goto (-61), 3) := by decide +kernel
theorem dX6_find_84 : decode cX6_find 84 = .ok (.iconst (-1), 1) := by decide +kernel
theorem dX6_find_85 : decode cX6_find 85 = .ok (.ireturn, 1) := by decide +kernel
theorem dX6_since_0 : decode cX6_since 0 = .ok (.aload_n 0, 1) := by decide +kernel
theorem dX6_since_1 : decode cX6_since 1 = .ok (.iload_n 1, 1) := by decide +kernel
theorem dX6_since_2 : decode cX6_since 2 = .ok (.invokevirtual 77, 3) := by decide +kernel
theorem dX6_since_5 : decode cX6_since 5 = .ok (.ifCond .eq 21, 3) := by decide +kernel
theorem dX6_since_8 : decode cX6_since 8 = .ok (.aload_n 0, 1) := by decide +kernel
theorem dX6_since_9 : decode cX6_since 9 = .ok (.iload_n 2, 1) := by decide +kernel
theorem dX6_since_10 : decode cX6_since 10 = .ok (.invokevirtual 77, 3) := by decide +kernel
theorem dX6_since_13 : decode cX6_since 13 = .ok (.ifCond .eq 13, 3) := by decide +kernel
theorem dX6_since_16 : decode cX6_since 16 = .ok (.aload_n 0, 1) := by decide +kernel
theorem dX6_since_17 : decode cX6_since 17 = .ok (.iconst 0, 1) := by decide +kernel
theorem dX6_since_18 : decode cX6_since 18 = .ok (.iload_n 1, 1) := by decide +kernel
theorem dX6_since_19 : decode cX6_since 19 = .ok (.iload_n 2, 1) := by decide +kernel
theorem dX6_since_20 : decode cX6_since 20 = .ok (.invokevirtual 98, 3) := by decide +kernel
theorem dX6_since_23 : decode cX6_since 23 = .ok (.goto 5, 3) := by decide +kernel
theorem dX6_since_26 : decode cX6_since 26 = .ok (.bipush (-2), 2) := by decide +kernel
theorem dX6_since_28 : decode cX6_since 28 = .ok (.ireturn, 1) := by decide +kernel
theorem dX6_explanation_0 : decode cX6_explanation 0 = .ok (.aload_n 0, 1) := by decide +kernel
theorem dX6_explanation_1 : decode cX6_explanation 1 = .ok (.iload_n 1, 1) := by decide +kernel
theorem dX6_explanation_2 : decode cX6_explanation 2 = .ok (.invokevirtual 77, 3) := by decide +kernel
theorem dX6_explanation_5 : decode cX6_explanation 5 = .ok (.ifCond .eq 11, 3) := by decide +kernel
theorem dX6_explanation_8 : decode cX6_explanation 8 = .ok (.aload_n 0, 1) := by decide +kernel
theorem dX6_explanation_9 : decode cX6_explanation 9 = .ok (.iload_n 2, 1) := by decide +kernel
theorem dX6_explanation_10 : decode cX6_explanation 10 = .ok (.invokevirtual 77, 3) := by decide +kernel
theorem dX6_explanation_13 : decode cX6_explanation 13 = .ok (.ifCond .ne 6, 3) := by decide +kernel
theorem dX6_explanation_16 : decode cX6_explanation 16 = .ok (.bipush (-2), 2) := by decide +kernel
theorem dX6_explanation_18 : decode cX6_explanation 18 = .ok (.ireturn, 1) := by decide +kernel
theorem dX6_explanation_19 : decode cX6_explanation 19 = .ok (.iconst 0, 1) := by decide +kernel
theorem dX6_explanation_20 : decode cX6_explanation 20 = .ok (.istore_n 3, 1) := by decide +kernel
theorem dX6_explanation_21 : decode cX6_explanation 21 = .ok (.aload_n 0, 1) := by decide +kernel
theorem dX6_explanation_22 : decode cX6_explanation 22 = .ok (.iconst 0, 1) := by decide +kernel
theorem dX6_explanation_23 : decode cX6_explanation 23 = .ok (.iload_n 1, 1) := by decide +kernel
theorem dX6_explanation_24 : decode cX6_explanation 24 = .ok (.iload_n 2, 1) := by decide +kernel
theorem dX6_explanation_25 : decode cX6_explanation 25 = .ok (.invokevirtual 98, 3) := by decide +kernel
theorem dX6_explanation_28 : decode cX6_explanation 28 = .ok (.istore 4, 2) := by decide +kernel
theorem dX6_explanation_30 : decode cX6_explanation 30 = .ok (.iload 4, 2) := by decide +kernel
theorem dX6_explanation_32 : decode cX6_explanation 32 = .ok (.ifCond .ge 5, 3) := by decide +kernel
theorem dX6_explanation_35 : decode cX6_explanation 35 = .ok (.iconst (-1), 1) := by decide +kernel
theorem dX6_explanation_36 : decode cX6_explanation 36 = .ok (.ireturn, 1) := by decide +kernel
theorem dX6_explanation_37 : decode cX6_explanation 37 = .ok (.iload 4, 2) := by decide +kernel
theorem dX6_explanation_39 : decode cX6_explanation 39 = .ok (.ifCond .le 24, 3) := by decide +kernel
theorem dX6_explanation_42 : decode cX6_explanation 42 = .ok (.iload_n 3, 1) := by decide +kernel
theorem dX6_explanation_43 : decode cX6_explanation 43 = .ok (.iconst 1, 1) := by decide +kernel
theorem dX6_explanation_44 : decode cX6_explanation 44 = .ok (.iload 4, 2) := by decide +kernel
theorem dX6_explanation_46 : decode cX6_explanation 46 = .ok (.iconst 1, 1) := by decide +kernel
theorem dX6_explanation_47 : decode cX6_explanation 47 = .ok (.isub, 1) := by decide +kernel
theorem dX6_explanation_48 : decode cX6_explanation 48 = .ok (.ishl, 1) := by decide +kernel
theorem dX6_explanation_49 : decode cX6_explanation 49 = .ok (.ior, 1) := by decide +kernel
theorem dX6_explanation_50 : decode cX6_explanation 50 = .ok (.istore_n 3, 1) := by decide +kernel
theorem dX6_explanation_51 : decode cX6_explanation 51 = .ok (.aload_n 0, 1) := by decide +kernel
theorem dX6_explanation_52 : decode cX6_explanation 52 = .ok (.iload_n 3, 1) := by decide +kernel
theorem dX6_explanation_53 : decode cX6_explanation 53 = .ok (.iload_n 1, 1) := by decide +kernel
theorem dX6_explanation_54 : decode cX6_explanation 54 = .ok (.iload_n 2, 1) := by decide +kernel
theorem dX6_explanation_55 : decode cX6_explanation 55 = .ok (.invokevirtual 98, 3) := by decide +kernel
theorem dX6_explanation_58 : decode cX6_explanation 58 = .ok (.istore 4, 2) := by decide +kernel
theorem dX6_explanation_60 : decode cX6_explanation 60 = .ok (.goto (-23), 3) := by decide +kernel
theorem dX6_explanation_63 : decode cX6_explanation 63 = .ok (.iload_n 3, 1) := by decide +kernel
theorem dX6_explanation_64 : decode cX6_explanation 64 = .ok (.ireturn, 1) := by decide +kernel
theorem dX6_needed_0 : decode cX6_needed 0 = .ok (.aload_n 0, 1) := by decide +kernel
theorem dX6_needed_1 : decode cX6_needed 1 = .ok (.iload_n 1, 1) := by decide +kernel
theorem dX6_needed_2 : decode cX6_needed 2 = .ok (.invokevirtual 77, 3) := by decide +kernel
theorem dX6_needed_5 : decode cX6_needed 5 = .ok (.ifCond .eq 11, 3) := by decide +kernel
theorem dX6_needed_8 : decode cX6_needed 8 = .ok (.aload_n 0, 1) := by decide +kernel
theorem dX6_needed_9 : decode cX6_needed 9 = .ok (.iload_n 2, 1) := by decide +kernel
theorem dX6_needed_10 : decode cX6_needed 10 = .ok (.invokevirtual 77, 3) := by decide +kernel
theorem dX6_needed_13 : decode cX6_needed 13 = .ok (.ifCond .ne 6, 3) := by decide +kernel
theorem dX6_needed_16 : decode cX6_needed 16 = .ok (.bipush (-2), 2) := by decide +kernel
theorem dX6_needed_18 : decode cX6_needed 18 = .ok (.ireturn, 1) := by decide +kernel
theorem dX6_needed_19 : decode cX6_needed 19 = .ok (.aload_n 0, 1) := by decide +kernel
theorem dX6_needed_20 : decode cX6_needed 20 = .ok (.invokevirtual 85, 3) := by decide +kernel
theorem dX6_needed_23 : decode cX6_needed 23 = .ok (.aload_n 0, 1) := by decide +kernel
theorem dX6_needed_24 : decode cX6_needed 24 = .ok (.iload_n 1, 1) := by decide +kernel
theorem dX6_needed_25 : decode cX6_needed 25 = .ok (.iload_n 2, 1) := by decide +kernel
theorem dX6_needed_26 : decode cX6_needed 26 = .ok (.invokevirtual 74, 3) := by decide +kernel
theorem dX6_needed_29 : decode cX6_needed 29 = .ok (.ifCond .ne 5, 3) := by decide +kernel
theorem dX6_needed_32 : decode cX6_needed 32 = .ok (.iconst (-1), 1) := by decide +kernel
theorem dX6_needed_33 : decode cX6_needed 33 = .ok (.ireturn, 1) := by decide +kernel
theorem dX6_needed_34 : decode cX6_needed 34 = .ok (.iconst 1, 1) := by decide +kernel
theorem dX6_needed_35 : decode cX6_needed 35 = .ok (.aload_n 0, 1) := by decide +kernel
theorem dX6_needed_36 : decode cX6_needed 36 = .ok (.getfield 65, 3) := by decide +kernel
theorem dX6_needed_39 : decode cX6_needed 39 = .ok (.ishl, 1) := by decide +kernel
theorem dX6_needed_40 : decode cX6_needed 40 = .ok (.iconst 1, 1) := by decide +kernel
theorem dX6_needed_41 : decode cX6_needed 41 = .ok (.isub, 1) := by decide +kernel
theorem dX6_needed_42 : decode cX6_needed 42 = .ok (.istore_n 3, 1) := by decide +kernel
theorem dX6_needed_43 : decode cX6_needed 43 = .ok (.iconst 0, 1) := by decide +kernel
theorem dX6_needed_44 : decode cX6_needed 44 = .ok (.istore 4, 2) := by decide +kernel
theorem dX6_needed_46 : decode cX6_needed 46 = .ok (.iconst 0, 1) := by decide +kernel
theorem dX6_needed_47 : decode cX6_needed 47 = .ok (.istore 5, 2) := by decide +kernel
theorem dX6_needed_49 : decode cX6_needed 49 = .ok (.iload 5, 2) := by decide +kernel
theorem dX6_needed_51 : decode cX6_needed 51 = .ok (.aload_n 0, 1) := by decide +kernel
theorem dX6_needed_52 : decode cX6_needed 52 = .ok (.getfield 65, 3) := by decide +kernel
theorem dX6_needed_55 : decode cX6_needed 55 = .ok (.if_icmp .ge 45, 3) := by decide +kernel
theorem dX6_needed_58 : decode cX6_needed 58 = .ok (.aload_n 0, 1) := by decide +kernel
theorem dX6_needed_59 : decode cX6_needed 59 = .ok (.iload_n 3, 1) := by decide +kernel
theorem dX6_needed_60 : decode cX6_needed 60 = .ok (.iconst 1, 1) := by decide +kernel
theorem dX6_needed_61 : decode cX6_needed 61 = .ok (.iload 5, 2) := by decide +kernel
theorem dX6_needed_63 : decode cX6_needed 63 = .ok (.ishl, 1) := by decide +kernel
theorem dX6_needed_64 : decode cX6_needed 64 = .ok (.iconst (-1), 1) := by decide +kernel
theorem dX6_needed_65 : decode cX6_needed 65 = .ok (.ixor, 1) := by decide +kernel
theorem dX6_needed_66 : decode cX6_needed 66 = .ok (.iand, 1) := by decide +kernel
theorem dX6_needed_67 : decode cX6_needed 67 = .ok (.iconst 0, 1) := by decide +kernel
theorem dX6_needed_68 : decode cX6_needed 68 = .ok (.invokevirtual 71, 3) := by decide +kernel
theorem dX6_needed_71 : decode cX6_needed 71 = .ok (.aload_n 0, 1) := by decide +kernel
theorem dX6_needed_72 : decode cX6_needed 72 = .ok (.iload_n 1, 1) := by decide +kernel
theorem dX6_needed_73 : decode cX6_needed 73 = .ok (.iload_n 2, 1) := by decide +kernel
theorem dX6_needed_74 : decode cX6_needed 74 = .ok (.invokevirtual 74, 3) := by decide +kernel
theorem dX6_needed_77 : decode cX6_needed 77 = .ok (.ifCond .eq 8, 3) := by decide +kernel
theorem dX6_needed_80 : decode cX6_needed 80 = .ok (.iload 4, 2) := by decide +kernel
theorem dX6_needed_82 : decode cX6_needed 82 = .ok (.goto 10, 3) := by decide +kernel
theorem dX6_needed_85 : decode cX6_needed 85 = .ok (.iload 4, 2) := by decide +kernel
theorem dX6_needed_87 : decode cX6_needed 87 = .ok (.iconst 1, 1) := by decide +kernel
theorem dX6_needed_88 : decode cX6_needed 88 = .ok (.iload 5, 2) := by decide +kernel
theorem dX6_needed_90 : decode cX6_needed 90 = .ok (.ishl, 1) := by decide +kernel
theorem dX6_needed_91 : decode cX6_needed 91 = .ok (.ior, 1) := by decide +kernel
theorem dX6_needed_92 : decode cX6_needed 92 = .ok (.istore 4, 2) := by decide +kernel
theorem dX6_needed_94 : decode cX6_needed 94 = .ok (.iinc 5 1, 3) := by decide +kernel
theorem dX6_needed_97 : decode cX6_needed 97 = .ok (.goto (-48), 3) := by decide +kernel
theorem dX6_needed_100 : decode cX6_needed 100 = .ok (.iload 4, 2) := by decide +kernel
theorem dX6_needed_102 : decode cX6_needed 102 = .ok (.ireturn, 1) := by decide +kernel
theorem dX6_argument_0 : decode cX6_argument 0 = .ok (.iload_n 1, 1) := by decide +kernel
theorem dX6_argument_1 : decode cX6_argument 1 = .ok (.ifCond .ge 7, 3) := by decide +kernel
theorem dX6_argument_4 : decode cX6_argument 4 = .ok (.lconst 0, 1) := by decide +kernel
theorem dX6_argument_5 : decode cX6_argument 5 = .ok (.goto 14, 3) := by decide +kernel
theorem dX6_argument_8 : decode cX6_argument 8 = .ok (.aload_n 0, 1) := by decide +kernel
theorem dX6_argument_9 : decode cX6_argument 9 = .ok (.getfield 43, 3) := by decide +kernel
theorem dX6_argument_12 : decode cX6_argument 12 = .ok (.aload_n 0, 1) := by decide +kernel
theorem dX6_argument_13 : decode cX6_argument 13 = .ok (.getfield 40, 3) := by decide +kernel
theorem dX6_argument_16 : decode cX6_argument 16 = .ok (.iload_n 1, 1) := by decide +kernel
theorem dX6_argument_17 : decode cX6_argument 17 = .ok (.iaload, 1) := by decide +kernel
theorem dX6_argument_18 : decode cX6_argument 18 = .ok (.laload, 1) := by decide +kernel
theorem dX6_argument_19 : decode cX6_argument 19 = .ok (.lreturn, 1) := by decide +kernel
theorem dX6_sum_0 : decode cX6_sum 0 = .ok (.aload_n 0, 1) := by decide +kernel
theorem dX6_sum_1 : decode cX6_sum 1 = .ok (.getfield 13, 3) := by decide +kernel
theorem dX6_sum_4 : decode cX6_sum 4 = .ok (.iload_n 1, 1) := by decide +kernel
theorem dX6_sum_5 : decode cX6_sum 5 = .ok (.iaload, 1) := by decide +kernel
theorem dX6_sum_6 : decode cX6_sum 6 = .ok (.istore_n 2, 1) := by decide +kernel
theorem dX6_sum_7 : decode cX6_sum 7 = .ok (.aload_n 0, 1) := by decide +kernel
theorem dX6_sum_8 : decode cX6_sum 8 = .ok (.getfield 16, 3) := by decide +kernel
theorem dX6_sum_11 : decode cX6_sum 11 = .ok (.iload_n 1, 1) := by decide +kernel
theorem dX6_sum_12 : decode cX6_sum 12 = .ok (.iaload, 1) := by decide +kernel
theorem dX6_sum_13 : decode cX6_sum 13 = .ok (.istore_n 3, 1) := by decide +kernel
theorem dX6_sum_14 : decode cX6_sum 14 = .ok (.iload_n 2, 1) := by decide +kernel
theorem dX6_sum_15 : decode cX6_sum 15 = .ok (.ifCond .lt 13, 3) := by decide +kernel
theorem dX6_sum_18 : decode cX6_sum 18 = .ok (.aload_n 0, 1) := by decide +kernel
theorem dX6_sum_19 : decode cX6_sum 19 = .ok (.iload_n 2, 1) := by decide +kernel
theorem dX6_sum_20 : decode cX6_sum 20 = .ok (.invokevirtual 102, 3) := by decide +kernel
theorem dX6_sum_23 : decode cX6_sum 23 = .ok (.lconst 0, 1) := by decide +kernel
theorem dX6_sum_24 : decode cX6_sum 24 = .ok (.lcmp, 1) := by decide +kernel
theorem dX6_sum_25 : decode cX6_sum 25 = .ok (.ifCond .eq 17, 3) := by decide +kernel
theorem dX6_sum_28 : decode cX6_sum 28 = .ok (.iload_n 3, 1) := by decide +kernel
theorem dX6_sum_29 : decode cX6_sum 29 = .ok (.ifCond .lt 17, 3) := by decide +kernel
theorem dX6_sum_32 : decode cX6_sum 32 = .ok (.aload_n 0, 1) := by decide +kernel
theorem dX6_sum_33 : decode cX6_sum 33 = .ok (.iload_n 3, 1) := by decide +kernel
theorem dX6_sum_34 : decode cX6_sum 34 = .ok (.invokevirtual 102, 3) := by decide +kernel
theorem dX6_sum_37 : decode cX6_sum 37 = .ok (.lconst 0, 1) := by decide +kernel
theorem dX6_sum_38 : decode cX6_sum 38 = .ok (.lcmp, 1) := by decide +kernel
theorem dX6_sum_39 : decode cX6_sum 39 = .ok (.ifCond .ne 7, 3) := by decide +kernel
theorem dX6_sum_42 : decode cX6_sum 42 = .ok (.iconst 1, 1) := by decide +kernel
theorem dX6_sum_43 : decode cX6_sum 43 = .ok (.goto 4, 3) := by decide +kernel
theorem dX6_sum_46 : decode cX6_sum 46 = .ok (.iconst 0, 1) := by decide +kernel
theorem dX6_sum_47 : decode cX6_sum 47 = .ok (.istore 4, 2) := by decide +kernel
theorem dX6_sum_49 : decode cX6_sum 49 = .ok (.iload 4, 2) := by decide +kernel
theorem dX6_sum_51 : decode cX6_sum 51 = .ok (.ifCond .eq 7, 3) := by decide +kernel
theorem dX6_sum_54 : decode cX6_sum 54 = .ok (.lconst 0, 1) := by decide +kernel
theorem dX6_sum_55 : decode cX6_sum 55 = .ok (.goto 16, 3) := by decide +kernel
theorem dX6_sum_58 : decode cX6_sum 58 = .ok (.lconst 1, 1) := by decide +kernel
theorem dX6_sum_59 : decode cX6_sum 59 = .ok (.aload_n 0, 1) := by decide +kernel
theorem dX6_sum_60 : decode cX6_sum 60 = .ok (.iload_n 2, 1) := by decide +kernel
theorem dX6_sum_61 : decode cX6_sum 61 = .ok (.invokevirtual 102, 3) := by decide +kernel
theorem dX6_sum_64 : decode cX6_sum 64 = .ok (.ladd, 1) := by decide +kernel
theorem dX6_sum_65 : decode cX6_sum 65 = .ok (.aload_n 0, 1) := by decide +kernel
theorem dX6_sum_66 : decode cX6_sum 66 = .ok (.iload_n 3, 1) := by decide +kernel
theorem dX6_sum_67 : decode cX6_sum 67 = .ok (.invokevirtual 102, 3) := by decide +kernel
theorem dX6_sum_70 : decode cX6_sum 70 = .ok (.ladd, 1) := by decide +kernel
theorem dX6_sum_71 : decode cX6_sum 71 = .ok (.lreturn, 1) := by decide +kernel
theorem dX6_weigh_0 : decode cX6_weigh 0 = .ok (.aload_n 0, 1) := by decide +kernel
theorem dX6_weigh_1 : decode cX6_weigh 1 = .ok (.invokevirtual 85, 3) := by decide +kernel
theorem dX6_weigh_4 : decode cX6_weigh 4 = .ok (.iconst 0, 1) := by decide +kernel
theorem dX6_weigh_5 : decode cX6_weigh 5 = .ok (.istore_n 1, 1) := by decide +kernel
theorem dX6_weigh_6 : decode cX6_weigh 6 = .ok (.iload_n 1, 1) := by decide +kernel
theorem dX6_weigh_7 : decode cX6_weigh 7 = .ok (.aload_n 0, 1) := by decide +kernel
theorem dX6_weigh_8 : decode cX6_weigh 8 = .ok (.getfield 47, 3) := by decide +kernel
theorem dX6_weigh_11 : decode cX6_weigh 11 = .ok (.if_icmp .ge 16, 3) := by decide +kernel
theorem dX6_weigh_14 : decode cX6_weigh 14 = .ok (.aload_n 0, 1) := by decide +kernel
theorem dX6_weigh_15 : decode cX6_weigh 15 = .ok (.getfield 43, 3) := by decide +kernel
theorem dX6_weigh_18 : decode cX6_weigh 18 = .ok (.iload_n 1, 1) := by decide +kernel
theorem dX6_weigh_19 : decode cX6_weigh 19 = .ok (.lconst 0, 1) := by decide +kernel
theorem dX6_weigh_20 : decode cX6_weigh 20 = .ok (.lastore, 1) := by decide +kernel
theorem dX6_weigh_21 : decode cX6_weigh 21 = .ok (.iinc 1 1, 3) := by decide +kernel
theorem dX6_weigh_24 : decode cX6_weigh 24 = .ok (.goto (-18), 3) := by decide +kernel
theorem dX6_weigh_27 : decode cX6_weigh 27 = .ok (.iconst 1, 1) := by decide +kernel
theorem dX6_weigh_28 : decode cX6_weigh 28 = .ok (.istore_n 1, 1) := by decide +kernel
theorem dX6_weigh_29 : decode cX6_weigh 29 = .ok (.iconst 0, 1) := by decide +kernel
theorem dX6_weigh_30 : decode cX6_weigh 30 = .ok (.istore_n 2, 1) := by decide +kernel
theorem dX6_weigh_31 : decode cX6_weigh 31 = .ok (.iload_n 2, 1) := by decide +kernel
theorem dX6_weigh_32 : decode cX6_weigh 32 = .ok (.bipush 100, 2) := by decide +kernel
theorem dX6_weigh_34 : decode cX6_weigh 34 = .ok (.if_icmp .ge 89, 3) := by decide +kernel
theorem dX6_weigh_37 : decode cX6_weigh 37 = .ok (.iload_n 1, 1) := by decide +kernel
theorem dX6_weigh_38 : decode cX6_weigh 38 = .ok (.ifCond .eq 85, 3) := by decide +kernel
theorem dX6_weigh_41 : decode cX6_weigh 41 = .ok (.iconst 0, 1) := by decide +kernel
theorem dX6_weigh_42 : decode cX6_weigh 42 = .ok (.istore_n 1, 1) := by decide +kernel
theorem dX6_weigh_43 : decode cX6_weigh 43 = .ok (.iconst 0, 1) := by decide +kernel
theorem dX6_weigh_44 : decode cX6_weigh 44 = .ok (.istore_n 3, 1) := by decide +kernel
theorem dX6_weigh_45 : decode cX6_weigh 45 = .ok (.iload_n 3, 1) := by decide +kernel
theorem dX6_weigh_46 : decode cX6_weigh 46 = .ok (.aload_n 0, 1) := by decide +kernel
theorem dX6_weigh_47 : decode cX6_weigh 47 = .ok (.getfield 47, 3) := by decide +kernel
theorem dX6_weigh_50 : decode cX6_weigh 50 = .ok (.if_icmp .ge 67, 3) := by decide +kernel
theorem dX6_weigh_53 : decode cX6_weigh 53 = .ok (.aload_n 0, 1) := by decide +kernel
theorem dX6_weigh_54 : decode cX6_weigh 54 = .ok (.iload_n 3, 1) := by decide +kernel
theorem dX6_weigh_55 : decode cX6_weigh 55 = .ok (.invokevirtual 106, 3) := by decide +kernel
theorem dX6_weigh_58 : decode cX6_weigh 58 = .ok (.lstore 4, 2) := by decide +kernel
theorem dX6_weigh_60 : decode cX6_weigh 60 = .ok (.aload_n 0, 1) := by decide +kernel
theorem dX6_weigh_61 : decode cX6_weigh 61 = .ok (.getfield 40, 3) := by decide +kernel
theorem dX6_weigh_64 : decode cX6_weigh 64 = .ok (.iload_n 3, 1) := by decide +kernel
theorem dX6_weigh_65 : decode cX6_weigh 65 = .ok (.iaload, 1) := by decide +kernel
theorem dX6_weigh_66 : decode cX6_weigh 66 = .ok (.istore 6, 2) := by decide +kernel
theorem dX6_weigh_68 : decode cX6_weigh 68 = .ok (.lload 4, 2) := by decide +kernel
theorem dX6_weigh_70 : decode cX6_weigh 70 = .ok (.lconst 0, 1) := by decide +kernel
theorem dX6_weigh_71 : decode cX6_weigh 71 = .ok (.lcmp, 1) := by decide +kernel
theorem dX6_weigh_72 : decode cX6_weigh 72 = .ok (.ifCond .le 39, 3) := by decide +kernel
theorem dX6_weigh_75 : decode cX6_weigh 75 = .ok (.aload_n 0, 1) := by decide +kernel
theorem dX6_weigh_76 : decode cX6_weigh 76 = .ok (.getfield 43, 3) := by decide +kernel
theorem dX6_weigh_79 : decode cX6_weigh 79 = .ok (.iload 6, 2) := by decide +kernel
theorem dX6_weigh_81 : decode cX6_weigh 81 = .ok (.laload, 1) := by decide +kernel
theorem dX6_weigh_82 : decode cX6_weigh 82 = .ok (.lconst 0, 1) := by decide +kernel
theorem dX6_weigh_83 : decode cX6_weigh 83 = .ok (.lcmp, 1) := by decide +kernel
theorem dX6_weigh_84 : decode cX6_weigh 84 = .ok (.ifCond .eq 16, 3) := by decide +kernel
theorem dX6_weigh_87 : decode cX6_weigh 87 = .ok (.lload 4, 2) := by decide +kernel
theorem dX6_weigh_89 : decode cX6_weigh 89 = .ok (.aload_n 0, 1) := by decide +kernel
theorem dX6_weigh_90 : decode cX6_weigh 90 = .ok (.getfield 43, 3) := by decide +kernel
theorem dX6_weigh_93 : decode cX6_weigh 93 = .ok (.iload 6, 2) := by decide +kernel
theorem dX6_weigh_95 : decode cX6_weigh 95 = .ok (.laload, 1) := by decide +kernel
theorem dX6_weigh_96 : decode cX6_weigh 96 = .ok (.lcmp, 1) := by decide +kernel
theorem dX6_weigh_97 : decode cX6_weigh 97 = .ok (.ifCond .ge 14, 3) := by decide +kernel
theorem dX6_weigh_100 : decode cX6_weigh 100 = .ok (.aload_n 0, 1) := by decide +kernel
theorem dX6_weigh_101 : decode cX6_weigh 101 = .ok (.getfield 43, 3) := by decide +kernel
theorem dX6_weigh_104 : decode cX6_weigh 104 = .ok (.iload 6, 2) := by decide +kernel
theorem dX6_weigh_106 : decode cX6_weigh 106 = .ok (.lload 4, 2) := by decide +kernel
theorem dX6_weigh_108 : decode cX6_weigh 108 = .ok (.lastore, 1) := by decide +kernel
theorem dX6_weigh_109 : decode cX6_weigh 109 = .ok (.iconst 1, 1) := by decide +kernel
theorem dX6_weigh_110 : decode cX6_weigh 110 = .ok (.istore_n 1, 1) := by decide +kernel
theorem dX6_weigh_111 : decode cX6_weigh 111 = .ok (.iinc 3 1, 3) := by decide +kernel
theorem dX6_weigh_114 : decode cX6_weigh 114 = .ok (.goto (-69), 3) := by decide +kernel
theorem dX6_weigh_117 : decode cX6_weigh 117 = .ok (.iinc 2 1, 3) := by decide +kernel
theorem dX6_weigh_120 : decode cX6_weigh 120 = .ok (.goto (-89), 3) := by decide +kernel
theorem dX6_weigh_123 : decode cX6_weigh 123 = .ok (.return_, 1) := by decide +kernel
theorem dX6_bestOf_0 : decode cX6_bestOf 0 = .ok (.aload_n 0, 1) := by decide +kernel
theorem dX6_bestOf_1 : decode cX6_bestOf 1 = .ok (.getfield 40, 3) := by decide +kernel
theorem dX6_bestOf_4 : decode cX6_bestOf 4 = .ok (.iload_n 1, 1) := by decide +kernel
theorem dX6_bestOf_5 : decode cX6_bestOf 5 = .ok (.iaload, 1) := by decide +kernel
theorem dX6_bestOf_6 : decode cX6_bestOf 6 = .ok (.istore_n 2, 1) := by decide +kernel
theorem dX6_bestOf_7 : decode cX6_bestOf 7 = .ok (.iconst 0, 1) := by decide +kernel
theorem dX6_bestOf_8 : decode cX6_bestOf 8 = .ok (.istore_n 3, 1) := by decide +kernel
theorem dX6_bestOf_9 : decode cX6_bestOf 9 = .ok (.iload_n 3, 1) := by decide +kernel
theorem dX6_bestOf_10 : decode cX6_bestOf 10 = .ok (.aload_n 0, 1) := by decide +kernel
theorem dX6_bestOf_11 : decode cX6_bestOf 11 = .ok (.getfield 47, 3) := by decide +kernel
theorem dX6_bestOf_14 : decode cX6_bestOf 14 = .ok (.if_icmp .ge 36, 3) := by decide +kernel
theorem dX6_bestOf_17 : decode cX6_bestOf 17 = .ok (.aload_n 0, 1) := by decide +kernel
theorem dX6_bestOf_18 : decode cX6_bestOf 18 = .ok (.getfield 40, 3) := by decide +kernel
theorem dX6_bestOf_21 : decode cX6_bestOf 21 = .ok (.iload_n 3, 1) := by decide +kernel
theorem dX6_bestOf_22 : decode cX6_bestOf 22 = .ok (.iaload, 1) := by decide +kernel
theorem dX6_bestOf_23 : decode cX6_bestOf 23 = .ok (.iload_n 2, 1) := by decide +kernel
theorem dX6_bestOf_24 : decode cX6_bestOf 24 = .ok (.if_icmp .ne 20, 3) := by decide +kernel
theorem dX6_bestOf_27 : decode cX6_bestOf 27 = .ok (.aload_n 0, 1) := by decide +kernel
theorem dX6_bestOf_28 : decode cX6_bestOf 28 = .ok (.iload_n 3, 1) := by decide +kernel
theorem dX6_bestOf_29 : decode cX6_bestOf 29 = .ok (.invokevirtual 106, 3) := by decide +kernel
theorem dX6_bestOf_32 : decode cX6_bestOf 32 = .ok (.aload_n 0, 1) := by decide +kernel
theorem dX6_bestOf_33 : decode cX6_bestOf 33 = .ok (.getfield 43, 3) := by decide +kernel
theorem dX6_bestOf_36 : decode cX6_bestOf 36 = .ok (.iload_n 2, 1) := by decide +kernel
theorem dX6_bestOf_37 : decode cX6_bestOf 37 = .ok (.laload, 1) := by decide +kernel
theorem dX6_bestOf_38 : decode cX6_bestOf 38 = .ok (.lcmp, 1) := by decide +kernel
theorem dX6_bestOf_39 : decode cX6_bestOf 39 = .ok (.ifCond .ne 5, 3) := by decide +kernel
theorem dX6_bestOf_42 : decode cX6_bestOf 42 = .ok (.iload_n 3, 1) := by decide +kernel
theorem dX6_bestOf_43 : decode cX6_bestOf 43 = .ok (.ireturn, 1) := by decide +kernel
theorem dX6_bestOf_44 : decode cX6_bestOf 44 = .ok (.iinc 3 1, 3) := by decide +kernel
theorem dX6_bestOf_47 : decode cX6_bestOf 47 = .ok (.goto (-38), 3) := by decide +kernel
theorem dX6_bestOf_50 : decode cX6_bestOf 50 = .ok (.iconst (-1), 1) := by decide +kernel
theorem dX6_bestOf_51 : decode cX6_bestOf 51 = .ok (.ireturn, 1) := by decide +kernel
theorem dX6_weight_0 : decode cX6_weight 0 = .ok (.aload_n 0, 1) := by decide +kernel
theorem dX6_weight_1 : decode cX6_weight 1 = .ok (.iload_n 1, 1) := by decide +kernel
theorem dX6_weight_2 : decode cX6_weight 2 = .ok (.invokevirtual 77, 3) := by decide +kernel
theorem dX6_weight_5 : decode cX6_weight 5 = .ok (.ifCond .ne 5, 3) := by decide +kernel
theorem dX6_weight_8 : decode cX6_weight 8 = .ok (.lconst 0, 1) := by decide +kernel
theorem dX6_weight_9 : decode cX6_weight 9 = .ok (.lreturn, 1) := by decide +kernel
theorem dX6_weight_10 : decode cX6_weight 10 = .ok (.aload_n 0, 1) := by decide +kernel
theorem dX6_weight_11 : decode cX6_weight 11 = .ok (.invokevirtual 109, 3) := by decide +kernel
theorem dX6_weight_14 : decode cX6_weight 14 = .ok (.aload_n 0, 1) := by decide +kernel
theorem dX6_weight_15 : decode cX6_weight 15 = .ok (.getfield 43, 3) := by decide +kernel
theorem dX6_weight_18 : decode cX6_weight 18 = .ok (.aload_n 0, 1) := by decide +kernel
theorem dX6_weight_19 : decode cX6_weight 19 = .ok (.getfield 40, 3) := by decide +kernel
theorem dX6_weight_22 : decode cX6_weight 22 = .ok (.iload_n 1, 1) := by decide +kernel
theorem dX6_weight_23 : decode cX6_weight 23 = .ok (.iaload, 1) := by decide +kernel
theorem dX6_weight_24 : decode cX6_weight 24 = .ok (.laload, 1) := by decide +kernel
theorem dX6_weight_25 : decode cX6_weight 25 = .ok (.lreturn, 1) := by decide +kernel
theorem dX6_best_0 : decode cX6_best 0 = .ok (.aload_n 0, 1) := by decide +kernel
theorem dX6_best_1 : decode cX6_best 1 = .ok (.iload_n 1, 1) := by decide +kernel
theorem dX6_best_2 : decode cX6_best 2 = .ok (.invokevirtual 77, 3) := by decide +kernel
theorem dX6_best_5 : decode cX6_best 5 = .ok (.ifCond .ne 6, 3) := by decide +kernel
theorem dX6_best_8 : decode cX6_best 8 = .ok (.bipush (-2), 2) := by decide +kernel
theorem dX6_best_10 : decode cX6_best 10 = .ok (.ireturn, 1) := by decide +kernel
theorem dX6_best_11 : decode cX6_best 11 = .ok (.aload_n 0, 1) := by decide +kernel
theorem dX6_best_12 : decode cX6_best 12 = .ok (.invokevirtual 109, 3) := by decide +kernel
theorem dX6_best_15 : decode cX6_best 15 = .ok (.aload_n 0, 1) := by decide +kernel
theorem dX6_best_16 : decode cX6_best 16 = .ok (.iload_n 1, 1) := by decide +kernel
theorem dX6_best_17 : decode cX6_best 17 = .ok (.invokevirtual 112, 3) := by decide +kernel
theorem dX6_best_20 : decode cX6_best 20 = .ok (.ireturn, 1) := by decide +kernel
theorem dX6_written_0 : decode cX6_written 0 = .ok (.aload_n 0, 1) := by decide +kernel
theorem dX6_written_1 : decode cX6_written 1 = .ok (.iload_n 1, 1) := by decide +kernel
theorem dX6_written_2 : decode cX6_written 2 = .ok (.invokevirtual 77, 3) := by decide +kernel
theorem dX6_written_5 : decode cX6_written 5 = .ok (.ifCond .ne 6, 3) := by decide +kernel
theorem dX6_written_8 : decode cX6_written 8 = .ok (.bipush (-2), 2) := by decide +kernel
theorem dX6_written_10 : decode cX6_written 10 = .ok (.ireturn, 1) := by decide +kernel
theorem dX6_written_11 : decode cX6_written 11 = .ok (.aload_n 0, 1) := by decide +kernel
theorem dX6_written_12 : decode cX6_written 12 = .ok (.invokevirtual 109, 3) := by decide +kernel
theorem dX6_written_15 : decode cX6_written 15 = .ok (.iload_n 2, 1) := by decide +kernel
theorem dX6_written_16 : decode cX6_written 16 = .ok (.ifCond .lt 20, 3) := by decide +kernel
theorem dX6_written_19 : decode cX6_written 19 = .ok (.iload_n 2, 1) := by decide +kernel
theorem dX6_written_20 : decode cX6_written 20 = .ok (.i2l, 1) := by decide +kernel
theorem dX6_written_21 : decode cX6_written 21 = .ok (.aload_n 0, 1) := by decide +kernel
theorem dX6_written_22 : decode cX6_written 22 = .ok (.getfield 43, 3) := by decide +kernel
theorem dX6_written_25 : decode cX6_written 25 = .ok (.aload_n 0, 1) := by decide +kernel
theorem dX6_written_26 : decode cX6_written 26 = .ok (.getfield 40, 3) := by decide +kernel
theorem dX6_written_29 : decode cX6_written 29 = .ok (.iload_n 1, 1) := by decide +kernel
theorem dX6_written_30 : decode cX6_written 30 = .ok (.iaload, 1) := by decide +kernel
theorem dX6_written_31 : decode cX6_written 31 = .ok (.laload, 1) := by decide +kernel
theorem dX6_written_32 : decode cX6_written 32 = .ok (.lcmp, 1) := by decide +kernel
theorem dX6_written_33 : decode cX6_written 33 = .ok (.ifCond .lt 5, 3) := by decide +kernel
theorem dX6_written_36 : decode cX6_written 36 = .ok (.iconst (-1), 1) := by decide +kernel
theorem dX6_written_37 : decode cX6_written 37 = .ok (.ireturn, 1) := by decide +kernel
theorem dX6_written_38 : decode cX6_written 38 = .ok (.aload_n 0, 1) := by decide +kernel
theorem dX6_written_39 : decode cX6_written 39 = .ok (.iload_n 1, 1) := by decide +kernel
theorem dX6_written_40 : decode cX6_written 40 = .ok (.invokevirtual 112, 3) := by decide +kernel
theorem dX6_written_43 : decode cX6_written 43 = .ok (.istore_n 3, 1) := by decide +kernel
theorem dX6_written_44 : decode cX6_written 44 = .ok (.iload_n 2, 1) := by decide +kernel
theorem dX6_written_45 : decode cX6_written 45 = .ok (.i2l, 1) := by decide +kernel
theorem dX6_written_46 : decode cX6_written 46 = .ok (.lstore 4, 2) := by decide +kernel
theorem dX6_written_48 : decode cX6_written 48 = .ok (.lload 4, 2) := by decide +kernel
theorem dX6_written_50 : decode cX6_written 50 = .ok (.lconst 0, 1) := by decide +kernel
theorem dX6_written_51 : decode cX6_written 51 = .ok (.lcmp, 1) := by decide +kernel
theorem dX6_written_52 : decode cX6_written 52 = .ok (.ifCond .le 81, 3) := by decide +kernel
theorem dX6_written_55 : decode cX6_written 55 = .ok (.lload 4, 2) := by decide +kernel
theorem dX6_written_57 : decode cX6_written 57 = .ok (.lconst 1, 1) := by decide +kernel
theorem dX6_written_58 : decode cX6_written 58 = .ok (.lsub, 1) := by decide +kernel
theorem dX6_written_59 : decode cX6_written 59 = .ok (.lstore 4, 2) := by decide +kernel
theorem dX6_written_61 : decode cX6_written 61 = .ok (.aload_n 0, 1) := by decide +kernel
theorem dX6_written_62 : decode cX6_written 62 = .ok (.aload_n 0, 1) := by decide +kernel
theorem dX6_written_63 : decode cX6_written 63 = .ok (.getfield 13, 3) := by decide +kernel
theorem dX6_written_66 : decode cX6_written 66 = .ok (.iload_n 3, 1) := by decide +kernel
theorem dX6_written_67 : decode cX6_written 67 = .ok (.iaload, 1) := by decide +kernel
theorem dX6_written_68 : decode cX6_written 68 = .ok (.invokevirtual 102, 3) := by decide +kernel
theorem dX6_written_71 : decode cX6_written 71 = .ok (.lstore 6, 2) := by decide +kernel
theorem dX6_written_73 : decode cX6_written 73 = .ok (.lload 4, 2) := by decide +kernel
theorem dX6_written_75 : decode cX6_written 75 = .ok (.lload 6, 2) := by decide +kernel
theorem dX6_written_77 : decode cX6_written 77 = .ok (.lcmp, 1) := by decide +kernel
theorem dX6_written_78 : decode cX6_written 78 = .ok (.ifCond .lt 7, 3) := by decide +kernel
theorem dX6_written_81 : decode cX6_written 81 = .ok (.iconst 1, 1) := by decide +kernel
theorem dX6_written_82 : decode cX6_written 82 = .ok (.goto 4, 3) := by decide +kernel
theorem dX6_written_85 : decode cX6_written 85 = .ok (.iconst 0, 1) := by decide +kernel
theorem dX6_written_86 : decode cX6_written 86 = .ok (.istore 8, 2) := by decide +kernel
theorem dX6_written_88 : decode cX6_written 88 = .ok (.iload 8, 2) := by decide +kernel
theorem dX6_written_90 : decode cX6_written 90 = .ok (.ifCond .eq 11, 3) := by decide +kernel
theorem dX6_written_93 : decode cX6_written 93 = .ok (.lload 4, 2) := by decide +kernel
theorem dX6_written_95 : decode cX6_written 95 = .ok (.lload 6, 2) := by decide +kernel
theorem dX6_written_97 : decode cX6_written 97 = .ok (.lsub, 1) := by decide +kernel
theorem dX6_written_98 : decode cX6_written 98 = .ok (.goto 5, 3) := by decide +kernel
theorem dX6_written_101 : decode cX6_written 101 = .ok (.lload 4, 2) := by decide +kernel
theorem dX6_written_103 : decode cX6_written 103 = .ok (.lstore 4, 2) := by decide +kernel
theorem dX6_written_105 : decode cX6_written 105 = .ok (.aload_n 0, 1) := by decide +kernel
theorem dX6_written_106 : decode cX6_written 106 = .ok (.iload 8, 2) := by decide +kernel
theorem dX6_written_108 : decode cX6_written 108 = .ok (.ifCond .eq 12, 3) := by decide +kernel
theorem dX6_written_111 : decode cX6_written 111 = .ok (.aload_n 0, 1) := by decide +kernel
theorem dX6_written_112 : decode cX6_written 112 = .ok (.getfield 16, 3) := by decide +kernel
theorem dX6_written_115 : decode cX6_written 115 = .ok (.iload_n 3, 1) := by decide +kernel
theorem dX6_written_116 : decode cX6_written 116 = .ok (.iaload, 1) := by decide +kernel
theorem dX6_written_117 : decode cX6_written 117 = .ok (.goto 9, 3) := by decide +kernel
theorem dX6_written_120 : decode cX6_written 120 = .ok (.aload_n 0, 1) := by decide +kernel
theorem dX6_written_121 : decode cX6_written 121 = .ok (.getfield 13, 3) := by decide +kernel
theorem dX6_written_124 : decode cX6_written 124 = .ok (.iload_n 3, 1) := by decide +kernel
theorem dX6_written_125 : decode cX6_written 125 = .ok (.iaload, 1) := by decide +kernel
theorem dX6_written_126 : decode cX6_written 126 = .ok (.invokevirtual 112, 3) := by decide +kernel
theorem dX6_written_129 : decode cX6_written 129 = .ok (.istore_n 3, 1) := by decide +kernel
theorem dX6_written_130 : decode cX6_written 130 = .ok (.goto (-82), 3) := by decide +kernel
theorem dX6_written_133 : decode cX6_written 133 = .ok (.aload_n 0, 1) := by decide +kernel
theorem dX6_written_134 : decode cX6_written 134 = .ok (.getfield 7, 3) := by decide +kernel
theorem dX6_written_137 : decode cX6_written 137 = .ok (.iload_n 3, 1) := by decide +kernel
theorem dX6_written_138 : decode cX6_written 138 = .ok (.iaload, 1) := by decide +kernel
theorem dX6_written_139 : decode cX6_written 139 = .ok (.ireturn, 1) := by decide +kernel
theorem dX6_terms_0 : decode cX6_terms 0 = .ok (.aload_n 0, 1) := by decide +kernel
theorem dX6_terms_1 : decode cX6_terms 1 = .ok (.getfield 47, 3) := by decide +kernel
theorem dX6_terms_4 : decode cX6_terms 4 = .ok (.ireturn, 1) := by decide +kernel
theorem dX6_equations_0 : decode cX6_equations 0 = .ok (.aload_n 0, 1) := by decide +kernel
theorem dX6_equations_1 : decode cX6_equations 1 = .ok (.getfield 65, 3) := by decide +kernel
theorem dX6_equations_4 : decode cX6_equations 4 = .ok (.ireturn, 1) := by decide +kernel
