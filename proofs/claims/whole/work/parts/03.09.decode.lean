theorem dAr_fill_0 : decode cAr_fill 0 = .ok (.iconst 0, 1) := by decide +kernel
theorem dAr_fill_1 : decode cAr_fill 1 = .ok (.istore_n 3, 1) := by decide +kernel
theorem dAr_fill_2 : decode cAr_fill 2 = .ok (.aload_n 0, 1) := by decide +kernel
theorem dAr_fill_3 : decode cAr_fill 3 = .ok (.arraylength, 1) := by decide +kernel
theorem dAr_fill_4 : decode cAr_fill 4 = .ok (.istore 4, 2) := by decide +kernel
theorem dAr_fill_6 : decode cAr_fill 6 = .ok (.iload_n 3, 1) := by decide +kernel
theorem dAr_fill_7 : decode cAr_fill 7 = .ok (.iload 4, 2) := by decide +kernel
theorem dAr_fill_9 : decode cAr_fill 9 = .ok (.if_icmp .ge 13, 3) := by decide +kernel
theorem dAr_fill_12 : decode cAr_fill 12 = .ok (.aload_n 0, 1) := by decide +kernel
theorem dAr_fill_13 : decode cAr_fill 13 = .ok (.iload_n 3, 1) := by decide +kernel
theorem dAr_fill_14 : decode cAr_fill 14 = .ok (.lload_n 1, 1) := by decide +kernel
theorem dAr_fill_15 : decode cAr_fill 15 = .ok (.lastore, 1) := by decide +kernel
theorem dAr_fill_16 : decode cAr_fill 16 = .ok (.iinc 3 1, 3) := by decide +kernel
theorem dAr_fill_19 : decode cAr_fill 19 = .ok (.goto (-13), 3) := by decide +kernel
theorem dAr_fill_22 : decode cAr_fill 22 = .ok (.return_, 1) := by decide +kernel
