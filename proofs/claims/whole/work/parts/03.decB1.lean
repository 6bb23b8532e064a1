theorem dX10_onlySmall_21 : decode cX10_onlySmall 21 = .ok (.iconst 0, 1) := by decide +kernel
theorem dX10_onlySmall_22 : decode cX10_onlySmall 22 = .ok (.ireturn, 1) := by decide +kernel
theorem dX10_onlySmall_23 : decode cX10_onlySmall 23 = .ok (.iinc 1 1, 3) := by decide +kernel
theorem dX10_onlySmall_26 : decode cX10_onlySmall 26 = .ok (.goto (-24), 3) := by decide +kernel
theorem dX10_onlySmall_29 : decode cX10_onlySmall 29 = .ok (.iconst 1, 1) := by decide +kernel
theorem dX10_onlySmall_30 : decode cX10_onlySmall 30 = .ok (.ireturn, 1) := by decide +kernel
theorem dX10_onlyInk_0 : decode cX10_onlyInk 0 = .ok (.iconst 0, 1) := by decide +kernel
theorem dX10_onlyInk_1 : decode cX10_onlyInk 1 = .ok (.istore_n 1, 1) := by decide +kernel
theorem dX10_onlyInk_2 : decode cX10_onlyInk 2 = .ok (.iload_n 1, 1) := by decide +kernel
theorem dX10_onlyInk_3 : decode cX10_onlyInk 3 = .ok (.aload_n 0, 1) := by decide +kernel
theorem dX10_onlyInk_4 : decode cX10_onlyInk 4 = .ok (.invokevirtual 83, 3) := by decide +kernel
theorem dX10_onlyInk_7 : decode cX10_onlyInk 7 = .ok (.if_icmp .ge 30, 3) := by decide +kernel
theorem dX10_onlyInk_10 : decode cX10_onlyInk 10 = .ok (.aload_n 0, 1) := by decide +kernel
theorem dX10_onlyInk_11 : decode cX10_onlyInk 11 = .ok (.iload_n 1, 1) := by decide +kernel
theorem dX10_onlyInk_12 : decode cX10_onlyInk 12 = .ok (.invokevirtual 148, 3) := by decide +kernel
theorem dX10_onlyInk_15 : decode cX10_onlyInk 15 = .ok (.istore_n 2, 1) := by decide +kernel
theorem dX10_onlyInk_16 : decode cX10_onlyInk 16 = .ok (.iload_n 2, 1) := by decide +kernel
theorem dX10_onlyInk_17 : decode cX10_onlyInk 17 = .ok (.invokestatic 257, 3) := by decide +kernel
theorem dX10_onlyInk_20 : decode cX10_onlyInk 20 = .ok (.ifCond .ne 11, 3) := by decide +kernel
theorem dX10_onlyInk_23 : decode cX10_onlyInk 23 = .ok (.iload_n 2, 1) := by decide +kernel
theorem dX10_onlyInk_24 : decode cX10_onlyInk 24 = .ok (.bipush 39, 2) := by decide +kernel
theorem dX10_onlyInk_26 : decode cX10_onlyInk 26 = .ok (.if_icmp .eq 5, 3) := by decide +kernel
theorem dX10_onlyInk_29 : decode cX10_onlyInk 29 = .ok (.iconst 0, 1) := by decide +kernel
theorem dX10_onlyInk_30 : decode cX10_onlyInk 30 = .ok (.ireturn, 1) := by decide +kernel
theorem dX10_onlyInk_31 : decode cX10_onlyInk 31 = .ok (.iinc 1 1, 3) := by decide +kernel
theorem dX10_onlyInk_34 : decode cX10_onlyInk 34 = .ok (.goto (-32), 3) := by decide +kernel
theorem dX10_onlyInk_37 : decode cX10_onlyInk 37 = .ok (.iconst 1, 1) := by decide +kernel
theorem dX10_onlyInk_38 : decode cX10_onlyInk 38 = .ok (.ireturn, 1) := by decide +kernel
