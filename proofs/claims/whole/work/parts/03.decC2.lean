theorem dX11_layAheads_22 : decode cX11_layAheads 22 = .ok (.istore_n 1, 1) := by decide +kernel
theorem dX11_layAheads_23 : decode cX11_layAheads 23 = .ok (.iload_n 1, 1) := by decide +kernel
theorem dX11_layAheads_24 : decode cX11_layAheads 24 = .ok (.aload_n 0, 1) := by decide +kernel
theorem dX11_layAheads_25 : decode cX11_layAheads 25 = .ok (.getfield 109, 3) := by decide +kernel
theorem dX11_layAheads_28 : decode cX11_layAheads 28 = .ok (.if_icmp .ge 52, 3) := by decide +kernel
theorem dX11_layAheads_31 : decode cX11_layAheads 31 = .ok (.iconst 0, 1) := by decide +kernel
theorem dX11_layAheads_32 : decode cX11_layAheads 32 = .ok (.istore_n 2, 1) := by decide +kernel
theorem dX11_layAheads_33 : decode cX11_layAheads 33 = .ok (.iload_n 2, 1) := by decide +kernel
theorem dX11_layAheads_34 : decode cX11_layAheads 34 = .ok (.aload_n 0, 1) := by decide +kernel
theorem dX11_layAheads_35 : decode cX11_layAheads 35 = .ok (.getfield 109, 3) := by decide +kernel
theorem dX11_layAheads_38 : decode cX11_layAheads 38 = .ok (.if_icmp .ge 36, 3) := by decide +kernel
theorem dX11_layAheads_41 : decode cX11_layAheads 41 = .ok (.iload_n 1, 1) := by decide +kernel
theorem dX11_layAheads_42 : decode cX11_layAheads 42 = .ok (.iload_n 2, 1) := by decide +kernel
theorem dX11_layAheads_43 : decode cX11_layAheads 43 = .ok (.if_icmp .eq 25, 3) := by decide +kernel
theorem dX11_layAheads_46 : decode cX11_layAheads 46 = .ok (.aload_n 0, 1) := by decide +kernel
theorem dX11_layAheads_47 : decode cX11_layAheads 47 = .ok (.iload_n 1, 1) := by decide +kernel
theorem dX11_layAheads_48 : decode cX11_layAheads 48 = .ok (.iload_n 2, 1) := by decide +kernel
theorem dX11_layAheads_49 : decode cX11_layAheads 49 = .ok (.invokevirtual 157, 3) := by decide +kernel
theorem dX11_layAheads_52 : decode cX11_layAheads 52 = .ok (.ifCond .eq 16, 3) := by decide +kernel
theorem dX11_layAheads_55 : decode cX11_layAheads 55 = .ok (.aload_n 0, 1) := by decide +kernel
theorem dX11_layAheads_56 : decode cX11_layAheads 56 = .ok (.iconst 5, 1) := by decide +kernel
theorem dX11_layAheads_57 : decode cX11_layAheads 57 = .ok (.iload_n 2, 1) := by decide +kernel
theorem dX11_layAheads_58 : decode cX11_layAheads 58 = .ok (.imul, 1) := by decide +kernel
theorem dX11_layAheads_59 : decode cX11_layAheads 59 = .ok (.aload_n 0, 1) := by decide +kernel
theorem dX11_layAheads_60 : decode cX11_layAheads 60 = .ok (.iload_n 1, 1) := by decide +kernel
theorem dX11_layAheads_61 : decode cX11_layAheads 61 = .ok (.invokevirtual 137, 3) := by decide +kernel
theorem dX11_layAheads_64 : decode cX11_layAheads 64 = .ok (.iadd, 1) := by decide +kernel
theorem dX11_layAheads_65 : decode cX11_layAheads 65 = .ok (.invokevirtual 229, 3) := by decide +kernel
theorem dX11_layAheads_68 : decode cX11_layAheads 68 = .ok (.iinc 2 1, 3) := by decide +kernel
theorem dX11_layAheads_71 : decode cX11_layAheads 71 = .ok (.goto (-38), 3) := by decide +kernel
theorem dX11_layAheads_74 : decode cX11_layAheads 74 = .ok (.iinc 1 1, 3) := by decide +kernel
theorem dX11_layAheads_77 : decode cX11_layAheads 77 = .ok (.goto (-54), 3) := by decide +kernel
theorem dX11_layAheads_80 : decode cX11_layAheads 80 = .ok (.aload_n 0, 1) := by decide +kernel
theorem dX11_layAheads_81 : decode cX11_layAheads 81 = .ok (.iconst 1, 1) := by decide +kernel
theorem dX11_layAheads_82 : decode cX11_layAheads 82 = .ok (.putfield 222, 3) := by decide +kernel
theorem dX11_layAheads_85 : decode cX11_layAheads 85 = .ok (.aload_n 0, 1) := by decide +kernel
theorem dX11_layAheads_86 : decode cX11_layAheads 86 = .ok (.getfield 222, 3) := by decide +kernel
theorem dX11_layAheads_89 : decode cX11_layAheads 89 = .ok (.ifCond .eq 47, 3) := by decide +kernel
theorem dX11_layAheads_92 : decode cX11_layAheads 92 = .ok (.aload_n 0, 1) := by decide +kernel
theorem dX11_layAheads_93 : decode cX11_layAheads 93 = .ok (.iconst 0, 1) := by decide +kernel
theorem dX11_layAheads_94 : decode cX11_layAheads 94 = .ok (.putfield 222, 3) := by decide +kernel
theorem dX11_layAheads_97 : decode cX11_layAheads 97 = .ok (.iconst 0, 1) := by decide +kernel
theorem dX11_layAheads_98 : decode cX11_layAheads 98 = .ok (.istore_n 1, 1) := by decide +kernel
theorem dX11_layAheads_99 : decode cX11_layAheads 99 = .ok (.iload_n 1, 1) := by decide +kernel
theorem dX11_layAheads_100 : decode cX11_layAheads 100 = .ok (.bipush 40, 2) := by decide +kernel
theorem dX11_layAheads_102 : decode cX11_layAheads 102 = .ok (.if_icmp .ge 31, 3) := by decide +kernel
theorem dX11_layAheads_105 : decode cX11_layAheads 105 = .ok (.aload_n 0, 1) := by decide +kernel
theorem dX11_layAheads_106 : decode cX11_layAheads 106 = .ok (.getfield 55, 3) := by decide +kernel
theorem dX11_layAheads_109 : decode cX11_layAheads 109 = .ok (.iload_n 1, 1) := by decide +kernel
theorem dX11_layAheads_110 : decode cX11_layAheads 110 = .ok (.baload, 1) := by decide +kernel
theorem dX11_layAheads_111 : decode cX11_layAheads 111 = .ok (.ifCond .eq 16, 3) := by decide +kernel
theorem dX11_layAheads_114 : decode cX11_layAheads 114 = .ok (.aload_n 0, 1) := by decide +kernel
theorem dX11_layAheads_115 : decode cX11_layAheads 115 = .ok (.iload_n 1, 1) := by decide +kernel
theorem dX11_layAheads_116 : decode cX11_layAheads 116 = .ok (.invokevirtual 207, 3) := by decide +kernel
theorem dX11_layAheads_119 : decode cX11_layAheads 119 = .ok (.ifCond .le 8, 3) := by decide +kernel
theorem dX11_layAheads_122 : decode cX11_layAheads 122 = .ok (.aload_n 0, 1) := by decide +kernel
theorem dX11_layAheads_123 : decode cX11_layAheads 123 = .ok (.iload_n 1, 1) := by decide +kernel
theorem dX11_layAheads_124 : decode cX11_layAheads 124 = .ok (.invokevirtual 236, 3) := by decide +kernel
theorem dX11_layAheads_127 : decode cX11_layAheads 127 = .ok (.iinc 1 1, 3) := by decide +kernel
theorem dX11_layAheads_130 : decode cX11_layAheads 130 = .ok (.goto (-31), 3) := by decide +kernel
theorem dX11_layAheads_133 : decode cX11_layAheads 133 = .ok (.goto (-48), 3) := by decide +kernel
theorem dX11_layAheads_136 : decode cX11_layAheads 136 = .ok (.return_, 1) := by decide +kernel
theorem dX11_isClean_0 : decode cX11_isClean 0 = .ok (.aload_n 0, 1) := by decide +kernel
theorem dX11_isClean_1 : decode cX11_isClean 1 = .ok (.invokevirtual 239, 3) := by decide +kernel
theorem dX11_isClean_4 : decode cX11_isClean 4 = .ok (.iconst 1, 1) := by decide +kernel
theorem dX11_isClean_5 : decode cX11_isClean 5 = .ok (.istore_n 1, 1) := by decide +kernel
theorem dX11_isClean_6 : decode cX11_isClean 6 = .ok (.iconst 0, 1) := by decide +kernel
theorem dX11_isClean_7 : decode cX11_isClean 7 = .ok (.istore_n 2, 1) := by decide +kernel
theorem dX11_isClean_8 : decode cX11_isClean 8 = .ok (.iload_n 2, 1) := by decide +kernel
theorem dX11_isClean_9 : decode cX11_isClean 9 = .ok (.bipush 40, 2) := by decide +kernel
theorem dX11_isClean_11 : decode cX11_isClean 11 = .ok (.if_icmp .ge 36, 3) := by decide +kernel
theorem dX11_isClean_14 : decode cX11_isClean 14 = .ok (.iload_n 1, 1) := by decide +kernel
theorem dX11_isClean_15 : decode cX11_isClean 15 = .ok (.ifCond .eq 24, 3) := by decide +kernel
theorem dX11_isClean_18 : decode cX11_isClean 18 = .ok (.aload_n 0, 1) := by decide +kernel
theorem dX11_isClean_19 : decode cX11_isClean 19 = .ok (.getfield 55, 3) := by decide +kernel
theorem dX11_isClean_22 : decode cX11_isClean 22 = .ok (.iload_n 2, 1) := by decide +kernel
theorem dX11_isClean_23 : decode cX11_isClean 23 = .ok (.baload, 1) := by decide +kernel
theorem dX11_isClean_24 : decode cX11_isClean 24 = .ok (.ifCond .eq 11, 3) := by decide +kernel
theorem dX11_isClean_27 : decode cX11_isClean 27 = .ok (.aload_n 0, 1) := by decide +kernel
theorem dX11_isClean_28 : decode cX11_isClean 28 = .ok (.iload_n 2, 1) := by decide +kernel
theorem dX11_isClean_29 : decode cX11_isClean 29 = .ok (.invokevirtual 207, 3) := by decide +kernel
theorem dX11_isClean_32 : decode cX11_isClean 32 = .ok (.ifCond .eq 7, 3) := by decide +kernel
theorem dX11_isClean_35 : decode cX11_isClean 35 = .ok (.iconst 1, 1) := by decide +kernel
theorem dX11_isClean_36 : decode cX11_isClean 36 = .ok (.goto 4, 3) := by decide +kernel
theorem dX11_isClean_39 : decode cX11_isClean 39 = .ok (.iconst 0, 1) := by decide +kernel
theorem dX11_isClean_40 : decode cX11_isClean 40 = .ok (.istore_n 1, 1) := by decide +kernel
theorem dX11_isClean_41 : decode cX11_isClean 41 = .ok (.iinc 2 1, 3) := by decide +kernel
theorem dX11_isClean_44 : decode cX11_isClean 44 = .ok (.goto (-36), 3) := by decide +kernel
theorem dX11_isClean_47 : decode cX11_isClean 47 = .ok (.iload_n 1, 1) := by decide +kernel
theorem dX11_isClean_48 : decode cX11_isClean 48 = .ok (.ireturn, 1) := by decide +kernel
theorem dX11_aheadsMany_0 : decode cX11_aheadsMany 0 = .ok (.aload_n 0, 1) := by decide +kernel
theorem dX11_aheadsMany_1 : decode cX11_aheadsMany 1 = .ok (.invokevirtual 239, 3) := by decide +kernel
theorem dX11_aheadsMany_4 : decode cX11_aheadsMany 4 = .ok (.iconst 0, 1) := by decide +kernel
theorem dX11_aheadsMany_5 : decode cX11_aheadsMany 5 = .ok (.istore_n 1, 1) := by decide +kernel
theorem dX11_aheadsMany_6 : decode cX11_aheadsMany 6 = .ok (.iconst 0, 1) := by decide +kernel
theorem dX11_aheadsMany_7 : decode cX11_aheadsMany 7 = .ok (.istore_n 2, 1) := by decide +kernel
theorem dX11_aheadsMany_8 : decode cX11_aheadsMany 8 = .ok (.iload_n 2, 1) := by decide +kernel
theorem dX11_aheadsMany_9 : decode cX11_aheadsMany 9 = .ok (.bipush 40, 2) := by decide +kernel
theorem dX11_aheadsMany_11 : decode cX11_aheadsMany 11 = .ok (.if_icmp .ge 26, 3) := by decide +kernel
theorem dX11_aheadsMany_14 : decode cX11_aheadsMany 14 = .ok (.iload_n 1, 1) := by decide +kernel
theorem dX11_aheadsMany_15 : decode cX11_aheadsMany 15 = .ok (.aload_n 0, 1) := by decide +kernel
theorem dX11_aheadsMany_16 : decode cX11_aheadsMany 16 = .ok (.getfield 55, 3) := by decide +kernel
theorem dX11_aheadsMany_19 : decode cX11_aheadsMany 19 = .ok (.iload_n 2, 1) := by decide +kernel
theorem dX11_aheadsMany_20 : decode cX11_aheadsMany 20 = .ok (.baload, 1) := by decide +kernel
theorem dX11_aheadsMany_21 : decode cX11_aheadsMany 21 = .ok (.ifCond .eq 7, 3) := by decide +kernel
theorem dX11_aheadsMany_24 : decode cX11_aheadsMany 24 = .ok (.iconst 1, 1) := by decide +kernel
theorem dX11_aheadsMany_25 : decode cX11_aheadsMany 25 = .ok (.goto 4, 3) := by decide +kernel
theorem dX11_aheadsMany_28 : decode cX11_aheadsMany 28 = .ok (.iconst 0, 1) := by decide +kernel
theorem dX11_aheadsMany_29 : decode cX11_aheadsMany 29 = .ok (.iadd, 1) := by decide +kernel
theorem dX11_aheadsMany_30 : decode cX11_aheadsMany 30 = .ok (.istore_n 1, 1) := by decide +kernel
theorem dX11_aheadsMany_31 : decode cX11_aheadsMany 31 = .ok (.iinc 2 1, 3) := by decide +kernel
theorem dX11_aheadsMany_34 : decode cX11_aheadsMany 34 = .ok (.goto (-26), 3) := by decide +kernel
theorem dX11_aheadsMany_37 : decode cX11_aheadsMany 37 = .ok (.iload_n 1, 1) := by decide +kernel
theorem dX11_aheadsMany_38 : decode cX11_aheadsMany 38 = .ok (.ireturn, 1) := by decide +kernel
theorem dX11_isBefore_0 : decode cX11_isBefore 0 = .ok (.aload_n 0, 1) := by decide +kernel
theorem dX11_isBefore_1 : decode cX11_isBefore 1 = .ok (.iload_n 1, 1) := by decide +kernel
theorem dX11_isBefore_2 : decode cX11_isBefore 2 = .ok (.invokevirtual 207, 3) := by decide +kernel
theorem dX11_isBefore_5 : decode cX11_isBefore 5 = .ok (.aload_n 0, 1) := by decide +kernel
theorem dX11_isBefore_6 : decode cX11_isBefore 6 = .ok (.iload_n 2, 1) := by decide +kernel
theorem dX11_isBefore_7 : decode cX11_isBefore 7 = .ok (.invokevirtual 207, 3) := by decide +kernel
theorem dX11_isBefore_10 : decode cX11_isBefore 10 = .ok (.if_icmp .eq 22, 3) := by decide +kernel
theorem dX11_isBefore_13 : decode cX11_isBefore 13 = .ok (.aload_n 0, 1) := by decide +kernel
theorem dX11_isBefore_14 : decode cX11_isBefore 14 = .ok (.iload_n 1, 1) := by decide +kernel
theorem dX11_isBefore_15 : decode cX11_isBefore 15 = .ok (.invokevirtual 207, 3) := by decide +kernel
theorem dX11_isBefore_18 : decode cX11_isBefore 18 = .ok (.aload_n 0, 1) := by decide +kernel
theorem dX11_isBefore_19 : decode cX11_isBefore 19 = .ok (.iload_n 2, 1) := by decide +kernel
theorem dX11_isBefore_20 : decode cX11_isBefore 20 = .ok (.invokevirtual 207, 3) := by decide +kernel
theorem dX11_isBefore_23 : decode cX11_isBefore 23 = .ok (.if_icmp .ge 7, 3) := by decide +kernel
theorem dX11_isBefore_26 : decode cX11_isBefore 26 = .ok (.iconst 1, 1) := by decide +kernel
theorem dX11_isBefore_27 : decode cX11_isBefore 27 = .ok (.goto 4, 3) := by decide +kernel
theorem dX11_isBefore_30 : decode cX11_isBefore 30 = .ok (.iconst 0, 1) := by decide +kernel
theorem dX11_isBefore_31 : decode cX11_isBefore 31 = .ok (.ireturn, 1) := by decide +kernel
theorem dX11_isBefore_32 : decode cX11_isBefore 32 = .ok (.iconst 0, 1) := by decide +kernel
theorem dX11_isBefore_33 : decode cX11_isBefore 33 = .ok (.istore_n 3, 1) := by decide +kernel
theorem dX11_isBefore_34 : decode cX11_isBefore 34 = .ok (.iload_n 3, 1) := by decide +kernel
theorem dX11_isBefore_35 : decode cX11_isBefore 35 = .ok (.aload_n 0, 1) := by decide +kernel
theorem dX11_isBefore_36 : decode cX11_isBefore 36 = .ok (.iload_n 1, 1) := by decide +kernel
theorem dX11_isBefore_37 : decode cX11_isBefore 37 = .ok (.invokevirtual 207, 3) := by decide +kernel
theorem dX11_isBefore_40 : decode cX11_isBefore 40 = .ok (.if_icmp .ge 45, 3) := by decide +kernel
theorem dX11_isBefore_43 : decode cX11_isBefore 43 = .ok (.aload_n 0, 1) := by decide +kernel
theorem dX11_isBefore_44 : decode cX11_isBefore 44 = .ok (.iload_n 1, 1) := by decide +kernel
theorem dX11_isBefore_45 : decode cX11_isBefore 45 = .ok (.iload_n 3, 1) := by decide +kernel
theorem dX11_isBefore_46 : decode cX11_isBefore 46 = .ok (.invokevirtual 210, 3) := by decide +kernel
theorem dX11_isBefore_49 : decode cX11_isBefore 49 = .ok (.aload_n 0, 1) := by decide +kernel
theorem dX11_isBefore_50 : decode cX11_isBefore 50 = .ok (.iload_n 2, 1) := by decide +kernel
theorem dX11_isBefore_51 : decode cX11_isBefore 51 = .ok (.iload_n 3, 1) := by decide +kernel
theorem dX11_isBefore_52 : decode cX11_isBefore 52 = .ok (.invokevirtual 210, 3) := by decide +kernel
theorem dX11_isBefore_55 : decode cX11_isBefore 55 = .ok (.if_icmp .eq 24, 3) := by decide +kernel
theorem dX11_isBefore_58 : decode cX11_isBefore 58 = .ok (.aload_n 0, 1) := by decide +kernel
theorem dX11_isBefore_59 : decode cX11_isBefore 59 = .ok (.iload_n 1, 1) := by decide +kernel
theorem dX11_isBefore_60 : decode cX11_isBefore 60 = .ok (.iload_n 3, 1) := by decide +kernel
theorem dX11_isBefore_61 : decode cX11_isBefore 61 = .ok (.invokevirtual 210, 3) := by decide +kernel
theorem dX11_isBefore_64 : decode cX11_isBefore 64 = .ok (.aload_n 0, 1) := by decide +kernel
theorem dX11_isBefore_65 : decode cX11_isBefore 65 = .ok (.iload_n 2, 1) := by decide +kernel
theorem dX11_isBefore_66 : decode cX11_isBefore 66 = .ok (.iload_n 3, 1) := by decide +kernel
theorem dX11_isBefore_67 : decode cX11_isBefore 67 = .ok (.invokevirtual 210, 3) := by decide +kernel
theorem dX11_isBefore_70 : decode cX11_isBefore 70 = .ok (.if_icmp .ge 7, 3) := by decide +kernel
theorem dX11_isBefore_73 : decode cX11_isBefore 73 = .ok (.iconst 1, 1) := by decide +kernel
theorem dX11_isBefore_74 : decode cX11_isBefore 74 = .ok (.goto 4, 3) := by decide +kernel
theorem dX11_isBefore_77 : decode cX11_isBefore 77 = .ok (.iconst 0, 1) := by decide +kernel
theorem dX11_isBefore_78 : decode cX11_isBefore 78 = .ok (.ireturn, 1) := by decide +kernel
theorem dX11_isBefore_79 : decode cX11_isBefore 79 = .ok (.iinc 3 1, 3) := by decide +kernel
theorem dX11_isBefore_82 : decode cX11_isBefore 82 = .ok (.goto (-48), 3) := by decide +kernel
theorem dX11_isBefore_85 : decode cX11_isBefore 85 = .ok (.iconst 0, 1) := by decide +kernel
theorem dX11_isBefore_86 : decode cX11_isBefore 86 = .ok (.ireturn, 1) := by decide +kernel
theorem dX11_aheadOf_0 : decode cX11_aheadOf 0 = .ok (.iconst 0, 1) := by decide +kernel
theorem dX11_aheadOf_1 : decode cX11_aheadOf 1 = .ok (.istore_n 2, 1) := by decide +kernel
theorem dX11_aheadOf_2 : decode cX11_aheadOf 2 = .ok (.iload_n 2, 1) := by decide +kernel
theorem dX11_aheadOf_3 : decode cX11_aheadOf 3 = .ok (.bipush 40, 2) := by decide +kernel
theorem dX11_aheadOf_5 : decode cX11_aheadOf 5 = .ok (.if_icmp .ge 80, 3) := by decide +kernel
theorem dX11_aheadOf_8 : decode cX11_aheadOf 8 = .ok (.iconst 0, 1) := by decide +kernel
theorem dX11_aheadOf_9 : decode cX11_aheadOf 9 = .ok (.istore_n 3, 1) := by decide +kernel
theorem dX11_aheadOf_10 : decode cX11_aheadOf 10 = .ok (.iconst 0, 1) := by decide +kernel
theorem dX11_aheadOf_11 : decode cX11_aheadOf 11 = .ok (.istore 4, 2) := by decide +kernel
theorem dX11_aheadOf_13 : decode cX11_aheadOf 13 = .ok (.iload 4, 2) := by decide +kernel
theorem dX11_aheadOf_15 : decode cX11_aheadOf 15 = .ok (.bipush 40, 2) := by decide +kernel
theorem dX11_aheadOf_17 : decode cX11_aheadOf 17 = .ok (.if_icmp .ge 46, 3) := by decide +kernel
theorem dX11_aheadOf_20 : decode cX11_aheadOf 20 = .ok (.aload_n 0, 1) := by decide +kernel
theorem dX11_aheadOf_21 : decode cX11_aheadOf 21 = .ok (.getfield 55, 3) := by decide +kernel
theorem dX11_aheadOf_24 : decode cX11_aheadOf 24 = .ok (.iload_n 2, 1) := by decide +kernel
theorem dX11_aheadOf_25 : decode cX11_aheadOf 25 = .ok (.baload, 1) := by decide +kernel
theorem dX11_aheadOf_26 : decode cX11_aheadOf 26 = .ok (.ifCond .eq 37, 3) := by decide +kernel
theorem dX11_aheadOf_29 : decode cX11_aheadOf 29 = .ok (.iload_n 3, 1) := by decide +kernel
theorem dX11_aheadOf_30 : decode cX11_aheadOf 30 = .ok (.aload_n 0, 1) := by decide +kernel
theorem dX11_aheadOf_31 : decode cX11_aheadOf 31 = .ok (.getfield 55, 3) := by decide +kernel
theorem dX11_aheadOf_34 : decode cX11_aheadOf 34 = .ok (.iload 4, 2) := by decide +kernel
theorem dX11_aheadOf_36 : decode cX11_aheadOf 36 = .ok (.baload, 1) := by decide +kernel
theorem dX11_aheadOf_37 : decode cX11_aheadOf 37 = .ok (.ifCond .eq 17, 3) := by decide +kernel
theorem dX11_aheadOf_40 : decode cX11_aheadOf 40 = .ok (.aload_n 0, 1) := by decide +kernel
theorem dX11_aheadOf_41 : decode cX11_aheadOf 41 = .ok (.iload 4, 2) := by decide +kernel
theorem dX11_aheadOf_43 : decode cX11_aheadOf 43 = .ok (.iload_n 2, 1) := by decide +kernel
theorem dX11_aheadOf_44 : decode cX11_aheadOf 44 = .ok (.invokevirtual 242, 3) := by decide +kernel
theorem dX11_aheadOf_47 : decode cX11_aheadOf 47 = .ok (.ifCond .eq 7, 3) := by decide +kernel
theorem dX11_aheadOf_50 : decode cX11_aheadOf 50 = .ok (.iconst 1, 1) := by decide +kernel
theorem dX11_aheadOf_51 : decode cX11_aheadOf 51 = .ok (.goto 4, 3) := by decide +kernel
theorem dX11_aheadOf_54 : decode cX11_aheadOf 54 = .ok (.iconst 0, 1) := by decide +kernel
theorem dX11_aheadOf_55 : decode cX11_aheadOf 55 = .ok (.iadd, 1) := by decide +kernel
theorem dX11_aheadOf_56 : decode cX11_aheadOf 56 = .ok (.istore_n 3, 1) := by decide +kernel
theorem dX11_aheadOf_57 : decode cX11_aheadOf 57 = .ok (.iinc 4 1, 3) := by decide +kernel
theorem dX11_aheadOf_60 : decode cX11_aheadOf 60 = .ok (.goto (-47), 3) := by decide +kernel
theorem dX11_aheadOf_63 : decode cX11_aheadOf 63 = .ok (.aload_n 0, 1) := by decide +kernel
theorem dX11_aheadOf_64 : decode cX11_aheadOf 64 = .ok (.getfield 55, 3) := by decide +kernel
theorem dX11_aheadOf_67 : decode cX11_aheadOf 67 = .ok (.iload_n 2, 1) := by decide +kernel
theorem dX11_aheadOf_68 : decode cX11_aheadOf 68 = .ok (.baload, 1) := by decide +kernel
theorem dX11_aheadOf_69 : decode cX11_aheadOf 69 = .ok (.ifCond .eq 10, 3) := by decide +kernel
theorem dX11_aheadOf_72 : decode cX11_aheadOf 72 = .ok (.iload_n 3, 1) := by decide +kernel
theorem dX11_aheadOf_73 : decode cX11_aheadOf 73 = .ok (.iload_n 1, 1) := by decide +kernel
theorem dX11_aheadOf_74 : decode cX11_aheadOf 74 = .ok (.if_icmp .ne 5, 3) := by decide +kernel
theorem dX11_aheadOf_77 : decode cX11_aheadOf 77 = .ok (.iload_n 2, 1) := by decide +kernel
theorem dX11_aheadOf_78 : decode cX11_aheadOf 78 = .ok (.ireturn, 1) := by decide +kernel
theorem dX11_aheadOf_79 : decode cX11_aheadOf 79 = .ok (.iinc 2 1, 3) := by decide +kernel
theorem dX11_aheadOf_82 : decode cX11_aheadOf 82 = .ok (.goto (-80), 3) := by decide +kernel
theorem dX11_aheadOf_85 : decode cX11_aheadOf 85 = .ok (.iconst (-1), 1) := by decide +kernel
theorem dX11_aheadOf_86 : decode cX11_aheadOf 86 = .ok (.ireturn, 1) := by decide +kernel
theorem dX11_ahead_0 : decode cX11_ahead 0 = .ok (.aload_n 0, 1) := by decide +kernel
theorem dX11_ahead_1 : decode cX11_ahead 1 = .ok (.invokevirtual 239, 3) := by decide +kernel
theorem dX11_ahead_4 : decode cX11_ahead 4 = .ok (.aload_n 0, 1) := by decide +kernel
theorem dX11_ahead_5 : decode cX11_ahead 5 = .ok (.iload_n 1, 1) := by decide +kernel
theorem dX11_ahead_6 : decode cX11_ahead 6 = .ok (.invokevirtual 245, 3) := by decide +kernel
theorem dX11_ahead_9 : decode cX11_ahead 9 = .ok (.istore_n 2, 1) := by decide +kernel
theorem dX11_ahead_10 : decode cX11_ahead 10 = .ok (.iload_n 2, 1) := by decide +kernel
theorem dX11_ahead_11 : decode cX11_ahead 11 = .ok (.iconst (-1), 1) := by decide +kernel
theorem dX11_ahead_12 : decode cX11_ahead 12 = .ok (.if_icmp .ne 8, 3) := by decide +kernel
theorem dX11_ahead_15 : decode cX11_ahead 15 = .ok (.bipush (-101), 2) := by decide +kernel
theorem dX11_ahead_17 : decode cX11_ahead 17 = .ok (.goto 8, 3) := by decide +kernel
theorem dX11_ahead_20 : decode cX11_ahead 20 = .ok (.aload_n 0, 1) := by decide +kernel
theorem dX11_ahead_21 : decode cX11_ahead 21 = .ok (.iload_n 2, 1) := by decide +kernel
theorem dX11_ahead_22 : decode cX11_ahead 22 = .ok (.invokevirtual 207, 3) := by decide +kernel
theorem dX11_ahead_25 : decode cX11_ahead 25 = .ok (.ireturn, 1) := by decide +kernel
theorem dX11_aheadAt_0 : decode cX11_aheadAt 0 = .ok (.aload_n 0, 1) := by decide +kernel
theorem dX11_aheadAt_1 : decode cX11_aheadAt 1 = .ok (.invokevirtual 239, 3) := by decide +kernel
theorem dX11_aheadAt_4 : decode cX11_aheadAt 4 = .ok (.aload_n 0, 1) := by decide +kernel
theorem dX11_aheadAt_5 : decode cX11_aheadAt 5 = .ok (.iload_n 1, 1) := by decide +kernel
theorem dX11_aheadAt_6 : decode cX11_aheadAt 6 = .ok (.invokevirtual 245, 3) := by decide +kernel
theorem dX11_aheadAt_9 : decode cX11_aheadAt 9 = .ok (.istore_n 3, 1) := by decide +kernel
theorem dX11_aheadAt_10 : decode cX11_aheadAt 10 = .ok (.iload_n 3, 1) := by decide +kernel
theorem dX11_aheadAt_11 : decode cX11_aheadAt 11 = .ok (.iconst (-1), 1) := by decide +kernel
theorem dX11_aheadAt_12 : decode cX11_aheadAt 12 = .ok (.if_icmp .eq 27, 3) := by decide +kernel
theorem dX11_aheadAt_15 : decode cX11_aheadAt 15 = .ok (.iload_n 2, 1) := by decide +kernel
theorem dX11_aheadAt_16 : decode cX11_aheadAt 16 = .ok (.iconst 0, 1) := by decide +kernel
theorem dX11_aheadAt_17 : decode cX11_aheadAt 17 = .ok (.aload_n 0, 1) := by decide +kernel
theorem dX11_aheadAt_18 : decode cX11_aheadAt 18 = .ok (.iload_n 3, 1) := by decide +kernel
theorem dX11_aheadAt_19 : decode cX11_aheadAt 19 = .ok (.invokevirtual 207, 3) := by decide +kernel
theorem dX11_aheadAt_22 : decode cX11_aheadAt 22 = .ok (.iconst 1, 1) := by decide +kernel
theorem dX11_aheadAt_23 : decode cX11_aheadAt 23 = .ok (.isub, 1) := by decide +kernel
theorem dX11_aheadAt_24 : decode cX11_aheadAt 24 = .ok (.invokestatic 71, 3) := by decide +kernel
theorem dX11_aheadAt_27 : decode cX11_aheadAt 27 = .ok (.ifCond .eq 12, 3) := by decide +kernel
theorem dX11_aheadAt_30 : decode cX11_aheadAt 30 = .ok (.aload_n 0, 1) := by decide +kernel
theorem dX11_aheadAt_31 : decode cX11_aheadAt 31 = .ok (.iload_n 3, 1) := by decide +kernel
theorem dX11_aheadAt_32 : decode cX11_aheadAt 32 = .ok (.iload_n 2, 1) := by decide +kernel
theorem dX11_aheadAt_33 : decode cX11_aheadAt 33 = .ok (.invokevirtual 210, 3) := by decide +kernel
theorem dX11_aheadAt_36 : decode cX11_aheadAt 36 = .ok (.goto 5, 3) := by decide +kernel
theorem dX11_aheadAt_39 : decode cX11_aheadAt 39 = .ok (.bipush (-101), 2) := by decide +kernel
theorem dX11_aheadAt_41 : decode cX11_aheadAt 41 = .ok (.ireturn, 1) := by decide +kernel
theorem dX11_tryLetter_0 : decode cX11_tryLetter 0 = .ok (.aload_n 0, 1) := by decide +kernel
theorem dX11_tryLetter_1 : decode cX11_tryLetter 1 = .ok (.getfield 65, 3) := by decide +kernel
theorem dX11_tryLetter_4 : decode cX11_tryLetter 4 = .ok (.aload_n 0, 1) := by decide +kernel
theorem dX11_tryLetter_5 : decode cX11_tryLetter 5 = .ok (.getfield 248, 3) := by decide +kernel
theorem dX11_tryLetter_8 : decode cX11_tryLetter 8 = .ok (.iload_n 1, 1) := by decide +kernel
theorem dX11_tryLetter_9 : decode cX11_tryLetter 9 = .ok (.iastore, 1) := by decide +kernel
theorem dX11_tryLetter_10 : decode cX11_tryLetter 10 = .ok (.aload_n 0, 1) := by decide +kernel
theorem dX11_tryLetter_11 : decode cX11_tryLetter 11 = .ok (.dup, 1) := by decide +kernel
theorem dX11_tryLetter_12 : decode cX11_tryLetter 12 = .ok (.getfield 248, 3) := by decide +kernel
theorem dX11_tryLetter_15 : decode cX11_tryLetter 15 = .ok (.iconst 1, 1) := by decide +kernel
theorem dX11_tryLetter_16 : decode cX11_tryLetter 16 = .ok (.iadd, 1) := by decide +kernel
theorem dX11_tryLetter_17 : decode cX11_tryLetter 17 = .ok (.putfield 248, 3) := by decide +kernel
theorem dX11_tryLetter_20 : decode cX11_tryLetter 20 = .ok (.return_, 1) := by decide +kernel
theorem dX11_tryBehind_0 : decode cX11_tryBehind 0 = .ok (.iconst 0, 1) := by decide +kernel
theorem dX11_tryBehind_1 : decode cX11_tryBehind 1 = .ok (.istore_n 2, 1) := by decide +kernel
theorem dX11_tryBehind_2 : decode cX11_tryBehind 2 = .ok (.iload_n 2, 1) := by decide +kernel
theorem dX11_tryBehind_3 : decode cX11_tryBehind 3 = .ok (.aload_n 0, 1) := by decide +kernel
theorem dX11_tryBehind_4 : decode cX11_tryBehind 4 = .ok (.getfield 59, 3) := by decide +kernel
theorem dX11_tryBehind_7 : decode cX11_tryBehind 7 = .ok (.iload_n 1, 1) := by decide +kernel
theorem dX11_tryBehind_8 : decode cX11_tryBehind 8 = .ok (.iaload, 1) := by decide +kernel
theorem dX11_tryBehind_9 : decode cX11_tryBehind 9 = .ok (.if_icmp .ge 25, 3) := by decide +kernel
theorem dX11_tryBehind_12 : decode cX11_tryBehind 12 = .ok (.aload_n 0, 1) := by decide +kernel
theorem dX11_tryBehind_13 : decode cX11_tryBehind 13 = .ok (.aload_n 0, 1) := by decide +kernel
theorem dX11_tryBehind_14 : decode cX11_tryBehind 14 = .ok (.getfield 62, 3) := by decide +kernel
theorem dX11_tryBehind_17 : decode cX11_tryBehind 17 = .ok (.sipush 200, 3) := by decide +kernel
theorem dX11_tryBehind_20 : decode cX11_tryBehind 20 = .ok (.iload_n 1, 1) := by decide +kernel
theorem dX11_tryBehind_21 : decode cX11_tryBehind 21 = .ok (.imul, 1) := by decide +kernel
theorem dX11_tryBehind_22 : decode cX11_tryBehind 22 = .ok (.iload_n 2, 1) := by decide +kernel
theorem dX11_tryBehind_23 : decode cX11_tryBehind 23 = .ok (.iadd, 1) := by decide +kernel
theorem dX11_tryBehind_24 : decode cX11_tryBehind 24 = .ok (.iaload, 1) := by decide +kernel
theorem dX11_tryBehind_25 : decode cX11_tryBehind 25 = .ok (.invokevirtual 251, 3) := by decide +kernel
theorem dX11_tryBehind_28 : decode cX11_tryBehind 28 = .ok (.iinc 2 1, 3) := by decide +kernel
theorem dX11_tryBehind_31 : decode cX11_tryBehind 31 = .ok (.goto (-29), 3) := by decide +kernel
theorem dX11_tryBehind_34 : decode cX11_tryBehind 34 = .ok (.return_, 1) := by decide +kernel
theorem dX11_isTriedLess_0 : decode cX11_isTriedLess 0 = .ok (.aload_n 0, 1) := by decide +kernel
theorem dX11_isTriedLess_1 : decode cX11_isTriedLess 1 = .ok (.getfield 248, 3) := by decide +kernel
theorem dX11_isTriedLess_4 : decode cX11_isTriedLess 4 = .ok (.aload_n 0, 1) := by decide +kernel
theorem dX11_isTriedLess_5 : decode cX11_isTriedLess 5 = .ok (.getfield 59, 3) := by decide +kernel
theorem dX11_isTriedLess_8 : decode cX11_isTriedLess 8 = .ok (.iload_n 1, 1) := by decide +kernel
theorem dX11_isTriedLess_9 : decode cX11_isTriedLess 9 = .ok (.iaload, 1) := by decide +kernel
theorem dX11_isTriedLess_10 : decode cX11_isTriedLess 10 = .ok (.if_icmp .eq 22, 3) := by decide +kernel
theorem dX11_isTriedLess_13 : decode cX11_isTriedLess 13 = .ok (.aload_n 0, 1) := by decide +kernel
theorem dX11_isTriedLess_14 : decode cX11_isTriedLess 14 = .ok (.getfield 248, 3) := by decide +kernel
theorem dX11_isTriedLess_17 : decode cX11_isTriedLess 17 = .ok (.aload_n 0, 1) := by decide +kernel
theorem dX11_isTriedLess_18 : decode cX11_isTriedLess 18 = .ok (.getfield 59, 3) := by decide +kernel
theorem dX11_isTriedLess_21 : decode cX11_isTriedLess 21 = .ok (.iload_n 1, 1) := by decide +kernel
theorem dX11_isTriedLess_22 : decode cX11_isTriedLess 22 = .ok (.iaload, 1) := by decide +kernel
theorem dX11_isTriedLess_23 : decode cX11_isTriedLess 23 = .ok (.if_icmp .ge 7, 3) := by decide +kernel
theorem dX11_isTriedLess_26 : decode cX11_isTriedLess 26 = .ok (.iconst 1, 1) := by decide +kernel
theorem dX11_isTriedLess_27 : decode cX11_isTriedLess 27 = .ok (.goto 4, 3) := by decide +kernel
theorem dX11_isTriedLess_30 : decode cX11_isTriedLess 30 = .ok (.iconst 0, 1) := by decide +kernel
theorem dX11_isTriedLess_31 : decode cX11_isTriedLess 31 = .ok (.ireturn, 1) := by decide +kernel
theorem dX11_isTriedLess_32 : decode cX11_isTriedLess 32 = .ok (.iconst 0, 1) := by decide +kernel
theorem dX11_isTriedLess_33 : decode cX11_isTriedLess 33 = .ok (.istore_n 2, 1) := by decide +kernel
theorem dX11_isTriedLess_34 : decode cX11_isTriedLess 34 = .ok (.iload_n 2, 1) := by decide +kernel
theorem dX11_isTriedLess_35 : decode cX11_isTriedLess 35 = .ok (.aload_n 0, 1) := by decide +kernel
theorem dX11_isTriedLess_36 : decode cX11_isTriedLess 36 = .ok (.getfield 248, 3) := by decide +kernel
theorem dX11_isTriedLess_39 : decode cX11_isTriedLess 39 = .ok (.if_icmp .ge 57, 3) := by decide +kernel
theorem dX11_isTriedLess_42 : decode cX11_isTriedLess 42 = .ok (.aload_n 0, 1) := by decide +kernel
theorem dX11_isTriedLess_43 : decode cX11_isTriedLess 43 = .ok (.getfield 65, 3) := by decide +kernel
theorem dX11_isTriedLess_46 : decode cX11_isTriedLess 46 = .ok (.iload_n 2, 1) := by decide +kernel
theorem dX11_isTriedLess_47 : decode cX11_isTriedLess 47 = .ok (.iaload, 1) := by decide +kernel
theorem dX11_isTriedLess_48 : decode cX11_isTriedLess 48 = .ok (.aload_n 0, 1) := by decide +kernel
theorem dX11_isTriedLess_49 : decode cX11_isTriedLess 49 = .ok (.getfield 62, 3) := by decide +kernel
theorem dX11_isTriedLess_52 : decode cX11_isTriedLess 52 = .ok (.sipush 200, 3) := by decide +kernel
theorem dX11_isTriedLess_55 : decode cX11_isTriedLess 55 = .ok (.iload_n 1, 1) := by decide +kernel
theorem dX11_isTriedLess_56 : decode cX11_isTriedLess 56 = .ok (.imul, 1) := by decide +kernel
theorem dX11_isTriedLess_57 : decode cX11_isTriedLess 57 = .ok (.iload_n 2, 1) := by decide +kernel
theorem dX11_isTriedLess_58 : decode cX11_isTriedLess 58 = .ok (.iadd, 1) := by decide +kernel
theorem dX11_isTriedLess_59 : decode cX11_isTriedLess 59 = .ok (.iaload, 1) := by decide +kernel
theorem dX11_isTriedLess_60 : decode cX11_isTriedLess 60 = .ok (.if_icmp .eq 30, 3) := by decide +kernel
theorem dX11_isTriedLess_63 : decode cX11_isTriedLess 63 = .ok (.aload_n 0, 1) := by decide +kernel
theorem dX11_isTriedLess_64 : decode cX11_isTriedLess 64 = .ok (.getfield 65, 3) := by decide +kernel
theorem dX11_isTriedLess_67 : decode cX11_isTriedLess 67 = .ok (.iload_n 2, 1) := by decide +kernel
theorem dX11_isTriedLess_68 : decode cX11_isTriedLess 68 = .ok (.iaload, 1) := by decide +kernel
theorem dX11_isTriedLess_69 : decode cX11_isTriedLess 69 = .ok (.aload_n 0, 1) := by decide +kernel
theorem dX11_isTriedLess_70 : decode cX11_isTriedLess 70 = .ok (.getfield 62, 3) := by decide +kernel
theorem dX11_isTriedLess_73 : decode cX11_isTriedLess 73 = .ok (.sipush 200, 3) := by decide +kernel
theorem dX11_isTriedLess_76 : decode cX11_isTriedLess 76 = .ok (.iload_n 1, 1) := by decide +kernel
theorem dX11_isTriedLess_77 : decode cX11_isTriedLess 77 = .ok (.imul, 1) := by decide +kernel
theorem dX11_isTriedLess_78 : decode cX11_isTriedLess 78 = .ok (.iload_n 2, 1) := by decide +kernel
theorem dX11_isTriedLess_79 : decode cX11_isTriedLess 79 = .ok (.iadd, 1) := by decide +kernel
theorem dX11_isTriedLess_80 : decode cX11_isTriedLess 80 = .ok (.iaload, 1) := by decide +kernel
theorem dX11_isTriedLess_81 : decode cX11_isTriedLess 81 = .ok (.if_icmp .ge 7, 3) := by decide +kernel
theorem dX11_isTriedLess_84 : decode cX11_isTriedLess 84 = .ok (.iconst 1, 1) := by decide +kernel
theorem dX11_isTriedLess_85 : decode cX11_isTriedLess 85 = .ok (.goto 4, 3) := by decide +kernel
theorem dX11_isTriedLess_88 : decode cX11_isTriedLess 88 = .ok (.iconst 0, 1) := by decide +kernel
theorem dX11_isTriedLess_89 : decode cX11_isTriedLess 89 = .ok (.ireturn, 1) := by decide +kernel
theorem dX11_isTriedLess_90 : decode cX11_isTriedLess 90 = .ok (.iinc 2 1, 3) := by decide +kernel
theorem dX11_isTriedLess_93 : decode cX11_isTriedLess 93 = .ok (.goto (-59), 3) := by decide +kernel
theorem dX11_isTriedLess_96 : decode cX11_isTriedLess 96 = .ok (.iconst 0, 1) := by decide +kernel
theorem dX11_isTriedLess_97 : decode cX11_isTriedLess 97 = .ok (.ireturn, 1) := by decide +kernel
theorem dX11_takesTried_0 : decode cX11_takesTried 0 = .ok (.aload_n 0, 1) := by decide +kernel
theorem dX11_takesTried_1 : decode cX11_takesTried 1 = .ok (.iload_n 1, 1) := by decide +kernel
theorem dX11_takesTried_2 : decode cX11_takesTried 2 = .ok (.invokevirtual 254, 3) := by decide +kernel
theorem dX11_takesTried_5 : decode cX11_takesTried 5 = .ok (.ifCond .ne 5, 3) := by decide +kernel
theorem dX11_takesTried_8 : decode cX11_takesTried 8 = .ok (.iconst 0, 1) := by decide +kernel
theorem dX11_takesTried_9 : decode cX11_takesTried 9 = .ok (.ireturn, 1) := by decide +kernel
theorem dX11_takesTried_10 : decode cX11_takesTried 10 = .ok (.aload_n 0, 1) := by decide +kernel
theorem dX11_takesTried_11 : decode cX11_takesTried 11 = .ok (.getfield 59, 3) := by decide +kernel
theorem dX11_takesTried_14 : decode cX11_takesTried 14 = .ok (.iload_n 1, 1) := by decide +kernel
theorem dX11_takesTried_15 : decode cX11_takesTried 15 = .ok (.aload_n 0, 1) := by decide +kernel
theorem dX11_takesTried_16 : decode cX11_takesTried 16 = .ok (.getfield 248, 3) := by decide +kernel
theorem dX11_takesTried_19 : decode cX11_takesTried 19 = .ok (.iastore, 1) := by decide +kernel
theorem dX11_takesTried_20 : decode cX11_takesTried 20 = .ok (.iconst 0, 1) := by decide +kernel
theorem dX11_takesTried_21 : decode cX11_takesTried 21 = .ok (.istore_n 2, 1) := by decide +kernel
theorem dX11_takesTried_22 : decode cX11_takesTried 22 = .ok (.iload_n 2, 1) := by decide +kernel
theorem dX11_takesTried_23 : decode cX11_takesTried 23 = .ok (.aload_n 0, 1) := by decide +kernel
theorem dX11_takesTried_24 : decode cX11_takesTried 24 = .ok (.getfield 248, 3) := by decide +kernel
theorem dX11_takesTried_27 : decode cX11_takesTried 27 = .ok (.if_icmp .ge 27, 3) := by decide +kernel
theorem dX11_takesTried_30 : decode cX11_takesTried 30 = .ok (.aload_n 0, 1) := by decide +kernel
theorem dX11_takesTried_31 : decode cX11_takesTried 31 = .ok (.getfield 62, 3) := by decide +kernel
theorem dX11_takesTried_34 : decode cX11_takesTried 34 = .ok (.sipush 200, 3) := by decide +kernel
theorem dX11_takesTried_37 : decode cX11_takesTried 37 = .ok (.iload_n 1, 1) := by decide +kernel
theorem dX11_takesTried_38 : decode cX11_takesTried 38 = .ok (.imul, 1) := by decide +kernel
theorem dX11_takesTried_39 : decode cX11_takesTried 39 = .ok (.iload_n 2, 1) := by decide +kernel
theorem dX11_takesTried_40 : decode cX11_takesTried 40 = .ok (.iadd, 1) := by decide +kernel
theorem dX11_takesTried_41 : decode cX11_takesTried 41 = .ok (.aload_n 0, 1) := by decide +kernel
theorem dX11_takesTried_42 : decode cX11_takesTried 42 = .ok (.getfield 65, 3) := by decide +kernel
theorem dX11_takesTried_45 : decode cX11_takesTried 45 = .ok (.iload_n 2, 1) := by decide +kernel
theorem dX11_takesTried_46 : decode cX11_takesTried 46 = .ok (.iaload, 1) := by decide +kernel
theorem dX11_takesTried_47 : decode cX11_takesTried 47 = .ok (.iastore, 1) := by decide +kernel
theorem dX11_takesTried_48 : decode cX11_takesTried 48 = .ok (.iinc 2 1, 3) := by decide +kernel
theorem dX11_takesTried_51 : decode cX11_takesTried 51 = .ok (.goto (-29), 3) := by decide +kernel
theorem dX11_takesTried_54 : decode cX11_takesTried 54 = .ok (.iconst 1, 1) := by decide +kernel
theorem dX11_takesTried_55 : decode cX11_takesTried 55 = .ok (.ireturn, 1) := by decide +kernel
theorem dX11_goesOnBy_0 : decode cX11_goesOnBy 0 = .ok (.aload_n 0, 1) := by decide +kernel
theorem dX11_goesOnBy_1 : decode cX11_goesOnBy 1 = .ok (.iconst 0, 1) := by decide +kernel
theorem dX11_goesOnBy_2 : decode cX11_goesOnBy 2 = .ok (.putfield 248, 3) := by decide +kernel
theorem dX11_goesOnBy_5 : decode cX11_goesOnBy 5 = .ok (.aload_n 0, 1) := by decide +kernel
theorem dX11_goesOnBy_6 : decode cX11_goesOnBy 6 = .ok (.iload_n 2, 1) := by decide +kernel
theorem dX11_goesOnBy_7 : decode cX11_goesOnBy 7 = .ok (.iload_n 1, 1) := by decide +kernel
theorem dX11_goesOnBy_8 : decode cX11_goesOnBy 8 = .ok (.invokevirtual 233, 3) := by decide +kernel
theorem dX11_goesOnBy_11 : decode cX11_goesOnBy 11 = .ok (.ifCond .eq 56, 3) := by decide +kernel
theorem dX11_goesOnBy_14 : decode cX11_goesOnBy 14 = .ok (.aload_n 0, 1) := by decide +kernel
theorem dX11_goesOnBy_15 : decode cX11_goesOnBy 15 = .ok (.iload_n 1, 1) := by decide +kernel
theorem dX11_goesOnBy_16 : decode cX11_goesOnBy 16 = .ok (.aload_n 0, 1) := by decide +kernel
theorem dX11_goesOnBy_17 : decode cX11_goesOnBy 17 = .ok (.iload_n 2, 1) := by decide +kernel
theorem dX11_goesOnBy_18 : decode cX11_goesOnBy 18 = .ok (.invokevirtual 137, 3) := by decide +kernel
theorem dX11_goesOnBy_21 : decode cX11_goesOnBy 21 = .ok (.iadd, 1) := by decide +kernel
theorem dX11_goesOnBy_22 : decode cX11_goesOnBy 22 = .ok (.invokevirtual 219, 3) := by decide +kernel
theorem dX11_goesOnBy_25 : decode cX11_goesOnBy 25 = .ok (.istore_n 3, 1) := by decide +kernel
theorem dX11_goesOnBy_26 : decode cX11_goesOnBy 26 = .ok (.aload_n 0, 1) := by decide +kernel
theorem dX11_goesOnBy_27 : decode cX11_goesOnBy 27 = .ok (.iload_n 3, 1) := by decide +kernel
theorem dX11_goesOnBy_28 : decode cX11_goesOnBy 28 = .ok (.invokevirtual 207, 3) := by decide +kernel
theorem dX11_goesOnBy_31 : decode cX11_goesOnBy 31 = .ok (.ifCond .le 17, 3) := by decide +kernel
theorem dX11_goesOnBy_34 : decode cX11_goesOnBy 34 = .ok (.aload_n 0, 1) := by decide +kernel
theorem dX11_goesOnBy_35 : decode cX11_goesOnBy 35 = .ok (.getfield 59, 3) := by decide +kernel
theorem dX11_goesOnBy_38 : decode cX11_goesOnBy 38 = .ok (.iload_n 3, 1) := by decide +kernel
theorem dX11_goesOnBy_39 : decode cX11_goesOnBy 39 = .ok (.iaload, 1) := by decide +kernel
theorem dX11_goesOnBy_40 : decode cX11_goesOnBy 40 = .ok (.sipush 1000, 3) := by decide +kernel
theorem dX11_goesOnBy_43 : decode cX11_goesOnBy 43 = .ok (.if_icmp .ne 5, 3) := by decide +kernel
theorem dX11_goesOnBy_46 : decode cX11_goesOnBy 46 = .ok (.iconst 0, 1) := by decide +kernel
theorem dX11_goesOnBy_47 : decode cX11_goesOnBy 47 = .ok (.ireturn, 1) := by decide +kernel
theorem dX11_goesOnBy_48 : decode cX11_goesOnBy 48 = .ok (.aload_n 0, 1) := by decide +kernel
theorem dX11_goesOnBy_49 : decode cX11_goesOnBy 49 = .ok (.iload_n 3, 1) := by decide +kernel
theorem dX11_goesOnBy_50 : decode cX11_goesOnBy 50 = .ok (.invokevirtual 207, 3) := by decide +kernel
theorem dX11_goesOnBy_53 : decode cX11_goesOnBy 53 = .ok (.ifCond .le 8, 3) := by decide +kernel
theorem dX11_goesOnBy_56 : decode cX11_goesOnBy 56 = .ok (.aload_n 0, 1) := by decide +kernel
theorem dX11_goesOnBy_57 : decode cX11_goesOnBy 57 = .ok (.iload_n 3, 1) := by decide +kernel
theorem dX11_goesOnBy_58 : decode cX11_goesOnBy 58 = .ok (.invokevirtual 257, 3) := by decide +kernel
theorem dX11_goesOnBy_61 : decode cX11_goesOnBy 61 = .ok (.aload_n 0, 1) := by decide +kernel
theorem dX11_goesOnBy_62 : decode cX11_goesOnBy 62 = .ok (.iload_n 1, 1) := by decide +kernel
theorem dX11_goesOnBy_63 : decode cX11_goesOnBy 63 = .ok (.invokevirtual 260, 3) := by decide +kernel
theorem dX11_goesOnBy_66 : decode cX11_goesOnBy 66 = .ok (.ireturn, 1) := by decide +kernel
theorem dX11_goesOnBy_67 : decode cX11_goesOnBy 67 = .ok (.aload_n 0, 1) := by decide +kernel
theorem dX11_goesOnBy_68 : decode cX11_goesOnBy 68 = .ok (.iload_n 1, 1) := by decide +kernel
theorem dX11_goesOnBy_69 : decode cX11_goesOnBy 69 = .ok (.iload_n 2, 1) := by decide +kernel
theorem dX11_goesOnBy_70 : decode cX11_goesOnBy 70 = .ok (.invokevirtual 226, 3) := by decide +kernel
theorem dX11_goesOnBy_73 : decode cX11_goesOnBy 73 = .ok (.ifCond .eq 76, 3) := by decide +kernel
theorem dX11_goesOnBy_76 : decode cX11_goesOnBy 76 = .ok (.aload_n 0, 1) := by decide +kernel
theorem dX11_goesOnBy_77 : decode cX11_goesOnBy 77 = .ok (.iconst 5, 1) := by decide +kernel
theorem dX11_goesOnBy_78 : decode cX11_goesOnBy 78 = .ok (.iload_n 2, 1) := by decide +kernel
theorem dX11_goesOnBy_79 : decode cX11_goesOnBy 79 = .ok (.imul, 1) := by decide +kernel
theorem dX11_goesOnBy_80 : decode cX11_goesOnBy 80 = .ok (.aload_n 0, 1) := by decide +kernel
theorem dX11_goesOnBy_81 : decode cX11_goesOnBy 81 = .ok (.iload_n 1, 1) := by decide +kernel
theorem dX11_goesOnBy_82 : decode cX11_goesOnBy 82 = .ok (.invokevirtual 207, 3) := by decide +kernel
theorem dX11_goesOnBy_85 : decode cX11_goesOnBy 85 = .ok (.iadd, 1) := by decide +kernel
theorem dX11_goesOnBy_86 : decode cX11_goesOnBy 86 = .ok (.invokevirtual 219, 3) := by decide +kernel
theorem dX11_goesOnBy_89 : decode cX11_goesOnBy 89 = .ok (.istore_n 3, 1) := by decide +kernel
theorem dX11_goesOnBy_90 : decode cX11_goesOnBy 90 = .ok (.aload_n 0, 1) := by decide +kernel
theorem dX11_goesOnBy_91 : decode cX11_goesOnBy 91 = .ok (.getfield 59, 3) := by decide +kernel
theorem dX11_goesOnBy_94 : decode cX11_goesOnBy 94 = .ok (.iload_n 3, 1) := by decide +kernel
theorem dX11_goesOnBy_95 : decode cX11_goesOnBy 95 = .ok (.iaload, 1) := by decide +kernel
theorem dX11_goesOnBy_96 : decode cX11_goesOnBy 96 = .ok (.sipush 1000, 3) := by decide +kernel
theorem dX11_goesOnBy_99 : decode cX11_goesOnBy 99 = .ok (.if_icmp .ne 5, 3) := by decide +kernel
theorem dX11_goesOnBy_102 : decode cX11_goesOnBy 102 = .ok (.iconst 0, 1) := by decide +kernel
theorem dX11_goesOnBy_103 : decode cX11_goesOnBy 103 = .ok (.ireturn, 1) := by decide +kernel
theorem dX11_goesOnBy_104 : decode cX11_goesOnBy 104 = .ok (.aload_n 0, 1) := by decide +kernel
theorem dX11_goesOnBy_105 : decode cX11_goesOnBy 105 = .ok (.iload_n 1, 1) := by decide +kernel
theorem dX11_goesOnBy_106 : decode cX11_goesOnBy 106 = .ok (.invokevirtual 207, 3) := by decide +kernel
theorem dX11_goesOnBy_109 : decode cX11_goesOnBy 109 = .ok (.istore 4, 2) := by decide +kernel
theorem dX11_goesOnBy_111 : decode cX11_goesOnBy 111 = .ok (.iload 4, 2) := by decide +kernel
theorem dX11_goesOnBy_113 : decode cX11_goesOnBy 113 = .ok (.aload_n 0, 1) := by decide +kernel
theorem dX11_goesOnBy_114 : decode cX11_goesOnBy 114 = .ok (.iload_n 2, 1) := by decide +kernel
theorem dX11_goesOnBy_115 : decode cX11_goesOnBy 115 = .ok (.invokevirtual 137, 3) := by decide +kernel
theorem dX11_goesOnBy_118 : decode cX11_goesOnBy 118 = .ok (.if_icmp .ge 20, 3) := by decide +kernel
theorem dX11_goesOnBy_121 : decode cX11_goesOnBy 121 = .ok (.aload_n 0, 1) := by decide +kernel
theorem dX11_goesOnBy_122 : decode cX11_goesOnBy 122 = .ok (.aload_n 0, 1) := by decide +kernel
theorem dX11_goesOnBy_123 : decode cX11_goesOnBy 123 = .ok (.iload_n 2, 1) := by decide +kernel
theorem dX11_goesOnBy_124 : decode cX11_goesOnBy 124 = .ok (.iload 4, 2) := by decide +kernel
theorem dX11_goesOnBy_126 : decode cX11_goesOnBy 126 = .ok (.invokevirtual 140, 3) := by decide +kernel
theorem dX11_goesOnBy_129 : decode cX11_goesOnBy 129 = .ok (.invokevirtual 251, 3) := by decide +kernel
theorem dX11_goesOnBy_132 : decode cX11_goesOnBy 132 = .ok (.iinc 4 1, 3) := by decide +kernel
theorem dX11_goesOnBy_135 : decode cX11_goesOnBy 135 = .ok (.goto (-24), 3) := by decide +kernel
theorem dX11_goesOnBy_138 : decode cX11_goesOnBy 138 = .ok (.aload_n 0, 1) := by decide +kernel
theorem dX11_goesOnBy_139 : decode cX11_goesOnBy 139 = .ok (.iload_n 3, 1) := by decide +kernel
theorem dX11_goesOnBy_140 : decode cX11_goesOnBy 140 = .ok (.invokevirtual 257, 3) := by decide +kernel
theorem dX11_goesOnBy_143 : decode cX11_goesOnBy 143 = .ok (.aload_n 0, 1) := by decide +kernel
theorem dX11_goesOnBy_144 : decode cX11_goesOnBy 144 = .ok (.iload_n 1, 1) := by decide +kernel
theorem dX11_goesOnBy_145 : decode cX11_goesOnBy 145 = .ok (.invokevirtual 260, 3) := by decide +kernel
theorem dX11_goesOnBy_148 : decode cX11_goesOnBy 148 = .ok (.ireturn, 1) := by decide +kernel
theorem dX11_goesOnBy_149 : decode cX11_goesOnBy 149 = .ok (.iconst 0, 1) := by decide +kernel
theorem dX11_goesOnBy_150 : decode cX11_goesOnBy 150 = .ok (.ireturn, 1) := by decide +kernel
theorem dX11_goesOn_0 : decode cX11_goesOn 0 = .ok (.iconst 0, 1) := by decide +kernel
theorem dX11_goesOn_1 : decode cX11_goesOn 1 = .ok (.istore_n 2, 1) := by decide +kernel
theorem dX11_goesOn_2 : decode cX11_goesOn 2 = .ok (.iconst 0, 1) := by decide +kernel
theorem dX11_goesOn_3 : decode cX11_goesOn 3 = .ok (.istore_n 3, 1) := by decide +kernel
theorem dX11_goesOn_4 : decode cX11_goesOn 4 = .ok (.iload_n 3, 1) := by decide +kernel
theorem dX11_goesOn_5 : decode cX11_goesOn 5 = .ok (.aload_n 0, 1) := by decide +kernel
theorem dX11_goesOn_6 : decode cX11_goesOn 6 = .ok (.getfield 109, 3) := by decide +kernel
theorem dX11_goesOn_9 : decode cX11_goesOn 9 = .ok (.if_icmp .ge 28, 3) := by decide +kernel
theorem dX11_goesOn_12 : decode cX11_goesOn 12 = .ok (.aload_n 0, 1) := by decide +kernel
theorem dX11_goesOn_13 : decode cX11_goesOn 13 = .ok (.iload_n 1, 1) := by decide +kernel
theorem dX11_goesOn_14 : decode cX11_goesOn 14 = .ok (.iload_n 3, 1) := by decide +kernel
theorem dX11_goesOn_15 : decode cX11_goesOn 15 = .ok (.invokevirtual 263, 3) := by decide +kernel
theorem dX11_goesOn_18 : decode cX11_goesOn 18 = .ok (.ifCond .ne 7, 3) := by decide +kernel
theorem dX11_goesOn_21 : decode cX11_goesOn 21 = .ok (.iload_n 2, 1) := by decide +kernel
theorem dX11_goesOn_22 : decode cX11_goesOn 22 = .ok (.ifCond .eq 7, 3) := by decide +kernel
theorem dX11_goesOn_25 : decode cX11_goesOn 25 = .ok (.iconst 1, 1) := by decide +kernel
theorem dX11_goesOn_26 : decode cX11_goesOn 26 = .ok (.goto 4, 3) := by decide +kernel
theorem dX11_goesOn_29 : decode cX11_goesOn 29 = .ok (.iconst 0, 1) := by decide +kernel
theorem dX11_goesOn_30 : decode cX11_goesOn 30 = .ok (.istore_n 2, 1) := by decide +kernel
theorem dX11_goesOn_31 : decode cX11_goesOn 31 = .ok (.iinc 3 1, 3) := by decide +kernel
theorem dX11_goesOn_34 : decode cX11_goesOn 34 = .ok (.goto (-30), 3) := by decide +kernel
theorem dX11_goesOn_37 : decode cX11_goesOn 37 = .ok (.iload_n 2, 1) := by decide +kernel
theorem dX11_goesOn_38 : decode cX11_goesOn 38 = .ok (.ireturn, 1) := by decide +kernel
theorem dX11_layBehind_0 : decode cX11_layBehind 0 = .ok (.iconst 0, 1) := by decide +kernel
theorem dX11_layBehind_1 : decode cX11_layBehind 1 = .ok (.istore_n 1, 1) := by decide +kernel
theorem dX11_layBehind_2 : decode cX11_layBehind 2 = .ok (.iload_n 1, 1) := by decide +kernel
theorem dX11_layBehind_3 : decode cX11_layBehind 3 = .ok (.bipush 40, 2) := by decide +kernel
theorem dX11_layBehind_5 : decode cX11_layBehind 5 = .ok (.if_icmp .ge 18, 3) := by decide +kernel
theorem dX11_layBehind_8 : decode cX11_layBehind 8 = .ok (.aload_n 0, 1) := by decide +kernel
theorem dX11_layBehind_9 : decode cX11_layBehind 9 = .ok (.getfield 59, 3) := by decide +kernel
theorem dX11_layBehind_12 : decode cX11_layBehind 12 = .ok (.iload_n 1, 1) := by decide +kernel
theorem dX11_layBehind_13 : decode cX11_layBehind 13 = .ok (.sipush 1000, 3) := by decide +kernel
theorem dX11_layBehind_16 : decode cX11_layBehind 16 = .ok (.iastore, 1) := by decide +kernel
theorem dX11_layBehind_17 : decode cX11_layBehind 17 = .ok (.iinc 1 1, 3) := by decide +kernel
theorem dX11_layBehind_20 : decode cX11_layBehind 20 = .ok (.goto (-18), 3) := by decide +kernel
theorem dX11_layBehind_23 : decode cX11_layBehind 23 = .ok (.iconst 1, 1) := by decide +kernel
theorem dX11_layBehind_24 : decode cX11_layBehind 24 = .ok (.istore_n 1, 1) := by decide +kernel
theorem dX11_layBehind_25 : decode cX11_layBehind 25 = .ok (.iload_n 1, 1) := by decide +kernel
theorem dX11_layBehind_26 : decode cX11_layBehind 26 = .ok (.ifCond .eq 75, 3) := by decide +kernel
theorem dX11_layBehind_29 : decode cX11_layBehind 29 = .ok (.iconst 0, 1) := by decide +kernel
theorem dX11_layBehind_30 : decode cX11_layBehind 30 = .ok (.istore_n 1, 1) := by decide +kernel
theorem dX11_layBehind_31 : decode cX11_layBehind 31 = .ok (.iconst 0, 1) := by decide +kernel
theorem dX11_layBehind_32 : decode cX11_layBehind 32 = .ok (.istore_n 2, 1) := by decide +kernel
theorem dX11_layBehind_33 : decode cX11_layBehind 33 = .ok (.iload_n 2, 1) := by decide +kernel
theorem dX11_layBehind_34 : decode cX11_layBehind 34 = .ok (.bipush 40, 2) := by decide +kernel
theorem dX11_layBehind_36 : decode cX11_layBehind 36 = .ok (.if_icmp .ge 62, 3) := by decide +kernel
theorem dX11_layBehind_39 : decode cX11_layBehind 39 = .ok (.aload_n 0, 1) := by decide +kernel
theorem dX11_layBehind_40 : decode cX11_layBehind 40 = .ok (.iload_n 2, 1) := by decide +kernel
theorem dX11_layBehind_41 : decode cX11_layBehind 41 = .ok (.invokevirtual 213, 3) := by decide +kernel
theorem dX11_layBehind_44 : decode cX11_layBehind 44 = .ok (.ifCond .eq 24, 3) := by decide +kernel
theorem dX11_layBehind_47 : decode cX11_layBehind 47 = .ok (.aload_n 0, 1) := by decide +kernel
theorem dX11_layBehind_48 : decode cX11_layBehind 48 = .ok (.iload_n 2, 1) := by decide +kernel
theorem dX11_layBehind_49 : decode cX11_layBehind 49 = .ok (.invokevirtual 207, 3) := by decide +kernel
theorem dX11_layBehind_52 : decode cX11_layBehind 52 = .ok (.ifCond .le 16, 3) := by decide +kernel
theorem dX11_layBehind_55 : decode cX11_layBehind 55 = .ok (.aload_n 0, 1) := by decide +kernel
theorem dX11_layBehind_56 : decode cX11_layBehind 56 = .ok (.iload_n 2, 1) := by decide +kernel
theorem dX11_layBehind_57 : decode cX11_layBehind 57 = .ok (.invokevirtual 219, 3) := by decide +kernel
theorem dX11_layBehind_60 : decode cX11_layBehind 60 = .ok (.iload_n 2, 1) := by decide +kernel
theorem dX11_layBehind_61 : decode cX11_layBehind 61 = .ok (.if_icmp .ne 7, 3) := by decide +kernel
theorem dX11_layBehind_64 : decode cX11_layBehind 64 = .ok (.iconst 1, 1) := by decide +kernel
theorem dX11_layBehind_65 : decode cX11_layBehind 65 = .ok (.goto 4, 3) := by decide +kernel
theorem dX11_layBehind_68 : decode cX11_layBehind 68 = .ok (.iconst 0, 1) := by decide +kernel
theorem dX11_layBehind_69 : decode cX11_layBehind 69 = .ok (.istore_n 3, 1) := by decide +kernel
theorem dX11_layBehind_70 : decode cX11_layBehind 70 = .ok (.iload_n 3, 1) := by decide +kernel
theorem dX11_layBehind_71 : decode cX11_layBehind 71 = .ok (.ifCond .eq 11, 3) := by decide +kernel
theorem dX11_layBehind_74 : decode cX11_layBehind 74 = .ok (.aload_n 0, 1) := by decide +kernel
theorem dX11_layBehind_75 : decode cX11_layBehind 75 = .ok (.iload_n 2, 1) := by decide +kernel
theorem dX11_layBehind_76 : decode cX11_layBehind 76 = .ok (.invokevirtual 266, 3) := by decide +kernel
theorem dX11_layBehind_79 : decode cX11_layBehind 79 = .ok (.ifCond .ne 7, 3) := by decide +kernel
theorem dX11_layBehind_82 : decode cX11_layBehind 82 = .ok (.iload_n 1, 1) := by decide +kernel
theorem dX11_layBehind_83 : decode cX11_layBehind 83 = .ok (.ifCond .eq 7, 3) := by decide +kernel
theorem dX11_layBehind_86 : decode cX11_layBehind 86 = .ok (.iconst 1, 1) := by decide +kernel
theorem dX11_layBehind_87 : decode cX11_layBehind 87 = .ok (.goto 4, 3) := by decide +kernel
theorem dX11_layBehind_90 : decode cX11_layBehind 90 = .ok (.iconst 0, 1) := by decide +kernel
theorem dX11_layBehind_91 : decode cX11_layBehind 91 = .ok (.istore_n 1, 1) := by decide +kernel
theorem dX11_layBehind_92 : decode cX11_layBehind 92 = .ok (.iinc 2 1, 3) := by decide +kernel
theorem dX11_layBehind_95 : decode cX11_layBehind 95 = .ok (.goto (-62), 3) := by decide +kernel
theorem dX11_layBehind_98 : decode cX11_layBehind 98 = .ok (.goto (-73), 3) := by decide +kernel
theorem dX11_layBehind_101 : decode cX11_layBehind 101 = .ok (.return_, 1) := by decide +kernel
theorem dX11_isClashLess_0 : decode cX11_isClashLess 0 = .ok (.aload_n 0, 1) := by decide +kernel
theorem dX11_isClashLess_1 : decode cX11_isClashLess 1 = .ok (.getfield 269, 3) := by decide +kernel
theorem dX11_isClashLess_4 : decode cX11_isClashLess 4 = .ok (.iconst (-1), 1) := by decide +kernel
theorem dX11_isClashLess_5 : decode cX11_isClashLess 5 = .ok (.if_icmp .eq 14, 3) := by decide +kernel
theorem dX11_isClashLess_8 : decode cX11_isClashLess 8 = .ok (.aload_n 0, 1) := by decide +kernel
theorem dX11_isClashLess_9 : decode cX11_isClashLess 9 = .ok (.getfield 248, 3) := by decide +kernel
theorem dX11_isClashLess_12 : decode cX11_isClashLess 12 = .ok (.aload_n 0, 1) := by decide +kernel
theorem dX11_isClashLess_13 : decode cX11_isClashLess 13 = .ok (.getfield 269, 3) := by decide +kernel
theorem dX11_isClashLess_16 : decode cX11_isClashLess 16 = .ok (.if_icmp .eq 28, 3) := by decide +kernel
theorem dX11_isClashLess_19 : decode cX11_isClashLess 19 = .ok (.aload_n 0, 1) := by decide +kernel
theorem dX11_isClashLess_20 : decode cX11_isClashLess 20 = .ok (.getfield 269, 3) := by decide +kernel
theorem dX11_isClashLess_23 : decode cX11_isClashLess 23 = .ok (.iconst (-1), 1) := by decide +kernel
theorem dX11_isClashLess_24 : decode cX11_isClashLess 24 = .ok (.if_icmp .eq 14, 3) := by decide +kernel
theorem dX11_isClashLess_27 : decode cX11_isClashLess 27 = .ok (.aload_n 0, 1) := by decide +kernel
theorem dX11_isClashLess_28 : decode cX11_isClashLess 28 = .ok (.getfield 248, 3) := by decide +kernel
theorem dX11_isClashLess_31 : decode cX11_isClashLess 31 = .ok (.aload_n 0, 1) := by decide +kernel
theorem dX11_isClashLess_32 : decode cX11_isClashLess 32 = .ok (.getfield 269, 3) := by decide +kernel
theorem dX11_isClashLess_35 : decode cX11_isClashLess 35 = .ok (.if_icmp .ge 7, 3) := by decide +kernel
theorem dX11_isClashLess_38 : decode cX11_isClashLess 38 = .ok (.iconst 1, 1) := by decide +kernel
theorem dX11_isClashLess_39 : decode cX11_isClashLess 39 = .ok (.goto 4, 3) := by decide +kernel
theorem dX11_isClashLess_42 : decode cX11_isClashLess 42 = .ok (.iconst 0, 1) := by decide +kernel
theorem dX11_isClashLess_43 : decode cX11_isClashLess 43 = .ok (.ireturn, 1) := by decide +kernel
theorem dX11_isClashLess_44 : decode cX11_isClashLess 44 = .ok (.iconst 0, 1) := by decide +kernel
theorem dX11_isClashLess_45 : decode cX11_isClashLess 45 = .ok (.istore_n 1, 1) := by decide +kernel
theorem dX11_isClashLess_46 : decode cX11_isClashLess 46 = .ok (.iload_n 1, 1) := by decide +kernel
theorem dX11_isClashLess_47 : decode cX11_isClashLess 47 = .ok (.aload_n 0, 1) := by decide +kernel
theorem dX11_isClashLess_48 : decode cX11_isClashLess 48 = .ok (.getfield 248, 3) := by decide +kernel
theorem dX11_isClashLess_51 : decode cX11_isClashLess 51 = .ok (.if_icmp .ge 45, 3) := by decide +kernel
theorem dX11_isClashLess_54 : decode cX11_isClashLess 54 = .ok (.aload_n 0, 1) := by decide +kernel
theorem dX11_isClashLess_55 : decode cX11_isClashLess 55 = .ok (.getfield 65, 3) := by decide +kernel
theorem dX11_isClashLess_58 : decode cX11_isClashLess 58 = .ok (.iload_n 1, 1) := by decide +kernel
theorem dX11_isClashLess_59 : decode cX11_isClashLess 59 = .ok (.iaload, 1) := by decide +kernel
theorem dX11_isClashLess_60 : decode cX11_isClashLess 60 = .ok (.aload_n 0, 1) := by decide +kernel
theorem dX11_isClashLess_61 : decode cX11_isClashLess 61 = .ok (.getfield 68, 3) := by decide +kernel
theorem dX11_isClashLess_64 : decode cX11_isClashLess 64 = .ok (.iload_n 1, 1) := by decide +kernel
theorem dX11_isClashLess_65 : decode cX11_isClashLess 65 = .ok (.iaload, 1) := by decide +kernel
theorem dX11_isClashLess_66 : decode cX11_isClashLess 66 = .ok (.if_icmp .eq 24, 3) := by decide +kernel
theorem dX11_isClashLess_69 : decode cX11_isClashLess 69 = .ok (.aload_n 0, 1) := by decide +kernel
theorem dX11_isClashLess_70 : decode cX11_isClashLess 70 = .ok (.getfield 65, 3) := by decide +kernel
theorem dX11_isClashLess_73 : decode cX11_isClashLess 73 = .ok (.iload_n 1, 1) := by decide +kernel
theorem dX11_isClashLess_74 : decode cX11_isClashLess 74 = .ok (.iaload, 1) := by decide +kernel
theorem dX11_isClashLess_75 : decode cX11_isClashLess 75 = .ok (.aload_n 0, 1) := by decide +kernel
theorem dX11_isClashLess_76 : decode cX11_isClashLess 76 = .ok (.getfield 68, 3) := by decide +kernel
theorem dX11_isClashLess_79 : decode cX11_isClashLess 79 = .ok (.iload_n 1, 1) := by decide +kernel
theorem dX11_isClashLess_80 : decode cX11_isClashLess 80 = .ok (.iaload, 1) := by decide +kernel
theorem dX11_isClashLess_81 : decode cX11_isClashLess 81 = .ok (.if_icmp .ge 7, 3) := by decide +kernel
theorem dX11_isClashLess_84 : decode cX11_isClashLess 84 = .ok (.iconst 1, 1) := by decide +kernel
theorem dX11_isClashLess_85 : decode cX11_isClashLess 85 = .ok (.goto 4, 3) := by decide +kernel
theorem dX11_isClashLess_88 : decode cX11_isClashLess 88 = .ok (.iconst 0, 1) := by decide +kernel
theorem dX11_isClashLess_89 : decode cX11_isClashLess 89 = .ok (.ireturn, 1) := by decide +kernel
theorem dX11_isClashLess_90 : decode cX11_isClashLess 90 = .ok (.iinc 1 1, 3) := by decide +kernel
theorem dX11_isClashLess_93 : decode cX11_isClashLess 93 = .ok (.goto (-47), 3) := by decide +kernel
theorem dX11_isClashLess_96 : decode cX11_isClashLess 96 = .ok (.iconst 0, 1) := by decide +kernel
theorem dX11_isClashLess_97 : decode cX11_isClashLess 97 = .ok (.ireturn, 1) := by decide +kernel
theorem dX11_clashOf_0 : decode cX11_clashOf 0 = .ok (.aload_n 0, 1) := by decide +kernel
theorem dX11_clashOf_1 : decode cX11_clashOf 1 = .ok (.iconst 5, 1) := by decide +kernel
theorem dX11_clashOf_2 : decode cX11_clashOf 2 = .ok (.iload_n 2, 1) := by decide +kernel
theorem dX11_clashOf_3 : decode cX11_clashOf 3 = .ok (.imul, 1) := by decide +kernel
theorem dX11_clashOf_4 : decode cX11_clashOf 4 = .ok (.aload_n 0, 1) := by decide +kernel
theorem dX11_clashOf_5 : decode cX11_clashOf 5 = .ok (.iload_n 1, 1) := by decide +kernel
theorem dX11_clashOf_6 : decode cX11_clashOf 6 = .ok (.invokevirtual 137, 3) := by decide +kernel
theorem dX11_clashOf_9 : decode cX11_clashOf 9 = .ok (.iadd, 1) := by decide +kernel
theorem dX11_clashOf_10 : decode cX11_clashOf 10 = .ok (.invokevirtual 219, 3) := by decide +kernel
theorem dX11_clashOf_13 : decode cX11_clashOf 13 = .ok (.istore_n 3, 1) := by decide +kernel
theorem dX11_clashOf_14 : decode cX11_clashOf 14 = .ok (.aload_n 0, 1) := by decide +kernel
theorem dX11_clashOf_15 : decode cX11_clashOf 15 = .ok (.iload_n 3, 1) := by decide +kernel
theorem dX11_clashOf_16 : decode cX11_clashOf 16 = .ok (.invokevirtual 207, 3) := by decide +kernel
theorem dX11_clashOf_19 : decode cX11_clashOf 19 = .ok (.ifCond .le 16, 3) := by decide +kernel
theorem dX11_clashOf_22 : decode cX11_clashOf 22 = .ok (.aload_n 0, 1) := by decide +kernel
theorem dX11_clashOf_23 : decode cX11_clashOf 23 = .ok (.getfield 59, 3) := by decide +kernel
theorem dX11_clashOf_26 : decode cX11_clashOf 26 = .ok (.iload_n 3, 1) := by decide +kernel
theorem dX11_clashOf_27 : decode cX11_clashOf 27 = .ok (.iaload, 1) := by decide +kernel
theorem dX11_clashOf_28 : decode cX11_clashOf 28 = .ok (.sipush 1000, 3) := by decide +kernel
theorem dX11_clashOf_31 : decode cX11_clashOf 31 = .ok (.if_icmp .ne 4, 3) := by decide +kernel
theorem dX11_clashOf_34 : decode cX11_clashOf 34 = .ok (.return_, 1) := by decide +kernel
theorem dX11_clashOf_35 : decode cX11_clashOf 35 = .ok (.aload_n 0, 1) := by decide +kernel
theorem dX11_clashOf_36 : decode cX11_clashOf 36 = .ok (.iconst 0, 1) := by decide +kernel
theorem dX11_clashOf_37 : decode cX11_clashOf 37 = .ok (.putfield 248, 3) := by decide +kernel
theorem dX11_clashOf_40 : decode cX11_clashOf 40 = .ok (.iconst 0, 1) := by decide +kernel
theorem dX11_clashOf_41 : decode cX11_clashOf 41 = .ok (.istore 4, 2) := by decide +kernel
theorem dX11_clashOf_43 : decode cX11_clashOf 43 = .ok (.iload 4, 2) := by decide +kernel
theorem dX11_clashOf_45 : decode cX11_clashOf 45 = .ok (.aload_n 0, 1) := by decide +kernel
theorem dX11_clashOf_46 : decode cX11_clashOf 46 = .ok (.iload_n 2, 1) := by decide +kernel
theorem dX11_clashOf_47 : decode cX11_clashOf 47 = .ok (.invokevirtual 137, 3) := by decide +kernel
theorem dX11_clashOf_50 : decode cX11_clashOf 50 = .ok (.if_icmp .ge 20, 3) := by decide +kernel
theorem dX11_clashOf_53 : decode cX11_clashOf 53 = .ok (.aload_n 0, 1) := by decide +kernel
theorem dX11_clashOf_54 : decode cX11_clashOf 54 = .ok (.aload_n 0, 1) := by decide +kernel
theorem dX11_clashOf_55 : decode cX11_clashOf 55 = .ok (.iload_n 2, 1) := by decide +kernel
theorem dX11_clashOf_56 : decode cX11_clashOf 56 = .ok (.iload 4, 2) := by decide +kernel
theorem dX11_clashOf_58 : decode cX11_clashOf 58 = .ok (.invokevirtual 140, 3) := by decide +kernel
theorem dX11_clashOf_61 : decode cX11_clashOf 61 = .ok (.invokevirtual 251, 3) := by decide +kernel
theorem dX11_clashOf_64 : decode cX11_clashOf 64 = .ok (.iinc 4 1, 3) := by decide +kernel
theorem dX11_clashOf_67 : decode cX11_clashOf 67 = .ok (.goto (-24), 3) := by decide +kernel
theorem dX11_clashOf_70 : decode cX11_clashOf 70 = .ok (.aload_n 0, 1) := by decide +kernel
theorem dX11_clashOf_71 : decode cX11_clashOf 71 = .ok (.iload_n 3, 1) := by decide +kernel
theorem dX11_clashOf_72 : decode cX11_clashOf 72 = .ok (.invokevirtual 207, 3) := by decide +kernel
theorem dX11_clashOf_75 : decode cX11_clashOf 75 = .ok (.ifCond .le 8, 3) := by decide +kernel
theorem dX11_clashOf_78 : decode cX11_clashOf 78 = .ok (.aload_n 0, 1) := by decide +kernel
theorem dX11_clashOf_79 : decode cX11_clashOf 79 = .ok (.iload_n 3, 1) := by decide +kernel
theorem dX11_clashOf_80 : decode cX11_clashOf 80 = .ok (.invokevirtual 257, 3) := by decide +kernel
theorem dX11_clashOf_83 : decode cX11_clashOf 83 = .ok (.aload_n 0, 1) := by decide +kernel
theorem dX11_clashOf_84 : decode cX11_clashOf 84 = .ok (.invokevirtual 272, 3) := by decide +kernel
theorem dX11_clashOf_87 : decode cX11_clashOf 87 = .ok (.ifCond .eq 43, 3) := by decide +kernel
theorem dX11_clashOf_90 : decode cX11_clashOf 90 = .ok (.aload_n 0, 1) := by decide +kernel
theorem dX11_clashOf_91 : decode cX11_clashOf 91 = .ok (.aload_n 0, 1) := by decide +kernel
theorem dX11_clashOf_92 : decode cX11_clashOf 92 = .ok (.getfield 248, 3) := by decide +kernel
theorem dX11_clashOf_95 : decode cX11_clashOf 95 = .ok (.putfield 269, 3) := by decide +kernel
theorem dX11_clashOf_98 : decode cX11_clashOf 98 = .ok (.iconst 0, 1) := by decide +kernel
theorem dX11_clashOf_99 : decode cX11_clashOf 99 = .ok (.istore 4, 2) := by decide +kernel
theorem dX11_clashOf_101 : decode cX11_clashOf 101 = .ok (.iload 4, 2) := by decide +kernel
theorem dX11_clashOf_103 : decode cX11_clashOf 103 = .ok (.aload_n 0, 1) := by decide +kernel
theorem dX11_clashOf_104 : decode cX11_clashOf 104 = .ok (.getfield 248, 3) := by decide +kernel
theorem dX11_clashOf_107 : decode cX11_clashOf 107 = .ok (.if_icmp .ge 23, 3) := by decide +kernel
theorem dX11_clashOf_110 : decode cX11_clashOf 110 = .ok (.aload_n 0, 1) := by decide +kernel
theorem dX11_clashOf_111 : decode cX11_clashOf 111 = .ok (.getfield 68, 3) := by decide +kernel
theorem dX11_clashOf_114 : decode cX11_clashOf 114 = .ok (.iload 4, 2) := by decide +kernel
theorem dX11_clashOf_116 : decode cX11_clashOf 116 = .ok (.aload_n 0, 1) := by decide +kernel
theorem dX11_clashOf_117 : decode cX11_clashOf 117 = .ok (.getfield 65, 3) := by decide +kernel
theorem dX11_clashOf_120 : decode cX11_clashOf 120 = .ok (.iload 4, 2) := by decide +kernel
theorem dX11_clashOf_122 : decode cX11_clashOf 122 = .ok (.iaload, 1) := by decide +kernel
theorem dX11_clashOf_123 : decode cX11_clashOf 123 = .ok (.iastore, 1) := by decide +kernel
theorem dX11_clashOf_124 : decode cX11_clashOf 124 = .ok (.iinc 4 1, 3) := by decide +kernel
theorem dX11_clashOf_127 : decode cX11_clashOf 127 = .ok (.goto (-26), 3) := by decide +kernel
theorem dX11_clashOf_130 : decode cX11_clashOf 130 = .ok (.return_, 1) := by decide +kernel
theorem dX11_layClash_0 : decode cX11_layClash 0 = .ok (.aload_n 0, 1) := by decide +kernel
theorem dX11_layClash_1 : decode cX11_layClash 1 = .ok (.invokevirtual 275, 3) := by decide +kernel
theorem dX11_layClash_4 : decode cX11_layClash 4 = .ok (.aload_n 0, 1) := by decide +kernel
theorem dX11_layClash_5 : decode cX11_layClash 5 = .ok (.iconst (-1), 1) := by decide +kernel
theorem dX11_layClash_6 : decode cX11_layClash 6 = .ok (.putfield 269, 3) := by decide +kernel
theorem dX11_layClash_9 : decode cX11_layClash 9 = .ok (.iconst 0, 1) := by decide +kernel
theorem dX11_layClash_10 : decode cX11_layClash 10 = .ok (.istore_n 1, 1) := by decide +kernel
theorem dX11_layClash_11 : decode cX11_layClash 11 = .ok (.iload_n 1, 1) := by decide +kernel
theorem dX11_layClash_12 : decode cX11_layClash 12 = .ok (.aload_n 0, 1) := by decide +kernel
theorem dX11_layClash_13 : decode cX11_layClash 13 = .ok (.getfield 109, 3) := by decide +kernel
theorem dX11_layClash_16 : decode cX11_layClash 16 = .ok (.if_icmp .ge 45, 3) := by decide +kernel
theorem dX11_layClash_19 : decode cX11_layClash 19 = .ok (.iconst 0, 1) := by decide +kernel
theorem dX11_layClash_20 : decode cX11_layClash 20 = .ok (.istore_n 2, 1) := by decide +kernel
theorem dX11_layClash_21 : decode cX11_layClash 21 = .ok (.iload_n 2, 1) := by decide +kernel
theorem dX11_layClash_22 : decode cX11_layClash 22 = .ok (.aload_n 0, 1) := by decide +kernel
theorem dX11_layClash_23 : decode cX11_layClash 23 = .ok (.getfield 109, 3) := by decide +kernel
theorem dX11_layClash_26 : decode cX11_layClash 26 = .ok (.if_icmp .ge 29, 3) := by decide +kernel
theorem dX11_layClash_29 : decode cX11_layClash 29 = .ok (.iload_n 1, 1) := by decide +kernel
theorem dX11_layClash_30 : decode cX11_layClash 30 = .ok (.iload_n 2, 1) := by decide +kernel
theorem dX11_layClash_31 : decode cX11_layClash 31 = .ok (.if_icmp .eq 18, 3) := by decide +kernel
theorem dX11_layClash_34 : decode cX11_layClash 34 = .ok (.aload_n 0, 1) := by decide +kernel
theorem dX11_layClash_35 : decode cX11_layClash 35 = .ok (.iload_n 1, 1) := by decide +kernel
theorem dX11_layClash_36 : decode cX11_layClash 36 = .ok (.iload_n 2, 1) := by decide +kernel
theorem dX11_layClash_37 : decode cX11_layClash 37 = .ok (.invokevirtual 157, 3) := by decide +kernel
theorem dX11_layClash_40 : decode cX11_layClash 40 = .ok (.ifCond .eq 9, 3) := by decide +kernel
theorem dX11_layClash_43 : decode cX11_layClash 43 = .ok (.aload_n 0, 1) := by decide +kernel
theorem dX11_layClash_44 : decode cX11_layClash 44 = .ok (.iload_n 1, 1) := by decide +kernel
theorem dX11_layClash_45 : decode cX11_layClash 45 = .ok (.iload_n 2, 1) := by decide +kernel
theorem dX11_layClash_46 : decode cX11_layClash 46 = .ok (.invokevirtual 278, 3) := by decide +kernel
theorem dX11_layClash_49 : decode cX11_layClash 49 = .ok (.iinc 2 1, 3) := by decide +kernel
theorem dX11_layClash_52 : decode cX11_layClash 52 = .ok (.goto (-31), 3) := by decide +kernel
theorem dX11_layClash_55 : decode cX11_layClash 55 = .ok (.iinc 1 1, 3) := by decide +kernel
theorem dX11_layClash_58 : decode cX11_layClash 58 = .ok (.goto (-47), 3) := by decide +kernel
theorem dX11_layClash_61 : decode cX11_layClash 61 = .ok (.aload_n 0, 1) := by decide +kernel
theorem dX11_layClash_62 : decode cX11_layClash 62 = .ok (.aload_n 0, 1) := by decide +kernel
theorem dX11_layClash_63 : decode cX11_layClash 63 = .ok (.getfield 269, 3) := by decide +kernel
theorem dX11_layClash_66 : decode cX11_layClash 66 = .ok (.iconst (-1), 1) := by decide +kernel
theorem dX11_layClash_67 : decode cX11_layClash 67 = .ok (.if_icmp .ne 7, 3) := by decide +kernel
theorem dX11_layClash_70 : decode cX11_layClash 70 = .ok (.iconst 0, 1) := by decide +kernel
theorem dX11_layClash_71 : decode cX11_layClash 71 = .ok (.goto 7, 3) := by decide +kernel
theorem dX11_layClash_74 : decode cX11_layClash 74 = .ok (.aload_n 0, 1) := by decide +kernel
theorem dX11_layClash_75 : decode cX11_layClash 75 = .ok (.getfield 269, 3) := by decide +kernel
theorem dX11_layClash_78 : decode cX11_layClash 78 = .ok (.putfield 167, 3) := by decide +kernel
theorem dX11_layClash_81 : decode cX11_layClash 81 = .ok (.iconst 0, 1) := by decide +kernel
theorem dX11_layClash_82 : decode cX11_layClash 82 = .ok (.istore_n 1, 1) := by decide +kernel
theorem dX11_layClash_83 : decode cX11_layClash 83 = .ok (.iload_n 1, 1) := by decide +kernel
theorem dX11_layClash_84 : decode cX11_layClash 84 = .ok (.aload_n 0, 1) := by decide +kernel
theorem dX11_layClash_85 : decode cX11_layClash 85 = .ok (.getfield 167, 3) := by decide +kernel
theorem dX11_layClash_88 : decode cX11_layClash 88 = .ok (.if_icmp .ge 21, 3) := by decide +kernel
theorem dX11_layClash_91 : decode cX11_layClash 91 = .ok (.aload_n 0, 1) := by decide +kernel
theorem dX11_layClash_92 : decode cX11_layClash 92 = .ok (.getfield 43, 3) := by decide +kernel
theorem dX11_layClash_95 : decode cX11_layClash 95 = .ok (.iload_n 1, 1) := by decide +kernel
theorem dX11_layClash_96 : decode cX11_layClash 96 = .ok (.aload_n 0, 1) := by decide +kernel
theorem dX11_layClash_97 : decode cX11_layClash 97 = .ok (.getfield 68, 3) := by decide +kernel
theorem dX11_layClash_100 : decode cX11_layClash 100 = .ok (.iload_n 1, 1) := by decide +kernel
theorem dX11_layClash_101 : decode cX11_layClash 101 = .ok (.iaload, 1) := by decide +kernel
theorem dX11_layClash_102 : decode cX11_layClash 102 = .ok (.iastore, 1) := by decide +kernel
theorem dX11_layClash_103 : decode cX11_layClash 103 = .ok (.iinc 1 1, 3) := by decide +kernel
theorem dX11_layClash_106 : decode cX11_layClash 106 = .ok (.goto (-23), 3) := by decide +kernel
theorem dX11_layClash_109 : decode cX11_layClash 109 = .ok (.aload_n 0, 1) := by decide +kernel
theorem dX11_layClash_110 : decode cX11_layClash 110 = .ok (.invokevirtual 195, 3) := by decide +kernel
theorem dX11_layClash_113 : decode cX11_layClash 113 = .ok (.return_, 1) := by decide +kernel
theorem dX11_rowMany_0 : decode cX11_rowMany 0 = .ok (.iconst 0, 1) := by decide +kernel
theorem dX11_rowMany_1 : decode cX11_rowMany 1 = .ok (.istore_n 2, 1) := by decide +kernel
theorem dX11_rowMany_2 : decode cX11_rowMany 2 = .ok (.aload_n 0, 1) := by decide +kernel
theorem dX11_rowMany_3 : decode cX11_rowMany 3 = .ok (.iload_n 1, 1) := by decide +kernel
theorem dX11_rowMany_4 : decode cX11_rowMany 4 = .ok (.iload_n 2, 1) := by decide +kernel
theorem dX11_rowMany_5 : decode cX11_rowMany 5 = .ok (.invokevirtual 201, 3) := by decide +kernel
theorem dX11_rowMany_8 : decode cX11_rowMany 8 = .ok (.iconst (-1), 1) := by decide +kernel
theorem dX11_rowMany_9 : decode cX11_rowMany 9 = .ok (.if_icmp .eq 9, 3) := by decide +kernel
theorem dX11_rowMany_12 : decode cX11_rowMany 12 = .ok (.iinc 2 1, 3) := by decide +kernel
theorem dX11_rowMany_15 : decode cX11_rowMany 15 = .ok (.goto (-13), 3) := by decide +kernel
theorem dX11_rowMany_18 : decode cX11_rowMany 18 = .ok (.iload_n 2, 1) := by decide +kernel
theorem dX11_rowMany_19 : decode cX11_rowMany 19 = .ok (.ireturn, 1) := by decide +kernel
theorem dX11_clashTold_0 : decode cX11_clashTold 0 = .ok (.aload_n 0, 1) := by decide +kernel
theorem dX11_clashTold_1 : decode cX11_clashTold 1 = .ok (.invokevirtual 282, 3) := by decide +kernel
theorem dX11_clashTold_4 : decode cX11_clashTold 4 = .ok (.aload_n 0, 1) := by decide +kernel
theorem dX11_clashTold_5 : decode cX11_clashTold 5 = .ok (.getfield 269, 3) := by decide +kernel
theorem dX11_clashTold_8 : decode cX11_clashTold 8 = .ok (.iconst (-1), 1) := by decide +kernel
theorem dX11_clashTold_9 : decode cX11_clashTold 9 = .ok (.if_icmp .ne 5, 3) := by decide +kernel
theorem dX11_clashTold_12 : decode cX11_clashTold 12 = .ok (.iconst (-1), 1) := by decide +kernel
theorem dX11_clashTold_13 : decode cX11_clashTold 13 = .ok (.ireturn, 1) := by decide +kernel
theorem dX11_clashTold_14 : decode cX11_clashTold 14 = .ok (.iload_n 1, 1) := by decide +kernel
theorem dX11_clashTold_15 : decode cX11_clashTold 15 = .ok (.iconst 1, 1) := by decide +kernel
theorem dX11_clashTold_16 : decode cX11_clashTold 16 = .ok (.if_icmp .ne 10, 3) := by decide +kernel
theorem dX11_clashTold_19 : decode cX11_clashTold 19 = .ok (.aload_n 0, 1) := by decide +kernel
theorem dX11_clashTold_20 : decode cX11_clashTold 20 = .ok (.getfield 269, 3) := by decide +kernel
theorem dX11_clashTold_23 : decode cX11_clashTold 23 = .ok (.goto 24, 3) := by decide +kernel
theorem dX11_clashTold_26 : decode cX11_clashTold 26 = .ok (.iload_n 1, 1) := by decide +kernel
theorem dX11_clashTold_27 : decode cX11_clashTold 27 = .ok (.iconst 4, 1) := by decide +kernel
theorem dX11_clashTold_28 : decode cX11_clashTold 28 = .ok (.if_icmp .ne 12, 3) := by decide +kernel
theorem dX11_clashTold_31 : decode cX11_clashTold 31 = .ok (.aload_n 0, 1) := by decide +kernel
theorem dX11_clashTold_32 : decode cX11_clashTold 32 = .ok (.getfield 46, 3) := by decide +kernel
theorem dX11_clashTold_35 : decode cX11_clashTold 35 = .ok (.iconst 0, 1) := by decide +kernel
theorem dX11_clashTold_36 : decode cX11_clashTold 36 = .ok (.iaload, 1) := by decide +kernel
theorem dX11_clashTold_37 : decode cX11_clashTold 37 = .ok (.goto 10, 3) := by decide +kernel
theorem dX11_clashTold_40 : decode cX11_clashTold 40 = .ok (.aload_n 0, 1) := by decide +kernel
theorem dX11_clashTold_41 : decode cX11_clashTold 41 = .ok (.iload_n 1, 1) := by decide +kernel
theorem dX11_clashTold_42 : decode cX11_clashTold 42 = .ok (.iconst 2, 1) := by decide +kernel
theorem dX11_clashTold_43 : decode cX11_clashTold 43 = .ok (.isub, 1) := by decide +kernel
theorem dX11_clashTold_44 : decode cX11_clashTold 44 = .ok (.invokevirtual 285, 3) := by decide +kernel
theorem dX11_clashTold_47 : decode cX11_clashTold 47 = .ok (.ireturn, 1) := by decide +kernel
theorem dX11_clashNow_0 : decode cX11_clashNow 0 = .ok (.iload_n 1, 1) := by decide +kernel
theorem dX11_clashNow_1 : decode cX11_clashNow 1 = .ok (.ifCond .ne 18, 3) := by decide +kernel
theorem dX11_clashNow_4 : decode cX11_clashNow 4 = .ok (.aload_n 0, 1) := by decide +kernel
theorem dX11_clashNow_5 : decode cX11_clashNow 5 = .ok (.invokevirtual 288, 3) := by decide +kernel
theorem dX11_clashNow_8 : decode cX11_clashNow 8 = .ok (.ifCond .eq 7, 3) := by decide +kernel
theorem dX11_clashNow_11 : decode cX11_clashNow 11 = .ok (.iconst 1, 1) := by decide +kernel
theorem dX11_clashNow_12 : decode cX11_clashNow 12 = .ok (.goto 24, 3) := by decide +kernel
theorem dX11_clashNow_15 : decode cX11_clashNow 15 = .ok (.iconst 0, 1) := by decide +kernel
theorem dX11_clashNow_16 : decode cX11_clashNow 16 = .ok (.goto 20, 3) := by decide +kernel
theorem dX11_clashNow_19 : decode cX11_clashNow 19 = .ok (.iload_n 1, 1) := by decide +kernel
theorem dX11_clashNow_20 : decode cX11_clashNow 20 = .ok (.iconst 5, 1) := by decide +kernel
theorem dX11_clashNow_21 : decode cX11_clashNow 21 = .ok (.if_icmp .ne 10, 3) := by decide +kernel
theorem dX11_clashNow_24 : decode cX11_clashNow 24 = .ok (.aload_n 0, 1) := by decide +kernel
theorem dX11_clashNow_25 : decode cX11_clashNow 25 = .ok (.invokevirtual 291, 3) := by decide +kernel
theorem dX11_clashNow_28 : decode cX11_clashNow 28 = .ok (.goto 8, 3) := by decide +kernel
theorem dX11_clashNow_31 : decode cX11_clashNow 31 = .ok (.aload_n 0, 1) := by decide +kernel
theorem dX11_clashNow_32 : decode cX11_clashNow 32 = .ok (.iload_n 1, 1) := by decide +kernel
theorem dX11_clashNow_33 : decode cX11_clashNow 33 = .ok (.invokevirtual 294, 3) := by decide +kernel
theorem dX11_clashNow_36 : decode cX11_clashNow 36 = .ok (.ireturn, 1) := by decide +kernel
theorem dX11_clash_0 : decode cX11_clash 0 = .ok (.iload_n 1, 1) := by decide +kernel
theorem dX11_clash_1 : decode cX11_clash 1 = .ok (.iconst 0, 1) := by decide +kernel
theorem dX11_clash_2 : decode cX11_clash 2 = .ok (.iconst 5, 1) := by decide +kernel
theorem dX11_clash_3 : decode cX11_clash 3 = .ok (.invokestatic 71, 3) := by decide +kernel
theorem dX11_clash_6 : decode cX11_clash 6 = .ok (.ifCond .eq 11, 3) := by decide +kernel
theorem dX11_clash_9 : decode cX11_clash 9 = .ok (.aload_n 0, 1) := by decide +kernel
theorem dX11_clash_10 : decode cX11_clash 10 = .ok (.iload_n 1, 1) := by decide +kernel
theorem dX11_clash_11 : decode cX11_clash 11 = .ok (.invokevirtual 297, 3) := by decide +kernel
theorem dX11_clash_14 : decode cX11_clash 14 = .ok (.goto 5, 3) := by decide +kernel
theorem dX11_clash_17 : decode cX11_clash 17 = .ok (.bipush (-102), 2) := by decide +kernel
theorem dX11_clash_19 : decode cX11_clash 19 = .ok (.ireturn, 1) := by decide +kernel
theorem dX11_clashAt_0 : decode cX11_clashAt 0 = .ok (.aload_n 0, 1) := by decide +kernel
theorem dX11_clashAt_1 : decode cX11_clashAt 1 = .ok (.invokevirtual 282, 3) := by decide +kernel
theorem dX11_clashAt_4 : decode cX11_clashAt 4 = .ok (.iload_n 1, 1) := by decide +kernel
theorem dX11_clashAt_5 : decode cX11_clashAt 5 = .ok (.iconst 0, 1) := by decide +kernel
theorem dX11_clashAt_6 : decode cX11_clashAt 6 = .ok (.aload_n 0, 1) := by decide +kernel
theorem dX11_clashAt_7 : decode cX11_clashAt 7 = .ok (.getfield 269, 3) := by decide +kernel
theorem dX11_clashAt_10 : decode cX11_clashAt 10 = .ok (.iconst 1, 1) := by decide +kernel
theorem dX11_clashAt_11 : decode cX11_clashAt 11 = .ok (.isub, 1) := by decide +kernel
theorem dX11_clashAt_12 : decode cX11_clashAt 12 = .ok (.invokestatic 71, 3) := by decide +kernel
theorem dX11_clashAt_15 : decode cX11_clashAt 15 = .ok (.ifCond .eq 12, 3) := by decide +kernel
theorem dX11_clashAt_18 : decode cX11_clashAt 18 = .ok (.aload_n 0, 1) := by decide +kernel
theorem dX11_clashAt_19 : decode cX11_clashAt 19 = .ok (.getfield 68, 3) := by decide +kernel
theorem dX11_clashAt_22 : decode cX11_clashAt 22 = .ok (.iload_n 1, 1) := by decide +kernel
theorem dX11_clashAt_23 : decode cX11_clashAt 23 = .ok (.iaload, 1) := by decide +kernel
theorem dX11_clashAt_24 : decode cX11_clashAt 24 = .ok (.goto 5, 3) := by decide +kernel
theorem dX11_clashAt_27 : decode cX11_clashAt 27 = .ok (.bipush (-101), 2) := by decide +kernel
theorem dX11_clashAt_29 : decode cX11_clashAt 29 = .ok (.ireturn, 1) := by decide +kernel
theorem dX11_clashingNow_0 : decode cX11_clashingNow 0 = .ok (.aload_n 0, 1) := by decide +kernel
theorem dX11_clashingNow_1 : decode cX11_clashingNow 1 = .ok (.invokevirtual 282, 3) := by decide +kernel
theorem dX11_clashingNow_4 : decode cX11_clashingNow 4 = .ok (.aload_n 0, 1) := by decide +kernel
theorem dX11_clashingNow_5 : decode cX11_clashingNow 5 = .ok (.getfield 269, 3) := by decide +kernel
theorem dX11_clashingNow_8 : decode cX11_clashingNow 8 = .ok (.iconst (-1), 1) := by decide +kernel
theorem dX11_clashingNow_9 : decode cX11_clashingNow 9 = .ok (.if_icmp .ne 7, 3) := by decide +kernel
theorem dX11_clashingNow_12 : decode cX11_clashingNow 12 = .ok (.iconst (-1), 1) := by decide +kernel
theorem dX11_clashingNow_13 : decode cX11_clashingNow 13 = .ok (.goto 9, 3) := by decide +kernel
theorem dX11_clashingNow_16 : decode cX11_clashingNow 16 = .ok (.aload_n 0, 1) := by decide +kernel
theorem dX11_clashingNow_17 : decode cX11_clashingNow 17 = .ok (.iload_n 1, 1) := by decide +kernel
theorem dX11_clashingNow_18 : decode cX11_clashingNow 18 = .ok (.iload_n 2, 1) := by decide +kernel
theorem dX11_clashingNow_19 : decode cX11_clashingNow 19 = .ok (.invokevirtual 201, 3) := by decide +kernel
theorem dX11_clashingNow_22 : decode cX11_clashingNow 22 = .ok (.istore_n 3, 1) := by decide +kernel
theorem dX11_clashingNow_23 : decode cX11_clashingNow 23 = .ok (.iload_n 3, 1) := by decide +kernel
theorem dX11_clashingNow_24 : decode cX11_clashingNow 24 = .ok (.iconst (-1), 1) := by decide +kernel
theorem dX11_clashingNow_25 : decode cX11_clashingNow 25 = .ok (.if_icmp .ne 8, 3) := by decide +kernel
theorem dX11_clashingNow_28 : decode cX11_clashingNow 28 = .ok (.bipush (-101), 2) := by decide +kernel
theorem dX11_clashingNow_30 : decode cX11_clashingNow 30 = .ok (.goto 4, 3) := by decide +kernel
theorem dX11_clashingNow_33 : decode cX11_clashingNow 33 = .ok (.iload_n 3, 1) := by decide +kernel
theorem dX11_clashingNow_34 : decode cX11_clashingNow 34 = .ok (.ireturn, 1) := by decide +kernel
theorem dX11_clashing_0 : decode cX11_clashing 0 = .ok (.iload_n 1, 1) := by decide +kernel
theorem dX11_clashing_1 : decode cX11_clashing 1 = .ok (.iconst 0, 1) := by decide +kernel
theorem dX11_clashing_2 : decode cX11_clashing 2 = .ok (.iconst 1, 1) := by decide +kernel
theorem dX11_clashing_3 : decode cX11_clashing 3 = .ok (.invokestatic 71, 3) := by decide +kernel
theorem dX11_clashing_6 : decode cX11_clashing 6 = .ok (.ifCond .eq 12, 3) := by decide +kernel
theorem dX11_clashing_9 : decode cX11_clashing 9 = .ok (.aload_n 0, 1) := by decide +kernel
theorem dX11_clashing_10 : decode cX11_clashing 10 = .ok (.iload_n 1, 1) := by decide +kernel
theorem dX11_clashing_11 : decode cX11_clashing 11 = .ok (.iload_n 2, 1) := by decide +kernel
theorem dX11_clashing_12 : decode cX11_clashing 12 = .ok (.invokevirtual 300, 3) := by decide +kernel
theorem dX11_clashing_15 : decode cX11_clashing 15 = .ok (.goto 5, 3) := by decide +kernel
theorem dX11_clashing_18 : decode cX11_clashing 18 = .ok (.bipush (-102), 2) := by decide +kernel
theorem dX11_clashing_20 : decode cX11_clashing 20 = .ok (.ireturn, 1) := by decide +kernel
theorem dX11_bits_0 : decode cX11_bits 0 = .ok (.iconst 0, 1) := by decide +kernel
theorem dX11_bits_1 : decode cX11_bits 1 = .ok (.istore_n 1, 1) := by decide +kernel
theorem dX11_bits_2 : decode cX11_bits 2 = .ok (.iconst 0, 1) := by decide +kernel
theorem dX11_bits_3 : decode cX11_bits 3 = .ok (.istore_n 2, 1) := by decide +kernel
theorem dX11_bits_4 : decode cX11_bits 4 = .ok (.iload_n 2, 1) := by decide +kernel
theorem dX11_bits_5 : decode cX11_bits 5 = .ok (.bipush 8, 2) := by decide +kernel
theorem dX11_bits_7 : decode cX11_bits 7 = .ok (.if_icmp .ge 17, 3) := by decide +kernel
theorem dX11_bits_10 : decode cX11_bits 10 = .ok (.iload_n 1, 1) := by decide +kernel
theorem dX11_bits_11 : decode cX11_bits 11 = .ok (.iload_n 0, 1) := by decide +kernel
theorem dX11_bits_12 : decode cX11_bits 12 = .ok (.iload_n 2, 1) := by decide +kernel
theorem dX11_bits_13 : decode cX11_bits 13 = .ok (.ishr, 1) := by decide +kernel
theorem dX11_bits_14 : decode cX11_bits 14 = .ok (.iconst 1, 1) := by decide +kernel
theorem dX11_bits_15 : decode cX11_bits 15 = .ok (.iand, 1) := by decide +kernel
theorem dX11_bits_16 : decode cX11_bits 16 = .ok (.iadd, 1) := by decide +kernel
theorem dX11_bits_17 : decode cX11_bits 17 = .ok (.istore_n 1, 1) := by decide +kernel
theorem dX11_bits_18 : decode cX11_bits 18 = .ok (.iinc 2 1, 3) := by decide +kernel
theorem dX11_bits_21 : decode cX11_bits 21 = .ok (.goto (-17), 3) := by decide +kernel
theorem dX11_bits_24 : decode cX11_bits 24 = .ok (.iload_n 1, 1) := by decide +kernel
theorem dX11_bits_25 : decode cX11_bits 25 = .ok (.ireturn, 1) := by decide +kernel
theorem dX11_partingSet_0 : decode cX11_partingSet 0 = .ok (.iconst (-1), 1) := by decide +kernel
theorem dX11_partingSet_1 : decode cX11_partingSet 1 = .ok (.istore_n 1, 1) := by decide +kernel
theorem dX11_partingSet_2 : decode cX11_partingSet 2 = .ok (.iconst 0, 1) := by decide +kernel
theorem dX11_partingSet_3 : decode cX11_partingSet 3 = .ok (.istore_n 2, 1) := by decide +kernel
theorem dX11_partingSet_4 : decode cX11_partingSet 4 = .ok (.iload_n 2, 1) := by decide +kernel
theorem dX11_partingSet_5 : decode cX11_partingSet 5 = .ok (.iconst 1, 1) := by decide +kernel
theorem dX11_partingSet_6 : decode cX11_partingSet 6 = .ok (.aload_n 0, 1) := by decide +kernel
theorem dX11_partingSet_7 : decode cX11_partingSet 7 = .ok (.getfield 109, 3) := by decide +kernel
theorem dX11_partingSet_10 : decode cX11_partingSet 10 = .ok (.ishl, 1) := by decide +kernel
theorem dX11_partingSet_11 : decode cX11_partingSet 11 = .ok (.if_icmp .ge 53, 3) := by decide +kernel
theorem dX11_partingSet_14 : decode cX11_partingSet 14 = .ok (.aload_n 0, 1) := by decide +kernel
theorem dX11_partingSet_15 : decode cX11_partingSet 15 = .ok (.iload_n 2, 1) := by decide +kernel
theorem dX11_partingSet_16 : decode cX11_partingSet 16 = .ok (.putfield 115, 3) := by decide +kernel
theorem dX11_partingSet_19 : decode cX11_partingSet 19 = .ok (.iload_n 1, 1) := by decide +kernel
theorem dX11_partingSet_20 : decode cX11_partingSet 20 = .ok (.iconst (-1), 1) := by decide +kernel
theorem dX11_partingSet_21 : decode cX11_partingSet 21 = .ok (.if_icmp .eq 14, 3) := by decide +kernel
theorem dX11_partingSet_24 : decode cX11_partingSet 24 = .ok (.iload_n 2, 1) := by decide +kernel
theorem dX11_partingSet_25 : decode cX11_partingSet 25 = .ok (.invokestatic 303, 3) := by decide +kernel
theorem dX11_partingSet_28 : decode cX11_partingSet 28 = .ok (.iload_n 1, 1) := by decide +kernel
theorem dX11_partingSet_29 : decode cX11_partingSet 29 = .ok (.invokestatic 303, 3) := by decide +kernel
theorem dX11_partingSet_32 : decode cX11_partingSet 32 = .ok (.if_icmp .ge 7, 3) := by decide +kernel
theorem dX11_partingSet_35 : decode cX11_partingSet 35 = .ok (.iconst 1, 1) := by decide +kernel
theorem dX11_partingSet_36 : decode cX11_partingSet 36 = .ok (.goto 4, 3) := by decide +kernel
theorem dX11_partingSet_39 : decode cX11_partingSet 39 = .ok (.iconst 0, 1) := by decide +kernel
theorem dX11_partingSet_40 : decode cX11_partingSet 40 = .ok (.istore_n 3, 1) := by decide +kernel
theorem dX11_partingSet_41 : decode cX11_partingSet 41 = .ok (.iload_n 3, 1) := by decide +kernel
theorem dX11_partingSet_42 : decode cX11_partingSet 42 = .ok (.ifCond .eq 14, 3) := by decide +kernel
theorem dX11_partingSet_45 : decode cX11_partingSet 45 = .ok (.aload_n 0, 1) := by decide +kernel
theorem dX11_partingSet_46 : decode cX11_partingSet 46 = .ok (.invokevirtual 288, 3) := by decide +kernel
