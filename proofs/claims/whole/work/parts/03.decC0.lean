theorem dX11_init_0 : decode cX11_init 0 = .ok (.aload_n 0, 1) := by decide +kernel
theorem dX11_init_1 : decode cX11_init 1 = .ok (.invokespecial 1, 3) := by decide +kernel
theorem dX11_init_4 : decode cX11_init 4 = .ok (.aload_n 0, 1) := by decide +kernel
theorem dX11_init_5 : decode cX11_init 5 = .ok (.bipush 8, 2) := by decide +kernel
theorem dX11_init_7 : decode cX11_init 7 = .ok (.newarray .int, 2) := by decide +kernel
theorem dX11_init_9 : decode cX11_init 9 = .ok (.putfield 7, 3) := by decide +kernel
theorem dX11_init_12 : decode cX11_init 12 = .ok (.aload_n 0, 1) := by decide +kernel
theorem dX11_init_13 : decode cX11_init 13 = .ok (.bipush 8, 2) := by decide +kernel
theorem dX11_init_15 : decode cX11_init 15 = .ok (.newarray .int, 2) := by decide +kernel
theorem dX11_init_17 : decode cX11_init 17 = .ok (.putfield 13, 3) := by decide +kernel
theorem dX11_init_20 : decode cX11_init 20 = .ok (.aload_n 0, 1) := by decide +kernel
theorem dX11_init_21 : decode cX11_init 21 = .ok (.bipush 24, 2) := by decide +kernel
theorem dX11_init_23 : decode cX11_init 23 = .ok (.newarray .int, 2) := by decide +kernel
theorem dX11_init_25 : decode cX11_init 25 = .ok (.putfield 16, 3) := by decide +kernel
theorem dX11_init_28 : decode cX11_init 28 = .ok (.aload_n 0, 1) := by decide +kernel
theorem dX11_init_29 : decode cX11_init 29 = .ok (.bipush 24, 2) := by decide +kernel
theorem dX11_init_31 : decode cX11_init 31 = .ok (.newarray .int, 2) := by decide +kernel
theorem dX11_init_33 : decode cX11_init 33 = .ok (.putfield 19, 3) := by decide +kernel
theorem dX11_init_36 : decode cX11_init 36 = .ok (.aload_n 0, 1) := by decide +kernel
theorem dX11_init_37 : decode cX11_init 37 = .ok (.bipush 56, 2) := by decide +kernel
theorem dX11_init_39 : decode cX11_init 39 = .ok (.newarray .int, 2) := by decide +kernel
theorem dX11_init_41 : decode cX11_init 41 = .ok (.putfield 22, 3) := by decide +kernel
theorem dX11_init_44 : decode cX11_init 44 = .ok (.aload_n 0, 1) := by decide +kernel
theorem dX11_init_45 : decode cX11_init 45 = .ok (.bipush 56, 2) := by decide +kernel
theorem dX11_init_47 : decode cX11_init 47 = .ok (.newarray .int, 2) := by decide +kernel
theorem dX11_init_49 : decode cX11_init 49 = .ok (.putfield 25, 3) := by decide +kernel
theorem dX11_init_52 : decode cX11_init 52 = .ok (.aload_n 0, 1) := by decide +kernel
theorem dX11_init_53 : decode cX11_init 53 = .ok (.bipush 8, 2) := by decide +kernel
theorem dX11_init_55 : decode cX11_init 55 = .ok (.newarray .int, 2) := by decide +kernel
theorem dX11_init_57 : decode cX11_init 57 = .ok (.putfield 28, 3) := by decide +kernel
theorem dX11_init_60 : decode cX11_init 60 = .ok (.aload_n 0, 1) := by decide +kernel
theorem dX11_init_61 : decode cX11_init 61 = .ok (.bipush 8, 2) := by decide +kernel
theorem dX11_init_63 : decode cX11_init 63 = .ok (.newarray .int, 2) := by decide +kernel
theorem dX11_init_65 : decode cX11_init 65 = .ok (.putfield 31, 3) := by decide +kernel
theorem dX11_init_68 : decode cX11_init 68 = .ok (.aload_n 0, 1) := by decide +kernel
theorem dX11_init_69 : decode cX11_init 69 = .ok (.bipush 24, 2) := by decide +kernel
theorem dX11_init_71 : decode cX11_init 71 = .ok (.newarray .int, 2) := by decide +kernel
theorem dX11_init_73 : decode cX11_init 73 = .ok (.putfield 34, 3) := by decide +kernel
theorem dX11_init_76 : decode cX11_init 76 = .ok (.aload_n 0, 1) := by decide +kernel
theorem dX11_init_77 : decode cX11_init 77 = .ok (.bipush 24, 2) := by decide +kernel
theorem dX11_init_79 : decode cX11_init 79 = .ok (.newarray .int, 2) := by decide +kernel
theorem dX11_init_81 : decode cX11_init 81 = .ok (.putfield 37, 3) := by decide +kernel
theorem dX11_init_84 : decode cX11_init 84 = .ok (.aload_n 0, 1) := by decide +kernel
theorem dX11_init_85 : decode cX11_init 85 = .ok (.bipush 12, 2) := by decide +kernel
theorem dX11_init_87 : decode cX11_init 87 = .ok (.newarray .int, 2) := by decide +kernel
theorem dX11_init_89 : decode cX11_init 89 = .ok (.putfield 40, 3) := by decide +kernel
theorem dX11_init_92 : decode cX11_init 92 = .ok (.aload_n 0, 1) := by decide +kernel
theorem dX11_init_93 : decode cX11_init 93 = .ok (.sipush 200, 3) := by decide +kernel
theorem dX11_init_96 : decode cX11_init 96 = .ok (.newarray .int, 2) := by decide +kernel
theorem dX11_init_98 : decode cX11_init 98 = .ok (.putfield 43, 3) := by decide +kernel
theorem dX11_init_101 : decode cX11_init 101 = .ok (.aload_n 0, 1) := by decide +kernel
theorem dX11_init_102 : decode cX11_init 102 = .ok (.sipush 201, 3) := by decide +kernel
theorem dX11_init_105 : decode cX11_init 105 = .ok (.newarray .int, 2) := by decide +kernel
theorem dX11_init_107 : decode cX11_init 107 = .ok (.putfield 46, 3) := by decide +kernel
theorem dX11_init_110 : decode cX11_init 110 = .ok (.aload_n 0, 1) := by decide +kernel
theorem dX11_init_111 : decode cX11_init 111 = .ok (.sipush 201, 3) := by decide +kernel
theorem dX11_init_114 : decode cX11_init 114 = .ok (.newarray .int, 2) := by decide +kernel
theorem dX11_init_116 : decode cX11_init 116 = .ok (.putfield 49, 3) := by decide +kernel
theorem dX11_init_119 : decode cX11_init 119 = .ok (.aload_n 0, 1) := by decide +kernel
theorem dX11_init_120 : decode cX11_init 120 = .ok (.sipush 200, 3) := by decide +kernel
theorem dX11_init_123 : decode cX11_init 123 = .ok (.newarray .int, 2) := by decide +kernel
theorem dX11_init_125 : decode cX11_init 125 = .ok (.putfield 52, 3) := by decide +kernel
theorem dX11_init_128 : decode cX11_init 128 = .ok (.aload_n 0, 1) := by decide +kernel
theorem dX11_init_129 : decode cX11_init 129 = .ok (.bipush 40, 2) := by decide +kernel
theorem dX11_init_131 : decode cX11_init 131 = .ok (.newarray .boolean, 2) := by decide +kernel
theorem dX11_init_133 : decode cX11_init 133 = .ok (.putfield 55, 3) := by decide +kernel
theorem dX11_init_136 : decode cX11_init 136 = .ok (.aload_n 0, 1) := by decide +kernel
theorem dX11_init_137 : decode cX11_init 137 = .ok (.bipush 40, 2) := by decide +kernel
theorem dX11_init_139 : decode cX11_init 139 = .ok (.newarray .int, 2) := by decide +kernel
theorem dX11_init_141 : decode cX11_init 141 = .ok (.putfield 59, 3) := by decide +kernel
theorem dX11_init_144 : decode cX11_init 144 = .ok (.aload_n 0, 1) := by decide +kernel
theorem dX11_init_145 : decode cX11_init 145 = .ok (.sipush 8000, 3) := by decide +kernel
theorem dX11_init_148 : decode cX11_init 148 = .ok (.newarray .int, 2) := by decide +kernel
theorem dX11_init_150 : decode cX11_init 150 = .ok (.putfield 62, 3) := by decide +kernel
theorem dX11_init_153 : decode cX11_init 153 = .ok (.aload_n 0, 1) := by decide +kernel
theorem dX11_init_154 : decode cX11_init 154 = .ok (.sipush 200, 3) := by decide +kernel
theorem dX11_init_157 : decode cX11_init 157 = .ok (.newarray .int, 2) := by decide +kernel
theorem dX11_init_159 : decode cX11_init 159 = .ok (.putfield 65, 3) := by decide +kernel
theorem dX11_init_162 : decode cX11_init 162 = .ok (.aload_n 0, 1) := by decide +kernel
theorem dX11_init_163 : decode cX11_init 163 = .ok (.sipush 200, 3) := by decide +kernel
theorem dX11_init_166 : decode cX11_init 166 = .ok (.newarray .int, 2) := by decide +kernel
theorem dX11_init_168 : decode cX11_init 168 = .ok (.putfield 68, 3) := by decide +kernel
theorem dX11_init_171 : decode cX11_init 171 = .ok (.return_, 1) := by decide +kernel
theorem dX11_within_0 : decode cX11_within 0 = .ok (.iload_n 0, 1) := by decide +kernel
theorem dX11_within_1 : decode cX11_within 1 = .ok (.iload_n 1, 1) := by decide +kernel
theorem dX11_within_2 : decode cX11_within 2 = .ok (.if_icmp .lt 12, 3) := by decide +kernel
theorem dX11_within_5 : decode cX11_within 5 = .ok (.iload_n 0, 1) := by decide +kernel
theorem dX11_within_6 : decode cX11_within 6 = .ok (.iload_n 2, 1) := by decide +kernel
theorem dX11_within_7 : decode cX11_within 7 = .ok (.if_icmp .gt 7, 3) := by decide +kernel
theorem dX11_within_10 : decode cX11_within 10 = .ok (.iconst 1, 1) := by decide +kernel
theorem dX11_within_11 : decode cX11_within 11 = .ok (.goto 4, 3) := by decide +kernel
theorem dX11_within_14 : decode cX11_within 14 = .ok (.iconst 0, 1) := by decide +kernel
theorem dX11_within_15 : decode cX11_within 15 = .ok (.ireturn, 1) := by decide +kernel
theorem dX11_isSmall_0 : decode cX11_isSmall 0 = .ok (.iload_n 0, 1) := by decide +kernel
theorem dX11_isSmall_1 : decode cX11_isSmall 1 = .ok (.bipush 97, 2) := by decide +kernel
theorem dX11_isSmall_3 : decode cX11_isSmall 3 = .ok (.bipush 122, 2) := by decide +kernel
theorem dX11_isSmall_5 : decode cX11_isSmall 5 = .ok (.invokestatic 71, 3) := by decide +kernel
theorem dX11_isSmall_8 : decode cX11_isSmall 8 = .ok (.ireturn, 1) := by decide +kernel
theorem dX11_isGreat_0 : decode cX11_isGreat 0 = .ok (.iload_n 0, 1) := by decide +kernel
theorem dX11_isGreat_1 : decode cX11_isGreat 1 = .ok (.bipush 65, 2) := by decide +kernel
theorem dX11_isGreat_3 : decode cX11_isGreat 3 = .ok (.bipush 90, 2) := by decide +kernel
theorem dX11_isGreat_5 : decode cX11_isGreat 5 = .ok (.invokestatic 71, 3) := by decide +kernel
theorem dX11_isGreat_8 : decode cX11_isGreat 8 = .ok (.ireturn, 1) := by decide +kernel
theorem dX11_letter_0 : decode cX11_letter 0 = .ok (.iload_n 1, 1) := by decide +kernel
theorem dX11_letter_1 : decode cX11_letter 1 = .ok (.bipush 32, 2) := by decide +kernel
theorem dX11_letter_3 : decode cX11_letter 3 = .ok (.bipush 126, 2) := by decide +kernel
theorem dX11_letter_5 : decode cX11_letter 5 = .ok (.invokestatic 71, 3) := by decide +kernel
theorem dX11_letter_8 : decode cX11_letter 8 = .ok (.ifCond .ne 6, 3) := by decide +kernel
theorem dX11_letter_11 : decode cX11_letter 11 = .ok (.bipush (-102), 2) := by decide +kernel
theorem dX11_letter_13 : decode cX11_letter 13 = .ok (.ireturn, 1) := by decide +kernel
theorem dX11_letter_14 : decode cX11_letter 14 = .ok (.aload_n 0, 1) := by decide +kernel
theorem dX11_letter_15 : decode cX11_letter 15 = .ok (.getfield 75, 3) := by decide +kernel
theorem dX11_letter_18 : decode cX11_letter 18 = .ok (.bipush 56, 2) := by decide +kernel
theorem dX11_letter_20 : decode cX11_letter 20 = .ok (.if_icmp .ne 6, 3) := by decide +kernel
theorem dX11_letter_23 : decode cX11_letter 23 = .ok (.bipush (-104), 2) := by decide +kernel
theorem dX11_letter_25 : decode cX11_letter 25 = .ok (.ireturn, 1) := by decide +kernel
theorem dX11_letter_26 : decode cX11_letter 26 = .ok (.aload_n 0, 1) := by decide +kernel
theorem dX11_letter_27 : decode cX11_letter 27 = .ok (.getfield 25, 3) := by decide +kernel
theorem dX11_letter_30 : decode cX11_letter 30 = .ok (.aload_n 0, 1) := by decide +kernel
theorem dX11_letter_31 : decode cX11_letter 31 = .ok (.getfield 75, 3) := by decide +kernel
theorem dX11_letter_34 : decode cX11_letter 34 = .ok (.iload_n 1, 1) := by decide +kernel
theorem dX11_letter_35 : decode cX11_letter 35 = .ok (.iastore, 1) := by decide +kernel
theorem dX11_letter_36 : decode cX11_letter 36 = .ok (.aload_n 0, 1) := by decide +kernel
theorem dX11_letter_37 : decode cX11_letter 37 = .ok (.dup, 1) := by decide +kernel
theorem dX11_letter_38 : decode cX11_letter 38 = .ok (.getfield 75, 3) := by decide +kernel
theorem dX11_letter_41 : decode cX11_letter 41 = .ok (.iconst 1, 1) := by decide +kernel
theorem dX11_letter_42 : decode cX11_letter 42 = .ok (.iadd, 1) := by decide +kernel
theorem dX11_letter_43 : decode cX11_letter 43 = .ok (.putfield 75, 3) := by decide +kernel
theorem dX11_letter_46 : decode cX11_letter 46 = .ok (.aload_n 0, 1) := by decide +kernel
theorem dX11_letter_47 : decode cX11_letter 47 = .ok (.getfield 75, 3) := by decide +kernel
theorem dX11_letter_50 : decode cX11_letter 50 = .ok (.ireturn, 1) := by decide +kernel
theorem dX11_blank_0 : decode cX11_blank 0 = .ok (.aload_n 0, 1) := by decide +kernel
theorem dX11_blank_1 : decode cX11_blank 1 = .ok (.getfield 75, 3) := by decide +kernel
theorem dX11_blank_4 : decode cX11_blank 4 = .ok (.istore_n 1, 1) := by decide +kernel
theorem dX11_blank_5 : decode cX11_blank 5 = .ok (.aload_n 0, 1) := by decide +kernel
theorem dX11_blank_6 : decode cX11_blank 6 = .ok (.iconst 0, 1) := by decide +kernel
theorem dX11_blank_7 : decode cX11_blank 7 = .ok (.putfield 75, 3) := by decide +kernel
theorem dX11_blank_10 : decode cX11_blank 10 = .ok (.iload_n 1, 1) := by decide +kernel
theorem dX11_blank_11 : decode cX11_blank 11 = .ok (.ireturn, 1) := by decide +kernel
theorem dX11_isTwice_0 : decode cX11_isTwice 0 = .ok (.iconst 0, 1) := by decide +kernel
theorem dX11_isTwice_1 : decode cX11_isTwice 1 = .ok (.istore_n 1, 1) := by decide +kernel
theorem dX11_isTwice_2 : decode cX11_isTwice 2 = .ok (.iconst 0, 1) := by decide +kernel
theorem dX11_isTwice_3 : decode cX11_isTwice 3 = .ok (.istore_n 2, 1) := by decide +kernel
theorem dX11_isTwice_4 : decode cX11_isTwice 4 = .ok (.iload_n 2, 1) := by decide +kernel
theorem dX11_isTwice_5 : decode cX11_isTwice 5 = .ok (.aload_n 0, 1) := by decide +kernel
theorem dX11_isTwice_6 : decode cX11_isTwice 6 = .ok (.getfield 79, 3) := by decide +kernel
theorem dX11_isTwice_9 : decode cX11_isTwice 9 = .ok (.if_icmp .ge 108, 3) := by decide +kernel
theorem dX11_isTwice_12 : decode cX11_isTwice 12 = .ok (.aload_n 0, 1) := by decide +kernel
theorem dX11_isTwice_13 : decode cX11_isTwice 13 = .ok (.getfield 28, 3) := by decide +kernel
theorem dX11_isTwice_16 : decode cX11_isTwice 16 = .ok (.iload_n 2, 1) := by decide +kernel
theorem dX11_isTwice_17 : decode cX11_isTwice 17 = .ok (.iaload, 1) := by decide +kernel
theorem dX11_isTwice_18 : decode cX11_isTwice 18 = .ok (.aload_n 0, 1) := by decide +kernel
theorem dX11_isTwice_19 : decode cX11_isTwice 19 = .ok (.getfield 28, 3) := by decide +kernel
theorem dX11_isTwice_22 : decode cX11_isTwice 22 = .ok (.aload_n 0, 1) := by decide +kernel
theorem dX11_isTwice_23 : decode cX11_isTwice 23 = .ok (.getfield 79, 3) := by decide +kernel
theorem dX11_isTwice_26 : decode cX11_isTwice 26 = .ok (.iaload, 1) := by decide +kernel
theorem dX11_isTwice_27 : decode cX11_isTwice 27 = .ok (.if_icmp .ne 7, 3) := by decide +kernel
theorem dX11_isTwice_30 : decode cX11_isTwice 30 = .ok (.iconst 1, 1) := by decide +kernel
theorem dX11_isTwice_31 : decode cX11_isTwice 31 = .ok (.goto 4, 3) := by decide +kernel
theorem dX11_isTwice_34 : decode cX11_isTwice 34 = .ok (.iconst 0, 1) := by decide +kernel
theorem dX11_isTwice_35 : decode cX11_isTwice 35 = .ok (.istore_n 3, 1) := by decide +kernel
theorem dX11_isTwice_36 : decode cX11_isTwice 36 = .ok (.iconst 0, 1) := by decide +kernel
theorem dX11_isTwice_37 : decode cX11_isTwice 37 = .ok (.istore 4, 2) := by decide +kernel
theorem dX11_isTwice_39 : decode cX11_isTwice 39 = .ok (.iload 4, 2) := by decide +kernel
theorem dX11_isTwice_41 : decode cX11_isTwice 41 = .ok (.aload_n 0, 1) := by decide +kernel
theorem dX11_isTwice_42 : decode cX11_isTwice 42 = .ok (.getfield 28, 3) := by decide +kernel
theorem dX11_isTwice_45 : decode cX11_isTwice 45 = .ok (.aload_n 0, 1) := by decide +kernel
theorem dX11_isTwice_46 : decode cX11_isTwice 46 = .ok (.getfield 79, 3) := by decide +kernel
theorem dX11_isTwice_49 : decode cX11_isTwice 49 = .ok (.iaload, 1) := by decide +kernel
theorem dX11_isTwice_50 : decode cX11_isTwice 50 = .ok (.if_icmp .ge 47, 3) := by decide +kernel
theorem dX11_isTwice_53 : decode cX11_isTwice 53 = .ok (.iload_n 3, 1) := by decide +kernel
theorem dX11_isTwice_54 : decode cX11_isTwice 54 = .ok (.ifCond .eq 35, 3) := by decide +kernel
theorem dX11_isTwice_57 : decode cX11_isTwice 57 = .ok (.aload_n 0, 1) := by decide +kernel
theorem dX11_isTwice_58 : decode cX11_isTwice 58 = .ok (.getfield 34, 3) := by decide +kernel
theorem dX11_isTwice_61 : decode cX11_isTwice 61 = .ok (.iconst 3, 1) := by decide +kernel
theorem dX11_isTwice_62 : decode cX11_isTwice 62 = .ok (.iload_n 2, 1) := by decide +kernel
theorem dX11_isTwice_63 : decode cX11_isTwice 63 = .ok (.imul, 1) := by decide +kernel
theorem dX11_isTwice_64 : decode cX11_isTwice 64 = .ok (.iload 4, 2) := by decide +kernel
theorem dX11_isTwice_66 : decode cX11_isTwice 66 = .ok (.iadd, 1) := by decide +kernel
theorem dX11_isTwice_67 : decode cX11_isTwice 67 = .ok (.iaload, 1) := by decide +kernel
theorem dX11_isTwice_68 : decode cX11_isTwice 68 = .ok (.aload_n 0, 1) := by decide +kernel
theorem dX11_isTwice_69 : decode cX11_isTwice 69 = .ok (.getfield 34, 3) := by decide +kernel
theorem dX11_isTwice_72 : decode cX11_isTwice 72 = .ok (.iconst 3, 1) := by decide +kernel
theorem dX11_isTwice_73 : decode cX11_isTwice 73 = .ok (.aload_n 0, 1) := by decide +kernel
theorem dX11_isTwice_74 : decode cX11_isTwice 74 = .ok (.getfield 79, 3) := by decide +kernel
theorem dX11_isTwice_77 : decode cX11_isTwice 77 = .ok (.imul, 1) := by decide +kernel
theorem dX11_isTwice_78 : decode cX11_isTwice 78 = .ok (.iload 4, 2) := by decide +kernel
theorem dX11_isTwice_80 : decode cX11_isTwice 80 = .ok (.iadd, 1) := by decide +kernel
theorem dX11_isTwice_81 : decode cX11_isTwice 81 = .ok (.iaload, 1) := by decide +kernel
theorem dX11_isTwice_82 : decode cX11_isTwice 82 = .ok (.if_icmp .ne 7, 3) := by decide +kernel
theorem dX11_isTwice_85 : decode cX11_isTwice 85 = .ok (.iconst 1, 1) := by decide +kernel
theorem dX11_isTwice_86 : decode cX11_isTwice 86 = .ok (.goto 4, 3) := by decide +kernel
theorem dX11_isTwice_89 : decode cX11_isTwice 89 = .ok (.iconst 0, 1) := by decide +kernel
theorem dX11_isTwice_90 : decode cX11_isTwice 90 = .ok (.istore_n 3, 1) := by decide +kernel
theorem dX11_isTwice_91 : decode cX11_isTwice 91 = .ok (.iinc 4 1, 3) := by decide +kernel
theorem dX11_isTwice_94 : decode cX11_isTwice 94 = .ok (.goto (-55), 3) := by decide +kernel
theorem dX11_isTwice_97 : decode cX11_isTwice 97 = .ok (.iload_n 1, 1) := by decide +kernel
theorem dX11_isTwice_98 : decode cX11_isTwice 98 = .ok (.ifCond .ne 7, 3) := by decide +kernel
theorem dX11_isTwice_101 : decode cX11_isTwice 101 = .ok (.iload_n 3, 1) := by decide +kernel
theorem dX11_isTwice_102 : decode cX11_isTwice 102 = .ok (.ifCond .eq 7, 3) := by decide +kernel
theorem dX11_isTwice_105 : decode cX11_isTwice 105 = .ok (.iconst 1, 1) := by decide +kernel
theorem dX11_isTwice_106 : decode cX11_isTwice 106 = .ok (.goto 4, 3) := by decide +kernel
theorem dX11_isTwice_109 : decode cX11_isTwice 109 = .ok (.iconst 0, 1) := by decide +kernel
theorem dX11_isTwice_110 : decode cX11_isTwice 110 = .ok (.istore_n 1, 1) := by decide +kernel
theorem dX11_isTwice_111 : decode cX11_isTwice 111 = .ok (.iinc 2 1, 3) := by decide +kernel
theorem dX11_isTwice_114 : decode cX11_isTwice 114 = .ok (.goto (-110), 3) := by decide +kernel
theorem dX11_isTwice_117 : decode cX11_isTwice 117 = .ok (.iload_n 1, 1) := by decide +kernel
theorem dX11_isTwice_118 : decode cX11_isTwice 118 = .ok (.ireturn, 1) := by decide +kernel
theorem dX11_takesLeft_0 : decode cX11_takesLeft 0 = .ok (.aload_n 0, 1) := by decide +kernel
theorem dX11_takesLeft_1 : decode cX11_takesLeft 1 = .ok (.getfield 79, 3) := by decide +kernel
theorem dX11_takesLeft_4 : decode cX11_takesLeft 4 = .ok (.istore_n 2, 1) := by decide +kernel
theorem dX11_takesLeft_5 : decode cX11_takesLeft 5 = .ok (.aload_n 0, 1) := by decide +kernel
theorem dX11_takesLeft_6 : decode cX11_takesLeft 6 = .ok (.getfield 31, 3) := by decide +kernel
theorem dX11_takesLeft_9 : decode cX11_takesLeft 9 = .ok (.iload_n 2, 1) := by decide +kernel
theorem dX11_takesLeft_10 : decode cX11_takesLeft 10 = .ok (.iaload, 1) := by decide +kernel
theorem dX11_takesLeft_11 : decode cX11_takesLeft 11 = .ok (.ifCond .ne 17, 3) := by decide +kernel
theorem dX11_takesLeft_14 : decode cX11_takesLeft 14 = .ok (.aload_n 0, 1) := by decide +kernel
theorem dX11_takesLeft_15 : decode cX11_takesLeft 15 = .ok (.getfield 28, 3) := by decide +kernel
theorem dX11_takesLeft_18 : decode cX11_takesLeft 18 = .ok (.iload_n 2, 1) := by decide +kernel
theorem dX11_takesLeft_19 : decode cX11_takesLeft 19 = .ok (.iaload, 1) := by decide +kernel
theorem dX11_takesLeft_20 : decode cX11_takesLeft 20 = .ok (.iconst 3, 1) := by decide +kernel
theorem dX11_takesLeft_21 : decode cX11_takesLeft 21 = .ok (.if_icmp .ge 7, 3) := by decide +kernel
theorem dX11_takesLeft_24 : decode cX11_takesLeft 24 = .ok (.iconst 1, 1) := by decide +kernel
theorem dX11_takesLeft_25 : decode cX11_takesLeft 25 = .ok (.goto 4, 3) := by decide +kernel
theorem dX11_takesLeft_28 : decode cX11_takesLeft 28 = .ok (.iconst 0, 1) := by decide +kernel
theorem dX11_takesLeft_29 : decode cX11_takesLeft 29 = .ok (.istore_n 3, 1) := by decide +kernel
theorem dX11_takesLeft_30 : decode cX11_takesLeft 30 = .ok (.iload_n 3, 1) := by decide +kernel
theorem dX11_takesLeft_31 : decode cX11_takesLeft 31 = .ok (.ifCond .eq 29, 3) := by decide +kernel
theorem dX11_takesLeft_34 : decode cX11_takesLeft 34 = .ok (.aload_n 0, 1) := by decide +kernel
theorem dX11_takesLeft_35 : decode cX11_takesLeft 35 = .ok (.getfield 34, 3) := by decide +kernel
theorem dX11_takesLeft_38 : decode cX11_takesLeft 38 = .ok (.iconst 3, 1) := by decide +kernel
theorem dX11_takesLeft_39 : decode cX11_takesLeft 39 = .ok (.iload_n 2, 1) := by decide +kernel
theorem dX11_takesLeft_40 : decode cX11_takesLeft 40 = .ok (.imul, 1) := by decide +kernel
theorem dX11_takesLeft_41 : decode cX11_takesLeft 41 = .ok (.aload_n 0, 1) := by decide +kernel
theorem dX11_takesLeft_42 : decode cX11_takesLeft 42 = .ok (.getfield 28, 3) := by decide +kernel
theorem dX11_takesLeft_45 : decode cX11_takesLeft 45 = .ok (.iload_n 2, 1) := by decide +kernel
theorem dX11_takesLeft_46 : decode cX11_takesLeft 46 = .ok (.iaload, 1) := by decide +kernel
theorem dX11_takesLeft_47 : decode cX11_takesLeft 47 = .ok (.iadd, 1) := by decide +kernel
theorem dX11_takesLeft_48 : decode cX11_takesLeft 48 = .ok (.iload_n 1, 1) := by decide +kernel
theorem dX11_takesLeft_49 : decode cX11_takesLeft 49 = .ok (.iastore, 1) := by decide +kernel
theorem dX11_takesLeft_50 : decode cX11_takesLeft 50 = .ok (.aload_n 0, 1) := by decide +kernel
theorem dX11_takesLeft_51 : decode cX11_takesLeft 51 = .ok (.getfield 28, 3) := by decide +kernel
theorem dX11_takesLeft_54 : decode cX11_takesLeft 54 = .ok (.iload_n 2, 1) := by decide +kernel
theorem dX11_takesLeft_55 : decode cX11_takesLeft 55 = .ok (.dup2, 1) := by decide +kernel
theorem dX11_takesLeft_56 : decode cX11_takesLeft 56 = .ok (.iaload, 1) := by decide +kernel
theorem dX11_takesLeft_57 : decode cX11_takesLeft 57 = .ok (.iconst 1, 1) := by decide +kernel
theorem dX11_takesLeft_58 : decode cX11_takesLeft 58 = .ok (.iadd, 1) := by decide +kernel
theorem dX11_takesLeft_59 : decode cX11_takesLeft 59 = .ok (.iastore, 1) := by decide +kernel
theorem dX11_takesLeft_60 : decode cX11_takesLeft 60 = .ok (.iload_n 3, 1) := by decide +kernel
theorem dX11_takesLeft_61 : decode cX11_takesLeft 61 = .ok (.ireturn, 1) := by decide +kernel
theorem dX11_takesRight_0 : decode cX11_takesRight 0 = .ok (.aload_n 0, 1) := by decide +kernel
theorem dX11_takesRight_1 : decode cX11_takesRight 1 = .ok (.getfield 79, 3) := by decide +kernel
theorem dX11_takesRight_4 : decode cX11_takesRight 4 = .ok (.istore_n 2, 1) := by decide +kernel
theorem dX11_takesRight_5 : decode cX11_takesRight 5 = .ok (.aload_n 0, 1) := by decide +kernel
theorem dX11_takesRight_6 : decode cX11_takesRight 6 = .ok (.getfield 28, 3) := by decide +kernel
theorem dX11_takesRight_9 : decode cX11_takesRight 9 = .ok (.iload_n 2, 1) := by decide +kernel
theorem dX11_takesRight_10 : decode cX11_takesRight 10 = .ok (.iaload, 1) := by decide +kernel
theorem dX11_takesRight_11 : decode cX11_takesRight 11 = .ok (.ifCond .le 33, 3) := by decide +kernel
theorem dX11_takesRight_14 : decode cX11_takesRight 14 = .ok (.aload_n 0, 1) := by decide +kernel
theorem dX11_takesRight_15 : decode cX11_takesRight 15 = .ok (.getfield 31, 3) := by decide +kernel
theorem dX11_takesRight_18 : decode cX11_takesRight 18 = .ok (.iload_n 2, 1) := by decide +kernel
theorem dX11_takesRight_19 : decode cX11_takesRight 19 = .ok (.iaload, 1) := by decide +kernel
theorem dX11_takesRight_20 : decode cX11_takesRight 20 = .ok (.iconst 3, 1) := by decide +kernel
theorem dX11_takesRight_21 : decode cX11_takesRight 21 = .ok (.if_icmp .ge 23, 3) := by decide +kernel
theorem dX11_takesRight_24 : decode cX11_takesRight 24 = .ok (.aload_n 0, 1) := by decide +kernel
theorem dX11_takesRight_25 : decode cX11_takesRight 25 = .ok (.getfield 31, 3) := by decide +kernel
theorem dX11_takesRight_28 : decode cX11_takesRight 28 = .ok (.iload_n 2, 1) := by decide +kernel
theorem dX11_takesRight_29 : decode cX11_takesRight 29 = .ok (.iaload, 1) := by decide +kernel
theorem dX11_takesRight_30 : decode cX11_takesRight 30 = .ok (.ifCond .gt 10, 3) := by decide +kernel
theorem dX11_takesRight_33 : decode cX11_takesRight 33 = .ok (.aload_n 0, 1) := by decide +kernel
theorem dX11_takesRight_34 : decode cX11_takesRight 34 = .ok (.invokevirtual 82, 3) := by decide +kernel
theorem dX11_takesRight_37 : decode cX11_takesRight 37 = .ok (.ifCond .ne 7, 3) := by decide +kernel
theorem dX11_takesRight_40 : decode cX11_takesRight 40 = .ok (.iconst 1, 1) := by decide +kernel
theorem dX11_takesRight_41 : decode cX11_takesRight 41 = .ok (.goto 4, 3) := by decide +kernel
theorem dX11_takesRight_44 : decode cX11_takesRight 44 = .ok (.iconst 0, 1) := by decide +kernel
theorem dX11_takesRight_45 : decode cX11_takesRight 45 = .ok (.istore_n 3, 1) := by decide +kernel
theorem dX11_takesRight_46 : decode cX11_takesRight 46 = .ok (.iload_n 3, 1) := by decide +kernel
theorem dX11_takesRight_47 : decode cX11_takesRight 47 = .ok (.ifCond .eq 29, 3) := by decide +kernel
theorem dX11_takesRight_50 : decode cX11_takesRight 50 = .ok (.aload_n 0, 1) := by decide +kernel
theorem dX11_takesRight_51 : decode cX11_takesRight 51 = .ok (.getfield 37, 3) := by decide +kernel
theorem dX11_takesRight_54 : decode cX11_takesRight 54 = .ok (.iconst 3, 1) := by decide +kernel
theorem dX11_takesRight_55 : decode cX11_takesRight 55 = .ok (.iload_n 2, 1) := by decide +kernel
theorem dX11_takesRight_56 : decode cX11_takesRight 56 = .ok (.imul, 1) := by decide +kernel
theorem dX11_takesRight_57 : decode cX11_takesRight 57 = .ok (.aload_n 0, 1) := by decide +kernel
theorem dX11_takesRight_58 : decode cX11_takesRight 58 = .ok (.getfield 31, 3) := by decide +kernel
theorem dX11_takesRight_61 : decode cX11_takesRight 61 = .ok (.iload_n 2, 1) := by decide +kernel
theorem dX11_takesRight_62 : decode cX11_takesRight 62 = .ok (.iaload, 1) := by decide +kernel
theorem dX11_takesRight_63 : decode cX11_takesRight 63 = .ok (.iadd, 1) := by decide +kernel
theorem dX11_takesRight_64 : decode cX11_takesRight 64 = .ok (.iload_n 1, 1) := by decide +kernel
theorem dX11_takesRight_65 : decode cX11_takesRight 65 = .ok (.iastore, 1) := by decide +kernel
theorem dX11_takesRight_66 : decode cX11_takesRight 66 = .ok (.aload_n 0, 1) := by decide +kernel
theorem dX11_takesRight_67 : decode cX11_takesRight 67 = .ok (.getfield 31, 3) := by decide +kernel
theorem dX11_takesRight_70 : decode cX11_takesRight 70 = .ok (.iload_n 2, 1) := by decide +kernel
theorem dX11_takesRight_71 : decode cX11_takesRight 71 = .ok (.dup2, 1) := by decide +kernel
theorem dX11_takesRight_72 : decode cX11_takesRight 72 = .ok (.iaload, 1) := by decide +kernel
theorem dX11_takesRight_73 : decode cX11_takesRight 73 = .ok (.iconst 1, 1) := by decide +kernel
theorem dX11_takesRight_74 : decode cX11_takesRight 74 = .ok (.iadd, 1) := by decide +kernel
theorem dX11_takesRight_75 : decode cX11_takesRight 75 = .ok (.iastore, 1) := by decide +kernel
theorem dX11_takesRight_76 : decode cX11_takesRight 76 = .ok (.iload_n 3, 1) := by decide +kernel
theorem dX11_takesRight_77 : decode cX11_takesRight 77 = .ok (.ireturn, 1) := by decide +kernel
theorem dX11_takesComma_0 : decode cX11_takesComma 0 = .ok (.aload_n 0, 1) := by decide +kernel
theorem dX11_takesComma_1 : decode cX11_takesComma 1 = .ok (.getfield 31, 3) := by decide +kernel
theorem dX11_takesComma_4 : decode cX11_takesComma 4 = .ok (.aload_n 0, 1) := by decide +kernel
theorem dX11_takesComma_5 : decode cX11_takesComma 5 = .ok (.getfield 79, 3) := by decide +kernel
theorem dX11_takesComma_8 : decode cX11_takesComma 8 = .ok (.iaload, 1) := by decide +kernel
theorem dX11_takesComma_9 : decode cX11_takesComma 9 = .ok (.ifCond .le 18, 3) := by decide +kernel
theorem dX11_takesComma_12 : decode cX11_takesComma 12 = .ok (.aload_n 0, 1) := by decide +kernel
theorem dX11_takesComma_13 : decode cX11_takesComma 13 = .ok (.getfield 79, 3) := by decide +kernel
theorem dX11_takesComma_16 : decode cX11_takesComma 16 = .ok (.iconst 1, 1) := by decide +kernel
theorem dX11_takesComma_17 : decode cX11_takesComma 17 = .ok (.iadd, 1) := by decide +kernel
theorem dX11_takesComma_18 : decode cX11_takesComma 18 = .ok (.bipush 8, 2) := by decide +kernel
theorem dX11_takesComma_20 : decode cX11_takesComma 20 = .ok (.if_icmp .ge 7, 3) := by decide +kernel
theorem dX11_takesComma_23 : decode cX11_takesComma 23 = .ok (.iconst 1, 1) := by decide +kernel
theorem dX11_takesComma_24 : decode cX11_takesComma 24 = .ok (.goto 4, 3) := by decide +kernel
theorem dX11_takesComma_27 : decode cX11_takesComma 27 = .ok (.iconst 0, 1) := by decide +kernel
theorem dX11_takesComma_28 : decode cX11_takesComma 28 = .ok (.istore_n 1, 1) := by decide +kernel
theorem dX11_takesComma_29 : decode cX11_takesComma 29 = .ok (.iload_n 1, 1) := by decide +kernel
theorem dX11_takesComma_30 : decode cX11_takesComma 30 = .ok (.ifCond .eq 33, 3) := by decide +kernel
theorem dX11_takesComma_33 : decode cX11_takesComma 33 = .ok (.aload_n 0, 1) := by decide +kernel
theorem dX11_takesComma_34 : decode cX11_takesComma 34 = .ok (.dup, 1) := by decide +kernel
theorem dX11_takesComma_35 : decode cX11_takesComma 35 = .ok (.getfield 79, 3) := by decide +kernel
theorem dX11_takesComma_38 : decode cX11_takesComma 38 = .ok (.iconst 1, 1) := by decide +kernel
theorem dX11_takesComma_39 : decode cX11_takesComma 39 = .ok (.iadd, 1) := by decide +kernel
theorem dX11_takesComma_40 : decode cX11_takesComma 40 = .ok (.putfield 79, 3) := by decide +kernel
theorem dX11_takesComma_43 : decode cX11_takesComma 43 = .ok (.aload_n 0, 1) := by decide +kernel
theorem dX11_takesComma_44 : decode cX11_takesComma 44 = .ok (.getfield 28, 3) := by decide +kernel
theorem dX11_takesComma_47 : decode cX11_takesComma 47 = .ok (.aload_n 0, 1) := by decide +kernel
theorem dX11_takesComma_48 : decode cX11_takesComma 48 = .ok (.getfield 79, 3) := by decide +kernel
theorem dX11_takesComma_51 : decode cX11_takesComma 51 = .ok (.iconst 0, 1) := by decide +kernel
theorem dX11_takesComma_52 : decode cX11_takesComma 52 = .ok (.iastore, 1) := by decide +kernel
theorem dX11_takesComma_53 : decode cX11_takesComma 53 = .ok (.aload_n 0, 1) := by decide +kernel
theorem dX11_takesComma_54 : decode cX11_takesComma 54 = .ok (.getfield 31, 3) := by decide +kernel
theorem dX11_takesComma_57 : decode cX11_takesComma 57 = .ok (.aload_n 0, 1) := by decide +kernel
theorem dX11_takesComma_58 : decode cX11_takesComma 58 = .ok (.getfield 79, 3) := by decide +kernel
theorem dX11_takesComma_61 : decode cX11_takesComma 61 = .ok (.iconst 0, 1) := by decide +kernel
theorem dX11_takesComma_62 : decode cX11_takesComma 62 = .ok (.iastore, 1) := by decide +kernel
theorem dX11_takesComma_63 : decode cX11_takesComma 63 = .ok (.iload_n 1, 1) := by decide +kernel
theorem dX11_takesComma_64 : decode cX11_takesComma 64 = .ok (.ireturn, 1) := by decide +kernel
theorem dX11_takes_0 : decode cX11_takes 0 = .ok (.iload_n 1, 1) := by decide +kernel
theorem dX11_takes_1 : decode cX11_takes 1 = .ok (.bipush 44, 2) := by decide +kernel
theorem dX11_takes_3 : decode cX11_takes 3 = .ok (.if_icmp .ne 8, 3) := by decide +kernel
theorem dX11_takes_6 : decode cX11_takes 6 = .ok (.aload_n 0, 1) := by decide +kernel
theorem dX11_takes_7 : decode cX11_takes 7 = .ok (.invokevirtual 86, 3) := by decide +kernel
theorem dX11_takes_10 : decode cX11_takes 10 = .ok (.ireturn, 1) := by decide +kernel
theorem dX11_takes_11 : decode cX11_takes 11 = .ok (.iload_n 1, 1) := by decide +kernel
theorem dX11_takes_12 : decode cX11_takes 12 = .ok (.invokestatic 89, 3) := by decide +kernel
theorem dX11_takes_15 : decode cX11_takes 15 = .ok (.ifCond .eq 11, 3) := by decide +kernel
theorem dX11_takes_18 : decode cX11_takes 18 = .ok (.aload_n 0, 1) := by decide +kernel
theorem dX11_takes_19 : decode cX11_takes 19 = .ok (.iload_n 1, 1) := by decide +kernel
theorem dX11_takes_20 : decode cX11_takes 20 = .ok (.invokevirtual 93, 3) := by decide +kernel
theorem dX11_takes_23 : decode cX11_takes 23 = .ok (.goto 23, 3) := by decide +kernel
theorem dX11_takes_26 : decode cX11_takes 26 = .ok (.iload_n 1, 1) := by decide +kernel
theorem dX11_takes_27 : decode cX11_takes 27 = .ok (.invokestatic 96, 3) := by decide +kernel
theorem dX11_takes_30 : decode cX11_takes 30 = .ok (.ifCond .eq 15, 3) := by decide +kernel
theorem dX11_takes_33 : decode cX11_takes 33 = .ok (.aload_n 0, 1) := by decide +kernel
theorem dX11_takes_34 : decode cX11_takes 34 = .ok (.iload_n 1, 1) := by decide +kernel
theorem dX11_takes_35 : decode cX11_takes 35 = .ok (.invokevirtual 99, 3) := by decide +kernel
theorem dX11_takes_38 : decode cX11_takes 38 = .ok (.ifCond .eq 7, 3) := by decide +kernel
theorem dX11_takes_41 : decode cX11_takes 41 = .ok (.iconst 1, 1) := by decide +kernel
theorem dX11_takes_42 : decode cX11_takes 42 = .ok (.goto 4, 3) := by decide +kernel
theorem dX11_takes_45 : decode cX11_takes 45 = .ok (.iconst 0, 1) := by decide +kernel
theorem dX11_takes_46 : decode cX11_takes 46 = .ok (.ireturn, 1) := by decide +kernel
theorem dX11_read_0 : decode cX11_read 0 = .ok (.aload_n 0, 1) := by decide +kernel
theorem dX11_read_1 : decode cX11_read 1 = .ok (.iconst 0, 1) := by decide +kernel
theorem dX11_read_2 : decode cX11_read 2 = .ok (.putfield 79, 3) := by decide +kernel
theorem dX11_read_5 : decode cX11_read 5 = .ok (.aload_n 0, 1) := by decide +kernel
theorem dX11_read_6 : decode cX11_read 6 = .ok (.getfield 28, 3) := by decide +kernel
theorem dX11_read_9 : decode cX11_read 9 = .ok (.iconst 0, 1) := by decide +kernel
theorem dX11_read_10 : decode cX11_read 10 = .ok (.iconst 0, 1) := by decide +kernel
theorem dX11_read_11 : decode cX11_read 11 = .ok (.iastore, 1) := by decide +kernel
theorem dX11_read_12 : decode cX11_read 12 = .ok (.aload_n 0, 1) := by decide +kernel
theorem dX11_read_13 : decode cX11_read 13 = .ok (.getfield 31, 3) := by decide +kernel
theorem dX11_read_16 : decode cX11_read 16 = .ok (.iconst 0, 1) := by decide +kernel
theorem dX11_read_17 : decode cX11_read 17 = .ok (.iconst 0, 1) := by decide +kernel
theorem dX11_read_18 : decode cX11_read 18 = .ok (.iastore, 1) := by decide +kernel
theorem dX11_read_19 : decode cX11_read 19 = .ok (.iconst 0, 1) := by decide +kernel
theorem dX11_read_20 : decode cX11_read 20 = .ok (.istore_n 1, 1) := by decide +kernel
theorem dX11_read_21 : decode cX11_read 21 = .ok (.iload_n 1, 1) := by decide +kernel
theorem dX11_read_22 : decode cX11_read 22 = .ok (.aload_n 0, 1) := by decide +kernel
theorem dX11_read_23 : decode cX11_read 23 = .ok (.getfield 75, 3) := by decide +kernel
theorem dX11_read_26 : decode cX11_read 26 = .ok (.if_icmp .ge 22, 3) := by decide +kernel
theorem dX11_read_29 : decode cX11_read 29 = .ok (.aload_n 0, 1) := by decide +kernel
theorem dX11_read_30 : decode cX11_read 30 = .ok (.aload_n 0, 1) := by decide +kernel
theorem dX11_read_31 : decode cX11_read 31 = .ok (.getfield 25, 3) := by decide +kernel
theorem dX11_read_34 : decode cX11_read 34 = .ok (.iload_n 1, 1) := by decide +kernel
theorem dX11_read_35 : decode cX11_read 35 = .ok (.iaload, 1) := by decide +kernel
theorem dX11_read_36 : decode cX11_read 36 = .ok (.invokevirtual 102, 3) := by decide +kernel
theorem dX11_read_39 : decode cX11_read 39 = .ok (.ifCond .eq 9, 3) := by decide +kernel
theorem dX11_read_42 : decode cX11_read 42 = .ok (.iinc 1 1, 3) := by decide +kernel
theorem dX11_read_45 : decode cX11_read 45 = .ok (.goto (-24), 3) := by decide +kernel
theorem dX11_read_48 : decode cX11_read 48 = .ok (.iload_n 1, 1) := by decide +kernel
theorem dX11_read_49 : decode cX11_read 49 = .ok (.ireturn, 1) := by decide +kernel
theorem dX11_fault_0 : decode cX11_fault 0 = .ok (.aload_n 0, 1) := by decide +kernel
theorem dX11_fault_1 : decode cX11_fault 1 = .ok (.invokevirtual 105, 3) := by decide +kernel
theorem dX11_fault_4 : decode cX11_fault 4 = .ok (.ireturn, 1) := by decide +kernel
theorem dX11_table_0 : decode cX11_table 0 = .ok (.aload_n 0, 1) := by decide +kernel
theorem dX11_table_1 : decode cX11_table 1 = .ok (.invokevirtual 105, 3) := by decide +kernel
theorem dX11_table_4 : decode cX11_table 4 = .ok (.aload_n 0, 1) := by decide +kernel
theorem dX11_table_5 : decode cX11_table 5 = .ok (.getfield 75, 3) := by decide +kernel
theorem dX11_table_8 : decode cX11_table 8 = .ok (.if_icmp .lt 15, 3) := by decide +kernel
theorem dX11_table_11 : decode cX11_table 11 = .ok (.aload_n 0, 1) := by decide +kernel
theorem dX11_table_12 : decode cX11_table 12 = .ok (.getfield 31, 3) := by decide +kernel
theorem dX11_table_15 : decode cX11_table 15 = .ok (.aload_n 0, 1) := by decide +kernel
theorem dX11_table_16 : decode cX11_table 16 = .ok (.getfield 79, 3) := by decide +kernel
theorem dX11_table_19 : decode cX11_table 19 = .ok (.iaload, 1) := by decide +kernel
theorem dX11_table_20 : decode cX11_table 20 = .ok (.ifCond .ne 6, 3) := by decide +kernel
theorem dX11_table_23 : decode cX11_table 23 = .ok (.bipush (-103), 2) := by decide +kernel
theorem dX11_table_25 : decode cX11_table 25 = .ok (.ireturn, 1) := by decide +kernel
theorem dX11_table_26 : decode cX11_table 26 = .ok (.aload_n 0, 1) := by decide +kernel
theorem dX11_table_27 : decode cX11_table 27 = .ok (.aload_n 0, 1) := by decide +kernel
theorem dX11_table_28 : decode cX11_table 28 = .ok (.getfield 79, 3) := by decide +kernel
theorem dX11_table_31 : decode cX11_table 31 = .ok (.iconst 1, 1) := by decide +kernel
theorem dX11_table_32 : decode cX11_table 32 = .ok (.iadd, 1) := by decide +kernel
theorem dX11_table_33 : decode cX11_table 33 = .ok (.putfield 109, 3) := by decide +kernel
theorem dX11_table_36 : decode cX11_table 36 = .ok (.iconst 0, 1) := by decide +kernel
theorem dX11_table_37 : decode cX11_table 37 = .ok (.istore_n 1, 1) := by decide +kernel
theorem dX11_table_38 : decode cX11_table 38 = .ok (.iload_n 1, 1) := by decide +kernel
theorem dX11_table_39 : decode cX11_table 39 = .ok (.aload_n 0, 1) := by decide +kernel
theorem dX11_table_40 : decode cX11_table 40 = .ok (.getfield 109, 3) := by decide +kernel
theorem dX11_table_43 : decode cX11_table 43 = .ok (.if_icmp .ge 86, 3) := by decide +kernel
theorem dX11_table_46 : decode cX11_table 46 = .ok (.aload_n 0, 1) := by decide +kernel
theorem dX11_table_47 : decode cX11_table 47 = .ok (.getfield 7, 3) := by decide +kernel
theorem dX11_table_50 : decode cX11_table 50 = .ok (.iload_n 1, 1) := by decide +kernel
theorem dX11_table_51 : decode cX11_table 51 = .ok (.aload_n 0, 1) := by decide +kernel
theorem dX11_table_52 : decode cX11_table 52 = .ok (.getfield 28, 3) := by decide +kernel
theorem dX11_table_55 : decode cX11_table 55 = .ok (.iload_n 1, 1) := by decide +kernel
theorem dX11_table_56 : decode cX11_table 56 = .ok (.iaload, 1) := by decide +kernel
theorem dX11_table_57 : decode cX11_table 57 = .ok (.iastore, 1) := by decide +kernel
theorem dX11_table_58 : decode cX11_table 58 = .ok (.aload_n 0, 1) := by decide +kernel
theorem dX11_table_59 : decode cX11_table 59 = .ok (.getfield 13, 3) := by decide +kernel
theorem dX11_table_62 : decode cX11_table 62 = .ok (.iload_n 1, 1) := by decide +kernel
theorem dX11_table_63 : decode cX11_table 63 = .ok (.aload_n 0, 1) := by decide +kernel
theorem dX11_table_64 : decode cX11_table 64 = .ok (.getfield 31, 3) := by decide +kernel
theorem dX11_table_67 : decode cX11_table 67 = .ok (.iload_n 1, 1) := by decide +kernel
theorem dX11_table_68 : decode cX11_table 68 = .ok (.iaload, 1) := by decide +kernel
theorem dX11_table_69 : decode cX11_table 69 = .ok (.iastore, 1) := by decide +kernel
theorem dX11_table_70 : decode cX11_table 70 = .ok (.iconst 0, 1) := by decide +kernel
theorem dX11_table_71 : decode cX11_table 71 = .ok (.istore_n 2, 1) := by decide +kernel
theorem dX11_table_72 : decode cX11_table 72 = .ok (.iload_n 2, 1) := by decide +kernel
theorem dX11_table_73 : decode cX11_table 73 = .ok (.iconst 3, 1) := by decide +kernel
theorem dX11_table_74 : decode cX11_table 74 = .ok (.if_icmp .ge 49, 3) := by decide +kernel
theorem dX11_table_77 : decode cX11_table 77 = .ok (.aload_n 0, 1) := by decide +kernel
theorem dX11_table_78 : decode cX11_table 78 = .ok (.getfield 16, 3) := by decide +kernel
theorem dX11_table_81 : decode cX11_table 81 = .ok (.iconst 3, 1) := by decide +kernel
theorem dX11_table_82 : decode cX11_table 82 = .ok (.iload_n 1, 1) := by decide +kernel
theorem dX11_table_83 : decode cX11_table 83 = .ok (.imul, 1) := by decide +kernel
theorem dX11_table_84 : decode cX11_table 84 = .ok (.iload_n 2, 1) := by decide +kernel
theorem dX11_table_85 : decode cX11_table 85 = .ok (.iadd, 1) := by decide +kernel
theorem dX11_table_86 : decode cX11_table 86 = .ok (.aload_n 0, 1) := by decide +kernel
theorem dX11_table_87 : decode cX11_table 87 = .ok (.getfield 34, 3) := by decide +kernel
theorem dX11_table_90 : decode cX11_table 90 = .ok (.iconst 3, 1) := by decide +kernel
theorem dX11_table_91 : decode cX11_table 91 = .ok (.iload_n 1, 1) := by decide +kernel
theorem dX11_table_92 : decode cX11_table 92 = .ok (.imul, 1) := by decide +kernel
theorem dX11_table_93 : decode cX11_table 93 = .ok (.iload_n 2, 1) := by decide +kernel
theorem dX11_table_94 : decode cX11_table 94 = .ok (.iadd, 1) := by decide +kernel
theorem dX11_table_95 : decode cX11_table 95 = .ok (.iaload, 1) := by decide +kernel
theorem dX11_table_96 : decode cX11_table 96 = .ok (.iastore, 1) := by decide +kernel
theorem dX11_table_97 : decode cX11_table 97 = .ok (.aload_n 0, 1) := by decide +kernel
theorem dX11_table_98 : decode cX11_table 98 = .ok (.getfield 19, 3) := by decide +kernel
theorem dX11_table_101 : decode cX11_table 101 = .ok (.iconst 3, 1) := by decide +kernel
theorem dX11_table_102 : decode cX11_table 102 = .ok (.iload_n 1, 1) := by decide +kernel
theorem dX11_table_103 : decode cX11_table 103 = .ok (.imul, 1) := by decide +kernel
theorem dX11_table_104 : decode cX11_table 104 = .ok (.iload_n 2, 1) := by decide +kernel
theorem dX11_table_105 : decode cX11_table 105 = .ok (.iadd, 1) := by decide +kernel
theorem dX11_table_106 : decode cX11_table 106 = .ok (.aload_n 0, 1) := by decide +kernel
theorem dX11_table_107 : decode cX11_table 107 = .ok (.getfield 37, 3) := by decide +kernel
theorem dX11_table_110 : decode cX11_table 110 = .ok (.iconst 3, 1) := by decide +kernel
theorem dX11_table_111 : decode cX11_table 111 = .ok (.iload_n 1, 1) := by decide +kernel
theorem dX11_table_112 : decode cX11_table 112 = .ok (.imul, 1) := by decide +kernel
theorem dX11_table_113 : decode cX11_table 113 = .ok (.iload_n 2, 1) := by decide +kernel
theorem dX11_table_114 : decode cX11_table 114 = .ok (.iadd, 1) := by decide +kernel
theorem dX11_table_115 : decode cX11_table 115 = .ok (.iaload, 1) := by decide +kernel
theorem dX11_table_116 : decode cX11_table 116 = .ok (.iastore, 1) := by decide +kernel
theorem dX11_table_117 : decode cX11_table 117 = .ok (.iinc 2 1, 3) := by decide +kernel
theorem dX11_table_120 : decode cX11_table 120 = .ok (.goto (-48), 3) := by decide +kernel
theorem dX11_table_123 : decode cX11_table 123 = .ok (.iinc 1 1, 3) := by decide +kernel
theorem dX11_table_126 : decode cX11_table 126 = .ok (.goto (-88), 3) := by decide +kernel
theorem dX11_table_129 : decode cX11_table 129 = .ok (.aload_n 0, 1) := by decide +kernel
theorem dX11_table_130 : decode cX11_table 130 = .ok (.iconst 0, 1) := by decide +kernel
theorem dX11_table_131 : decode cX11_table 131 = .ok (.putfield 112, 3) := by decide +kernel
theorem dX11_table_134 : decode cX11_table 134 = .ok (.aload_n 0, 1) := by decide +kernel
theorem dX11_table_135 : decode cX11_table 135 = .ok (.iconst 0, 1) := by decide +kernel
theorem dX11_table_136 : decode cX11_table 136 = .ok (.putfield 115, 3) := by decide +kernel
theorem dX11_table_139 : decode cX11_table 139 = .ok (.aload_n 0, 1) := by decide +kernel
theorem dX11_table_140 : decode cX11_table 140 = .ok (.iconst 0, 1) := by decide +kernel
theorem dX11_table_141 : decode cX11_table 141 = .ok (.putfield 118, 3) := by decide +kernel
theorem dX11_table_144 : decode cX11_table 144 = .ok (.aload_n 0, 1) := by decide +kernel
theorem dX11_table_145 : decode cX11_table 145 = .ok (.iconst 0, 1) := by decide +kernel
theorem dX11_table_146 : decode cX11_table 146 = .ok (.putfield 75, 3) := by decide +kernel
theorem dX11_table_149 : decode cX11_table 149 = .ok (.aload_n 0, 1) := by decide +kernel
theorem dX11_table_150 : decode cX11_table 150 = .ok (.dup, 1) := by decide +kernel
theorem dX11_table_151 : decode cX11_table 151 = .ok (.getfield 121, 3) := by decide +kernel
theorem dX11_table_154 : decode cX11_table 154 = .ok (.iconst 1, 1) := by decide +kernel
theorem dX11_table_155 : decode cX11_table 155 = .ok (.iadd, 1) := by decide +kernel
theorem dX11_table_156 : decode cX11_table 156 = .ok (.putfield 121, 3) := by decide +kernel
theorem dX11_table_159 : decode cX11_table 159 = .ok (.aload_n 0, 1) := by decide +kernel
theorem dX11_table_160 : decode cX11_table 160 = .ok (.getfield 109, 3) := by decide +kernel
theorem dX11_table_163 : decode cX11_table 163 = .ok (.ireturn, 1) := by decide +kernel
theorem dX11_signLength_0 : decode cX11_signLength 0 = .ok (.aload_n 0, 1) := by decide +kernel
theorem dX11_signLength_1 : decode cX11_signLength 1 = .ok (.getfield 13, 3) := by decide +kernel
theorem dX11_signLength_4 : decode cX11_signLength 4 = .ok (.iload_n 1, 1) := by decide +kernel
theorem dX11_signLength_5 : decode cX11_signLength 5 = .ok (.iaload, 1) := by decide +kernel
theorem dX11_signLength_6 : decode cX11_signLength 6 = .ok (.aload_n 0, 1) := by decide +kernel
theorem dX11_signLength_7 : decode cX11_signLength 7 = .ok (.getfield 115, 3) := by decide +kernel
theorem dX11_signLength_10 : decode cX11_signLength 10 = .ok (.iload_n 1, 1) := by decide +kernel
theorem dX11_signLength_11 : decode cX11_signLength 11 = .ok (.ishr, 1) := by decide +kernel
theorem dX11_signLength_12 : decode cX11_signLength 12 = .ok (.iconst 1, 1) := by decide +kernel
theorem dX11_signLength_13 : decode cX11_signLength 13 = .ok (.iand, 1) := by decide +kernel
theorem dX11_signLength_14 : decode cX11_signLength 14 = .ok (.iadd, 1) := by decide +kernel
theorem dX11_signLength_15 : decode cX11_signLength 15 = .ok (.ireturn, 1) := by decide +kernel
theorem dX11_signAt_0 : decode cX11_signAt 0 = .ok (.iload_n 2, 1) := by decide +kernel
theorem dX11_signAt_1 : decode cX11_signAt 1 = .ok (.aload_n 0, 1) := by decide +kernel
theorem dX11_signAt_2 : decode cX11_signAt 2 = .ok (.getfield 13, 3) := by decide +kernel
theorem dX11_signAt_5 : decode cX11_signAt 5 = .ok (.iload_n 1, 1) := by decide +kernel
theorem dX11_signAt_6 : decode cX11_signAt 6 = .ok (.iaload, 1) := by decide +kernel
theorem dX11_signAt_7 : decode cX11_signAt 7 = .ok (.if_icmp .ge 16, 3) := by decide +kernel
theorem dX11_signAt_10 : decode cX11_signAt 10 = .ok (.aload_n 0, 1) := by decide +kernel
theorem dX11_signAt_11 : decode cX11_signAt 11 = .ok (.getfield 19, 3) := by decide +kernel
theorem dX11_signAt_14 : decode cX11_signAt 14 = .ok (.iconst 3, 1) := by decide +kernel
theorem dX11_signAt_15 : decode cX11_signAt 15 = .ok (.iload_n 1, 1) := by decide +kernel
theorem dX11_signAt_16 : decode cX11_signAt 16 = .ok (.imul, 1) := by decide +kernel
theorem dX11_signAt_17 : decode cX11_signAt 17 = .ok (.iload_n 2, 1) := by decide +kernel
theorem dX11_signAt_18 : decode cX11_signAt 18 = .ok (.iadd, 1) := by decide +kernel
theorem dX11_signAt_19 : decode cX11_signAt 19 = .ok (.iaload, 1) := by decide +kernel
theorem dX11_signAt_20 : decode cX11_signAt 20 = .ok (.goto 5, 3) := by decide +kernel
theorem dX11_signAt_23 : decode cX11_signAt 23 = .ok (.bipush 39, 2) := by decide +kernel
theorem dX11_signAt_25 : decode cX11_signAt 25 = .ok (.ireturn, 1) := by decide +kernel
theorem dX11_longestLeft_0 : decode cX11_longestLeft 0 = .ok (.iconst (-1), 1) := by decide +kernel
theorem dX11_longestLeft_1 : decode cX11_longestLeft 1 = .ok (.istore_n 2, 1) := by decide +kernel
theorem dX11_longestLeft_2 : decode cX11_longestLeft 2 = .ok (.iconst 0, 1) := by decide +kernel
theorem dX11_longestLeft_3 : decode cX11_longestLeft 3 = .ok (.istore_n 3, 1) := by decide +kernel
theorem dX11_longestLeft_4 : decode cX11_longestLeft 4 = .ok (.iload_n 3, 1) := by decide +kernel
theorem dX11_longestLeft_5 : decode cX11_longestLeft 5 = .ok (.aload_n 0, 1) := by decide +kernel
theorem dX11_longestLeft_6 : decode cX11_longestLeft 6 = .ok (.getfield 109, 3) := by decide +kernel
theorem dX11_longestLeft_9 : decode cX11_longestLeft 9 = .ok (.if_icmp .ge 117, 3) := by decide +kernel
theorem dX11_longestLeft_12 : decode cX11_longestLeft 12 = .ok (.iload_n 1, 1) := by decide +kernel
theorem dX11_longestLeft_13 : decode cX11_longestLeft 13 = .ok (.aload_n 0, 1) := by decide +kernel
theorem dX11_longestLeft_14 : decode cX11_longestLeft 14 = .ok (.getfield 7, 3) := by decide +kernel
theorem dX11_longestLeft_17 : decode cX11_longestLeft 17 = .ok (.iload_n 3, 1) := by decide +kernel
theorem dX11_longestLeft_18 : decode cX11_longestLeft 18 = .ok (.iaload, 1) := by decide +kernel
theorem dX11_longestLeft_19 : decode cX11_longestLeft 19 = .ok (.iadd, 1) := by decide +kernel
theorem dX11_longestLeft_20 : decode cX11_longestLeft 20 = .ok (.aload_n 0, 1) := by decide +kernel
theorem dX11_longestLeft_21 : decode cX11_longestLeft 21 = .ok (.getfield 75, 3) := by decide +kernel
theorem dX11_longestLeft_24 : decode cX11_longestLeft 24 = .ok (.if_icmp .gt 27, 3) := by decide +kernel
theorem dX11_longestLeft_27 : decode cX11_longestLeft 27 = .ok (.iload_n 2, 1) := by decide +kernel
theorem dX11_longestLeft_28 : decode cX11_longestLeft 28 = .ok (.iconst (-1), 1) := by decide +kernel
theorem dX11_longestLeft_29 : decode cX11_longestLeft 29 = .ok (.if_icmp .eq 18, 3) := by decide +kernel
theorem dX11_longestLeft_32 : decode cX11_longestLeft 32 = .ok (.aload_n 0, 1) := by decide +kernel
theorem dX11_longestLeft_33 : decode cX11_longestLeft 33 = .ok (.getfield 7, 3) := by decide +kernel
theorem dX11_longestLeft_36 : decode cX11_longestLeft 36 = .ok (.iload_n 3, 1) := by decide +kernel
theorem dX11_longestLeft_37 : decode cX11_longestLeft 37 = .ok (.iaload, 1) := by decide +kernel
theorem dX11_longestLeft_38 : decode cX11_longestLeft 38 = .ok (.aload_n 0, 1) := by decide +kernel
theorem dX11_longestLeft_39 : decode cX11_longestLeft 39 = .ok (.getfield 7, 3) := by decide +kernel
theorem dX11_longestLeft_42 : decode cX11_longestLeft 42 = .ok (.iload_n 2, 1) := by decide +kernel
theorem dX11_longestLeft_43 : decode cX11_longestLeft 43 = .ok (.iaload, 1) := by decide +kernel
theorem dX11_longestLeft_44 : decode cX11_longestLeft 44 = .ok (.if_icmp .le 7, 3) := by decide +kernel
theorem dX11_longestLeft_47 : decode cX11_longestLeft 47 = .ok (.iconst 1, 1) := by decide +kernel
theorem dX11_longestLeft_48 : decode cX11_longestLeft 48 = .ok (.goto 4, 3) := by decide +kernel
theorem dX11_longestLeft_51 : decode cX11_longestLeft 51 = .ok (.iconst 0, 1) := by decide +kernel
theorem dX11_longestLeft_52 : decode cX11_longestLeft 52 = .ok (.istore 4, 2) := by decide +kernel
theorem dX11_longestLeft_54 : decode cX11_longestLeft 54 = .ok (.iconst 0, 1) := by decide +kernel
theorem dX11_longestLeft_55 : decode cX11_longestLeft 55 = .ok (.istore 5, 2) := by decide +kernel
theorem dX11_longestLeft_57 : decode cX11_longestLeft 57 = .ok (.iload 5, 2) := by decide +kernel
theorem dX11_longestLeft_59 : decode cX11_longestLeft 59 = .ok (.aload_n 0, 1) := by decide +kernel
theorem dX11_longestLeft_60 : decode cX11_longestLeft 60 = .ok (.getfield 7, 3) := by decide +kernel
theorem dX11_longestLeft_63 : decode cX11_longestLeft 63 = .ok (.iload_n 3, 1) := by decide +kernel
theorem dX11_longestLeft_64 : decode cX11_longestLeft 64 = .ok (.iaload, 1) := by decide +kernel
theorem dX11_longestLeft_65 : decode cX11_longestLeft 65 = .ok (.if_icmp .ge 44, 3) := by decide +kernel
theorem dX11_longestLeft_68 : decode cX11_longestLeft 68 = .ok (.iload 4, 2) := by decide +kernel
theorem dX11_longestLeft_70 : decode cX11_longestLeft 70 = .ok (.ifCond .eq 39, 3) := by decide +kernel
theorem dX11_longestLeft_73 : decode cX11_longestLeft 73 = .ok (.aload_n 0, 1) := by decide +kernel
theorem dX11_longestLeft_74 : decode cX11_longestLeft 74 = .ok (.getfield 25, 3) := by decide +kernel
theorem dX11_longestLeft_77 : decode cX11_longestLeft 77 = .ok (.iload_n 1, 1) := by decide +kernel
theorem dX11_longestLeft_78 : decode cX11_longestLeft 78 = .ok (.iload 5, 2) := by decide +kernel
theorem dX11_longestLeft_80 : decode cX11_longestLeft 80 = .ok (.iadd, 1) := by decide +kernel
theorem dX11_longestLeft_81 : decode cX11_longestLeft 81 = .ok (.iaload, 1) := by decide +kernel
theorem dX11_longestLeft_82 : decode cX11_longestLeft 82 = .ok (.aload_n 0, 1) := by decide +kernel
theorem dX11_longestLeft_83 : decode cX11_longestLeft 83 = .ok (.getfield 16, 3) := by decide +kernel
theorem dX11_longestLeft_86 : decode cX11_longestLeft 86 = .ok (.iconst 3, 1) := by decide +kernel
theorem dX11_longestLeft_87 : decode cX11_longestLeft 87 = .ok (.iload_n 3, 1) := by decide +kernel
theorem dX11_longestLeft_88 : decode cX11_longestLeft 88 = .ok (.imul, 1) := by decide +kernel
theorem dX11_longestLeft_89 : decode cX11_longestLeft 89 = .ok (.iload 5, 2) := by decide +kernel
theorem dX11_longestLeft_91 : decode cX11_longestLeft 91 = .ok (.iadd, 1) := by decide +kernel
theorem dX11_longestLeft_92 : decode cX11_longestLeft 92 = .ok (.iaload, 1) := by decide +kernel
theorem dX11_longestLeft_93 : decode cX11_longestLeft 93 = .ok (.if_icmp .ne 7, 3) := by decide +kernel
theorem dX11_longestLeft_96 : decode cX11_longestLeft 96 = .ok (.iconst 1, 1) := by decide +kernel
theorem dX11_longestLeft_97 : decode cX11_longestLeft 97 = .ok (.goto 4, 3) := by decide +kernel
theorem dX11_longestLeft_100 : decode cX11_longestLeft 100 = .ok (.iconst 0, 1) := by decide +kernel
theorem dX11_longestLeft_101 : decode cX11_longestLeft 101 = .ok (.istore 4, 2) := by decide +kernel
theorem dX11_longestLeft_103 : decode cX11_longestLeft 103 = .ok (.iinc 5 1, 3) := by decide +kernel
theorem dX11_longestLeft_106 : decode cX11_longestLeft 106 = .ok (.goto (-49), 3) := by decide +kernel
theorem dX11_longestLeft_109 : decode cX11_longestLeft 109 = .ok (.iload 4, 2) := by decide +kernel
theorem dX11_longestLeft_111 : decode cX11_longestLeft 111 = .ok (.ifCond .eq 7, 3) := by decide +kernel
theorem dX11_longestLeft_114 : decode cX11_longestLeft 114 = .ok (.iload_n 3, 1) := by decide +kernel
theorem dX11_longestLeft_115 : decode cX11_longestLeft 115 = .ok (.goto 4, 3) := by decide +kernel
theorem dX11_longestLeft_118 : decode cX11_longestLeft 118 = .ok (.iload_n 2, 1) := by decide +kernel
theorem dX11_longestLeft_119 : decode cX11_longestLeft 119 = .ok (.istore_n 2, 1) := by decide +kernel
theorem dX11_longestLeft_120 : decode cX11_longestLeft 120 = .ok (.iinc 3 1, 3) := by decide +kernel
theorem dX11_longestLeft_123 : decode cX11_longestLeft 123 = .ok (.goto (-119), 3) := by decide +kernel
theorem dX11_longestLeft_126 : decode cX11_longestLeft 126 = .ok (.iload_n 2, 1) := by decide +kernel
theorem dX11_longestLeft_127 : decode cX11_longestLeft 127 = .ok (.ireturn, 1) := by decide +kernel
theorem dX11_turnRow_0 : decode cX11_turnRow 0 = .ok (.aload_n 0, 1) := by decide +kernel
theorem dX11_turnRow_1 : decode cX11_turnRow 1 = .ok (.iconst 0, 1) := by decide +kernel
theorem dX11_turnRow_2 : decode cX11_turnRow 2 = .ok (.putfield 124, 3) := by decide +kernel
theorem dX11_turnRow_5 : decode cX11_turnRow 5 = .ok (.iconst 0, 1) := by decide +kernel
theorem dX11_turnRow_6 : decode cX11_turnRow 6 = .ok (.istore_n 1, 1) := by decide +kernel
theorem dX11_turnRow_7 : decode cX11_turnRow 7 = .ok (.iload_n 1, 1) := by decide +kernel
theorem dX11_turnRow_8 : decode cX11_turnRow 8 = .ok (.aload_n 0, 1) := by decide +kernel
theorem dX11_turnRow_9 : decode cX11_turnRow 9 = .ok (.getfield 75, 3) := by decide +kernel
theorem dX11_turnRow_12 : decode cX11_turnRow 12 = .ok (.if_icmp .ge 48, 3) := by decide +kernel
theorem dX11_turnRow_15 : decode cX11_turnRow 15 = .ok (.aload_n 0, 1) := by decide +kernel
theorem dX11_turnRow_16 : decode cX11_turnRow 16 = .ok (.iload_n 1, 1) := by decide +kernel
theorem dX11_turnRow_17 : decode cX11_turnRow 17 = .ok (.invokevirtual 127, 3) := by decide +kernel
theorem dX11_turnRow_20 : decode cX11_turnRow 20 = .ok (.istore_n 2, 1) := by decide +kernel
theorem dX11_turnRow_21 : decode cX11_turnRow 21 = .ok (.iload_n 2, 1) := by decide +kernel
theorem dX11_turnRow_22 : decode cX11_turnRow 22 = .ok (.iconst (-1), 1) := by decide +kernel
theorem dX11_turnRow_23 : decode cX11_turnRow 23 = .ok (.if_icmp .ne 5, 3) := by decide +kernel
theorem dX11_turnRow_26 : decode cX11_turnRow 26 = .ok (.iload_n 1, 1) := by decide +kernel
theorem dX11_turnRow_27 : decode cX11_turnRow 27 = .ok (.ireturn, 1) := by decide +kernel
theorem dX11_turnRow_28 : decode cX11_turnRow 28 = .ok (.aload_n 0, 1) := by decide +kernel
theorem dX11_turnRow_29 : decode cX11_turnRow 29 = .ok (.getfield 40, 3) := by decide +kernel
theorem dX11_turnRow_32 : decode cX11_turnRow 32 = .ok (.aload_n 0, 1) := by decide +kernel
theorem dX11_turnRow_33 : decode cX11_turnRow 33 = .ok (.getfield 124, 3) := by decide +kernel
theorem dX11_turnRow_36 : decode cX11_turnRow 36 = .ok (.iload_n 2, 1) := by decide +kernel
theorem dX11_turnRow_37 : decode cX11_turnRow 37 = .ok (.iastore, 1) := by decide +kernel
theorem dX11_turnRow_38 : decode cX11_turnRow 38 = .ok (.aload_n 0, 1) := by decide +kernel
theorem dX11_turnRow_39 : decode cX11_turnRow 39 = .ok (.dup, 1) := by decide +kernel
theorem dX11_turnRow_40 : decode cX11_turnRow 40 = .ok (.getfield 124, 3) := by decide +kernel
theorem dX11_turnRow_43 : decode cX11_turnRow 43 = .ok (.iconst 1, 1) := by decide +kernel
theorem dX11_turnRow_44 : decode cX11_turnRow 44 = .ok (.iadd, 1) := by decide +kernel
theorem dX11_turnRow_45 : decode cX11_turnRow 45 = .ok (.putfield 124, 3) := by decide +kernel
theorem dX11_turnRow_48 : decode cX11_turnRow 48 = .ok (.iload_n 1, 1) := by decide +kernel
theorem dX11_turnRow_49 : decode cX11_turnRow 49 = .ok (.aload_n 0, 1) := by decide +kernel
theorem dX11_turnRow_50 : decode cX11_turnRow 50 = .ok (.getfield 7, 3) := by decide +kernel
theorem dX11_turnRow_53 : decode cX11_turnRow 53 = .ok (.iload_n 2, 1) := by decide +kernel
theorem dX11_turnRow_54 : decode cX11_turnRow 54 = .ok (.iaload, 1) := by decide +kernel
theorem dX11_turnRow_55 : decode cX11_turnRow 55 = .ok (.iadd, 1) := by decide +kernel
theorem dX11_turnRow_56 : decode cX11_turnRow 56 = .ok (.istore_n 1, 1) := by decide +kernel
theorem dX11_turnRow_57 : decode cX11_turnRow 57 = .ok (.goto (-50), 3) := by decide +kernel
theorem dX11_turnRow_60 : decode cX11_turnRow 60 = .ok (.iconst (-1), 1) := by decide +kernel
theorem dX11_turnRow_61 : decode cX11_turnRow 61 = .ok (.ireturn, 1) := by decide +kernel
theorem dX11_isSmallPage_0 : decode cX11_isSmallPage 0 = .ok (.aload_n 0, 1) := by decide +kernel
theorem dX11_isSmallPage_1 : decode cX11_isSmallPage 1 = .ok (.getfield 75, 3) := by decide +kernel
theorem dX11_isSmallPage_4 : decode cX11_isSmallPage 4 = .ok (.bipush 12, 2) := by decide +kernel
theorem dX11_isSmallPage_6 : decode cX11_isSmallPage 6 = .ok (.if_icmp .gt 7, 3) := by decide +kernel
theorem dX11_isSmallPage_9 : decode cX11_isSmallPage 9 = .ok (.iconst 1, 1) := by decide +kernel
theorem dX11_isSmallPage_10 : decode cX11_isSmallPage 10 = .ok (.goto 4, 3) := by decide +kernel
theorem dX11_isSmallPage_13 : decode cX11_isSmallPage 13 = .ok (.iconst 0, 1) := by decide +kernel
theorem dX11_isSmallPage_14 : decode cX11_isSmallPage 14 = .ok (.istore_n 1, 1) := by decide +kernel
theorem dX11_isSmallPage_15 : decode cX11_isSmallPage 15 = .ok (.iconst 0, 1) := by decide +kernel
theorem dX11_isSmallPage_16 : decode cX11_isSmallPage 16 = .ok (.istore_n 2, 1) := by decide +kernel
theorem dX11_isSmallPage_17 : decode cX11_isSmallPage 17 = .ok (.iload_n 2, 1) := by decide +kernel
theorem dX11_isSmallPage_18 : decode cX11_isSmallPage 18 = .ok (.aload_n 0, 1) := by decide +kernel
theorem dX11_isSmallPage_19 : decode cX11_isSmallPage 19 = .ok (.getfield 75, 3) := by decide +kernel
theorem dX11_isSmallPage_22 : decode cX11_isSmallPage 22 = .ok (.if_icmp .ge 31, 3) := by decide +kernel
theorem dX11_isSmallPage_25 : decode cX11_isSmallPage 25 = .ok (.iload_n 1, 1) := by decide +kernel
theorem dX11_isSmallPage_26 : decode cX11_isSmallPage 26 = .ok (.ifCond .eq 19, 3) := by decide +kernel
theorem dX11_isSmallPage_29 : decode cX11_isSmallPage 29 = .ok (.aload_n 0, 1) := by decide +kernel
theorem dX11_isSmallPage_30 : decode cX11_isSmallPage 30 = .ok (.getfield 25, 3) := by decide +kernel
theorem dX11_isSmallPage_33 : decode cX11_isSmallPage 33 = .ok (.iload_n 2, 1) := by decide +kernel
theorem dX11_isSmallPage_34 : decode cX11_isSmallPage 34 = .ok (.iaload, 1) := by decide +kernel
theorem dX11_isSmallPage_35 : decode cX11_isSmallPage 35 = .ok (.invokestatic 89, 3) := by decide +kernel
theorem dX11_isSmallPage_38 : decode cX11_isSmallPage 38 = .ok (.ifCond .eq 7, 3) := by decide +kernel
theorem dX11_isSmallPage_41 : decode cX11_isSmallPage 41 = .ok (.iconst 1, 1) := by decide +kernel
theorem dX11_isSmallPage_42 : decode cX11_isSmallPage 42 = .ok (.goto 4, 3) := by decide +kernel
theorem dX11_isSmallPage_45 : decode cX11_isSmallPage 45 = .ok (.iconst 0, 1) := by decide +kernel
theorem dX11_isSmallPage_46 : decode cX11_isSmallPage 46 = .ok (.istore_n 1, 1) := by decide +kernel
theorem dX11_isSmallPage_47 : decode cX11_isSmallPage 47 = .ok (.iinc 2 1, 3) := by decide +kernel
theorem dX11_isSmallPage_50 : decode cX11_isSmallPage 50 = .ok (.goto (-33), 3) := by decide +kernel
theorem dX11_isSmallPage_53 : decode cX11_isSmallPage 53 = .ok (.iload_n 1, 1) := by decide +kernel
theorem dX11_isSmallPage_54 : decode cX11_isSmallPage 54 = .ok (.ireturn, 1) := by decide +kernel
theorem dX11_turn_0 : decode cX11_turn 0 = .ok (.aload_n 0, 1) := by decide +kernel
theorem dX11_turn_1 : decode cX11_turn 1 = .ok (.invokevirtual 131, 3) := by decide +kernel
theorem dX11_turn_4 : decode cX11_turn 4 = .ok (.ifCond .ne 6, 3) := by decide +kernel
theorem dX11_turn_7 : decode cX11_turn 7 = .ok (.bipush (-103), 2) := by decide +kernel
theorem dX11_turn_9 : decode cX11_turn 9 = .ok (.ireturn, 1) := by decide +kernel
theorem dX11_turn_10 : decode cX11_turn 10 = .ok (.aload_n 0, 1) := by decide +kernel
theorem dX11_turn_11 : decode cX11_turn 11 = .ok (.invokevirtual 134, 3) := by decide +kernel
theorem dX11_turn_14 : decode cX11_turn 14 = .ok (.istore_n 1, 1) := by decide +kernel
theorem dX11_turn_15 : decode cX11_turn 15 = .ok (.iload_n 1, 1) := by decide +kernel
theorem dX11_turn_16 : decode cX11_turn 16 = .ok (.iconst (-1), 1) := by decide +kernel
theorem dX11_turn_17 : decode cX11_turn 17 = .ok (.if_icmp .eq 9, 3) := by decide +kernel
theorem dX11_turn_20 : decode cX11_turn 20 = .ok (.sipush (-1000), 3) := by decide +kernel
theorem dX11_turn_23 : decode cX11_turn 23 = .ok (.iload_n 1, 1) := by decide +kernel
theorem dX11_turn_24 : decode cX11_turn 24 = .ok (.isub, 1) := by decide +kernel
theorem dX11_turn_25 : decode cX11_turn 25 = .ok (.ireturn, 1) := by decide +kernel
theorem dX11_turn_26 : decode cX11_turn 26 = .ok (.aload_n 0, 1) := by decide +kernel
theorem dX11_turn_27 : decode cX11_turn 27 = .ok (.iconst 0, 1) := by decide +kernel
theorem dX11_turn_28 : decode cX11_turn 28 = .ok (.putfield 118, 3) := by decide +kernel
theorem dX11_turn_31 : decode cX11_turn 31 = .ok (.iconst 0, 1) := by decide +kernel
theorem dX11_turn_32 : decode cX11_turn 32 = .ok (.istore_n 2, 1) := by decide +kernel
theorem dX11_turn_33 : decode cX11_turn 33 = .ok (.iload_n 2, 1) := by decide +kernel
theorem dX11_turn_34 : decode cX11_turn 34 = .ok (.aload_n 0, 1) := by decide +kernel
theorem dX11_turn_35 : decode cX11_turn 35 = .ok (.getfield 124, 3) := by decide +kernel
theorem dX11_turn_38 : decode cX11_turn 38 = .ok (.if_icmp .ge 61, 3) := by decide +kernel
theorem dX11_turn_41 : decode cX11_turn 41 = .ok (.iconst 0, 1) := by decide +kernel
theorem dX11_turn_42 : decode cX11_turn 42 = .ok (.istore_n 3, 1) := by decide +kernel
theorem dX11_turn_43 : decode cX11_turn 43 = .ok (.iload_n 3, 1) := by decide +kernel
theorem dX11_turn_44 : decode cX11_turn 44 = .ok (.aload_n 0, 1) := by decide +kernel
theorem dX11_turn_45 : decode cX11_turn 45 = .ok (.aload_n 0, 1) := by decide +kernel
theorem dX11_turn_46 : decode cX11_turn 46 = .ok (.getfield 40, 3) := by decide +kernel
theorem dX11_turn_49 : decode cX11_turn 49 = .ok (.iload_n 2, 1) := by decide +kernel
theorem dX11_turn_50 : decode cX11_turn 50 = .ok (.iaload, 1) := by decide +kernel
theorem dX11_turn_51 : decode cX11_turn 51 = .ok (.invokevirtual 137, 3) := by decide +kernel
theorem dX11_turn_54 : decode cX11_turn 54 = .ok (.if_icmp .ge 39, 3) := by decide +kernel
theorem dX11_turn_57 : decode cX11_turn 57 = .ok (.aload_n 0, 1) := by decide +kernel
theorem dX11_turn_58 : decode cX11_turn 58 = .ok (.getfield 22, 3) := by decide +kernel
theorem dX11_turn_61 : decode cX11_turn 61 = .ok (.aload_n 0, 1) := by decide +kernel
theorem dX11_turn_62 : decode cX11_turn 62 = .ok (.getfield 118, 3) := by decide +kernel
theorem dX11_turn_65 : decode cX11_turn 65 = .ok (.aload_n 0, 1) := by decide +kernel
theorem dX11_turn_66 : decode cX11_turn 66 = .ok (.aload_n 0, 1) := by decide +kernel
theorem dX11_turn_67 : decode cX11_turn 67 = .ok (.getfield 40, 3) := by decide +kernel
theorem dX11_turn_70 : decode cX11_turn 70 = .ok (.iload_n 2, 1) := by decide +kernel
theorem dX11_turn_71 : decode cX11_turn 71 = .ok (.iaload, 1) := by decide +kernel
theorem dX11_turn_72 : decode cX11_turn 72 = .ok (.iload_n 3, 1) := by decide +kernel
theorem dX11_turn_73 : decode cX11_turn 73 = .ok (.invokevirtual 140, 3) := by decide +kernel
theorem dX11_turn_76 : decode cX11_turn 76 = .ok (.iastore, 1) := by decide +kernel
theorem dX11_turn_77 : decode cX11_turn 77 = .ok (.aload_n 0, 1) := by decide +kernel
theorem dX11_turn_78 : decode cX11_turn 78 = .ok (.dup, 1) := by decide +kernel
theorem dX11_turn_79 : decode cX11_turn 79 = .ok (.getfield 118, 3) := by decide +kernel
theorem dX11_turn_82 : decode cX11_turn 82 = .ok (.iconst 1, 1) := by decide +kernel
theorem dX11_turn_83 : decode cX11_turn 83 = .ok (.iadd, 1) := by decide +kernel
theorem dX11_turn_84 : decode cX11_turn 84 = .ok (.putfield 118, 3) := by decide +kernel
theorem dX11_turn_87 : decode cX11_turn 87 = .ok (.iinc 3 1, 3) := by decide +kernel
theorem dX11_turn_90 : decode cX11_turn 90 = .ok (.goto (-47), 3) := by decide +kernel
theorem dX11_turn_93 : decode cX11_turn 93 = .ok (.iinc 2 1, 3) := by decide +kernel
theorem dX11_turn_96 : decode cX11_turn 96 = .ok (.goto (-63), 3) := by decide +kernel
theorem dX11_turn_99 : decode cX11_turn 99 = .ok (.aload_n 0, 1) := by decide +kernel
theorem dX11_turn_100 : decode cX11_turn 100 = .ok (.dup, 1) := by decide +kernel
theorem dX11_turn_101 : decode cX11_turn 101 = .ok (.getfield 144, 3) := by decide +kernel
theorem dX11_turn_104 : decode cX11_turn 104 = .ok (.iconst 1, 1) := by decide +kernel
theorem dX11_turn_105 : decode cX11_turn 105 = .ok (.iadd, 1) := by decide +kernel
theorem dX11_turn_106 : decode cX11_turn 106 = .ok (.putfield 144, 3) := by decide +kernel
theorem dX11_turn_109 : decode cX11_turn 109 = .ok (.aload_n 0, 1) := by decide +kernel
theorem dX11_turn_110 : decode cX11_turn 110 = .ok (.iconst 0, 1) := by decide +kernel
theorem dX11_turn_111 : decode cX11_turn 111 = .ok (.putfield 75, 3) := by decide +kernel
theorem dX11_turn_114 : decode cX11_turn 114 = .ok (.aload_n 0, 1) := by decide +kernel
theorem dX11_turn_115 : decode cX11_turn 115 = .ok (.getfield 124, 3) := by decide +kernel
theorem dX11_turn_118 : decode cX11_turn 118 = .ok (.ireturn, 1) := by decide +kernel
theorem dX11_text_0 : decode cX11_text 0 = .ok (.iconst 0, 1) := by decide +kernel
theorem dX11_text_1 : decode cX11_text 1 = .ok (.istore_n 1, 1) := by decide +kernel
theorem dX11_text_2 : decode cX11_text 2 = .ok (.iload_n 1, 1) := by decide +kernel
theorem dX11_text_3 : decode cX11_text 3 = .ok (.aload_n 0, 1) := by decide +kernel
theorem dX11_text_4 : decode cX11_text 4 = .ok (.getfield 75, 3) := by decide +kernel
theorem dX11_text_7 : decode cX11_text 7 = .ok (.if_icmp .ge 35, 3) := by decide +kernel
theorem dX11_text_10 : decode cX11_text 10 = .ok (.aload_n 0, 1) := by decide +kernel
theorem dX11_text_11 : decode cX11_text 11 = .ok (.getfield 25, 3) := by decide +kernel
theorem dX11_text_14 : decode cX11_text 14 = .ok (.iload_n 1, 1) := by decide +kernel
theorem dX11_text_15 : decode cX11_text 15 = .ok (.iaload, 1) := by decide +kernel
theorem dX11_text_16 : decode cX11_text 16 = .ok (.invokestatic 96, 3) := by decide +kernel
theorem dX11_text_19 : decode cX11_text 19 = .ok (.ifCond .ne 17, 3) := by decide +kernel
theorem dX11_text_22 : decode cX11_text 22 = .ok (.aload_n 0, 1) := by decide +kernel
theorem dX11_text_23 : decode cX11_text 23 = .ok (.getfield 25, 3) := by decide +kernel
theorem dX11_text_26 : decode cX11_text 26 = .ok (.iload_n 1, 1) := by decide +kernel
theorem dX11_text_27 : decode cX11_text 27 = .ok (.iaload, 1) := by decide +kernel
theorem dX11_text_28 : decode cX11_text 28 = .ok (.bipush 39, 2) := by decide +kernel
theorem dX11_text_30 : decode cX11_text 30 = .ok (.if_icmp .eq 6, 3) := by decide +kernel
theorem dX11_text_33 : decode cX11_text 33 = .ok (.bipush (-103), 2) := by decide +kernel
theorem dX11_text_35 : decode cX11_text 35 = .ok (.ireturn, 1) := by decide +kernel
theorem dX11_text_36 : decode cX11_text 36 = .ok (.iinc 1 1, 3) := by decide +kernel
theorem dX11_text_39 : decode cX11_text 39 = .ok (.goto (-37), 3) := by decide +kernel
theorem dX11_text_42 : decode cX11_text 42 = .ok (.iconst 0, 1) := by decide +kernel
theorem dX11_text_43 : decode cX11_text 43 = .ok (.istore_n 1, 1) := by decide +kernel
theorem dX11_text_44 : decode cX11_text 44 = .ok (.iload_n 1, 1) := by decide +kernel
theorem dX11_text_45 : decode cX11_text 45 = .ok (.aload_n 0, 1) := by decide +kernel
theorem dX11_text_46 : decode cX11_text 46 = .ok (.getfield 75, 3) := by decide +kernel
theorem dX11_text_49 : decode cX11_text 49 = .ok (.if_icmp .ge 21, 3) := by decide +kernel
theorem dX11_text_52 : decode cX11_text 52 = .ok (.aload_n 0, 1) := by decide +kernel
theorem dX11_text_53 : decode cX11_text 53 = .ok (.getfield 22, 3) := by decide +kernel
theorem dX11_text_56 : decode cX11_text 56 = .ok (.iload_n 1, 1) := by decide +kernel
theorem dX11_text_57 : decode cX11_text 57 = .ok (.aload_n 0, 1) := by decide +kernel
theorem dX11_text_58 : decode cX11_text 58 = .ok (.getfield 25, 3) := by decide +kernel
theorem dX11_text_61 : decode cX11_text 61 = .ok (.iload_n 1, 1) := by decide +kernel
theorem dX11_text_62 : decode cX11_text 62 = .ok (.iaload, 1) := by decide +kernel
theorem dX11_text_63 : decode cX11_text 63 = .ok (.iastore, 1) := by decide +kernel
theorem dX11_text_64 : decode cX11_text 64 = .ok (.iinc 1 1, 3) := by decide +kernel
theorem dX11_text_67 : decode cX11_text 67 = .ok (.goto (-23), 3) := by decide +kernel
theorem dX11_text_70 : decode cX11_text 70 = .ok (.aload_n 0, 1) := by decide +kernel
theorem dX11_text_71 : decode cX11_text 71 = .ok (.aload_n 0, 1) := by decide +kernel
theorem dX11_text_72 : decode cX11_text 72 = .ok (.getfield 75, 3) := by decide +kernel
theorem dX11_text_75 : decode cX11_text 75 = .ok (.putfield 118, 3) := by decide +kernel
theorem dX11_text_78 : decode cX11_text 78 = .ok (.aload_n 0, 1) := by decide +kernel
theorem dX11_text_79 : decode cX11_text 79 = .ok (.iconst 0, 1) := by decide +kernel
theorem dX11_text_80 : decode cX11_text 80 = .ok (.putfield 75, 3) := by decide +kernel
theorem dX11_text_83 : decode cX11_text 83 = .ok (.aload_n 0, 1) := by decide +kernel
theorem dX11_text_84 : decode cX11_text 84 = .ok (.dup, 1) := by decide +kernel
theorem dX11_text_85 : decode cX11_text 85 = .ok (.getfield 147, 3) := by decide +kernel
theorem dX11_text_88 : decode cX11_text 88 = .ok (.iconst 1, 1) := by decide +kernel
theorem dX11_text_89 : decode cX11_text 89 = .ok (.iadd, 1) := by decide +kernel
theorem dX11_text_90 : decode cX11_text 90 = .ok (.putfield 147, 3) := by decide +kernel
theorem dX11_text_93 : decode cX11_text 93 = .ok (.aload_n 0, 1) := by decide +kernel
theorem dX11_text_94 : decode cX11_text 94 = .ok (.getfield 118, 3) := by decide +kernel
theorem dX11_text_97 : decode cX11_text 97 = .ok (.ireturn, 1) := by decide +kernel
theorem dX11_isRule_0 : decode cX11_isRule 0 = .ok (.iload_n 1, 1) := by decide +kernel
theorem dX11_isRule_1 : decode cX11_isRule 1 = .ok (.iconst 0, 1) := by decide +kernel
theorem dX11_isRule_2 : decode cX11_isRule 2 = .ok (.aload_n 0, 1) := by decide +kernel
theorem dX11_isRule_3 : decode cX11_isRule 3 = .ok (.getfield 109, 3) := by decide +kernel
theorem dX11_isRule_6 : decode cX11_isRule 6 = .ok (.iconst 1, 1) := by decide +kernel
theorem dX11_isRule_7 : decode cX11_isRule 7 = .ok (.isub, 1) := by decide +kernel
theorem dX11_isRule_8 : decode cX11_isRule 8 = .ok (.invokestatic 71, 3) := by decide +kernel
theorem dX11_isRule_11 : decode cX11_isRule 11 = .ok (.ireturn, 1) := by decide +kernel
theorem dX11_mark_0 : decode cX11_mark 0 = .ok (.aload_n 0, 1) := by decide +kernel
theorem dX11_mark_1 : decode cX11_mark 1 = .ok (.iload_n 1, 1) := by decide +kernel
theorem dX11_mark_2 : decode cX11_mark 2 = .ok (.invokevirtual 150, 3) := by decide +kernel
theorem dX11_mark_5 : decode cX11_mark 5 = .ok (.ifCond .ne 6, 3) := by decide +kernel
theorem dX11_mark_8 : decode cX11_mark 8 = .ok (.bipush (-101), 2) := by decide +kernel
theorem dX11_mark_10 : decode cX11_mark 10 = .ok (.ireturn, 1) := by decide +kernel
theorem dX11_mark_11 : decode cX11_mark 11 = .ok (.aload_n 0, 1) := by decide +kernel
theorem dX11_mark_12 : decode cX11_mark 12 = .ok (.dup, 1) := by decide +kernel
theorem dX11_mark_13 : decode cX11_mark 13 = .ok (.getfield 112, 3) := by decide +kernel
theorem dX11_mark_16 : decode cX11_mark 16 = .ok (.iconst 1, 1) := by decide +kernel
theorem dX11_mark_17 : decode cX11_mark 17 = .ok (.iload_n 1, 1) := by decide +kernel
theorem dX11_mark_18 : decode cX11_mark 18 = .ok (.ishl, 1) := by decide +kernel
theorem dX11_mark_19 : decode cX11_mark 19 = .ok (.ixor, 1) := by decide +kernel
theorem dX11_mark_20 : decode cX11_mark 20 = .ok (.putfield 112, 3) := by decide +kernel
theorem dX11_mark_23 : decode cX11_mark 23 = .ok (.aload_n 0, 1) := by decide +kernel
theorem dX11_mark_24 : decode cX11_mark 24 = .ok (.aload_n 0, 1) := by decide +kernel
theorem dX11_mark_25 : decode cX11_mark 25 = .ok (.getfield 112, 3) := by decide +kernel
theorem dX11_mark_28 : decode cX11_mark 28 = .ok (.putfield 115, 3) := by decide +kernel
theorem dX11_mark_31 : decode cX11_mark 31 = .ok (.aload_n 0, 1) := by decide +kernel
theorem dX11_mark_32 : decode cX11_mark 32 = .ok (.getfield 112, 3) := by decide +kernel
theorem dX11_mark_35 : decode cX11_mark 35 = .ok (.iload_n 1, 1) := by decide +kernel
theorem dX11_mark_36 : decode cX11_mark 36 = .ok (.ishr, 1) := by decide +kernel
theorem dX11_mark_37 : decode cX11_mark 37 = .ok (.iconst 1, 1) := by decide +kernel
theorem dX11_mark_38 : decode cX11_mark 38 = .ok (.iand, 1) := by decide +kernel
theorem dX11_mark_39 : decode cX11_mark 39 = .ok (.ireturn, 1) := by decide +kernel
theorem dX11_drop_0 : decode cX11_drop 0 = .ok (.aload_n 0, 1) := by decide +kernel
theorem dX11_drop_1 : decode cX11_drop 1 = .ok (.iload_n 1, 1) := by decide +kernel
theorem dX11_drop_2 : decode cX11_drop 2 = .ok (.invokevirtual 150, 3) := by decide +kernel
theorem dX11_drop_5 : decode cX11_drop 5 = .ok (.ifCond .ne 6, 3) := by decide +kernel
theorem dX11_drop_8 : decode cX11_drop 8 = .ok (.bipush (-101), 2) := by decide +kernel
theorem dX11_drop_10 : decode cX11_drop 10 = .ok (.ireturn, 1) := by decide +kernel
theorem dX11_drop_11 : decode cX11_drop 11 = .ok (.aload_n 0, 1) := by decide +kernel
theorem dX11_drop_12 : decode cX11_drop 12 = .ok (.dup, 1) := by decide +kernel
theorem dX11_drop_13 : decode cX11_drop 13 = .ok (.getfield 109, 3) := by decide +kernel
theorem dX11_drop_16 : decode cX11_drop 16 = .ok (.iconst 1, 1) := by decide +kernel
theorem dX11_drop_17 : decode cX11_drop 17 = .ok (.isub, 1) := by decide +kernel
theorem dX11_drop_18 : decode cX11_drop 18 = .ok (.putfield 109, 3) := by decide +kernel
theorem dX11_drop_21 : decode cX11_drop 21 = .ok (.iload_n 1, 1) := by decide +kernel
theorem dX11_drop_22 : decode cX11_drop 22 = .ok (.istore_n 2, 1) := by decide +kernel
theorem dX11_drop_23 : decode cX11_drop 23 = .ok (.iload_n 2, 1) := by decide +kernel
theorem dX11_drop_24 : decode cX11_drop 24 = .ok (.aload_n 0, 1) := by decide +kernel
theorem dX11_drop_25 : decode cX11_drop 25 = .ok (.getfield 109, 3) := by decide +kernel
theorem dX11_drop_28 : decode cX11_drop 28 = .ok (.if_icmp .ge 94, 3) := by decide +kernel
theorem dX11_drop_31 : decode cX11_drop 31 = .ok (.aload_n 0, 1) := by decide +kernel
theorem dX11_drop_32 : decode cX11_drop 32 = .ok (.getfield 7, 3) := by decide +kernel
theorem dX11_drop_35 : decode cX11_drop 35 = .ok (.iload_n 2, 1) := by decide +kernel
theorem dX11_drop_36 : decode cX11_drop 36 = .ok (.aload_n 0, 1) := by decide +kernel
theorem dX11_drop_37 : decode cX11_drop 37 = .ok (.getfield 7, 3) := by decide +kernel
theorem dX11_drop_40 : decode cX11_drop 40 = .ok (.iload_n 2, 1) := by decide +kernel
theorem dX11_drop_41 : decode cX11_drop 41 = .ok (.iconst 1, 1) := by decide +kernel
theorem dX11_drop_42 : decode cX11_drop 42 = .ok (.iadd, 1) := by decide +kernel
theorem dX11_drop_43 : decode cX11_drop 43 = .ok (.iaload, 1) := by decide +kernel
theorem dX11_drop_44 : decode cX11_drop 44 = .ok (.iastore, 1) := by decide +kernel
theorem dX11_drop_45 : decode cX11_drop 45 = .ok (.aload_n 0, 1) := by decide +kernel
theorem dX11_drop_46 : decode cX11_drop 46 = .ok (.getfield 13, 3) := by decide +kernel
theorem dX11_drop_49 : decode cX11_drop 49 = .ok (.iload_n 2, 1) := by decide +kernel
theorem dX11_drop_50 : decode cX11_drop 50 = .ok (.aload_n 0, 1) := by decide +kernel
theorem dX11_drop_51 : decode cX11_drop 51 = .ok (.getfield 13, 3) := by decide +kernel
theorem dX11_drop_54 : decode cX11_drop 54 = .ok (.iload_n 2, 1) := by decide +kernel
theorem dX11_drop_55 : decode cX11_drop 55 = .ok (.iconst 1, 1) := by decide +kernel
theorem dX11_drop_56 : decode cX11_drop 56 = .ok (.iadd, 1) := by decide +kernel
theorem dX11_drop_57 : decode cX11_drop 57 = .ok (.iaload, 1) := by decide +kernel
theorem dX11_drop_58 : decode cX11_drop 58 = .ok (.iastore, 1) := by decide +kernel
theorem dX11_drop_59 : decode cX11_drop 59 = .ok (.iconst 0, 1) := by decide +kernel
theorem dX11_drop_60 : decode cX11_drop 60 = .ok (.istore_n 3, 1) := by decide +kernel
theorem dX11_drop_61 : decode cX11_drop 61 = .ok (.iload_n 3, 1) := by decide +kernel
theorem dX11_drop_62 : decode cX11_drop 62 = .ok (.iconst 3, 1) := by decide +kernel
theorem dX11_drop_63 : decode cX11_drop 63 = .ok (.if_icmp .ge 53, 3) := by decide +kernel
theorem dX11_drop_66 : decode cX11_drop 66 = .ok (.aload_n 0, 1) := by decide +kernel
theorem dX11_drop_67 : decode cX11_drop 67 = .ok (.getfield 16, 3) := by decide +kernel
theorem dX11_drop_70 : decode cX11_drop 70 = .ok (.iconst 3, 1) := by decide +kernel
theorem dX11_drop_71 : decode cX11_drop 71 = .ok (.iload_n 2, 1) := by decide +kernel
theorem dX11_drop_72 : decode cX11_drop 72 = .ok (.imul, 1) := by decide +kernel
theorem dX11_drop_73 : decode cX11_drop 73 = .ok (.iload_n 3, 1) := by decide +kernel
theorem dX11_drop_74 : decode cX11_drop 74 = .ok (.iadd, 1) := by decide +kernel
theorem dX11_drop_75 : decode cX11_drop 75 = .ok (.aload_n 0, 1) := by decide +kernel
theorem dX11_drop_76 : decode cX11_drop 76 = .ok (.getfield 16, 3) := by decide +kernel
theorem dX11_drop_79 : decode cX11_drop 79 = .ok (.iconst 3, 1) := by decide +kernel
theorem dX11_drop_80 : decode cX11_drop 80 = .ok (.iload_n 2, 1) := by decide +kernel
theorem dX11_drop_81 : decode cX11_drop 81 = .ok (.imul, 1) := by decide +kernel
theorem dX11_drop_82 : decode cX11_drop 82 = .ok (.iconst 3, 1) := by decide +kernel
theorem dX11_drop_83 : decode cX11_drop 83 = .ok (.iadd, 1) := by decide +kernel
theorem dX11_drop_84 : decode cX11_drop 84 = .ok (.iload_n 3, 1) := by decide +kernel
theorem dX11_drop_85 : decode cX11_drop 85 = .ok (.iadd, 1) := by decide +kernel
theorem dX11_drop_86 : decode cX11_drop 86 = .ok (.iaload, 1) := by decide +kernel
theorem dX11_drop_87 : decode cX11_drop 87 = .ok (.iastore, 1) := by decide +kernel
theorem dX11_drop_88 : decode cX11_drop 88 = .ok (.aload_n 0, 1) := by decide +kernel
theorem dX11_drop_89 : decode cX11_drop 89 = .ok (.getfield 19, 3) := by decide +kernel
theorem dX11_drop_92 : decode cX11_drop 92 = .ok (.iconst 3, 1) := by decide +kernel
theorem dX11_drop_93 : decode cX11_drop 93 = .ok (.iload_n 2, 1) := by decide +kernel
theorem dX11_drop_94 : decode cX11_drop 94 = .ok (.imul, 1) := by decide +kernel
theorem dX11_drop_95 : decode cX11_drop 95 = .ok (.iload_n 3, 1) := by decide +kernel
theorem dX11_drop_96 : decode cX11_drop 96 = .ok (.iadd, 1) := by decide +kernel
theorem dX11_drop_97 : decode cX11_drop 97 = .ok (.aload_n 0, 1) := by decide +kernel
theorem dX11_drop_98 : decode cX11_drop 98 = .ok (.getfield 19, 3) := by decide +kernel
theorem dX11_drop_101 : decode cX11_drop 101 = .ok (.iconst 3, 1) := by decide +kernel
theorem dX11_drop_102 : decode cX11_drop 102 = .ok (.iload_n 2, 1) := by decide +kernel
theorem dX11_drop_103 : decode cX11_drop 103 = .ok (.imul, 1) := by decide +kernel
theorem dX11_drop_104 : decode cX11_drop 104 = .ok (.iconst 3, 1) := by decide +kernel
