theorem dX10_init_0 : decode cX10_init 0 = .ok (.aload_n 0, 1) := by decide +kernel
theorem dX10_init_1 : decode cX10_init 1 = .ok (.invokespecial 1, 3) := by decide +kernel
theorem dX10_init_4 : decode cX10_init 4 = .ok (.aload_n 0, 1) := by decide +kernel
theorem dX10_init_5 : decode cX10_init 5 = .ok (.new 7, 3) := by decide +kernel
theorem dX10_init_8 : decode cX10_init 8 = .ok (.dup, 1) := by decide +kernel
theorem dX10_init_9 : decode cX10_init 9 = .ok (.invokespecial 9, 3) := by decide +kernel
theorem dX10_init_12 : decode cX10_init 12 = .ok (.putfield 10, 3) := by decide +kernel
theorem dX10_init_15 : decode cX10_init 15 = .ok (.aload_n 0, 1) := by decide +kernel
theorem dX10_init_16 : decode cX10_init 16 = .ok (.new 16, 3) := by decide +kernel
theorem dX10_init_19 : decode cX10_init 19 = .ok (.dup, 1) := by decide +kernel
theorem dX10_init_20 : decode cX10_init 20 = .ok (.bipush 56, 2) := by decide +kernel
theorem dX10_init_22 : decode cX10_init 22 = .ok (.invokespecial 18, 3) := by decide +kernel
theorem dX10_init_25 : decode cX10_init 25 = .ok (.putfield 21, 3) := by decide +kernel
theorem dX10_init_28 : decode cX10_init 28 = .ok (.aload_n 0, 1) := by decide +kernel
theorem dX10_init_29 : decode cX10_init 29 = .ok (.new 16, 3) := by decide +kernel
theorem dX10_init_32 : decode cX10_init 32 = .ok (.dup, 1) := by decide +kernel
theorem dX10_init_33 : decode cX10_init 33 = .ok (.bipush 56, 2) := by decide +kernel
theorem dX10_init_35 : decode cX10_init 35 = .ok (.invokespecial 18, 3) := by decide +kernel
theorem dX10_init_38 : decode cX10_init 38 = .ok (.putfield 25, 3) := by decide +kernel
theorem dX10_init_41 : decode cX10_init 41 = .ok (.aload_n 0, 1) := by decide +kernel
theorem dX10_init_42 : decode cX10_init 42 = .ok (.new 16, 3) := by decide +kernel
theorem dX10_init_45 : decode cX10_init 45 = .ok (.dup, 1) := by decide +kernel
theorem dX10_init_46 : decode cX10_init 46 = .ok (.bipush 56, 2) := by decide +kernel
theorem dX10_init_48 : decode cX10_init 48 = .ok (.invokespecial 18, 3) := by decide +kernel
theorem dX10_init_51 : decode cX10_init 51 = .ok (.putfield 28, 3) := by decide +kernel
theorem dX10_init_54 : decode cX10_init 54 = .ok (.aload_n 0, 1) := by decide +kernel
theorem dX10_init_55 : decode cX10_init 55 = .ok (.new 31, 3) := by decide +kernel
theorem dX10_init_58 : decode cX10_init 58 = .ok (.dup, 1) := by decide +kernel
theorem dX10_init_59 : decode cX10_init 59 = .ok (.invokespecial 33, 3) := by decide +kernel
theorem dX10_init_62 : decode cX10_init 62 = .ok (.putfield 34, 3) := by decide +kernel
theorem dX10_init_65 : decode cX10_init 65 = .ok (.aload_n 0, 1) := by decide +kernel
theorem dX10_init_66 : decode cX10_init 66 = .ok (.new 38, 3) := by decide +kernel
theorem dX10_init_69 : decode cX10_init 69 = .ok (.dup, 1) := by decide +kernel
theorem dX10_init_70 : decode cX10_init 70 = .ok (.invokespecial 40, 3) := by decide +kernel
theorem dX10_init_73 : decode cX10_init 73 = .ok (.putfield 41, 3) := by decide +kernel
theorem dX10_init_76 : decode cX10_init 76 = .ok (.aload_n 0, 1) := by decide +kernel
theorem dX10_init_77 : decode cX10_init 77 = .ok (.new 45, 3) := by decide +kernel
theorem dX10_init_80 : decode cX10_init 80 = .ok (.dup, 1) := by decide +kernel
theorem dX10_init_81 : decode cX10_init 81 = .ok (.invokespecial 47, 3) := by decide +kernel
theorem dX10_init_84 : decode cX10_init 84 = .ok (.putfield 48, 3) := by decide +kernel
theorem dX10_init_87 : decode cX10_init 87 = .ok (.aload_n 0, 1) := by decide +kernel
theorem dX10_init_88 : decode cX10_init 88 = .ok (.new 52, 3) := by decide +kernel
theorem dX10_init_91 : decode cX10_init 91 = .ok (.dup, 1) := by decide +kernel
theorem dX10_init_92 : decode cX10_init 92 = .ok (.invokespecial 54, 3) := by decide +kernel
theorem dX10_init_95 : decode cX10_init 95 = .ok (.putfield 55, 3) := by decide +kernel
theorem dX10_init_98 : decode cX10_init 98 = .ok (.aload_n 0, 1) := by decide +kernel
theorem dX10_init_99 : decode cX10_init 99 = .ok (.new 59, 3) := by decide +kernel
theorem dX10_init_102 : decode cX10_init 102 = .ok (.dup, 1) := by decide +kernel
theorem dX10_init_103 : decode cX10_init 103 = .ok (.invokespecial 61, 3) := by decide +kernel
theorem dX10_init_106 : decode cX10_init 106 = .ok (.putfield 62, 3) := by decide +kernel
theorem dX10_init_109 : decode cX10_init 109 = .ok (.aload_n 0, 1) := by decide +kernel
theorem dX10_init_110 : decode cX10_init 110 = .ok (.iconst 0, 1) := by decide +kernel
theorem dX10_init_111 : decode cX10_init 111 = .ok (.putfield 66, 3) := by decide +kernel
theorem dX10_init_114 : decode cX10_init 114 = .ok (.aload_n 0, 1) := by decide +kernel
theorem dX10_init_115 : decode cX10_init 115 = .ok (.iconst 0, 1) := by decide +kernel
theorem dX10_init_116 : decode cX10_init 116 = .ok (.putfield 70, 3) := by decide +kernel
theorem dX10_init_119 : decode cX10_init 119 = .ok (.aload_n 0, 1) := by decide +kernel
theorem dX10_init_120 : decode cX10_init 120 = .ok (.iconst 0, 1) := by decide +kernel
theorem dX10_init_121 : decode cX10_init 121 = .ok (.putfield 73, 3) := by decide +kernel
theorem dX10_init_124 : decode cX10_init 124 = .ok (.aload_n 0, 1) := by decide +kernel
theorem dX10_init_125 : decode cX10_init 125 = .ok (.iconst 0, 1) := by decide +kernel
theorem dX10_init_126 : decode cX10_init 126 = .ok (.putfield 77, 3) := by decide +kernel
theorem dX10_init_129 : decode cX10_init 129 = .ok (.aload_n 0, 1) := by decide +kernel
theorem dX10_init_130 : decode cX10_init 130 = .ok (.iconst 0, 1) := by decide +kernel
theorem dX10_init_131 : decode cX10_init 131 = .ok (.putfield 80, 3) := by decide +kernel
theorem dX10_init_134 : decode cX10_init 134 = .ok (.return_, 1) := by decide +kernel
theorem dX10_letter_0 : decode cX10_letter 0 = .ok (.iload_n 1, 1) := by decide +kernel
theorem dX10_letter_1 : decode cX10_letter 1 = .ok (.bipush 32, 2) := by decide +kernel
theorem dX10_letter_3 : decode cX10_letter 3 = .ok (.if_icmp .lt 9, 3) := by decide +kernel
theorem dX10_letter_6 : decode cX10_letter 6 = .ok (.iload_n 1, 1) := by decide +kernel
theorem dX10_letter_7 : decode cX10_letter 7 = .ok (.bipush 126, 2) := by decide +kernel
theorem dX10_letter_9 : decode cX10_letter 9 = .ok (.if_icmp .le 6, 3) := by decide +kernel
theorem dX10_letter_12 : decode cX10_letter 12 = .ok (.bipush (-102), 2) := by decide +kernel
theorem dX10_letter_14 : decode cX10_letter 14 = .ok (.ireturn, 1) := by decide +kernel
theorem dX10_letter_15 : decode cX10_letter 15 = .ok (.aload_n 0, 1) := by decide +kernel
theorem dX10_letter_16 : decode cX10_letter 16 = .ok (.getfield 21, 3) := by decide +kernel
theorem dX10_letter_19 : decode cX10_letter 19 = .ok (.invokevirtual 83, 3) := by decide +kernel
theorem dX10_letter_22 : decode cX10_letter 22 = .ok (.bipush 56, 2) := by decide +kernel
theorem dX10_letter_24 : decode cX10_letter 24 = .ok (.if_icmp .lt 6, 3) := by decide +kernel
theorem dX10_letter_27 : decode cX10_letter 27 = .ok (.bipush (-104), 2) := by decide +kernel
theorem dX10_letter_29 : decode cX10_letter 29 = .ok (.ireturn, 1) := by decide +kernel
theorem dX10_letter_30 : decode cX10_letter 30 = .ok (.aload_n 0, 1) := by decide +kernel
theorem dX10_letter_31 : decode cX10_letter 31 = .ok (.getfield 21, 3) := by decide +kernel
theorem dX10_letter_34 : decode cX10_letter 34 = .ok (.iload_n 1, 1) := by decide +kernel
theorem dX10_letter_35 : decode cX10_letter 35 = .ok (.invokevirtual 87, 3) := by decide +kernel
theorem dX10_letter_38 : decode cX10_letter 38 = .ok (.aload_n 0, 1) := by decide +kernel
theorem dX10_letter_39 : decode cX10_letter 39 = .ok (.getfield 21, 3) := by decide +kernel
theorem dX10_letter_42 : decode cX10_letter 42 = .ok (.invokevirtual 83, 3) := by decide +kernel
theorem dX10_letter_45 : decode cX10_letter 45 = .ok (.ireturn, 1) := by decide +kernel
theorem dX10_blank_0 : decode cX10_blank 0 = .ok (.aload_n 0, 1) := by decide +kernel
theorem dX10_blank_1 : decode cX10_blank 1 = .ok (.getfield 21, 3) := by decide +kernel
theorem dX10_blank_4 : decode cX10_blank 4 = .ok (.invokevirtual 83, 3) := by decide +kernel
theorem dX10_blank_7 : decode cX10_blank 7 = .ok (.istore_n 1, 1) := by decide +kernel
theorem dX10_blank_8 : decode cX10_blank 8 = .ok (.aload_n 0, 1) := by decide +kernel
theorem dX10_blank_9 : decode cX10_blank 9 = .ok (.getfield 21, 3) := by decide +kernel
theorem dX10_blank_12 : decode cX10_blank 12 = .ok (.invokevirtual 90, 3) := by decide +kernel
theorem dX10_blank_15 : decode cX10_blank 15 = .ok (.iload_n 1, 1) := by decide +kernel
theorem dX10_blank_16 : decode cX10_blank 16 = .ok (.ireturn, 1) := by decide +kernel
theorem dX10_fault_0 : decode cX10_fault 0 = .ok (.aload_n 0, 1) := by decide +kernel
theorem dX10_fault_1 : decode cX10_fault 1 = .ok (.getfield 34, 3) := by decide +kernel
theorem dX10_fault_4 : decode cX10_fault 4 = .ok (.aload_n 0, 1) := by decide +kernel
theorem dX10_fault_5 : decode cX10_fault 5 = .ok (.getfield 21, 3) := by decide +kernel
theorem dX10_fault_8 : decode cX10_fault 8 = .ok (.invokevirtual 93, 3) := by decide +kernel
theorem dX10_fault_11 : decode cX10_fault 11 = .ok (.ireturn, 1) := by decide +kernel
theorem dX10_table_0 : decode cX10_table 0 = .ok (.aload_n 0, 1) := by decide +kernel
theorem dX10_table_1 : decode cX10_table 1 = .ok (.getfield 34, 3) := by decide +kernel
theorem dX10_table_4 : decode cX10_table 4 = .ok (.aload_n 0, 1) := by decide +kernel
theorem dX10_table_5 : decode cX10_table 5 = .ok (.getfield 21, 3) := by decide +kernel
theorem dX10_table_8 : decode cX10_table 8 = .ok (.invokevirtual 97, 3) := by decide +kernel
theorem dX10_table_11 : decode cX10_table 11 = .ok (.ifCond .ne 6, 3) := by decide +kernel
theorem dX10_table_14 : decode cX10_table 14 = .ok (.bipush (-103), 2) := by decide +kernel
theorem dX10_table_16 : decode cX10_table 16 = .ok (.ireturn, 1) := by decide +kernel
theorem dX10_table_17 : decode cX10_table 17 = .ok (.aload_n 0, 1) := by decide +kernel
theorem dX10_table_18 : decode cX10_table 18 = .ok (.getfield 10, 3) := by decide +kernel
theorem dX10_table_21 : decode cX10_table 21 = .ok (.aload_n 0, 1) := by decide +kernel
theorem dX10_table_22 : decode cX10_table 22 = .ok (.getfield 34, 3) := by decide +kernel
theorem dX10_table_25 : decode cX10_table 25 = .ok (.getfield 101, 3) := by decide +kernel
theorem dX10_table_28 : decode cX10_table 28 = .ok (.aload_n 0, 1) := by decide +kernel
theorem dX10_table_29 : decode cX10_table 29 = .ok (.getfield 34, 3) := by decide +kernel
theorem dX10_table_32 : decode cX10_table 32 = .ok (.getfield 104, 3) := by decide +kernel
theorem dX10_table_35 : decode cX10_table 35 = .ok (.invokevirtual 107, 3) := by decide +kernel
theorem dX10_table_38 : decode cX10_table 38 = .ok (.aload_n 0, 1) := by decide +kernel
theorem dX10_table_39 : decode cX10_table 39 = .ok (.invokevirtual 111, 3) := by decide +kernel
theorem dX10_table_42 : decode cX10_table 42 = .ok (.aload_n 0, 1) := by decide +kernel
theorem dX10_table_43 : decode cX10_table 43 = .ok (.getfield 25, 3) := by decide +kernel
theorem dX10_table_46 : decode cX10_table 46 = .ok (.invokevirtual 90, 3) := by decide +kernel
theorem dX10_table_49 : decode cX10_table 49 = .ok (.aload_n 0, 1) := by decide +kernel
theorem dX10_table_50 : decode cX10_table 50 = .ok (.getfield 21, 3) := by decide +kernel
theorem dX10_table_53 : decode cX10_table 53 = .ok (.invokevirtual 90, 3) := by decide +kernel
theorem dX10_table_56 : decode cX10_table 56 = .ok (.aload_n 0, 1) := by decide +kernel
theorem dX10_table_57 : decode cX10_table 57 = .ok (.dup, 1) := by decide +kernel
theorem dX10_table_58 : decode cX10_table 58 = .ok (.getfield 73, 3) := by decide +kernel
theorem dX10_table_61 : decode cX10_table 61 = .ok (.iconst 1, 1) := by decide +kernel
theorem dX10_table_62 : decode cX10_table 62 = .ok (.iadd, 1) := by decide +kernel
theorem dX10_table_63 : decode cX10_table 63 = .ok (.putfield 73, 3) := by decide +kernel
theorem dX10_table_66 : decode cX10_table 66 = .ok (.aload_n 0, 1) := by decide +kernel
theorem dX10_table_67 : decode cX10_table 67 = .ok (.getfield 10, 3) := by decide +kernel
theorem dX10_table_70 : decode cX10_table 70 = .ok (.invokevirtual 114, 3) := by decide +kernel
theorem dX10_table_73 : decode cX10_table 73 = .ok (.ireturn, 1) := by decide +kernel
theorem dX10_turn_0 : decode cX10_turn 0 = .ok (.aload_n 0, 1) := by decide +kernel
theorem dX10_turn_1 : decode cX10_turn 1 = .ok (.getfield 21, 3) := by decide +kernel
theorem dX10_turn_4 : decode cX10_turn 4 = .ok (.invokevirtual 83, 3) := by decide +kernel
theorem dX10_turn_7 : decode cX10_turn 7 = .ok (.bipush 12, 2) := by decide +kernel
theorem dX10_turn_9 : decode cX10_turn 9 = .ok (.if_icmp .gt 13, 3) := by decide +kernel
theorem dX10_turn_12 : decode cX10_turn 12 = .ok (.aload_n 0, 1) := by decide +kernel
theorem dX10_turn_13 : decode cX10_turn 13 = .ok (.getfield 21, 3) := by decide +kernel
theorem dX10_turn_16 : decode cX10_turn 16 = .ok (.invokestatic 115, 3) := by decide +kernel
theorem dX10_turn_19 : decode cX10_turn 19 = .ok (.ifCond .ne 6, 3) := by decide +kernel
theorem dX10_turn_22 : decode cX10_turn 22 = .ok (.bipush (-103), 2) := by decide +kernel
theorem dX10_turn_24 : decode cX10_turn 24 = .ok (.ireturn, 1) := by decide +kernel
theorem dX10_turn_25 : decode cX10_turn 25 = .ok (.aload_n 0, 1) := by decide +kernel
theorem dX10_turn_26 : decode cX10_turn 26 = .ok (.getfield 10, 3) := by decide +kernel
theorem dX10_turn_29 : decode cX10_turn 29 = .ok (.getfield 118, 3) := by decide +kernel
theorem dX10_turn_32 : decode cX10_turn 32 = .ok (.aload_n 0, 1) := by decide +kernel
theorem dX10_turn_33 : decode cX10_turn 33 = .ok (.getfield 21, 3) := by decide +kernel
theorem dX10_turn_36 : decode cX10_turn 36 = .ok (.aload_n 0, 1) := by decide +kernel
theorem dX10_turn_37 : decode cX10_turn 37 = .ok (.getfield 28, 3) := by decide +kernel
theorem dX10_turn_40 : decode cX10_turn 40 = .ok (.invokestatic 119, 3) := by decide +kernel
theorem dX10_turn_43 : decode cX10_turn 43 = .ok (.istore_n 1, 1) := by decide +kernel
theorem dX10_turn_44 : decode cX10_turn 44 = .ok (.iload_n 1, 1) := by decide +kernel
theorem dX10_turn_45 : decode cX10_turn 45 = .ok (.aload_n 0, 1) := by decide +kernel
theorem dX10_turn_46 : decode cX10_turn 46 = .ok (.getfield 21, 3) := by decide +kernel
theorem dX10_turn_49 : decode cX10_turn 49 = .ok (.invokevirtual 83, 3) := by decide +kernel
theorem dX10_turn_52 : decode cX10_turn 52 = .ok (.if_icmp .ge 9, 3) := by decide +kernel
theorem dX10_turn_55 : decode cX10_turn 55 = .ok (.sipush (-1000), 3) := by decide +kernel
theorem dX10_turn_58 : decode cX10_turn 58 = .ok (.iload_n 1, 1) := by decide +kernel
theorem dX10_turn_59 : decode cX10_turn 59 = .ok (.isub, 1) := by decide +kernel
theorem dX10_turn_60 : decode cX10_turn 60 = .ok (.ireturn, 1) := by decide +kernel
theorem dX10_turn_61 : decode cX10_turn 61 = .ok (.aload_n 0, 1) := by decide +kernel
theorem dX10_turn_62 : decode cX10_turn 62 = .ok (.getfield 10, 3) := by decide +kernel
theorem dX10_turn_65 : decode cX10_turn 65 = .ok (.aload_n 0, 1) := by decide +kernel
theorem dX10_turn_66 : decode cX10_turn 66 = .ok (.getfield 28, 3) := by decide +kernel
theorem dX10_turn_69 : decode cX10_turn 69 = .ok (.aload_n 0, 1) := by decide +kernel
theorem dX10_turn_70 : decode cX10_turn 70 = .ok (.getfield 25, 3) := by decide +kernel
theorem dX10_turn_73 : decode cX10_turn 73 = .ok (.invokevirtual 125, 3) := by decide +kernel
theorem dX10_turn_76 : decode cX10_turn 76 = .ok (.aload_n 0, 1) := by decide +kernel
theorem dX10_turn_77 : decode cX10_turn 77 = .ok (.getfield 21, 3) := by decide +kernel
theorem dX10_turn_80 : decode cX10_turn 80 = .ok (.invokevirtual 90, 3) := by decide +kernel
theorem dX10_turn_83 : decode cX10_turn 83 = .ok (.aload_n 0, 1) := by decide +kernel
theorem dX10_turn_84 : decode cX10_turn 84 = .ok (.dup, 1) := by decide +kernel
theorem dX10_turn_85 : decode cX10_turn 85 = .ok (.getfield 77, 3) := by decide +kernel
theorem dX10_turn_88 : decode cX10_turn 88 = .ok (.iconst 1, 1) := by decide +kernel
theorem dX10_turn_89 : decode cX10_turn 89 = .ok (.iadd, 1) := by decide +kernel
theorem dX10_turn_90 : decode cX10_turn 90 = .ok (.putfield 77, 3) := by decide +kernel
theorem dX10_turn_93 : decode cX10_turn 93 = .ok (.aload_n 0, 1) := by decide +kernel
theorem dX10_turn_94 : decode cX10_turn 94 = .ok (.getfield 28, 3) := by decide +kernel
theorem dX10_turn_97 : decode cX10_turn 97 = .ok (.invokevirtual 83, 3) := by decide +kernel
theorem dX10_turn_100 : decode cX10_turn 100 = .ok (.ireturn, 1) := by decide +kernel
theorem dX10_text_0 : decode cX10_text 0 = .ok (.aload_n 0, 1) := by decide +kernel
theorem dX10_text_1 : decode cX10_text 1 = .ok (.getfield 21, 3) := by decide +kernel
theorem dX10_text_4 : decode cX10_text 4 = .ok (.invokestatic 128, 3) := by decide +kernel
theorem dX10_text_7 : decode cX10_text 7 = .ok (.ifCond .ne 6, 3) := by decide +kernel
theorem dX10_text_10 : decode cX10_text 10 = .ok (.bipush (-103), 2) := by decide +kernel
theorem dX10_text_12 : decode cX10_text 12 = .ok (.ireturn, 1) := by decide +kernel
theorem dX10_text_13 : decode cX10_text 13 = .ok (.aload_n 0, 1) := by decide +kernel
theorem dX10_text_14 : decode cX10_text 14 = .ok (.getfield 25, 3) := by decide +kernel
theorem dX10_text_17 : decode cX10_text 17 = .ok (.aload_n 0, 1) := by decide +kernel
theorem dX10_text_18 : decode cX10_text 18 = .ok (.getfield 21, 3) := by decide +kernel
theorem dX10_text_21 : decode cX10_text 21 = .ok (.invokevirtual 131, 3) := by decide +kernel
theorem dX10_text_24 : decode cX10_text 24 = .ok (.aload_n 0, 1) := by decide +kernel
theorem dX10_text_25 : decode cX10_text 25 = .ok (.getfield 21, 3) := by decide +kernel
theorem dX10_text_28 : decode cX10_text 28 = .ok (.invokevirtual 90, 3) := by decide +kernel
theorem dX10_text_31 : decode cX10_text 31 = .ok (.aload_n 0, 1) := by decide +kernel
theorem dX10_text_32 : decode cX10_text 32 = .ok (.dup, 1) := by decide +kernel
theorem dX10_text_33 : decode cX10_text 33 = .ok (.getfield 80, 3) := by decide +kernel
theorem dX10_text_36 : decode cX10_text 36 = .ok (.iconst 1, 1) := by decide +kernel
theorem dX10_text_37 : decode cX10_text 37 = .ok (.iadd, 1) := by decide +kernel
theorem dX10_text_38 : decode cX10_text 38 = .ok (.putfield 80, 3) := by decide +kernel
theorem dX10_text_41 : decode cX10_text 41 = .ok (.aload_n 0, 1) := by decide +kernel
theorem dX10_text_42 : decode cX10_text 42 = .ok (.getfield 25, 3) := by decide +kernel
theorem dX10_text_45 : decode cX10_text 45 = .ok (.invokevirtual 83, 3) := by decide +kernel
theorem dX10_text_48 : decode cX10_text 48 = .ok (.ireturn, 1) := by decide +kernel
theorem dX10_mark_0 : decode cX10_mark 0 = .ok (.aload_n 0, 1) := by decide +kernel
theorem dX10_mark_1 : decode cX10_mark 1 = .ok (.getfield 10, 3) := by decide +kernel
theorem dX10_mark_4 : decode cX10_mark 4 = .ok (.iload_n 1, 1) := by decide +kernel
theorem dX10_mark_5 : decode cX10_mark 5 = .ok (.invokevirtual 135, 3) := by decide +kernel
theorem dX10_mark_8 : decode cX10_mark 8 = .ok (.ifCond .ne 6, 3) := by decide +kernel
theorem dX10_mark_11 : decode cX10_mark 11 = .ok (.bipush (-101), 2) := by decide +kernel
theorem dX10_mark_13 : decode cX10_mark 13 = .ok (.ireturn, 1) := by decide +kernel
theorem dX10_mark_14 : decode cX10_mark 14 = .ok (.aload_n 0, 1) := by decide +kernel
theorem dX10_mark_15 : decode cX10_mark 15 = .ok (.getfield 10, 3) := by decide +kernel
theorem dX10_mark_18 : decode cX10_mark 18 = .ok (.iload_n 1, 1) := by decide +kernel
theorem dX10_mark_19 : decode cX10_mark 19 = .ok (.invokevirtual 139, 3) := by decide +kernel
theorem dX10_mark_22 : decode cX10_mark 22 = .ok (.aload_n 0, 1) := by decide +kernel
theorem dX10_mark_23 : decode cX10_mark 23 = .ok (.iconst 0, 1) := by decide +kernel
theorem dX10_mark_24 : decode cX10_mark 24 = .ok (.putfield 66, 3) := by decide +kernel
theorem dX10_mark_27 : decode cX10_mark 27 = .ok (.aload_n 0, 1) := by decide +kernel
theorem dX10_mark_28 : decode cX10_mark 28 = .ok (.getfield 10, 3) := by decide +kernel
theorem dX10_mark_31 : decode cX10_mark 31 = .ok (.iload_n 1, 1) := by decide +kernel
theorem dX10_mark_32 : decode cX10_mark 32 = .ok (.invokevirtual 142, 3) := by decide +kernel
theorem dX10_mark_35 : decode cX10_mark 35 = .ok (.ifCond .eq 7, 3) := by decide +kernel
theorem dX10_mark_38 : decode cX10_mark 38 = .ok (.iconst 1, 1) := by decide +kernel
theorem dX10_mark_39 : decode cX10_mark 39 = .ok (.goto 4, 3) := by decide +kernel
theorem dX10_mark_42 : decode cX10_mark 42 = .ok (.iconst 0, 1) := by decide +kernel
theorem dX10_mark_43 : decode cX10_mark 43 = .ok (.ireturn, 1) := by decide +kernel
theorem dX10_drop_0 : decode cX10_drop 0 = .ok (.aload_n 0, 1) := by decide +kernel
theorem dX10_drop_1 : decode cX10_drop 1 = .ok (.getfield 10, 3) := by decide +kernel
theorem dX10_drop_4 : decode cX10_drop 4 = .ok (.iload_n 1, 1) := by decide +kernel
theorem dX10_drop_5 : decode cX10_drop 5 = .ok (.invokevirtual 135, 3) := by decide +kernel
theorem dX10_drop_8 : decode cX10_drop 8 = .ok (.ifCond .ne 6, 3) := by decide +kernel
theorem dX10_drop_11 : decode cX10_drop 11 = .ok (.bipush (-101), 2) := by decide +kernel
theorem dX10_drop_13 : decode cX10_drop 13 = .ok (.ireturn, 1) := by decide +kernel
theorem dX10_drop_14 : decode cX10_drop 14 = .ok (.aload_n 0, 1) := by decide +kernel
theorem dX10_drop_15 : decode cX10_drop 15 = .ok (.getfield 10, 3) := by decide +kernel
theorem dX10_drop_18 : decode cX10_drop 18 = .ok (.iload_n 1, 1) := by decide +kernel
theorem dX10_drop_19 : decode cX10_drop 19 = .ok (.invokevirtual 145, 3) := by decide +kernel
theorem dX10_drop_22 : decode cX10_drop 22 = .ok (.aload_n 0, 1) := by decide +kernel
theorem dX10_drop_23 : decode cX10_drop 23 = .ok (.invokevirtual 111, 3) := by decide +kernel
theorem dX10_drop_26 : decode cX10_drop 26 = .ok (.aload_n 0, 1) := by decide +kernel
theorem dX10_drop_27 : decode cX10_drop 27 = .ok (.getfield 10, 3) := by decide +kernel
theorem dX10_drop_30 : decode cX10_drop 30 = .ok (.invokevirtual 114, 3) := by decide +kernel
theorem dX10_drop_33 : decode cX10_drop 33 = .ok (.ireturn, 1) := by decide +kernel
theorem dX10_rule_0 : decode cX10_rule 0 = .ok (.aload_n 0, 1) := by decide +kernel
theorem dX10_rule_1 : decode cX10_rule 1 = .ok (.getfield 10, 3) := by decide +kernel
theorem dX10_rule_4 : decode cX10_rule 4 = .ok (.iload_n 1, 1) := by decide +kernel
theorem dX10_rule_5 : decode cX10_rule 5 = .ok (.invokevirtual 135, 3) := by decide +kernel
theorem dX10_rule_8 : decode cX10_rule 8 = .ok (.ifCond .ne 6, 3) := by decide +kernel
theorem dX10_rule_11 : decode cX10_rule 11 = .ok (.bipush (-101), 2) := by decide +kernel
theorem dX10_rule_13 : decode cX10_rule 13 = .ok (.ireturn, 1) := by decide +kernel
theorem dX10_rule_14 : decode cX10_rule 14 = .ok (.iload_n 2, 1) := by decide +kernel
theorem dX10_rule_15 : decode cX10_rule 15 = .ok (.tableswitch 104 0 4 #[33, 48, 63, 80, 92], 33) := by decide +kernel
theorem dX10_rule_48 : decode cX10_rule 48 = .ok (.aload_n 0, 1) := by decide +kernel
theorem dX10_rule_49 : decode cX10_rule 49 = .ok (.getfield 10, 3) := by decide +kernel
theorem dX10_rule_52 : decode cX10_rule 52 = .ok (.getfield 118, 3) := by decide +kernel
theorem dX10_rule_55 : decode cX10_rule 55 = .ok (.iload_n 1, 1) := by decide +kernel
theorem dX10_rule_56 : decode cX10_rule 56 = .ok (.invokevirtual 148, 3) := by decide +kernel
theorem dX10_rule_59 : decode cX10_rule 59 = .ok (.invokestatic 152, 3) := by decide +kernel
theorem dX10_rule_62 : decode cX10_rule 62 = .ok (.ireturn, 1) := by decide +kernel
theorem dX10_rule_63 : decode cX10_rule 63 = .ok (.aload_n 0, 1) := by decide +kernel
theorem dX10_rule_64 : decode cX10_rule 64 = .ok (.getfield 10, 3) := by decide +kernel
theorem dX10_rule_67 : decode cX10_rule 67 = .ok (.getfield 156, 3) := by decide +kernel
theorem dX10_rule_70 : decode cX10_rule 70 = .ok (.iload_n 1, 1) := by decide +kernel
theorem dX10_rule_71 : decode cX10_rule 71 = .ok (.invokevirtual 148, 3) := by decide +kernel
theorem dX10_rule_74 : decode cX10_rule 74 = .ok (.invokestatic 152, 3) := by decide +kernel
theorem dX10_rule_77 : decode cX10_rule 77 = .ok (.ireturn, 1) := by decide +kernel
theorem dX10_rule_78 : decode cX10_rule 78 = .ok (.aload_n 0, 1) := by decide +kernel
theorem dX10_rule_79 : decode cX10_rule 79 = .ok (.getfield 10, 3) := by decide +kernel
theorem dX10_rule_82 : decode cX10_rule 82 = .ok (.iload_n 1, 1) := by decide +kernel
theorem dX10_rule_83 : decode cX10_rule 83 = .ok (.invokevirtual 142, 3) := by decide +kernel
theorem dX10_rule_86 : decode cX10_rule 86 = .ok (.ifCond .eq 7, 3) := by decide +kernel
theorem dX10_rule_89 : decode cX10_rule 89 = .ok (.iconst 1, 1) := by decide +kernel
theorem dX10_rule_90 : decode cX10_rule 90 = .ok (.goto 4, 3) := by decide +kernel
theorem dX10_rule_93 : decode cX10_rule 93 = .ok (.iconst 0, 1) := by decide +kernel
theorem dX10_rule_94 : decode cX10_rule 94 = .ok (.ireturn, 1) := by decide +kernel
theorem dX10_rule_95 : decode cX10_rule 95 = .ok (.aload_n 0, 1) := by decide +kernel
theorem dX10_rule_96 : decode cX10_rule 96 = .ok (.getfield 10, 3) := by decide +kernel
theorem dX10_rule_99 : decode cX10_rule 99 = .ok (.getfield 157, 3) := by decide +kernel
theorem dX10_rule_102 : decode cX10_rule 102 = .ok (.iload_n 1, 1) := by decide +kernel
theorem dX10_rule_103 : decode cX10_rule 103 = .ok (.invokestatic 160, 3) := by decide +kernel
theorem dX10_rule_106 : decode cX10_rule 106 = .ok (.ireturn, 1) := by decide +kernel
theorem dX10_rule_107 : decode cX10_rule 107 = .ok (.aload_n 0, 1) := by decide +kernel
theorem dX10_rule_108 : decode cX10_rule 108 = .ok (.getfield 10, 3) := by decide +kernel
theorem dX10_rule_111 : decode cX10_rule 111 = .ok (.getfield 118, 3) := by decide +kernel
theorem dX10_rule_114 : decode cX10_rule 114 = .ok (.iload_n 1, 1) := by decide +kernel
theorem dX10_rule_115 : decode cX10_rule 115 = .ok (.invokestatic 160, 3) := by decide +kernel
theorem dX10_rule_118 : decode cX10_rule 118 = .ok (.ireturn, 1) := by decide +kernel
theorem dX10_rule_119 : decode cX10_rule 119 = .ok (.bipush (-102), 2) := by decide +kernel
theorem dX10_rule_121 : decode cX10_rule 121 = .ok (.ireturn, 1) := by decide +kernel
theorem dX10_sign_0 : decode cX10_sign 0 = .ok (.aload_n 0, 1) := by decide +kernel
theorem dX10_sign_1 : decode cX10_sign 1 = .ok (.getfield 10, 3) := by decide +kernel
theorem dX10_sign_4 : decode cX10_sign 4 = .ok (.iload_n 1, 1) := by decide +kernel
theorem dX10_sign_5 : decode cX10_sign 5 = .ok (.invokevirtual 135, 3) := by decide +kernel
theorem dX10_sign_8 : decode cX10_sign 8 = .ok (.ifCond .ne 6, 3) := by decide +kernel
theorem dX10_sign_11 : decode cX10_sign 11 = .ok (.bipush (-101), 2) := by decide +kernel
theorem dX10_sign_13 : decode cX10_sign 13 = .ok (.ireturn, 1) := by decide +kernel
theorem dX10_sign_14 : decode cX10_sign 14 = .ok (.iload_n 2, 1) := by decide +kernel
theorem dX10_sign_15 : decode cX10_sign 15 = .ok (.ifCond .lt 8, 3) := by decide +kernel
theorem dX10_sign_18 : decode cX10_sign 18 = .ok (.iload_n 2, 1) := by decide +kernel
theorem dX10_sign_19 : decode cX10_sign 19 = .ok (.iconst 1, 1) := by decide +kernel
theorem dX10_sign_20 : decode cX10_sign 20 = .ok (.if_icmp .le 6, 3) := by decide +kernel
theorem dX10_sign_23 : decode cX10_sign 23 = .ok (.bipush (-102), 2) := by decide +kernel
theorem dX10_sign_25 : decode cX10_sign 25 = .ok (.ireturn, 1) := by decide +kernel
theorem dX10_sign_26 : decode cX10_sign 26 = .ok (.iload_n 2, 1) := by decide +kernel
theorem dX10_sign_27 : decode cX10_sign 27 = .ok (.ifCond .ne 17, 3) := by decide +kernel
theorem dX10_sign_30 : decode cX10_sign 30 = .ok (.aload_n 0, 1) := by decide +kernel
theorem dX10_sign_31 : decode cX10_sign 31 = .ok (.getfield 10, 3) := by decide +kernel
theorem dX10_sign_34 : decode cX10_sign 34 = .ok (.getfield 118, 3) := by decide +kernel
theorem dX10_sign_37 : decode cX10_sign 37 = .ok (.iload_n 1, 1) := by decide +kernel
theorem dX10_sign_38 : decode cX10_sign 38 = .ok (.invokevirtual 148, 3) := by decide +kernel
theorem dX10_sign_41 : decode cX10_sign 41 = .ok (.goto 14, 3) := by decide +kernel
theorem dX10_sign_44 : decode cX10_sign 44 = .ok (.aload_n 0, 1) := by decide +kernel
theorem dX10_sign_45 : decode cX10_sign 45 = .ok (.getfield 10, 3) := by decide +kernel
theorem dX10_sign_48 : decode cX10_sign 48 = .ok (.getfield 157, 3) := by decide +kernel
theorem dX10_sign_51 : decode cX10_sign 51 = .ok (.iload_n 1, 1) := by decide +kernel
theorem dX10_sign_52 : decode cX10_sign 52 = .ok (.invokevirtual 148, 3) := by decide +kernel
theorem dX10_sign_55 : decode cX10_sign 55 = .ok (.iload_n 3, 1) := by decide +kernel
theorem dX10_sign_56 : decode cX10_sign 56 = .ok (.invokestatic 164, 3) := by decide +kernel
theorem dX10_sign_59 : decode cX10_sign 59 = .ok (.ireturn, 1) := by decide +kernel
theorem dX10_ink_0 : decode cX10_ink 0 = .ok (.aload_n 0, 1) := by decide +kernel
theorem dX10_ink_1 : decode cX10_ink 1 = .ok (.getfield 25, 3) := by decide +kernel
theorem dX10_ink_4 : decode cX10_ink 4 = .ok (.iload_n 1, 1) := by decide +kernel
theorem dX10_ink_5 : decode cX10_ink 5 = .ok (.invokevirtual 148, 3) := by decide +kernel
theorem dX10_ink_8 : decode cX10_ink 8 = .ok (.ireturn, 1) := by decide +kernel
theorem dX10_back_0 : decode cX10_back 0 = .ok (.iload_n 1, 1) := by decide +kernel
theorem dX10_back_1 : decode cX10_back 1 = .ok (.ifCond .lt 8, 3) := by decide +kernel
theorem dX10_back_4 : decode cX10_back 4 = .ok (.iload_n 1, 1) := by decide +kernel
theorem dX10_back_5 : decode cX10_back 5 = .ok (.iconst 1, 1) := by decide +kernel
theorem dX10_back_6 : decode cX10_back 6 = .ok (.if_icmp .le 6, 3) := by decide +kernel
theorem dX10_back_9 : decode cX10_back 9 = .ok (.bipush (-102), 2) := by decide +kernel
theorem dX10_back_11 : decode cX10_back 11 = .ok (.ireturn, 1) := by decide +kernel
theorem dX10_back_12 : decode cX10_back 12 = .ok (.aload_n 0, 1) := by decide +kernel
theorem dX10_back_13 : decode cX10_back 13 = .ok (.getfield 10, 3) := by decide +kernel
theorem dX10_back_16 : decode cX10_back 16 = .ok (.getfield 157, 3) := by decide +kernel
theorem dX10_back_19 : decode cX10_back 19 = .ok (.aload_n 0, 1) := by decide +kernel
theorem dX10_back_20 : decode cX10_back 20 = .ok (.getfield 25, 3) := by decide +kernel
theorem dX10_back_23 : decode cX10_back 23 = .ok (.aload_n 0, 1) := by decide +kernel
theorem dX10_back_24 : decode cX10_back 24 = .ok (.getfield 28, 3) := by decide +kernel
theorem dX10_back_27 : decode cX10_back 27 = .ok (.invokestatic 119, 3) := by decide +kernel
theorem dX10_back_30 : decode cX10_back 30 = .ok (.istore_n 2, 1) := by decide +kernel
theorem dX10_back_31 : decode cX10_back 31 = .ok (.iload_n 1, 1) := by decide +kernel
theorem dX10_back_32 : decode cX10_back 32 = .ok (.ifCond .ne 11, 3) := by decide +kernel
theorem dX10_back_35 : decode cX10_back 35 = .ok (.aload_n 0, 1) := by decide +kernel
theorem dX10_back_36 : decode cX10_back 36 = .ok (.getfield 28, 3) := by decide +kernel
theorem dX10_back_39 : decode cX10_back 39 = .ok (.invokevirtual 83, 3) := by decide +kernel
theorem dX10_back_42 : decode cX10_back 42 = .ok (.ireturn, 1) := by decide +kernel
theorem dX10_back_43 : decode cX10_back 43 = .ok (.aload_n 0, 1) := by decide +kernel
theorem dX10_back_44 : decode cX10_back 44 = .ok (.iload_n 2, 1) := by decide +kernel
theorem dX10_back_45 : decode cX10_back 45 = .ok (.invokevirtual 168, 3) := by decide +kernel
theorem dX10_back_48 : decode cX10_back 48 = .ok (.ireturn, 1) := by decide +kernel
theorem dX10_backAt_0 : decode cX10_backAt 0 = .ok (.aload_n 0, 1) := by decide +kernel
theorem dX10_backAt_1 : decode cX10_backAt 1 = .ok (.getfield 10, 3) := by decide +kernel
theorem dX10_backAt_4 : decode cX10_backAt 4 = .ok (.getfield 157, 3) := by decide +kernel
theorem dX10_backAt_7 : decode cX10_backAt 7 = .ok (.aload_n 0, 1) := by decide +kernel
theorem dX10_backAt_8 : decode cX10_backAt 8 = .ok (.getfield 25, 3) := by decide +kernel
theorem dX10_backAt_11 : decode cX10_backAt 11 = .ok (.aload_n 0, 1) := by decide +kernel
theorem dX10_backAt_12 : decode cX10_backAt 12 = .ok (.getfield 28, 3) := by decide +kernel
theorem dX10_backAt_15 : decode cX10_backAt 15 = .ok (.invokestatic 119, 3) := by decide +kernel
theorem dX10_backAt_18 : decode cX10_backAt 18 = .ok (.pop, 1) := by decide +kernel
theorem dX10_backAt_19 : decode cX10_backAt 19 = .ok (.aload_n 0, 1) := by decide +kernel
theorem dX10_backAt_20 : decode cX10_backAt 20 = .ok (.getfield 28, 3) := by decide +kernel
theorem dX10_backAt_23 : decode cX10_backAt 23 = .ok (.iload_n 1, 1) := by decide +kernel
theorem dX10_backAt_24 : decode cX10_backAt 24 = .ok (.invokevirtual 148, 3) := by decide +kernel
theorem dX10_backAt_27 : decode cX10_backAt 27 = .ok (.ireturn, 1) := by decide +kernel
theorem dX10_ways_0 : decode cX10_ways 0 = .ok (.aload_n 0, 1) := by decide +kernel
theorem dX10_ways_1 : decode cX10_ways 1 = .ok (.getfield 41, 3) := by decide +kernel
theorem dX10_ways_4 : decode cX10_ways 4 = .ok (.aload_n 0, 1) := by decide +kernel
theorem dX10_ways_5 : decode cX10_ways 5 = .ok (.getfield 10, 3) := by decide +kernel
theorem dX10_ways_8 : decode cX10_ways 8 = .ok (.getfield 157, 3) := by decide +kernel
theorem dX10_ways_11 : decode cX10_ways 11 = .ok (.aload_n 0, 1) := by decide +kernel
theorem dX10_ways_12 : decode cX10_ways 12 = .ok (.getfield 25, 3) := by decide +kernel
theorem dX10_ways_15 : decode cX10_ways 15 = .ok (.invokevirtual 171, 3) := by decide +kernel
theorem dX10_ways_18 : decode cX10_ways 18 = .ok (.aload_n 0, 1) := by decide +kernel
theorem dX10_ways_19 : decode cX10_ways 19 = .ok (.getfield 41, 3) := by decide +kernel
theorem dX10_ways_22 : decode cX10_ways 22 = .ok (.invokevirtual 174, 3) := by decide +kernel
theorem dX10_ways_25 : decode cX10_ways 25 = .ok (.ireturn, 1) := by decide +kernel
theorem dX10_first_0 : decode cX10_first 0 = .ok (.aload_n 0, 1) := by decide +kernel
theorem dX10_first_1 : decode cX10_first 1 = .ok (.getfield 41, 3) := by decide +kernel
theorem dX10_first_4 : decode cX10_first 4 = .ok (.aload_n 0, 1) := by decide +kernel
theorem dX10_first_5 : decode cX10_first 5 = .ok (.getfield 10, 3) := by decide +kernel
theorem dX10_first_8 : decode cX10_first 8 = .ok (.getfield 157, 3) := by decide +kernel
theorem dX10_first_11 : decode cX10_first 11 = .ok (.aload_n 0, 1) := by decide +kernel
theorem dX10_first_12 : decode cX10_first 12 = .ok (.getfield 25, 3) := by decide +kernel
theorem dX10_first_15 : decode cX10_first 15 = .ok (.invokevirtual 171, 3) := by decide +kernel
theorem dX10_first_18 : decode cX10_first 18 = .ok (.aload_n 0, 1) := by decide +kernel
theorem dX10_first_19 : decode cX10_first 19 = .ok (.getfield 41, 3) := by decide +kernel
theorem dX10_first_22 : decode cX10_first 22 = .ok (.aload_n 0, 1) := by decide +kernel
theorem dX10_first_23 : decode cX10_first 23 = .ok (.getfield 10, 3) := by decide +kernel
theorem dX10_first_26 : decode cX10_first 26 = .ok (.getfield 157, 3) := by decide +kernel
theorem dX10_first_29 : decode cX10_first 29 = .ok (.aload_n 0, 1) := by decide +kernel
theorem dX10_first_30 : decode cX10_first 30 = .ok (.getfield 25, 3) := by decide +kernel
theorem dX10_first_33 : decode cX10_first 33 = .ok (.iconst 0, 1) := by decide +kernel
theorem dX10_first_34 : decode cX10_first 34 = .ok (.aload_n 0, 1) := by decide +kernel
theorem dX10_first_35 : decode cX10_first 35 = .ok (.getfield 28, 3) := by decide +kernel
theorem dX10_first_38 : decode cX10_first 38 = .ok (.invokevirtual 177, 3) := by decide +kernel
theorem dX10_first_41 : decode cX10_first 41 = .ok (.aload_n 0, 1) := by decide +kernel
theorem dX10_first_42 : decode cX10_first 42 = .ok (.getfield 28, 3) := by decide +kernel
theorem dX10_first_45 : decode cX10_first 45 = .ok (.iload_n 1, 1) := by decide +kernel
theorem dX10_first_46 : decode cX10_first 46 = .ok (.invokevirtual 148, 3) := by decide +kernel
theorem dX10_first_49 : decode cX10_first 49 = .ok (.ireturn, 1) := by decide +kernel
theorem dX10_clash_0 : decode cX10_clash 0 = .ok (.iload_n 1, 1) := by decide +kernel
theorem dX10_clash_1 : decode cX10_clash 1 = .ok (.ifCond .lt 8, 3) := by decide +kernel
theorem dX10_clash_4 : decode cX10_clash 4 = .ok (.iload_n 1, 1) := by decide +kernel
theorem dX10_clash_5 : decode cX10_clash 5 = .ok (.iconst 5, 1) := by decide +kernel
theorem dX10_clash_6 : decode cX10_clash 6 = .ok (.if_icmp .le 6, 3) := by decide +kernel
theorem dX10_clash_9 : decode cX10_clash 9 = .ok (.bipush (-102), 2) := by decide +kernel
theorem dX10_clash_11 : decode cX10_clash 11 = .ok (.ireturn, 1) := by decide +kernel
theorem dX10_clash_12 : decode cX10_clash 12 = .ok (.aload_n 0, 1) := by decide +kernel
theorem dX10_clash_13 : decode cX10_clash 13 = .ok (.invokevirtual 181, 3) := by decide +kernel
theorem dX10_clash_16 : decode cX10_clash 16 = .ok (.aload_n 0, 1) := by decide +kernel
theorem dX10_clash_17 : decode cX10_clash 17 = .ok (.getfield 48, 3) := by decide +kernel
theorem dX10_clash_20 : decode cX10_clash 20 = .ok (.iload_n 1, 1) := by decide +kernel
theorem dX10_clash_21 : decode cX10_clash 21 = .ok (.invokevirtual 184, 3) := by decide +kernel
theorem dX10_clash_24 : decode cX10_clash 24 = .ok (.ireturn, 1) := by decide +kernel
theorem dX10_clashAt_0 : decode cX10_clashAt 0 = .ok (.aload_n 0, 1) := by decide +kernel
theorem dX10_clashAt_1 : decode cX10_clashAt 1 = .ok (.invokevirtual 181, 3) := by decide +kernel
theorem dX10_clashAt_4 : decode cX10_clashAt 4 = .ok (.aload_n 0, 1) := by decide +kernel
theorem dX10_clashAt_5 : decode cX10_clashAt 5 = .ok (.getfield 48, 3) := by decide +kernel
theorem dX10_clashAt_8 : decode cX10_clashAt 8 = .ok (.getfield 187, 3) := by decide +kernel
theorem dX10_clashAt_11 : decode cX10_clashAt 11 = .ok (.iload_n 1, 1) := by decide +kernel
theorem dX10_clashAt_12 : decode cX10_clashAt 12 = .ok (.invokevirtual 148, 3) := by decide +kernel
theorem dX10_clashAt_15 : decode cX10_clashAt 15 = .ok (.ireturn, 1) := by decide +kernel
theorem dX10_clashing_0 : decode cX10_clashing 0 = .ok (.iload_n 1, 1) := by decide +kernel
theorem dX10_clashing_1 : decode cX10_clashing 1 = .ok (.ifCond .lt 8, 3) := by decide +kernel
theorem dX10_clashing_4 : decode cX10_clashing 4 = .ok (.iload_n 1, 1) := by decide +kernel
theorem dX10_clashing_5 : decode cX10_clashing 5 = .ok (.iconst 1, 1) := by decide +kernel
theorem dX10_clashing_6 : decode cX10_clashing 6 = .ok (.if_icmp .le 6, 3) := by decide +kernel
theorem dX10_clashing_9 : decode cX10_clashing 9 = .ok (.bipush (-102), 2) := by decide +kernel
theorem dX10_clashing_11 : decode cX10_clashing 11 = .ok (.ireturn, 1) := by decide +kernel
theorem dX10_clashing_12 : decode cX10_clashing 12 = .ok (.aload_n 0, 1) := by decide +kernel
theorem dX10_clashing_13 : decode cX10_clashing 13 = .ok (.invokevirtual 181, 3) := by decide +kernel
theorem dX10_clashing_16 : decode cX10_clashing 16 = .ok (.iload_n 1, 1) := by decide +kernel
theorem dX10_clashing_17 : decode cX10_clashing 17 = .ok (.ifCond .ne 17, 3) := by decide +kernel
theorem dX10_clashing_20 : decode cX10_clashing 20 = .ok (.aload_n 0, 1) := by decide +kernel
theorem dX10_clashing_21 : decode cX10_clashing 21 = .ok (.getfield 48, 3) := by decide +kernel
theorem dX10_clashing_24 : decode cX10_clashing 24 = .ok (.getfield 190, 3) := by decide +kernel
theorem dX10_clashing_27 : decode cX10_clashing 27 = .ok (.iload_n 2, 1) := by decide +kernel
theorem dX10_clashing_28 : decode cX10_clashing 28 = .ok (.invokevirtual 148, 3) := by decide +kernel
theorem dX10_clashing_31 : decode cX10_clashing 31 = .ok (.goto 14, 3) := by decide +kernel
theorem dX10_clashing_34 : decode cX10_clashing 34 = .ok (.aload_n 0, 1) := by decide +kernel
theorem dX10_clashing_35 : decode cX10_clashing 35 = .ok (.getfield 48, 3) := by decide +kernel
theorem dX10_clashing_38 : decode cX10_clashing 38 = .ok (.getfield 193, 3) := by decide +kernel
theorem dX10_clashing_41 : decode cX10_clashing 41 = .ok (.iload_n 2, 1) := by decide +kernel
theorem dX10_clashing_42 : decode cX10_clashing 42 = .ok (.invokevirtual 148, 3) := by decide +kernel
theorem dX10_clashing_45 : decode cX10_clashing 45 = .ok (.ireturn, 1) := by decide +kernel
theorem dX10_ahead_0 : decode cX10_ahead 0 = .ok (.aload_n 0, 1) := by decide +kernel
theorem dX10_ahead_1 : decode cX10_ahead 1 = .ok (.invokevirtual 181, 3) := by decide +kernel
theorem dX10_ahead_4 : decode cX10_ahead 4 = .ok (.iload_n 1, 1) := by decide +kernel
theorem dX10_ahead_5 : decode cX10_ahead 5 = .ok (.ifCond .lt 20, 3) := by decide +kernel
theorem dX10_ahead_8 : decode cX10_ahead 8 = .ok (.iload_n 1, 1) := by decide +kernel
theorem dX10_ahead_9 : decode cX10_ahead 9 = .ok (.aload_n 0, 1) := by decide +kernel
theorem dX10_ahead_10 : decode cX10_ahead 10 = .ok (.getfield 48, 3) := by decide +kernel
theorem dX10_ahead_13 : decode cX10_ahead 13 = .ok (.getfield 196, 3) := by decide +kernel
theorem dX10_ahead_16 : decode cX10_ahead 16 = .ok (.getfield 200, 3) := by decide +kernel
theorem dX10_ahead_19 : decode cX10_ahead 19 = .ok (.invokevirtual 83, 3) := by decide +kernel
theorem dX10_ahead_22 : decode cX10_ahead 22 = .ok (.if_icmp .lt 6, 3) := by decide +kernel
theorem dX10_ahead_25 : decode cX10_ahead 25 = .ok (.bipush (-101), 2) := by decide +kernel
theorem dX10_ahead_27 : decode cX10_ahead 27 = .ok (.ireturn, 1) := by decide +kernel
theorem dX10_ahead_28 : decode cX10_ahead 28 = .ok (.aload_n 0, 1) := by decide +kernel
theorem dX10_ahead_29 : decode cX10_ahead 29 = .ok (.getfield 48, 3) := by decide +kernel
theorem dX10_ahead_32 : decode cX10_ahead 32 = .ok (.getfield 196, 3) := by decide +kernel
theorem dX10_ahead_35 : decode cX10_ahead 35 = .ok (.getfield 200, 3) := by decide +kernel
theorem dX10_ahead_38 : decode cX10_ahead 38 = .ok (.iload_n 1, 1) := by decide +kernel
theorem dX10_ahead_39 : decode cX10_ahead 39 = .ok (.invokevirtual 148, 3) := by decide +kernel
theorem dX10_ahead_42 : decode cX10_ahead 42 = .ok (.invokestatic 152, 3) := by decide +kernel
theorem dX10_ahead_45 : decode cX10_ahead 45 = .ok (.ireturn, 1) := by decide +kernel
theorem dX10_aheadAt_0 : decode cX10_aheadAt 0 = .ok (.aload_n 0, 1) := by decide +kernel
theorem dX10_aheadAt_1 : decode cX10_aheadAt 1 = .ok (.invokevirtual 181, 3) := by decide +kernel
theorem dX10_aheadAt_4 : decode cX10_aheadAt 4 = .ok (.iload_n 1, 1) := by decide +kernel
theorem dX10_aheadAt_5 : decode cX10_aheadAt 5 = .ok (.ifCond .lt 20, 3) := by decide +kernel
theorem dX10_aheadAt_8 : decode cX10_aheadAt 8 = .ok (.iload_n 1, 1) := by decide +kernel
theorem dX10_aheadAt_9 : decode cX10_aheadAt 9 = .ok (.aload_n 0, 1) := by decide +kernel
theorem dX10_aheadAt_10 : decode cX10_aheadAt 10 = .ok (.getfield 48, 3) := by decide +kernel
theorem dX10_aheadAt_13 : decode cX10_aheadAt 13 = .ok (.getfield 196, 3) := by decide +kernel
theorem dX10_aheadAt_16 : decode cX10_aheadAt 16 = .ok (.getfield 200, 3) := by decide +kernel
theorem dX10_aheadAt_19 : decode cX10_aheadAt 19 = .ok (.invokevirtual 83, 3) := by decide +kernel
theorem dX10_aheadAt_22 : decode cX10_aheadAt 22 = .ok (.if_icmp .lt 6, 3) := by decide +kernel
theorem dX10_aheadAt_25 : decode cX10_aheadAt 25 = .ok (.bipush (-101), 2) := by decide +kernel
theorem dX10_aheadAt_27 : decode cX10_aheadAt 27 = .ok (.ireturn, 1) := by decide +kernel
theorem dX10_aheadAt_28 : decode cX10_aheadAt 28 = .ok (.aload_n 0, 1) := by decide +kernel
theorem dX10_aheadAt_29 : decode cX10_aheadAt 29 = .ok (.getfield 48, 3) := by decide +kernel
theorem dX10_aheadAt_32 : decode cX10_aheadAt 32 = .ok (.getfield 196, 3) := by decide +kernel
theorem dX10_aheadAt_35 : decode cX10_aheadAt 35 = .ok (.getfield 200, 3) := by decide +kernel
theorem dX10_aheadAt_38 : decode cX10_aheadAt 38 = .ok (.iload_n 1, 1) := by decide +kernel
theorem dX10_aheadAt_39 : decode cX10_aheadAt 39 = .ok (.invokevirtual 148, 3) := by decide +kernel
theorem dX10_aheadAt_42 : decode cX10_aheadAt 42 = .ok (.iload_n 2, 1) := by decide +kernel
theorem dX10_aheadAt_43 : decode cX10_aheadAt 43 = .ok (.invokestatic 164, 3) := by decide +kernel
theorem dX10_aheadAt_46 : decode cX10_aheadAt 46 = .ok (.ireturn, 1) := by decide +kernel
theorem dX10_parting_0 : decode cX10_parting 0 = .ok (.iload_n 1, 1) := by decide +kernel
theorem dX10_parting_1 : decode cX10_parting 1 = .ok (.ifCond .lt 8, 3) := by decide +kernel
theorem dX10_parting_4 : decode cX10_parting 4 = .ok (.iload_n 1, 1) := by decide +kernel
theorem dX10_parting_5 : decode cX10_parting 5 = .ok (.iconst 1, 1) := by decide +kernel
theorem dX10_parting_6 : decode cX10_parting 6 = .ok (.if_icmp .le 6, 3) := by decide +kernel
theorem dX10_parting_9 : decode cX10_parting 9 = .ok (.bipush (-102), 2) := by decide +kernel
theorem dX10_parting_11 : decode cX10_parting 11 = .ok (.ireturn, 1) := by decide +kernel
theorem dX10_parting_12 : decode cX10_parting 12 = .ok (.aload_n 0, 1) := by decide +kernel
theorem dX10_parting_13 : decode cX10_parting 13 = .ok (.invokevirtual 205, 3) := by decide +kernel
theorem dX10_parting_16 : decode cX10_parting 16 = .ok (.aload_n 0, 1) := by decide +kernel
theorem dX10_parting_17 : decode cX10_parting 17 = .ok (.getfield 55, 3) := by decide +kernel
theorem dX10_parting_20 : decode cX10_parting 20 = .ok (.iload_n 1, 1) := by decide +kernel
theorem dX10_parting_21 : decode cX10_parting 21 = .ok (.invokevirtual 208, 3) := by decide +kernel
theorem dX10_parting_24 : decode cX10_parting 24 = .ok (.ireturn, 1) := by decide +kernel
theorem dX10_trial_0 : decode cX10_trial 0 = .ok (.iload_n 1, 1) := by decide +kernel
theorem dX10_trial_1 : decode cX10_trial 1 = .ok (.iconst 1, 1) := by decide +kernel
theorem dX10_trial_2 : decode cX10_trial 2 = .ok (.if_icmp .lt 22, 3) := by decide +kernel
theorem dX10_trial_5 : decode cX10_trial 5 = .ok (.iload_n 1, 1) := by decide +kernel
theorem dX10_trial_6 : decode cX10_trial 6 = .ok (.bipush 40, 2) := by decide +kernel
theorem dX10_trial_8 : decode cX10_trial 8 = .ok (.if_icmp .gt 16, 3) := by decide +kernel
theorem dX10_trial_11 : decode cX10_trial 11 = .ok (.iload_n 2, 1) := by decide +kernel
theorem dX10_trial_12 : decode cX10_trial 12 = .ok (.ifCond .lt 12, 3) := by decide +kernel
theorem dX10_trial_15 : decode cX10_trial 15 = .ok (.iload_n 3, 1) := by decide +kernel
theorem dX10_trial_16 : decode cX10_trial 16 = .ok (.ifCond .lt 8, 3) := by decide +kernel
theorem dX10_trial_19 : decode cX10_trial 19 = .ok (.iload_n 3, 1) := by decide +kernel
theorem dX10_trial_20 : decode cX10_trial 20 = .ok (.iconst 3, 1) := by decide +kernel
theorem dX10_trial_21 : decode cX10_trial 21 = .ok (.if_icmp .le 6, 3) := by decide +kernel
theorem dX10_trial_24 : decode cX10_trial 24 = .ok (.bipush (-102), 2) := by decide +kernel
theorem dX10_trial_26 : decode cX10_trial 26 = .ok (.ireturn, 1) := by decide +kernel
theorem dX10_trial_27 : decode cX10_trial 27 = .ok (.aload_n 0, 1) := by decide +kernel
theorem dX10_trial_28 : decode cX10_trial 28 = .ok (.getfield 10, 3) := by decide +kernel
theorem dX10_trial_31 : decode cX10_trial 31 = .ok (.invokevirtual 114, 3) := by decide +kernel
theorem dX10_trial_34 : decode cX10_trial 34 = .ok (.ifCond .ne 6, 3) := by decide +kernel
theorem dX10_trial_37 : decode cX10_trial 37 = .ok (.bipush (-103), 2) := by decide +kernel
theorem dX10_trial_39 : decode cX10_trial 39 = .ok (.ireturn, 1) := by decide +kernel
theorem dX10_trial_40 : decode cX10_trial 40 = .ok (.aload_n 0, 1) := by decide +kernel
theorem dX10_trial_41 : decode cX10_trial 41 = .ok (.getfield 62, 3) := by decide +kernel
theorem dX10_trial_44 : decode cX10_trial 44 = .ok (.aload_n 0, 1) := by decide +kernel
theorem dX10_trial_45 : decode cX10_trial 45 = .ok (.getfield 10, 3) := by decide +kernel
theorem dX10_trial_48 : decode cX10_trial 48 = .ok (.iload_n 1, 1) := by decide +kernel
theorem dX10_trial_49 : decode cX10_trial 49 = .ok (.iload_n 2, 1) := by decide +kernel
theorem dX10_trial_50 : decode cX10_trial 50 = .ok (.invokevirtual 209, 3) := by decide +kernel
theorem dX10_trial_53 : decode cX10_trial 53 = .ok (.aload_n 0, 1) := by decide +kernel
theorem dX10_trial_54 : decode cX10_trial 54 = .ok (.getfield 62, 3) := by decide +kernel
theorem dX10_trial_57 : decode cX10_trial 57 = .ok (.iload_n 3, 1) := by decide +kernel
theorem dX10_trial_58 : decode cX10_trial 58 = .ok (.invokevirtual 213, 3) := by decide +kernel
theorem dX10_trial_61 : decode cX10_trial 61 = .ok (.ireturn, 1) := by decide +kernel
theorem dX10_count_0 : decode cX10_count 0 = .ok (.iload_n 1, 1) := by decide +kernel
theorem dX10_count_1 : decode cX10_count 1 = .ok (.tableswitch 90 0 6 #[43, 51, 59, 67, 75, 80, 85], 43) := by decide +kernel
theorem dX10_count_44 : decode cX10_count 44 = .ok (.aload_n 0, 1) := by decide +kernel
theorem dX10_count_45 : decode cX10_count 45 = .ok (.getfield 10, 3) := by decide +kernel
theorem dX10_count_48 : decode cX10_count 48 = .ok (.invokevirtual 114, 3) := by decide +kernel
theorem dX10_count_51 : decode cX10_count 51 = .ok (.ireturn, 1) := by decide +kernel
theorem dX10_count_52 : decode cX10_count 52 = .ok (.aload_n 0, 1) := by decide +kernel
theorem dX10_count_53 : decode cX10_count 53 = .ok (.getfield 21, 3) := by decide +kernel
theorem dX10_count_56 : decode cX10_count 56 = .ok (.invokevirtual 83, 3) := by decide +kernel
theorem dX10_count_59 : decode cX10_count 59 = .ok (.ireturn, 1) := by decide +kernel
theorem dX10_count_60 : decode cX10_count 60 = .ok (.aload_n 0, 1) := by decide +kernel
theorem dX10_count_61 : decode cX10_count 61 = .ok (.getfield 25, 3) := by decide +kernel
theorem dX10_count_64 : decode cX10_count 64 = .ok (.invokevirtual 83, 3) := by decide +kernel
theorem dX10_count_67 : decode cX10_count 67 = .ok (.ireturn, 1) := by decide +kernel
theorem dX10_count_68 : decode cX10_count 68 = .ok (.aload_n 0, 1) := by decide +kernel
theorem dX10_count_69 : decode cX10_count 69 = .ok (.getfield 10, 3) := by decide +kernel
theorem dX10_count_72 : decode cX10_count 72 = .ok (.invokevirtual 214, 3) := by decide +kernel
theorem dX10_count_75 : decode cX10_count 75 = .ok (.ireturn, 1) := by decide +kernel
theorem dX10_count_76 : decode cX10_count 76 = .ok (.aload_n 0, 1) := by decide +kernel
theorem dX10_count_77 : decode cX10_count 77 = .ok (.getfield 73, 3) := by decide +kernel
theorem dX10_count_80 : decode cX10_count 80 = .ok (.ireturn, 1) := by decide +kernel
theorem dX10_count_81 : decode cX10_count 81 = .ok (.aload_n 0, 1) := by decide +kernel
theorem dX10_count_82 : decode cX10_count 82 = .ok (.getfield 77, 3) := by decide +kernel
theorem dX10_count_85 : decode cX10_count 85 = .ok (.ireturn, 1) := by decide +kernel
theorem dX10_count_86 : decode cX10_count 86 = .ok (.aload_n 0, 1) := by decide +kernel
theorem dX10_count_87 : decode cX10_count 87 = .ok (.getfield 80, 3) := by decide +kernel
theorem dX10_count_90 : decode cX10_count 90 = .ok (.ireturn, 1) := by decide +kernel
theorem dX10_count_91 : decode cX10_count 91 = .ok (.bipush (-102), 2) := by decide +kernel
theorem dX10_count_93 : decode cX10_count 93 = .ok (.ireturn, 1) := by decide +kernel
theorem dX10_digest_0 : decode cX10_digest 0 = .ok (.aload_n 0, 1) := by decide +kernel
theorem dX10_digest_1 : decode cX10_digest 1 = .ok (.invokevirtual 181, 3) := by decide +kernel
theorem dX10_digest_4 : decode cX10_digest 4 = .ok (.aload_n 0, 1) := by decide +kernel
theorem dX10_digest_5 : decode cX10_digest 5 = .ok (.invokevirtual 205, 3) := by decide +kernel
theorem dX10_digest_8 : decode cX10_digest 8 = .ok (.aload_n 0, 1) := by decide +kernel
theorem dX10_digest_9 : decode cX10_digest 9 = .ok (.ldc2_w 217, 3) := by decide +kernel
theorem dX10_digest_12 : decode cX10_digest 12 = .ok (.invokevirtual 219, 3) := by decide +kernel
theorem dX10_digest_15 : decode cX10_digest 15 = .ok (.lstore_n 1, 1) := by decide +kernel
theorem dX10_digest_16 : decode cX10_digest 16 = .ok (.lload_n 1, 1) := by decide +kernel
theorem dX10_digest_17 : decode cX10_digest 17 = .ok (.aload_n 0, 1) := by decide +kernel
theorem dX10_digest_18 : decode cX10_digest 18 = .ok (.getfield 25, 3) := by decide +kernel
theorem dX10_digest_21 : decode cX10_digest 21 = .ok (.invokestatic 223, 3) := by decide +kernel
theorem dX10_digest_24 : decode cX10_digest 24 = .ok (.lstore_n 1, 1) := by decide +kernel
theorem dX10_digest_25 : decode cX10_digest 25 = .ok (.aload_n 0, 1) := by decide +kernel
theorem dX10_digest_26 : decode cX10_digest 26 = .ok (.lload_n 1, 1) := by decide +kernel
theorem dX10_digest_27 : decode cX10_digest 27 = .ok (.invokevirtual 227, 3) := by decide +kernel
theorem dX10_digest_30 : decode cX10_digest 30 = .ok (.lstore_n 1, 1) := by decide +kernel
theorem dX10_digest_31 : decode cX10_digest 31 = .ok (.aload_n 0, 1) := by decide +kernel
theorem dX10_digest_32 : decode cX10_digest 32 = .ok (.lload_n 1, 1) := by decide +kernel
theorem dX10_digest_33 : decode cX10_digest 33 = .ok (.invokevirtual 230, 3) := by decide +kernel
theorem dX10_digest_36 : decode cX10_digest 36 = .ok (.lstore_n 1, 1) := by decide +kernel
theorem dX10_digest_37 : decode cX10_digest 37 = .ok (.lload_n 1, 1) := by decide +kernel
theorem dX10_digest_38 : decode cX10_digest 38 = .ok (.aload_n 0, 1) := by decide +kernel
theorem dX10_digest_39 : decode cX10_digest 39 = .ok (.getfield 55, 3) := by decide +kernel
theorem dX10_digest_42 : decode cX10_digest 42 = .ok (.iconst 0, 1) := by decide +kernel
theorem dX10_digest_43 : decode cX10_digest 43 = .ok (.invokevirtual 208, 3) := by decide +kernel
theorem dX10_digest_46 : decode cX10_digest 46 = .ok (.invokestatic 233, 3) := by decide +kernel
theorem dX10_digest_49 : decode cX10_digest 49 = .ok (.lstore_n 1, 1) := by decide +kernel
theorem dX10_digest_50 : decode cX10_digest 50 = .ok (.lload_n 1, 1) := by decide +kernel
theorem dX10_digest_51 : decode cX10_digest 51 = .ok (.aload_n 0, 1) := by decide +kernel
theorem dX10_digest_52 : decode cX10_digest 52 = .ok (.getfield 55, 3) := by decide +kernel
theorem dX10_digest_55 : decode cX10_digest 55 = .ok (.iconst 1, 1) := by decide +kernel
theorem dX10_digest_56 : decode cX10_digest 56 = .ok (.invokevirtual 208, 3) := by decide +kernel
theorem dX10_digest_59 : decode cX10_digest 59 = .ok (.invokestatic 233, 3) := by decide +kernel
theorem dX10_digest_62 : decode cX10_digest 62 = .ok (.lstore_n 1, 1) := by decide +kernel
theorem dX10_digest_63 : decode cX10_digest 63 = .ok (.lload_n 1, 1) := by decide +kernel
theorem dX10_digest_64 : decode cX10_digest 64 = .ok (.aload_n 0, 1) := by decide +kernel
theorem dX10_digest_65 : decode cX10_digest 65 = .ok (.getfield 21, 3) := by decide +kernel
theorem dX10_digest_68 : decode cX10_digest 68 = .ok (.invokestatic 223, 3) := by decide +kernel
theorem dX10_digest_71 : decode cX10_digest 71 = .ok (.lstore_n 1, 1) := by decide +kernel
theorem dX10_digest_72 : decode cX10_digest 72 = .ok (.iconst 0, 1) := by decide +kernel
theorem dX10_digest_73 : decode cX10_digest 73 = .ok (.istore_n 3, 1) := by decide +kernel
theorem dX10_digest_74 : decode cX10_digest 74 = .ok (.iload_n 3, 1) := by decide +kernel
theorem dX10_digest_75 : decode cX10_digest 75 = .ok (.bipush 6, 2) := by decide +kernel
theorem dX10_digest_77 : decode cX10_digest 77 = .ok (.if_icmp .gt 19, 3) := by decide +kernel
theorem dX10_digest_80 : decode cX10_digest 80 = .ok (.lload_n 1, 1) := by decide +kernel
theorem dX10_digest_81 : decode cX10_digest 81 = .ok (.aload_n 0, 1) := by decide +kernel
theorem dX10_digest_82 : decode cX10_digest 82 = .ok (.iload_n 3, 1) := by decide +kernel
theorem dX10_digest_83 : decode cX10_digest 83 = .ok (.invokevirtual 237, 3) := by decide +kernel
theorem dX10_digest_86 : decode cX10_digest 86 = .ok (.invokestatic 233, 3) := by decide +kernel
theorem dX10_digest_89 : decode cX10_digest 89 = .ok (.lstore_n 1, 1) := by decide +kernel
theorem dX10_digest_90 : decode cX10_digest 90 = .ok (.iinc 3 1, 3) := by decide +kernel
theorem dX10_digest_93 : decode cX10_digest 93 = .ok (.goto (-19), 3) := by decide +kernel
theorem dX10_digest_96 : decode cX10_digest 96 = .ok (.lload_n 1, 1) := by decide +kernel
theorem dX10_digest_97 : decode cX10_digest 97 = .ok (.lreturn, 1) := by decide +kernel
theorem dX10_hashRules_0 : decode cX10_hashRules 0 = .ok (.lload_n 1, 1) := by decide +kernel
theorem dX10_hashRules_1 : decode cX10_hashRules 1 = .ok (.lstore_n 3, 1) := by decide +kernel
theorem dX10_hashRules_2 : decode cX10_hashRules 2 = .ok (.iconst 0, 1) := by decide +kernel
theorem dX10_hashRules_3 : decode cX10_hashRules 3 = .ok (.istore 5, 2) := by decide +kernel
theorem dX10_hashRules_5 : decode cX10_hashRules 5 = .ok (.iload 5, 2) := by decide +kernel
theorem dX10_hashRules_7 : decode cX10_hashRules 7 = .ok (.aload_n 0, 1) := by decide +kernel
theorem dX10_hashRules_8 : decode cX10_hashRules 8 = .ok (.getfield 10, 3) := by decide +kernel
theorem dX10_hashRules_11 : decode cX10_hashRules 11 = .ok (.invokevirtual 114, 3) := by decide +kernel
theorem dX10_hashRules_14 : decode cX10_hashRules 14 = .ok (.if_icmp .ge 71, 3) := by decide +kernel
theorem dX10_hashRules_17 : decode cX10_hashRules 17 = .ok (.iconst 0, 1) := by decide +kernel
theorem dX10_hashRules_18 : decode cX10_hashRules 18 = .ok (.istore 6, 2) := by decide +kernel
theorem dX10_hashRules_20 : decode cX10_hashRules 20 = .ok (.iload 6, 2) := by decide +kernel
theorem dX10_hashRules_22 : decode cX10_hashRules 22 = .ok (.iconst 4, 1) := by decide +kernel
theorem dX10_hashRules_23 : decode cX10_hashRules 23 = .ok (.if_icmp .gt 22, 3) := by decide +kernel
theorem dX10_hashRules_26 : decode cX10_hashRules 26 = .ok (.lload_n 3, 1) := by decide +kernel
theorem dX10_hashRules_27 : decode cX10_hashRules 27 = .ok (.aload_n 0, 1) := by decide +kernel
theorem dX10_hashRules_28 : decode cX10_hashRules 28 = .ok (.iload 5, 2) := by decide +kernel
theorem dX10_hashRules_30 : decode cX10_hashRules 30 = .ok (.iload 6, 2) := by decide +kernel
theorem dX10_hashRules_32 : decode cX10_hashRules 32 = .ok (.invokevirtual 240, 3) := by decide +kernel
theorem dX10_hashRules_35 : decode cX10_hashRules 35 = .ok (.invokestatic 233, 3) := by decide +kernel
theorem dX10_hashRules_38 : decode cX10_hashRules 38 = .ok (.lstore_n 3, 1) := by decide +kernel
theorem dX10_hashRules_39 : decode cX10_hashRules 39 = .ok (.iinc 6 1, 3) := by decide +kernel
theorem dX10_hashRules_42 : decode cX10_hashRules 42 = .ok (.goto (-22), 3) := by decide +kernel
theorem dX10_hashRules_45 : decode cX10_hashRules 45 = .ok (.lload_n 3, 1) := by decide +kernel
theorem dX10_hashRules_46 : decode cX10_hashRules 46 = .ok (.aload_n 0, 1) := by decide +kernel
theorem dX10_hashRules_47 : decode cX10_hashRules 47 = .ok (.getfield 10, 3) := by decide +kernel
theorem dX10_hashRules_50 : decode cX10_hashRules 50 = .ok (.getfield 118, 3) := by decide +kernel
theorem dX10_hashRules_53 : decode cX10_hashRules 53 = .ok (.iload 5, 2) := by decide +kernel
theorem dX10_hashRules_55 : decode cX10_hashRules 55 = .ok (.invokevirtual 148, 3) := by decide +kernel
theorem dX10_hashRules_58 : decode cX10_hashRules 58 = .ok (.invokestatic 243, 3) := by decide +kernel
theorem dX10_hashRules_61 : decode cX10_hashRules 61 = .ok (.lstore_n 3, 1) := by decide +kernel
theorem dX10_hashRules_62 : decode cX10_hashRules 62 = .ok (.lload_n 3, 1) := by decide +kernel
theorem dX10_hashRules_63 : decode cX10_hashRules 63 = .ok (.aload_n 0, 1) := by decide +kernel
theorem dX10_hashRules_64 : decode cX10_hashRules 64 = .ok (.getfield 10, 3) := by decide +kernel
theorem dX10_hashRules_67 : decode cX10_hashRules 67 = .ok (.getfield 157, 3) := by decide +kernel
theorem dX10_hashRules_70 : decode cX10_hashRules 70 = .ok (.iload 5, 2) := by decide +kernel
theorem dX10_hashRules_72 : decode cX10_hashRules 72 = .ok (.invokevirtual 148, 3) := by decide +kernel
theorem dX10_hashRules_75 : decode cX10_hashRules 75 = .ok (.invokestatic 243, 3) := by decide +kernel
theorem dX10_hashRules_78 : decode cX10_hashRules 78 = .ok (.lstore_n 3, 1) := by decide +kernel
theorem dX10_hashRules_79 : decode cX10_hashRules 79 = .ok (.iinc 5 1, 3) := by decide +kernel
theorem dX10_hashRules_82 : decode cX10_hashRules 82 = .ok (.goto (-77), 3) := by decide +kernel
theorem dX10_hashRules_85 : decode cX10_hashRules 85 = .ok (.lload_n 3, 1) := by decide +kernel
theorem dX10_hashRules_86 : decode cX10_hashRules 86 = .ok (.lreturn, 1) := by decide +kernel
theorem dX10_hashRows_0 : decode cX10_hashRows 0 = .ok (.aload_n 0, 1) := by decide +kernel
theorem dX10_hashRows_1 : decode cX10_hashRows 1 = .ok (.getfield 10, 3) := by decide +kernel
theorem dX10_hashRows_4 : decode cX10_hashRows 4 = .ok (.getfield 157, 3) := by decide +kernel
theorem dX10_hashRows_7 : decode cX10_hashRows 7 = .ok (.aload_n 0, 1) := by decide +kernel
theorem dX10_hashRows_8 : decode cX10_hashRows 8 = .ok (.getfield 25, 3) := by decide +kernel
theorem dX10_hashRows_11 : decode cX10_hashRows 11 = .ok (.aload_n 0, 1) := by decide +kernel
theorem dX10_hashRows_12 : decode cX10_hashRows 12 = .ok (.getfield 28, 3) := by decide +kernel
theorem dX10_hashRows_15 : decode cX10_hashRows 15 = .ok (.invokestatic 119, 3) := by decide +kernel
theorem dX10_hashRows_18 : decode cX10_hashRows 18 = .ok (.istore_n 3, 1) := by decide +kernel
theorem dX10_hashRows_19 : decode cX10_hashRows 19 = .ok (.lload_n 1, 1) := by decide +kernel
theorem dX10_hashRows_20 : decode cX10_hashRows 20 = .ok (.aload_n 0, 1) := by decide +kernel
theorem dX10_hashRows_21 : decode cX10_hashRows 21 = .ok (.getfield 28, 3) := by decide +kernel
theorem dX10_hashRows_24 : decode cX10_hashRows 24 = .ok (.invokevirtual 83, 3) := by decide +kernel
theorem dX10_hashRows_27 : decode cX10_hashRows 27 = .ok (.invokestatic 233, 3) := by decide +kernel
theorem dX10_hashRows_30 : decode cX10_hashRows 30 = .ok (.lstore 4, 2) := by decide +kernel
theorem dX10_hashRows_32 : decode cX10_hashRows 32 = .ok (.lload 4, 2) := by decide +kernel
theorem dX10_hashRows_34 : decode cX10_hashRows 34 = .ok (.aload_n 0, 1) := by decide +kernel
theorem dX10_hashRows_35 : decode cX10_hashRows 35 = .ok (.iload_n 3, 1) := by decide +kernel
theorem dX10_hashRows_36 : decode cX10_hashRows 36 = .ok (.invokevirtual 168, 3) := by decide +kernel
theorem dX10_hashRows_39 : decode cX10_hashRows 39 = .ok (.invokestatic 233, 3) := by decide +kernel
theorem dX10_hashRows_42 : decode cX10_hashRows 42 = .ok (.lstore 4, 2) := by decide +kernel
theorem dX10_hashRows_44 : decode cX10_hashRows 44 = .ok (.lload 4, 2) := by decide +kernel
theorem dX10_hashRows_46 : decode cX10_hashRows 46 = .ok (.aload_n 0, 1) := by decide +kernel
theorem dX10_hashRows_47 : decode cX10_hashRows 47 = .ok (.getfield 28, 3) := by decide +kernel
theorem dX10_hashRows_50 : decode cX10_hashRows 50 = .ok (.invokestatic 223, 3) := by decide +kernel
theorem dX10_hashRows_53 : decode cX10_hashRows 53 = .ok (.lstore 4, 2) := by decide +kernel
theorem dX10_hashRows_55 : decode cX10_hashRows 55 = .ok (.aload_n 0, 1) := by decide +kernel
theorem dX10_hashRows_56 : decode cX10_hashRows 56 = .ok (.getfield 41, 3) := by decide +kernel
theorem dX10_hashRows_59 : decode cX10_hashRows 59 = .ok (.aload_n 0, 1) := by decide +kernel
theorem dX10_hashRows_60 : decode cX10_hashRows 60 = .ok (.getfield 10, 3) := by decide +kernel
theorem dX10_hashRows_63 : decode cX10_hashRows 63 = .ok (.getfield 157, 3) := by decide +kernel
theorem dX10_hashRows_66 : decode cX10_hashRows 66 = .ok (.aload_n 0, 1) := by decide +kernel
theorem dX10_hashRows_67 : decode cX10_hashRows 67 = .ok (.getfield 25, 3) := by decide +kernel
theorem dX10_hashRows_70 : decode cX10_hashRows 70 = .ok (.invokevirtual 171, 3) := by decide +kernel
theorem dX10_hashRows_73 : decode cX10_hashRows 73 = .ok (.lload 4, 2) := by decide +kernel
theorem dX10_hashRows_75 : decode cX10_hashRows 75 = .ok (.aload_n 0, 1) := by decide +kernel
theorem dX10_hashRows_76 : decode cX10_hashRows 76 = .ok (.getfield 41, 3) := by decide +kernel
theorem dX10_hashRows_79 : decode cX10_hashRows 79 = .ok (.invokevirtual 174, 3) := by decide +kernel
theorem dX10_hashRows_82 : decode cX10_hashRows 82 = .ok (.invokestatic 233, 3) := by decide +kernel
theorem dX10_hashRows_85 : decode cX10_hashRows 85 = .ok (.lstore 4, 2) := by decide +kernel
theorem dX10_hashRows_87 : decode cX10_hashRows 87 = .ok (.aload_n 0, 1) := by decide +kernel
theorem dX10_hashRows_88 : decode cX10_hashRows 88 = .ok (.getfield 41, 3) := by decide +kernel
theorem dX10_hashRows_91 : decode cX10_hashRows 91 = .ok (.aload_n 0, 1) := by decide +kernel
theorem dX10_hashRows_92 : decode cX10_hashRows 92 = .ok (.getfield 10, 3) := by decide +kernel
theorem dX10_hashRows_95 : decode cX10_hashRows 95 = .ok (.getfield 157, 3) := by decide +kernel
theorem dX10_hashRows_98 : decode cX10_hashRows 98 = .ok (.aload_n 0, 1) := by decide +kernel
theorem dX10_hashRows_99 : decode cX10_hashRows 99 = .ok (.getfield 25, 3) := by decide +kernel
theorem dX10_hashRows_102 : decode cX10_hashRows 102 = .ok (.iconst 0, 1) := by decide +kernel
theorem dX10_hashRows_103 : decode cX10_hashRows 103 = .ok (.aload_n 0, 1) := by decide +kernel
theorem dX10_hashRows_104 : decode cX10_hashRows 104 = .ok (.getfield 28, 3) := by decide +kernel
theorem dX10_hashRows_107 : decode cX10_hashRows 107 = .ok (.invokevirtual 177, 3) := by decide +kernel
theorem dX10_hashRows_110 : decode cX10_hashRows 110 = .ok (.lload 4, 2) := by decide +kernel
theorem dX10_hashRows_112 : decode cX10_hashRows 112 = .ok (.aload_n 0, 1) := by decide +kernel
theorem dX10_hashRows_113 : decode cX10_hashRows 113 = .ok (.getfield 28, 3) := by decide +kernel
theorem dX10_hashRows_116 : decode cX10_hashRows 116 = .ok (.invokestatic 223, 3) := by decide +kernel
theorem dX10_hashRows_119 : decode cX10_hashRows 119 = .ok (.lreturn, 1) := by decide +kernel
theorem dX10_hashClashes_0 : decode cX10_hashClashes 0 = .ok (.lload_n 1, 1) := by decide +kernel
theorem dX10_hashClashes_1 : decode cX10_hashClashes 1 = .ok (.lstore_n 3, 1) := by decide +kernel
theorem dX10_hashClashes_2 : decode cX10_hashClashes 2 = .ok (.iconst 0, 1) := by decide +kernel
theorem dX10_hashClashes_3 : decode cX10_hashClashes 3 = .ok (.istore 5, 2) := by decide +kernel
theorem dX10_hashClashes_5 : decode cX10_hashClashes 5 = .ok (.iload 5, 2) := by decide +kernel
theorem dX10_hashClashes_7 : decode cX10_hashClashes 7 = .ok (.iconst 5, 1) := by decide +kernel
theorem dX10_hashClashes_8 : decode cX10_hashClashes 8 = .ok (.if_icmp .gt 23, 3) := by decide +kernel
theorem dX10_hashClashes_11 : decode cX10_hashClashes 11 = .ok (.lload_n 3, 1) := by decide +kernel
theorem dX10_hashClashes_12 : decode cX10_hashClashes 12 = .ok (.aload_n 0, 1) := by decide +kernel
theorem dX10_hashClashes_13 : decode cX10_hashClashes 13 = .ok (.getfield 48, 3) := by decide +kernel
theorem dX10_hashClashes_16 : decode cX10_hashClashes 16 = .ok (.iload 5, 2) := by decide +kernel
theorem dX10_hashClashes_18 : decode cX10_hashClashes 18 = .ok (.invokevirtual 184, 3) := by decide +kernel
theorem dX10_hashClashes_21 : decode cX10_hashClashes 21 = .ok (.invokestatic 233, 3) := by decide +kernel
theorem dX10_hashClashes_24 : decode cX10_hashClashes 24 = .ok (.lstore_n 3, 1) := by decide +kernel
theorem dX10_hashClashes_25 : decode cX10_hashClashes 25 = .ok (.iinc 5 1, 3) := by decide +kernel
theorem dX10_hashClashes_28 : decode cX10_hashClashes 28 = .ok (.goto (-23), 3) := by decide +kernel
theorem dX10_hashClashes_31 : decode cX10_hashClashes 31 = .ok (.lload_n 3, 1) := by decide +kernel
theorem dX10_hashClashes_32 : decode cX10_hashClashes 32 = .ok (.aload_n 0, 1) := by decide +kernel
theorem dX10_hashClashes_33 : decode cX10_hashClashes 33 = .ok (.getfield 48, 3) := by decide +kernel
theorem dX10_hashClashes_36 : decode cX10_hashClashes 36 = .ok (.getfield 187, 3) := by decide +kernel
theorem dX10_hashClashes_39 : decode cX10_hashClashes 39 = .ok (.invokestatic 223, 3) := by decide +kernel
theorem dX10_hashClashes_42 : decode cX10_hashClashes 42 = .ok (.lstore_n 3, 1) := by decide +kernel
theorem dX10_hashClashes_43 : decode cX10_hashClashes 43 = .ok (.lload_n 3, 1) := by decide +kernel
theorem dX10_hashClashes_44 : decode cX10_hashClashes 44 = .ok (.aload_n 0, 1) := by decide +kernel
theorem dX10_hashClashes_45 : decode cX10_hashClashes 45 = .ok (.getfield 48, 3) := by decide +kernel
theorem dX10_hashClashes_48 : decode cX10_hashClashes 48 = .ok (.getfield 190, 3) := by decide +kernel
theorem dX10_hashClashes_51 : decode cX10_hashClashes 51 = .ok (.invokestatic 223, 3) := by decide +kernel
theorem dX10_hashClashes_54 : decode cX10_hashClashes 54 = .ok (.lstore_n 3, 1) := by decide +kernel
theorem dX10_hashClashes_55 : decode cX10_hashClashes 55 = .ok (.lload_n 3, 1) := by decide +kernel
theorem dX10_hashClashes_56 : decode cX10_hashClashes 56 = .ok (.aload_n 0, 1) := by decide +kernel
theorem dX10_hashClashes_57 : decode cX10_hashClashes 57 = .ok (.getfield 48, 3) := by decide +kernel
theorem dX10_hashClashes_60 : decode cX10_hashClashes 60 = .ok (.getfield 193, 3) := by decide +kernel
theorem dX10_hashClashes_63 : decode cX10_hashClashes 63 = .ok (.invokestatic 223, 3) := by decide +kernel
theorem dX10_hashClashes_66 : decode cX10_hashClashes 66 = .ok (.lstore_n 3, 1) := by decide +kernel
theorem dX10_hashClashes_67 : decode cX10_hashClashes 67 = .ok (.iconst 0, 1) := by decide +kernel
theorem dX10_hashClashes_68 : decode cX10_hashClashes 68 = .ok (.istore 5, 2) := by decide +kernel
theorem dX10_hashClashes_70 : decode cX10_hashClashes 70 = .ok (.iload 5, 2) := by decide +kernel
theorem dX10_hashClashes_72 : decode cX10_hashClashes 72 = .ok (.aload_n 0, 1) := by decide +kernel
theorem dX10_hashClashes_73 : decode cX10_hashClashes 73 = .ok (.getfield 48, 3) := by decide +kernel
theorem dX10_hashClashes_76 : decode cX10_hashClashes 76 = .ok (.getfield 196, 3) := by decide +kernel
theorem dX10_hashClashes_79 : decode cX10_hashClashes 79 = .ok (.getfield 200, 3) := by decide +kernel
theorem dX10_hashClashes_82 : decode cX10_hashClashes 82 = .ok (.invokevirtual 83, 3) := by decide +kernel
theorem dX10_hashClashes_85 : decode cX10_hashClashes 85 = .ok (.if_icmp .ge 29, 3) := by decide +kernel
theorem dX10_hashClashes_88 : decode cX10_hashClashes 88 = .ok (.lload_n 3, 1) := by decide +kernel
theorem dX10_hashClashes_89 : decode cX10_hashClashes 89 = .ok (.aload_n 0, 1) := by decide +kernel
theorem dX10_hashClashes_90 : decode cX10_hashClashes 90 = .ok (.getfield 48, 3) := by decide +kernel
theorem dX10_hashClashes_93 : decode cX10_hashClashes 93 = .ok (.getfield 196, 3) := by decide +kernel
theorem dX10_hashClashes_96 : decode cX10_hashClashes 96 = .ok (.getfield 200, 3) := by decide +kernel
theorem dX10_hashClashes_99 : decode cX10_hashClashes 99 = .ok (.iload 5, 2) := by decide +kernel
theorem dX10_hashClashes_101 : decode cX10_hashClashes 101 = .ok (.invokevirtual 148, 3) := by decide +kernel
theorem dX10_hashClashes_104 : decode cX10_hashClashes 104 = .ok (.invokestatic 243, 3) := by decide +kernel
theorem dX10_hashClashes_107 : decode cX10_hashClashes 107 = .ok (.lstore_n 3, 1) := by decide +kernel
theorem dX10_hashClashes_108 : decode cX10_hashClashes 108 = .ok (.iinc 5 1, 3) := by decide +kernel
theorem dX10_hashClashes_111 : decode cX10_hashClashes 111 = .ok (.goto (-41), 3) := by decide +kernel
theorem dX10_hashClashes_114 : decode cX10_hashClashes 114 = .ok (.lload_n 3, 1) := by decide +kernel
theorem dX10_hashClashes_115 : decode cX10_hashClashes 115 = .ok (.lreturn, 1) := by decide +kernel
theorem dX10_stuckPlace_0 : decode cX10_stuckPlace 0 = .ok (.iload_n 1, 1) := by decide +kernel
theorem dX10_stuckPlace_1 : decode cX10_stuckPlace 1 = .ok (.aload_n 0, 1) := by decide +kernel
theorem dX10_stuckPlace_2 : decode cX10_stuckPlace 2 = .ok (.getfield 25, 3) := by decide +kernel
theorem dX10_stuckPlace_5 : decode cX10_stuckPlace 5 = .ok (.invokevirtual 83, 3) := by decide +kernel
theorem dX10_stuckPlace_8 : decode cX10_stuckPlace 8 = .ok (.if_icmp .ge 7, 3) := by decide +kernel
theorem dX10_stuckPlace_11 : decode cX10_stuckPlace 11 = .ok (.iload_n 1, 1) := by decide +kernel
theorem dX10_stuckPlace_12 : decode cX10_stuckPlace 12 = .ok (.goto 4, 3) := by decide +kernel
theorem dX10_stuckPlace_15 : decode cX10_stuckPlace 15 = .ok (.iconst (-1), 1) := by decide +kernel
theorem dX10_stuckPlace_16 : decode cX10_stuckPlace 16 = .ok (.ireturn, 1) := by decide +kernel
theorem dX10_hashNumber_0 : decode cX10_hashNumber 0 = .ok (.ldc2_w 246, 3) := by decide +kernel
theorem dX10_hashNumber_3 : decode cX10_hashNumber 3 = .ok (.lload_n 0, 1) := by decide +kernel
theorem dX10_hashNumber_4 : decode cX10_hashNumber 4 = .ok (.lmul, 1) := by decide +kernel
theorem dX10_hashNumber_5 : decode cX10_hashNumber 5 = .ok (.iload_n 2, 1) := by decide +kernel
theorem dX10_hashNumber_6 : decode cX10_hashNumber 6 = .ok (.i2l, 1) := by decide +kernel
theorem dX10_hashNumber_7 : decode cX10_hashNumber 7 = .ok (.ladd, 1) := by decide +kernel
theorem dX10_hashNumber_8 : decode cX10_hashNumber 8 = .ok (.lreturn, 1) := by decide +kernel
theorem dX10_hashLine_0 : decode cX10_hashLine 0 = .ok (.lload_n 0, 1) := by decide +kernel
theorem dX10_hashLine_1 : decode cX10_hashLine 1 = .ok (.lstore_n 3, 1) := by decide +kernel
theorem dX10_hashLine_2 : decode cX10_hashLine 2 = .ok (.iconst 0, 1) := by decide +kernel
theorem dX10_hashLine_3 : decode cX10_hashLine 3 = .ok (.istore 5, 2) := by decide +kernel
theorem dX10_hashLine_5 : decode cX10_hashLine 5 = .ok (.iload 5, 2) := by decide +kernel
theorem dX10_hashLine_7 : decode cX10_hashLine 7 = .ok (.aload_n 2, 1) := by decide +kernel
theorem dX10_hashLine_8 : decode cX10_hashLine 8 = .ok (.invokevirtual 83, 3) := by decide +kernel
theorem dX10_hashLine_11 : decode cX10_hashLine 11 = .ok (.if_icmp .ge 20, 3) := by decide +kernel
theorem dX10_hashLine_14 : decode cX10_hashLine 14 = .ok (.lload_n 3, 1) := by decide +kernel
theorem dX10_hashLine_15 : decode cX10_hashLine 15 = .ok (.aload_n 2, 1) := by decide +kernel
theorem dX10_hashLine_16 : decode cX10_hashLine 16 = .ok (.iload 5, 2) := by decide +kernel
theorem dX10_hashLine_18 : decode cX10_hashLine 18 = .ok (.invokevirtual 148, 3) := by decide +kernel
theorem dX10_hashLine_21 : decode cX10_hashLine 21 = .ok (.invokestatic 233, 3) := by decide +kernel
theorem dX10_hashLine_24 : decode cX10_hashLine 24 = .ok (.lstore_n 3, 1) := by decide +kernel
theorem dX10_hashLine_25 : decode cX10_hashLine 25 = .ok (.iinc 5 1, 3) := by decide +kernel
theorem dX10_hashLine_28 : decode cX10_hashLine 28 = .ok (.goto (-23), 3) := by decide +kernel
theorem dX10_hashLine_31 : decode cX10_hashLine 31 = .ok (.lload_n 3, 1) := by decide +kernel
theorem dX10_hashLine_32 : decode cX10_hashLine 32 = .ok (.lreturn, 1) := by decide +kernel
theorem dX10_hashWord_0 : decode cX10_hashWord 0 = .ok (.lload_n 0, 1) := by decide +kernel
theorem dX10_hashWord_1 : decode cX10_hashWord 1 = .ok (.lstore_n 3, 1) := by decide +kernel
theorem dX10_hashWord_2 : decode cX10_hashWord 2 = .ok (.iload_n 2, 1) := by decide +kernel
theorem dX10_hashWord_3 : decode cX10_hashWord 3 = .ok (.invokestatic 152, 3) := by decide +kernel
theorem dX10_hashWord_6 : decode cX10_hashWord 6 = .ok (.istore 5, 2) := by decide +kernel
theorem dX10_hashWord_8 : decode cX10_hashWord 8 = .ok (.iconst 0, 1) := by decide +kernel
theorem dX10_hashWord_9 : decode cX10_hashWord 9 = .ok (.istore 6, 2) := by decide +kernel
theorem dX10_hashWord_11 : decode cX10_hashWord 11 = .ok (.iload 6, 2) := by decide +kernel
theorem dX10_hashWord_13 : decode cX10_hashWord 13 = .ok (.iload 5, 2) := by decide +kernel
theorem dX10_hashWord_15 : decode cX10_hashWord 15 = .ok (.if_icmp .ge 20, 3) := by decide +kernel
theorem dX10_hashWord_18 : decode cX10_hashWord 18 = .ok (.lload_n 3, 1) := by decide +kernel
theorem dX10_hashWord_19 : decode cX10_hashWord 19 = .ok (.iload_n 2, 1) := by decide +kernel
theorem dX10_hashWord_20 : decode cX10_hashWord 20 = .ok (.iload 6, 2) := by decide +kernel
theorem dX10_hashWord_22 : decode cX10_hashWord 22 = .ok (.invokestatic 164, 3) := by decide +kernel
theorem dX10_hashWord_25 : decode cX10_hashWord 25 = .ok (.invokestatic 233, 3) := by decide +kernel
theorem dX10_hashWord_28 : decode cX10_hashWord 28 = .ok (.lstore_n 3, 1) := by decide +kernel
theorem dX10_hashWord_29 : decode cX10_hashWord 29 = .ok (.iinc 6 1, 3) := by decide +kernel
theorem dX10_hashWord_32 : decode cX10_hashWord 32 = .ok (.goto (-21), 3) := by decide +kernel
theorem dX10_hashWord_35 : decode cX10_hashWord 35 = .ok (.lload_n 3, 1) := by decide +kernel
theorem dX10_hashWord_36 : decode cX10_hashWord 36 = .ok (.lreturn, 1) := by decide +kernel
theorem dX10_forgetTable_0 : decode cX10_forgetTable 0 = .ok (.aload_n 0, 1) := by decide +kernel
theorem dX10_forgetTable_1 : decode cX10_forgetTable 1 = .ok (.iconst 0, 1) := by decide +kernel
theorem dX10_forgetTable_2 : decode cX10_forgetTable 2 = .ok (.putfield 66, 3) := by decide +kernel
theorem dX10_forgetTable_5 : decode cX10_forgetTable 5 = .ok (.aload_n 0, 1) := by decide +kernel
theorem dX10_forgetTable_6 : decode cX10_forgetTable 6 = .ok (.iconst 0, 1) := by decide +kernel
theorem dX10_forgetTable_7 : decode cX10_forgetTable 7 = .ok (.putfield 70, 3) := by decide +kernel
theorem dX10_forgetTable_10 : decode cX10_forgetTable 10 = .ok (.return_, 1) := by decide +kernel
theorem dX10_knowClashes_0 : decode cX10_knowClashes 0 = .ok (.aload_n 0, 1) := by decide +kernel
theorem dX10_knowClashes_1 : decode cX10_knowClashes 1 = .ok (.getfield 66, 3) := by decide +kernel
theorem dX10_knowClashes_4 : decode cX10_knowClashes 4 = .ok (.ifCond .ne 22, 3) := by decide +kernel
theorem dX10_knowClashes_7 : decode cX10_knowClashes 7 = .ok (.aload_n 0, 1) := by decide +kernel
theorem dX10_knowClashes_8 : decode cX10_knowClashes 8 = .ok (.getfield 48, 3) := by decide +kernel
theorem dX10_knowClashes_11 : decode cX10_knowClashes 11 = .ok (.aload_n 0, 1) := by decide +kernel
theorem dX10_knowClashes_12 : decode cX10_knowClashes 12 = .ok (.getfield 10, 3) := by decide +kernel
theorem dX10_knowClashes_15 : decode cX10_knowClashes 15 = .ok (.getfield 157, 3) := by decide +kernel
theorem dX10_knowClashes_18 : decode cX10_knowClashes 18 = .ok (.invokevirtual 248, 3) := by decide +kernel
theorem dX10_knowClashes_21 : decode cX10_knowClashes 21 = .ok (.aload_n 0, 1) := by decide +kernel
theorem dX10_knowClashes_22 : decode cX10_knowClashes 22 = .ok (.iconst 1, 1) := by decide +kernel
theorem dX10_knowClashes_23 : decode cX10_knowClashes 23 = .ok (.putfield 66, 3) := by decide +kernel
theorem dX10_knowClashes_26 : decode cX10_knowClashes 26 = .ok (.return_, 1) := by decide +kernel
theorem dX10_knowPartings_0 : decode cX10_knowPartings 0 = .ok (.aload_n 0, 1) := by decide +kernel
theorem dX10_knowPartings_1 : decode cX10_knowPartings 1 = .ok (.getfield 70, 3) := by decide +kernel
theorem dX10_knowPartings_4 : decode cX10_knowPartings 4 = .ok (.ifCond .ne 19, 3) := by decide +kernel
theorem dX10_knowPartings_7 : decode cX10_knowPartings 7 = .ok (.aload_n 0, 1) := by decide +kernel
theorem dX10_knowPartings_8 : decode cX10_knowPartings 8 = .ok (.getfield 55, 3) := by decide +kernel
theorem dX10_knowPartings_11 : decode cX10_knowPartings 11 = .ok (.aload_n 0, 1) := by decide +kernel
theorem dX10_knowPartings_12 : decode cX10_knowPartings 12 = .ok (.getfield 10, 3) := by decide +kernel
theorem dX10_knowPartings_15 : decode cX10_knowPartings 15 = .ok (.invokevirtual 251, 3) := by decide +kernel
theorem dX10_knowPartings_18 : decode cX10_knowPartings 18 = .ok (.aload_n 0, 1) := by decide +kernel
theorem dX10_knowPartings_19 : decode cX10_knowPartings 19 = .ok (.iconst 1, 1) := by decide +kernel
theorem dX10_knowPartings_20 : decode cX10_knowPartings 20 = .ok (.putfield 70, 3) := by decide +kernel
theorem dX10_knowPartings_23 : decode cX10_knowPartings 23 = .ok (.return_, 1) := by decide +kernel
theorem dX10_isSmall_0 : decode cX10_isSmall 0 = .ok (.iload_n 0, 1) := by decide +kernel
theorem dX10_isSmall_1 : decode cX10_isSmall 1 = .ok (.bipush 97, 2) := by decide +kernel
theorem dX10_isSmall_3 : decode cX10_isSmall 3 = .ok (.if_icmp .lt 13, 3) := by decide +kernel
theorem dX10_isSmall_6 : decode cX10_isSmall 6 = .ok (.iload_n 0, 1) := by decide +kernel
theorem dX10_isSmall_7 : decode cX10_isSmall 7 = .ok (.bipush 122, 2) := by decide +kernel
theorem dX10_isSmall_9 : decode cX10_isSmall 9 = .ok (.if_icmp .gt 7, 3) := by decide +kernel
theorem dX10_isSmall_12 : decode cX10_isSmall 12 = .ok (.iconst 1, 1) := by decide +kernel
theorem dX10_isSmall_13 : decode cX10_isSmall 13 = .ok (.goto 4, 3) := by decide +kernel
theorem dX10_isSmall_16 : decode cX10_isSmall 16 = .ok (.iconst 0, 1) := by decide +kernel
theorem dX10_isSmall_17 : decode cX10_isSmall 17 = .ok (.ireturn, 1) := by decide +kernel
theorem dX10_isCapital_0 : decode cX10_isCapital 0 = .ok (.iload_n 0, 1) := by decide +kernel
theorem dX10_isCapital_1 : decode cX10_isCapital 1 = .ok (.bipush 65, 2) := by decide +kernel
theorem dX10_isCapital_3 : decode cX10_isCapital 3 = .ok (.if_icmp .lt 13, 3) := by decide +kernel
theorem dX10_isCapital_6 : decode cX10_isCapital 6 = .ok (.iload_n 0, 1) := by decide +kernel
theorem dX10_isCapital_7 : decode cX10_isCapital 7 = .ok (.bipush 90, 2) := by decide +kernel
theorem dX10_isCapital_9 : decode cX10_isCapital 9 = .ok (.if_icmp .gt 7, 3) := by decide +kernel
theorem dX10_isCapital_12 : decode cX10_isCapital 12 = .ok (.iconst 1, 1) := by decide +kernel
theorem dX10_isCapital_13 : decode cX10_isCapital 13 = .ok (.goto 4, 3) := by decide +kernel
theorem dX10_isCapital_16 : decode cX10_isCapital 16 = .ok (.iconst 0, 1) := by decide +kernel
theorem dX10_isCapital_17 : decode cX10_isCapital 17 = .ok (.ireturn, 1) := by decide +kernel
theorem dX10_onlySmall_0 : decode cX10_onlySmall 0 = .ok (.iconst 0, 1) := by decide +kernel
theorem dX10_onlySmall_1 : decode cX10_onlySmall 1 = .ok (.istore_n 1, 1) := by decide +kernel
theorem dX10_onlySmall_2 : decode cX10_onlySmall 2 = .ok (.iload_n 1, 1) := by decide +kernel
theorem dX10_onlySmall_3 : decode cX10_onlySmall 3 = .ok (.aload_n 0, 1) := by decide +kernel
theorem dX10_onlySmall_4 : decode cX10_onlySmall 4 = .ok (.invokevirtual 83, 3) := by decide +kernel
theorem dX10_onlySmall_7 : decode cX10_onlySmall 7 = .ok (.if_icmp .ge 22, 3) := by decide +kernel
theorem dX10_onlySmall_10 : decode cX10_onlySmall 10 = .ok (.aload_n 0, 1) := by decide +kernel
theorem dX10_onlySmall_11 : decode cX10_onlySmall 11 = .ok (.iload_n 1, 1) := by decide +kernel
theorem dX10_onlySmall_12 : decode cX10_onlySmall 12 = .ok (.invokevirtual 148, 3) := by decide +kernel
theorem dX10_onlySmall_15 : decode cX10_onlySmall 15 = .ok (.invokestatic 254, 3) := by decide +kernel
theorem dX10_onlySmall_18 : decode cX10_onlySmall 18 = .ok (.ifCond .ne 5, 3) := by decide +kernel
