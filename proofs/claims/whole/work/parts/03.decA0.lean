theorem dX0_init_0 : decode cX0_init 0 = .ok (.aload_n 0, 1) := by decide +kernel
theorem dX0_init_1 : decode cX0_init 1 = .ok (.invokespecial 3, 3) := by decide +kernel
theorem dX0_init_4 : decode cX0_init 4 = .ok (.aload_n 0, 1) := by decide +kernel
theorem dX0_init_5 : decode cX0_init 5 = .ok (.new 9, 3) := by decide +kernel
theorem dX0_init_8 : decode cX0_init 8 = .ok (.dup, 1) := by decide +kernel
theorem dX0_init_9 : decode cX0_init 9 = .ok (.invokespecial 11, 3) := by decide +kernel
theorem dX0_init_12 : decode cX0_init 12 = .ok (.putfield 12, 3) := by decide +kernel
theorem dX0_init_15 : decode cX0_init 15 = .ok (.aload_n 0, 1) := by decide +kernel
theorem dX0_init_16 : decode cX0_init 16 = .ok (.new 18, 3) := by decide +kernel
theorem dX0_init_19 : decode cX0_init 19 = .ok (.dup, 1) := by decide +kernel
theorem dX0_init_20 : decode cX0_init 20 = .ok (.bipush 56, 2) := by decide +kernel
theorem dX0_init_22 : decode cX0_init 22 = .ok (.invokespecial 20, 3) := by decide +kernel
theorem dX0_init_25 : decode cX0_init 25 = .ok (.putfield 23, 3) := by decide +kernel
theorem dX0_init_28 : decode cX0_init 28 = .ok (.aload_n 0, 1) := by decide +kernel
theorem dX0_init_29 : decode cX0_init 29 = .ok (.new 18, 3) := by decide +kernel
theorem dX0_init_32 : decode cX0_init 32 = .ok (.dup, 1) := by decide +kernel
theorem dX0_init_33 : decode cX0_init 33 = .ok (.bipush 56, 2) := by decide +kernel
theorem dX0_init_35 : decode cX0_init 35 = .ok (.invokespecial 20, 3) := by decide +kernel
theorem dX0_init_38 : decode cX0_init 38 = .ok (.putfield 27, 3) := by decide +kernel
theorem dX0_init_41 : decode cX0_init 41 = .ok (.aload_n 0, 1) := by decide +kernel
theorem dX0_init_42 : decode cX0_init 42 = .ok (.new 18, 3) := by decide +kernel
theorem dX0_init_45 : decode cX0_init 45 = .ok (.dup, 1) := by decide +kernel
theorem dX0_init_46 : decode cX0_init 46 = .ok (.bipush 56, 2) := by decide +kernel
theorem dX0_init_48 : decode cX0_init 48 = .ok (.invokespecial 20, 3) := by decide +kernel
theorem dX0_init_51 : decode cX0_init 51 = .ok (.putfield 30, 3) := by decide +kernel
theorem dX0_init_54 : decode cX0_init 54 = .ok (.aload_n 0, 1) := by decide +kernel
theorem dX0_init_55 : decode cX0_init 55 = .ok (.bipush 25, 2) := by decide +kernel
theorem dX0_init_57 : decode cX0_init 57 = .ok (.anewarray 18, 3) := by decide +kernel
theorem dX0_init_60 : decode cX0_init 60 = .ok (.putfield 33, 3) := by decide +kernel
theorem dX0_init_63 : decode cX0_init 63 = .ok (.iconst 0, 1) := by decide +kernel
theorem dX0_init_64 : decode cX0_init 64 = .ok (.istore_n 1, 1) := by decide +kernel
theorem dX0_init_65 : decode cX0_init 65 = .ok (.iload_n 1, 1) := by decide +kernel
theorem dX0_init_66 : decode cX0_init 66 = .ok (.bipush 25, 2) := by decide +kernel
theorem dX0_init_68 : decode cX0_init 68 = .ok (.if_icmp .ge 24, 3) := by decide +kernel
theorem dX0_init_71 : decode cX0_init 71 = .ok (.aload_n 0, 1) := by decide +kernel
theorem dX0_init_72 : decode cX0_init 72 = .ok (.getfield 33, 3) := by decide +kernel
theorem dX0_init_75 : decode cX0_init 75 = .ok (.iload_n 1, 1) := by decide +kernel
theorem dX0_init_76 : decode cX0_init 76 = .ok (.new 18, 3) := by decide +kernel
theorem dX0_init_79 : decode cX0_init 79 = .ok (.dup, 1) := by decide +kernel
theorem dX0_init_80 : decode cX0_init 80 = .ok (.bipush 56, 2) := by decide +kernel
theorem dX0_init_82 : decode cX0_init 82 = .ok (.invokespecial 20, 3) := by decide +kernel
theorem dX0_init_85 : decode cX0_init 85 = .ok (.aastore, 1) := by decide +kernel
theorem dX0_init_86 : decode cX0_init 86 = .ok (.iinc 1 1, 3) := by decide +kernel
theorem dX0_init_89 : decode cX0_init 89 = .ok (.goto (-24), 3) := by decide +kernel
theorem dX0_init_92 : decode cX0_init 92 = .ok (.aload_n 0, 1) := by decide +kernel
theorem dX0_init_93 : decode cX0_init 93 = .ok (.new 18, 3) := by decide +kernel
theorem dX0_init_96 : decode cX0_init 96 = .ok (.dup, 1) := by decide +kernel
theorem dX0_init_97 : decode cX0_init 97 = .ok (.bipush 56, 2) := by decide +kernel
theorem dX0_init_99 : decode cX0_init 99 = .ok (.invokespecial 20, 3) := by decide +kernel
theorem dX0_init_102 : decode cX0_init 102 = .ok (.putfield 37, 3) := by decide +kernel
theorem dX0_init_105 : decode cX0_init 105 = .ok (.aload_n 0, 1) := by decide +kernel
theorem dX0_init_106 : decode cX0_init 106 = .ok (.new 40, 3) := by decide +kernel
theorem dX0_init_109 : decode cX0_init 109 = .ok (.dup, 1) := by decide +kernel
theorem dX0_init_110 : decode cX0_init 110 = .ok (.invokespecial 42, 3) := by decide +kernel
theorem dX0_init_113 : decode cX0_init 113 = .ok (.putfield 43, 3) := by decide +kernel
theorem dX0_init_116 : decode cX0_init 116 = .ok (.return_, 1) := by decide +kernel
theorem dX0_value_0 : decode cX0_value 0 = .ok (.iload_n 1, 1) := by decide +kernel
theorem dX0_value_1 : decode cX0_value 1 = .ok (.iconst 5, 1) := by decide +kernel
theorem dX0_value_2 : decode cX0_value 2 = .ok (.if_icmp .ne 14, 3) := by decide +kernel
theorem dX0_value_5 : decode cX0_value 5 = .ok (.aload_n 0, 1) := by decide +kernel
theorem dX0_value_6 : decode cX0_value 6 = .ok (.getfield 12, 3) := by decide +kernel
theorem dX0_value_9 : decode cX0_value 9 = .ok (.getfield 47, 3) := by decide +kernel
theorem dX0_value_12 : decode cX0_value 12 = .ok (.invokevirtual 50, 3) := by decide +kernel
theorem dX0_value_15 : decode cX0_value 15 = .ok (.ireturn, 1) := by decide +kernel
theorem dX0_value_16 : decode cX0_value 16 = .ok (.iload_n 1, 1) := by decide +kernel
theorem dX0_value_17 : decode cX0_value 17 = .ok (.ifCond .ne 19, 3) := by decide +kernel
theorem dX0_value_20 : decode cX0_value 20 = .ok (.aload_n 0, 1) := by decide +kernel
theorem dX0_value_21 : decode cX0_value 21 = .ok (.getfield 12, 3) := by decide +kernel
theorem dX0_value_24 : decode cX0_value 24 = .ok (.invokevirtual 54, 3) := by decide +kernel
theorem dX0_value_27 : decode cX0_value 27 = .ok (.ifCond .eq 7, 3) := by decide +kernel
theorem dX0_value_30 : decode cX0_value 30 = .ok (.iconst 1, 1) := by decide +kernel
theorem dX0_value_31 : decode cX0_value 31 = .ok (.goto 4, 3) := by decide +kernel
theorem dX0_value_34 : decode cX0_value 34 = .ok (.iconst 0, 1) := by decide +kernel
theorem dX0_value_35 : decode cX0_value 35 = .ok (.ireturn, 1) := by decide +kernel
theorem dX0_value_36 : decode cX0_value 36 = .ok (.aload_n 0, 1) := by decide +kernel
theorem dX0_value_37 : decode cX0_value 37 = .ok (.getfield 12, 3) := by decide +kernel
theorem dX0_value_40 : decode cX0_value 40 = .ok (.invokevirtual 54, 3) := by decide +kernel
theorem dX0_value_43 : decode cX0_value 43 = .ok (.ifCond .eq 5, 3) := by decide +kernel
theorem dX0_value_46 : decode cX0_value 46 = .ok (.iconst (-1), 1) := by decide +kernel
theorem dX0_value_47 : decode cX0_value 47 = .ok (.ireturn, 1) := by decide +kernel
theorem dX0_value_48 : decode cX0_value 48 = .ok (.iload_n 1, 1) := by decide +kernel
theorem dX0_value_49 : decode cX0_value 49 = .ok (.tableswitch 51 1 3 #[27, 35, 43], 27) := by decide +kernel
theorem dX0_value_76 : decode cX0_value 76 = .ok (.aload_n 0, 1) := by decide +kernel
theorem dX0_value_77 : decode cX0_value 77 = .ok (.getfield 23, 3) := by decide +kernel
theorem dX0_value_80 : decode cX0_value 80 = .ok (.invokevirtual 50, 3) := by decide +kernel
theorem dX0_value_83 : decode cX0_value 83 = .ok (.ireturn, 1) := by decide +kernel
theorem dX0_value_84 : decode cX0_value 84 = .ok (.aload_n 0, 1) := by decide +kernel
theorem dX0_value_85 : decode cX0_value 85 = .ok (.getfield 27, 3) := by decide +kernel
theorem dX0_value_88 : decode cX0_value 88 = .ok (.invokevirtual 50, 3) := by decide +kernel
theorem dX0_value_91 : decode cX0_value 91 = .ok (.ireturn, 1) := by decide +kernel
theorem dX0_value_92 : decode cX0_value 92 = .ok (.aload_n 0, 1) := by decide +kernel
theorem dX0_value_93 : decode cX0_value 93 = .ok (.getfield 30, 3) := by decide +kernel
theorem dX0_value_96 : decode cX0_value 96 = .ok (.invokevirtual 50, 3) := by decide +kernel
theorem dX0_value_99 : decode cX0_value 99 = .ok (.ireturn, 1) := by decide +kernel
theorem dX0_value_100 : decode cX0_value 100 = .ok (.aload_n 0, 1) := by decide +kernel
theorem dX0_value_101 : decode cX0_value 101 = .ok (.getfield 43, 3) := by decide +kernel
theorem dX0_value_104 : decode cX0_value 104 = .ok (.invokevirtual 58, 3) := by decide +kernel
theorem dX0_value_107 : decode cX0_value 107 = .ok (.ireturn, 1) := by decide +kernel
theorem dX0_find_0 : decode cX0_find 0 = .ok (.aload_n 0, 1) := by decide +kernel
theorem dX0_find_1 : decode cX0_find 1 = .ok (.getfield 12, 3) := by decide +kernel
theorem dX0_find_4 : decode cX0_find 4 = .ok (.aload_n 1, 1) := by decide +kernel
theorem dX0_find_5 : decode cX0_find 5 = .ok (.invokevirtual 61, 3) := by decide +kernel
theorem dX0_find_8 : decode cX0_find 8 = .ok (.aload_n 0, 1) := by decide +kernel
theorem dX0_find_9 : decode cX0_find 9 = .ok (.getfield 23, 3) := by decide +kernel
theorem dX0_find_12 : decode cX0_find 12 = .ok (.invokevirtual 65, 3) := by decide +kernel
theorem dX0_find_15 : decode cX0_find 15 = .ok (.aload_n 0, 1) := by decide +kernel
theorem dX0_find_16 : decode cX0_find 16 = .ok (.getfield 27, 3) := by decide +kernel
theorem dX0_find_19 : decode cX0_find 19 = .ok (.invokevirtual 65, 3) := by decide +kernel
theorem dX0_find_22 : decode cX0_find 22 = .ok (.aload_n 0, 1) := by decide +kernel
theorem dX0_find_23 : decode cX0_find 23 = .ok (.getfield 30, 3) := by decide +kernel
theorem dX0_find_26 : decode cX0_find 26 = .ok (.invokevirtual 65, 3) := by decide +kernel
theorem dX0_find_29 : decode cX0_find 29 = .ok (.aload_n 0, 1) := by decide +kernel
theorem dX0_find_30 : decode cX0_find 30 = .ok (.getfield 12, 3) := by decide +kernel
theorem dX0_find_33 : decode cX0_find 33 = .ok (.invokevirtual 54, 3) := by decide +kernel
theorem dX0_find_36 : decode cX0_find 36 = .ok (.ifCond .eq 4, 3) := by decide +kernel
theorem dX0_find_39 : decode cX0_find 39 = .ok (.return_, 1) := by decide +kernel
theorem dX0_find_40 : decode cX0_find 40 = .ok (.aload_n 0, 1) := by decide +kernel
theorem dX0_find_41 : decode cX0_find 41 = .ok (.aload_n 1, 1) := by decide +kernel
theorem dX0_find_42 : decode cX0_find 42 = .ok (.invokevirtual 68, 3) := by decide +kernel
theorem dX0_find_45 : decode cX0_find 45 = .ok (.aload_n 0, 1) := by decide +kernel
theorem dX0_find_46 : decode cX0_find 46 = .ok (.getfield 23, 3) := by decide +kernel
theorem dX0_find_49 : decode cX0_find 49 = .ok (.aload_n 0, 1) := by decide +kernel
theorem dX0_find_50 : decode cX0_find 50 = .ok (.getfield 33, 3) := by decide +kernel
theorem dX0_find_53 : decode cX0_find 53 = .ok (.iconst 0, 1) := by decide +kernel
theorem dX0_find_54 : decode cX0_find 54 = .ok (.aaload, 1) := by decide +kernel
theorem dX0_find_55 : decode cX0_find 55 = .ok (.invokevirtual 71, 3) := by decide +kernel
theorem dX0_find_58 : decode cX0_find 58 = .ok (.aload_n 0, 1) := by decide +kernel
theorem dX0_find_59 : decode cX0_find 59 = .ok (.getfield 43, 3) := by decide +kernel
theorem dX0_find_62 : decode cX0_find 62 = .ok (.aload_n 1, 1) := by decide +kernel
theorem dX0_find_63 : decode cX0_find 63 = .ok (.aload_n 0, 1) := by decide +kernel
theorem dX0_find_64 : decode cX0_find 64 = .ok (.getfield 23, 3) := by decide +kernel
theorem dX0_find_67 : decode cX0_find 67 = .ok (.invokevirtual 74, 3) := by decide +kernel
theorem dX0_find_70 : decode cX0_find 70 = .ok (.aload_n 0, 1) := by decide +kernel
theorem dX0_find_71 : decode cX0_find 71 = .ok (.getfield 43, 3) := by decide +kernel
theorem dX0_find_74 : decode cX0_find 74 = .ok (.aload_n 1, 1) := by decide +kernel
theorem dX0_find_75 : decode cX0_find 75 = .ok (.aload_n 0, 1) := by decide +kernel
theorem dX0_find_76 : decode cX0_find 76 = .ok (.getfield 23, 3) := by decide +kernel
theorem dX0_find_79 : decode cX0_find 79 = .ok (.iconst 0, 1) := by decide +kernel
theorem dX0_find_80 : decode cX0_find 80 = .ok (.aload_n 0, 1) := by decide +kernel
theorem dX0_find_81 : decode cX0_find 81 = .ok (.getfield 27, 3) := by decide +kernel
theorem dX0_find_84 : decode cX0_find 84 = .ok (.invokevirtual 78, 3) := by decide +kernel
theorem dX0_find_87 : decode cX0_find 87 = .ok (.aload_n 0, 1) := by decide +kernel
theorem dX0_find_88 : decode cX0_find 88 = .ok (.getfield 43, 3) := by decide +kernel
theorem dX0_find_91 : decode cX0_find 91 = .ok (.aload_n 1, 1) := by decide +kernel
theorem dX0_find_92 : decode cX0_find 92 = .ok (.aload_n 0, 1) := by decide +kernel
theorem dX0_find_93 : decode cX0_find 93 = .ok (.getfield 23, 3) := by decide +kernel
theorem dX0_find_96 : decode cX0_find 96 = .ok (.iconst 1, 1) := by decide +kernel
theorem dX0_find_97 : decode cX0_find 97 = .ok (.aload_n 0, 1) := by decide +kernel
theorem dX0_find_98 : decode cX0_find 98 = .ok (.getfield 30, 3) := by decide +kernel
theorem dX0_find_101 : decode cX0_find 101 = .ok (.invokevirtual 78, 3) := by decide +kernel
theorem dX0_find_104 : decode cX0_find 104 = .ok (.return_, 1) := by decide +kernel
theorem dX0_findTexts_0 : decode cX0_findTexts 0 = .ok (.iconst 0, 1) := by decide +kernel
theorem dX0_findTexts_1 : decode cX0_findTexts 1 = .ok (.istore_n 2, 1) := by decide +kernel
theorem dX0_findTexts_2 : decode cX0_findTexts 2 = .ok (.iload_n 2, 1) := by decide +kernel
theorem dX0_findTexts_3 : decode cX0_findTexts 3 = .ok (.bipush 25, 2) := by decide +kernel
theorem dX0_findTexts_5 : decode cX0_findTexts 5 = .ok (.if_icmp .ge 18, 3) := by decide +kernel
theorem dX0_findTexts_8 : decode cX0_findTexts 8 = .ok (.aload_n 0, 1) := by decide +kernel
theorem dX0_findTexts_9 : decode cX0_findTexts 9 = .ok (.getfield 33, 3) := by decide +kernel
theorem dX0_findTexts_12 : decode cX0_findTexts 12 = .ok (.iload_n 2, 1) := by decide +kernel
theorem dX0_findTexts_13 : decode cX0_findTexts 13 = .ok (.aaload, 1) := by decide +kernel
theorem dX0_findTexts_14 : decode cX0_findTexts 14 = .ok (.invokevirtual 65, 3) := by decide +kernel
theorem dX0_findTexts_17 : decode cX0_findTexts 17 = .ok (.iinc 2 1, 3) := by decide +kernel
theorem dX0_findTexts_20 : decode cX0_findTexts 20 = .ok (.goto (-18), 3) := by decide +kernel
theorem dX0_findTexts_23 : decode cX0_findTexts 23 = .ok (.aload_n 0, 1) := by decide +kernel
theorem dX0_findTexts_24 : decode cX0_findTexts 24 = .ok (.aload_n 1, 1) := by decide +kernel
theorem dX0_findTexts_25 : decode cX0_findTexts 25 = .ok (.invokevirtual 82, 3) := by decide +kernel
theorem dX0_findTexts_28 : decode cX0_findTexts 28 = .ok (.iconst 1, 1) := by decide +kernel
theorem dX0_findTexts_29 : decode cX0_findTexts 29 = .ok (.istore_n 2, 1) := by decide +kernel
theorem dX0_findTexts_30 : decode cX0_findTexts 30 = .ok (.iconst 0, 1) := by decide +kernel
theorem dX0_findTexts_31 : decode cX0_findTexts 31 = .ok (.istore_n 3, 1) := by decide +kernel
theorem dX0_findTexts_32 : decode cX0_findTexts 32 = .ok (.iload_n 3, 1) := by decide +kernel
theorem dX0_findTexts_33 : decode cX0_findTexts 33 = .ok (.bipush 25, 2) := by decide +kernel
theorem dX0_findTexts_35 : decode cX0_findTexts 35 = .ok (.if_icmp .ge 49, 3) := by decide +kernel
theorem dX0_findTexts_38 : decode cX0_findTexts 38 = .ok (.iload_n 2, 1) := by decide +kernel
theorem dX0_findTexts_39 : decode cX0_findTexts 39 = .ok (.ifCond .eq 45, 3) := by decide +kernel
theorem dX0_findTexts_42 : decode cX0_findTexts 42 = .ok (.iconst 0, 1) := by decide +kernel
theorem dX0_findTexts_43 : decode cX0_findTexts 43 = .ok (.istore_n 2, 1) := by decide +kernel
theorem dX0_findTexts_44 : decode cX0_findTexts 44 = .ok (.iconst 0, 1) := by decide +kernel
theorem dX0_findTexts_45 : decode cX0_findTexts 45 = .ok (.istore 4, 2) := by decide +kernel
theorem dX0_findTexts_47 : decode cX0_findTexts 47 = .ok (.iload 4, 2) := by decide +kernel
theorem dX0_findTexts_49 : decode cX0_findTexts 49 = .ok (.aload_n 0, 1) := by decide +kernel
theorem dX0_findTexts_50 : decode cX0_findTexts 50 = .ok (.getfield 12, 3) := by decide +kernel
theorem dX0_findTexts_53 : decode cX0_findTexts 53 = .ok (.getfield 47, 3) := by decide +kernel
theorem dX0_findTexts_56 : decode cX0_findTexts 56 = .ok (.invokevirtual 50, 3) := by decide +kernel
theorem dX0_findTexts_59 : decode cX0_findTexts 59 = .ok (.if_icmp .ge 19, 3) := by decide +kernel
theorem dX0_findTexts_62 : decode cX0_findTexts 62 = .ok (.iload_n 2, 1) := by decide +kernel
theorem dX0_findTexts_63 : decode cX0_findTexts 63 = .ok (.aload_n 0, 1) := by decide +kernel
theorem dX0_findTexts_64 : decode cX0_findTexts 64 = .ok (.aload_n 1, 1) := by decide +kernel
theorem dX0_findTexts_65 : decode cX0_findTexts 65 = .ok (.iload 4, 2) := by decide +kernel
theorem dX0_findTexts_67 : decode cX0_findTexts 67 = .ok (.invokevirtual 85, 3) := by decide +kernel
theorem dX0_findTexts_70 : decode cX0_findTexts 70 = .ok (.ior, 1) := by decide +kernel
theorem dX0_findTexts_71 : decode cX0_findTexts 71 = .ok (.istore_n 2, 1) := by decide +kernel
theorem dX0_findTexts_72 : decode cX0_findTexts 72 = .ok (.iinc 4 1, 3) := by decide +kernel
theorem dX0_findTexts_75 : decode cX0_findTexts 75 = .ok (.goto (-28), 3) := by decide +kernel
theorem dX0_findTexts_78 : decode cX0_findTexts 78 = .ok (.iinc 3 1, 3) := by decide +kernel
theorem dX0_findTexts_81 : decode cX0_findTexts 81 = .ok (.goto (-49), 3) := by decide +kernel
theorem dX0_findTexts_84 : decode cX0_findTexts 84 = .ok (.return_, 1) := by decide +kernel
theorem dX0_startTexts_0 : decode cX0_startTexts 0 = .ok (.iconst 0, 1) := by decide +kernel
theorem dX0_startTexts_1 : decode cX0_startTexts 1 = .ok (.istore_n 2, 1) := by decide +kernel
theorem dX0_startTexts_2 : decode cX0_startTexts 2 = .ok (.iload_n 2, 1) := by decide +kernel
theorem dX0_startTexts_3 : decode cX0_startTexts 3 = .ok (.aload_n 1, 1) := by decide +kernel
theorem dX0_startTexts_4 : decode cX0_startTexts 4 = .ok (.invokevirtual 50, 3) := by decide +kernel
theorem dX0_startTexts_7 : decode cX0_startTexts 7 = .ok (.if_icmp .ge 83, 3) := by decide +kernel
theorem dX0_startTexts_10 : decode cX0_startTexts 10 = .ok (.aload_n 1, 1) := by decide +kernel
theorem dX0_startTexts_11 : decode cX0_startTexts 11 = .ok (.iload_n 2, 1) := by decide +kernel
theorem dX0_startTexts_12 : decode cX0_startTexts 12 = .ok (.invokevirtual 89, 3) := by decide +kernel
theorem dX0_startTexts_15 : decode cX0_startTexts 15 = .ok (.istore_n 3, 1) := by decide +kernel
theorem dX0_startTexts_16 : decode cX0_startTexts 16 = .ok (.iconst 0, 1) := by decide +kernel
theorem dX0_startTexts_17 : decode cX0_startTexts 17 = .ok (.istore 4, 2) := by decide +kernel
theorem dX0_startTexts_19 : decode cX0_startTexts 19 = .ok (.iload 4, 2) := by decide +kernel
theorem dX0_startTexts_21 : decode cX0_startTexts 21 = .ok (.aload_n 1, 1) := by decide +kernel
theorem dX0_startTexts_22 : decode cX0_startTexts 22 = .ok (.invokevirtual 50, 3) := by decide +kernel
theorem dX0_startTexts_25 : decode cX0_startTexts 25 = .ok (.if_icmp .ge 59, 3) := by decide +kernel
theorem dX0_startTexts_28 : decode cX0_startTexts 28 = .ok (.aload_n 1, 1) := by decide +kernel
theorem dX0_startTexts_29 : decode cX0_startTexts 29 = .ok (.iload 4, 2) := by decide +kernel
theorem dX0_startTexts_31 : decode cX0_startTexts 31 = .ok (.invokevirtual 89, 3) := by decide +kernel
theorem dX0_startTexts_34 : decode cX0_startTexts 34 = .ok (.istore 5, 2) := by decide +kernel
theorem dX0_startTexts_36 : decode cX0_startTexts 36 = .ok (.iload_n 2, 1) := by decide +kernel
theorem dX0_startTexts_37 : decode cX0_startTexts 37 = .ok (.iload 4, 2) := by decide +kernel
theorem dX0_startTexts_39 : decode cX0_startTexts 39 = .ok (.if_icmp .eq 39, 3) := by decide +kernel
theorem dX0_startTexts_42 : decode cX0_startTexts 42 = .ok (.iload 5, 2) := by decide +kernel
theorem dX0_startTexts_44 : decode cX0_startTexts 44 = .ok (.iload_n 3, 1) := by decide +kernel
theorem dX0_startTexts_45 : decode cX0_startTexts 45 = .ok (.invokestatic 93, 3) := by decide +kernel
theorem dX0_startTexts_48 : decode cX0_startTexts 48 = .ok (.ifCond .eq 30, 3) := by decide +kernel
theorem dX0_startTexts_51 : decode cX0_startTexts 51 = .ok (.aload_n 0, 1) := by decide +kernel
theorem dX0_startTexts_52 : decode cX0_startTexts 52 = .ok (.getfield 37, 3) := by decide +kernel
theorem dX0_startTexts_55 : decode cX0_startTexts 55 = .ok (.invokevirtual 65, 3) := by decide +kernel
theorem dX0_startTexts_58 : decode cX0_startTexts 58 = .ok (.aload_n 0, 1) := by decide +kernel
theorem dX0_startTexts_59 : decode cX0_startTexts 59 = .ok (.getfield 37, 3) := by decide +kernel
theorem dX0_startTexts_62 : decode cX0_startTexts 62 = .ok (.iload 5, 2) := by decide +kernel
theorem dX0_startTexts_64 : decode cX0_startTexts 64 = .ok (.invokevirtual 99, 3) := by decide +kernel
theorem dX0_startTexts_67 : decode cX0_startTexts 67 = .ok (.aload_n 0, 1) := by decide +kernel
theorem dX0_startTexts_68 : decode cX0_startTexts 68 = .ok (.iload 5, 2) := by decide +kernel
theorem dX0_startTexts_70 : decode cX0_startTexts 70 = .ok (.iload_n 3, 1) := by decide +kernel
theorem dX0_startTexts_71 : decode cX0_startTexts 71 = .ok (.invokestatic 102, 3) := by decide +kernel
theorem dX0_startTexts_74 : decode cX0_startTexts 74 = .ok (.invokevirtual 106, 3) := by decide +kernel
theorem dX0_startTexts_77 : decode cX0_startTexts 77 = .ok (.pop, 1) := by decide +kernel
theorem dX0_startTexts_78 : decode cX0_startTexts 78 = .ok (.iinc 4 1, 3) := by decide +kernel
theorem dX0_startTexts_81 : decode cX0_startTexts 81 = .ok (.goto (-62), 3) := by decide +kernel
theorem dX0_startTexts_84 : decode cX0_startTexts 84 = .ok (.iinc 2 1, 3) := by decide +kernel
theorem dX0_startTexts_87 : decode cX0_startTexts 87 = .ok (.goto (-85), 3) := by decide +kernel
theorem dX0_startTexts_90 : decode cX0_startTexts 90 = .ok (.return_, 1) := by decide +kernel
theorem dX0_followText_0 : decode cX0_followText 0 = .ok (.aload_n 0, 1) := by decide +kernel
theorem dX0_followText_1 : decode cX0_followText 1 = .ok (.getfield 12, 3) := by decide +kernel
theorem dX0_followText_4 : decode cX0_followText 4 = .ok (.getfield 47, 3) := by decide +kernel
theorem dX0_followText_7 : decode cX0_followText 7 = .ok (.iload_n 2, 1) := by decide +kernel
theorem dX0_followText_8 : decode cX0_followText 8 = .ok (.invokevirtual 89, 3) := by decide +kernel
theorem dX0_followText_11 : decode cX0_followText 11 = .ok (.istore_n 3, 1) := by decide +kernel
theorem dX0_followText_12 : decode cX0_followText 12 = .ok (.iload_n 2, 1) := by decide +kernel
theorem dX0_followText_13 : decode cX0_followText 13 = .ok (.ifCond .lt 26, 3) := by decide +kernel
theorem dX0_followText_16 : decode cX0_followText 16 = .ok (.iload_n 2, 1) := by decide +kernel
theorem dX0_followText_17 : decode cX0_followText 17 = .ok (.bipush 25, 2) := by decide +kernel
theorem dX0_followText_19 : decode cX0_followText 19 = .ok (.if_icmp .ge 20, 3) := by decide +kernel
theorem dX0_followText_22 : decode cX0_followText 22 = .ok (.iload_n 3, 1) := by decide +kernel
theorem dX0_followText_23 : decode cX0_followText 23 = .ok (.iconst 1, 1) := by decide +kernel
theorem dX0_followText_24 : decode cX0_followText 24 = .ok (.if_icmp .eq 15, 3) := by decide +kernel
theorem dX0_followText_27 : decode cX0_followText 27 = .ok (.aload_n 0, 1) := by decide +kernel
theorem dX0_followText_28 : decode cX0_followText 28 = .ok (.getfield 33, 3) := by decide +kernel
theorem dX0_followText_31 : decode cX0_followText 31 = .ok (.iload_n 2, 1) := by decide +kernel
theorem dX0_followText_32 : decode cX0_followText 32 = .ok (.aaload, 1) := by decide +kernel
theorem dX0_followText_33 : decode cX0_followText 33 = .ok (.invokevirtual 50, 3) := by decide +kernel
theorem dX0_followText_36 : decode cX0_followText 36 = .ok (.ifCond .ne 5, 3) := by decide +kernel
theorem dX0_followText_39 : decode cX0_followText 39 = .ok (.iconst 0, 1) := by decide +kernel
theorem dX0_followText_40 : decode cX0_followText 40 = .ok (.ireturn, 1) := by decide +kernel
theorem dX0_followText_41 : decode cX0_followText 41 = .ok (.iconst 0, 1) := by decide +kernel
theorem dX0_followText_42 : decode cX0_followText 42 = .ok (.istore 4, 2) := by decide +kernel
theorem dX0_followText_44 : decode cX0_followText 44 = .ok (.iconst 0, 1) := by decide +kernel
theorem dX0_followText_45 : decode cX0_followText 45 = .ok (.istore 5, 2) := by decide +kernel
theorem dX0_followText_47 : decode cX0_followText 47 = .ok (.iload 5, 2) := by decide +kernel
theorem dX0_followText_49 : decode cX0_followText 49 = .ok (.aload_n 1, 1) := by decide +kernel
theorem dX0_followText_50 : decode cX0_followText 50 = .ok (.invokevirtual 50, 3) := by decide +kernel
theorem dX0_followText_53 : decode cX0_followText 53 = .ok (.if_icmp .ge 94, 3) := by decide +kernel
theorem dX0_followText_56 : decode cX0_followText 56 = .ok (.aload_n 1, 1) := by decide +kernel
theorem dX0_followText_57 : decode cX0_followText 57 = .ok (.iload 5, 2) := by decide +kernel
theorem dX0_followText_59 : decode cX0_followText 59 = .ok (.invokevirtual 89, 3) := by decide +kernel
theorem dX0_followText_62 : decode cX0_followText 62 = .ok (.istore 6, 2) := by decide +kernel
theorem dX0_followText_64 : decode cX0_followText 64 = .ok (.aload_n 0, 1) := by decide +kernel
theorem dX0_followText_65 : decode cX0_followText 65 = .ok (.getfield 37, 3) := by decide +kernel
theorem dX0_followText_68 : decode cX0_followText 68 = .ok (.aload_n 0, 1) := by decide +kernel
theorem dX0_followText_69 : decode cX0_followText 69 = .ok (.getfield 33, 3) := by decide +kernel
theorem dX0_followText_72 : decode cX0_followText 72 = .ok (.iload_n 2, 1) := by decide +kernel
theorem dX0_followText_73 : decode cX0_followText 73 = .ok (.aaload, 1) := by decide +kernel
theorem dX0_followText_74 : decode cX0_followText 74 = .ok (.invokevirtual 71, 3) := by decide +kernel
theorem dX0_followText_77 : decode cX0_followText 77 = .ok (.iload 6, 2) := by decide +kernel
theorem dX0_followText_79 : decode cX0_followText 79 = .ok (.iload_n 3, 1) := by decide +kernel
theorem dX0_followText_80 : decode cX0_followText 80 = .ok (.invokestatic 93, 3) := by decide +kernel
theorem dX0_followText_83 : decode cX0_followText 83 = .ok (.ifCond .eq 34, 3) := by decide +kernel
theorem dX0_followText_86 : decode cX0_followText 86 = .ok (.iload 6, 2) := by decide +kernel
theorem dX0_followText_88 : decode cX0_followText 88 = .ok (.iload_n 3, 1) := by decide +kernel
theorem dX0_followText_89 : decode cX0_followText 89 = .ok (.invokestatic 102, 3) := by decide +kernel
theorem dX0_followText_92 : decode cX0_followText 92 = .ok (.istore 7, 2) := by decide +kernel
theorem dX0_followText_94 : decode cX0_followText 94 = .ok (.aload_n 0, 1) := by decide +kernel
theorem dX0_followText_95 : decode cX0_followText 95 = .ok (.getfield 37, 3) := by decide +kernel
theorem dX0_followText_98 : decode cX0_followText 98 = .ok (.iload 7, 2) := by decide +kernel
theorem dX0_followText_100 : decode cX0_followText 100 = .ok (.invokevirtual 99, 3) := by decide +kernel
theorem dX0_followText_103 : decode cX0_followText 103 = .ok (.iload 4, 2) := by decide +kernel
theorem dX0_followText_105 : decode cX0_followText 105 = .ok (.aload_n 0, 1) := by decide +kernel
theorem dX0_followText_106 : decode cX0_followText 106 = .ok (.iload 7, 2) := by decide +kernel
theorem dX0_followText_108 : decode cX0_followText 108 = .ok (.invokevirtual 106, 3) := by decide +kernel
theorem dX0_followText_111 : decode cX0_followText 111 = .ok (.ior, 1) := by decide +kernel
theorem dX0_followText_112 : decode cX0_followText 112 = .ok (.istore 4, 2) := by decide +kernel
theorem dX0_followText_114 : decode cX0_followText 114 = .ok (.goto 27, 3) := by decide +kernel
theorem dX0_followText_117 : decode cX0_followText 117 = .ok (.iload_n 3, 1) := by decide +kernel
theorem dX0_followText_118 : decode cX0_followText 118 = .ok (.iload 6, 2) := by decide +kernel
theorem dX0_followText_120 : decode cX0_followText 120 = .ok (.invokestatic 93, 3) := by decide +kernel
theorem dX0_followText_123 : decode cX0_followText 123 = .ok (.ifCond .eq 18, 3) := by decide +kernel
theorem dX0_followText_126 : decode cX0_followText 126 = .ok (.iload 4, 2) := by decide +kernel
theorem dX0_followText_128 : decode cX0_followText 128 = .ok (.aload_n 0, 1) := by decide +kernel
theorem dX0_followText_129 : decode cX0_followText 129 = .ok (.iload_n 3, 1) := by decide +kernel
theorem dX0_followText_130 : decode cX0_followText 130 = .ok (.iload 6, 2) := by decide +kernel
theorem dX0_followText_132 : decode cX0_followText 132 = .ok (.invokestatic 102, 3) := by decide +kernel
theorem dX0_followText_135 : decode cX0_followText 135 = .ok (.invokevirtual 106, 3) := by decide +kernel
theorem dX0_followText_138 : decode cX0_followText 138 = .ok (.ior, 1) := by decide +kernel
theorem dX0_followText_139 : decode cX0_followText 139 = .ok (.istore 4, 2) := by decide +kernel
theorem dX0_followText_141 : decode cX0_followText 141 = .ok (.iinc 5 1, 3) := by decide +kernel
theorem dX0_followText_144 : decode cX0_followText 144 = .ok (.goto (-97), 3) := by decide +kernel
theorem dX0_followText_147 : decode cX0_followText 147 = .ok (.iload 4, 2) := by decide +kernel
theorem dX0_followText_149 : decode cX0_followText 149 = .ok (.ireturn, 1) := by decide +kernel
theorem dX0_take_0 : decode cX0_take 0 = .ok (.aload_n 0, 1) := by decide +kernel
theorem dX0_take_1 : decode cX0_take 1 = .ok (.getfield 12, 3) := by decide +kernel
theorem dX0_take_4 : decode cX0_take 4 = .ok (.getfield 47, 3) := by decide +kernel
theorem dX0_take_7 : decode cX0_take 7 = .ok (.iload_n 1, 1) := by decide +kernel
theorem dX0_take_8 : decode cX0_take 8 = .ok (.invokevirtual 110, 3) := by decide +kernel
theorem dX0_take_11 : decode cX0_take 11 = .ok (.istore_n 2, 1) := by decide +kernel
theorem dX0_take_12 : decode cX0_take 12 = .ok (.iload_n 2, 1) := by decide +kernel
theorem dX0_take_13 : decode cX0_take 13 = .ok (.ifCond .lt 9, 3) := by decide +kernel
theorem dX0_take_16 : decode cX0_take 16 = .ok (.iload_n 2, 1) := by decide +kernel
theorem dX0_take_17 : decode cX0_take 17 = .ok (.bipush 25, 2) := by decide +kernel
theorem dX0_take_19 : decode cX0_take 19 = .ok (.if_icmp .lt 5, 3) := by decide +kernel
theorem dX0_take_22 : decode cX0_take 22 = .ok (.iconst 0, 1) := by decide +kernel
theorem dX0_take_23 : decode cX0_take 23 = .ok (.ireturn, 1) := by decide +kernel
theorem dX0_take_24 : decode cX0_take 24 = .ok (.aload_n 0, 1) := by decide +kernel
theorem dX0_take_25 : decode cX0_take 25 = .ok (.getfield 33, 3) := by decide +kernel
theorem dX0_take_28 : decode cX0_take 28 = .ok (.iload_n 2, 1) := by decide +kernel
theorem dX0_take_29 : decode cX0_take 29 = .ok (.aaload, 1) := by decide +kernel
theorem dX0_take_30 : decode cX0_take 30 = .ok (.astore_n 3, 1) := by decide +kernel
theorem dX0_take_31 : decode cX0_take 31 = .ok (.aload_n 3, 1) := by decide +kernel
theorem dX0_take_32 : decode cX0_take 32 = .ok (.invokevirtual 50, 3) := by decide +kernel
theorem dX0_take_35 : decode cX0_take 35 = .ok (.ifCond .le 16, 3) := by decide +kernel
theorem dX0_take_38 : decode cX0_take 38 = .ok (.aload_n 0, 1) := by decide +kernel
theorem dX0_take_39 : decode cX0_take 39 = .ok (.getfield 37, 3) := by decide +kernel
theorem dX0_take_42 : decode cX0_take 42 = .ok (.aload_n 3, 1) := by decide +kernel
theorem dX0_take_43 : decode cX0_take 43 = .ok (.invokevirtual 113, 3) := by decide +kernel
theorem dX0_take_46 : decode cX0_take 46 = .ok (.ifCond .ne 5, 3) := by decide +kernel
theorem dX0_take_49 : decode cX0_take 49 = .ok (.iconst 0, 1) := by decide +kernel
theorem dX0_take_50 : decode cX0_take 50 = .ok (.ireturn, 1) := by decide +kernel
theorem dX0_take_51 : decode cX0_take 51 = .ok (.aload_n 3, 1) := by decide +kernel
theorem dX0_take_52 : decode cX0_take 52 = .ok (.aload_n 0, 1) := by decide +kernel
theorem dX0_take_53 : decode cX0_take 53 = .ok (.getfield 37, 3) := by decide +kernel
theorem dX0_take_56 : decode cX0_take 56 = .ok (.invokevirtual 71, 3) := by decide +kernel
theorem dX0_take_59 : decode cX0_take 59 = .ok (.iconst 1, 1) := by decide +kernel
theorem dX0_take_60 : decode cX0_take 60 = .ok (.ireturn, 1) := by decide +kernel
theorem dX1_init_0 : decode cX1_init 0 = .ok (.aload_n 0, 1) := by decide +kernel
theorem dX1_init_1 : decode cX1_init 1 = .ok (.invokespecial 3, 3) := by decide +kernel
theorem dX1_init_4 : decode cX1_init 4 = .ok (.aload_n 0, 1) := by decide +kernel
theorem dX1_init_5 : decode cX1_init 5 = .ok (.iconst 0, 1) := by decide +kernel
theorem dX1_init_6 : decode cX1_init 6 = .ok (.iload_n 1, 1) := by decide +kernel
theorem dX1_init_7 : decode cX1_init 7 = .ok (.invokestatic 9, 3) := by decide +kernel
theorem dX1_init_10 : decode cX1_init 10 = .ok (.newarray .int, 2) := by decide +kernel
theorem dX1_init_12 : decode cX1_init 12 = .ok (.putfield 15, 3) := by decide +kernel
theorem dX1_init_15 : decode cX1_init 15 = .ok (.aload_n 0, 1) := by decide +kernel
theorem dX1_init_16 : decode cX1_init 16 = .ok (.iconst 0, 1) := by decide +kernel
theorem dX1_init_17 : decode cX1_init 17 = .ok (.putfield 21, 3) := by decide +kernel
theorem dX1_init_20 : decode cX1_init 20 = .ok (.return_, 1) := by decide +kernel
theorem dX1_size_0 : decode cX1_size 0 = .ok (.aload_n 0, 1) := by decide +kernel
theorem dX1_size_1 : decode cX1_size 1 = .ok (.getfield 21, 3) := by decide +kernel
theorem dX1_size_4 : decode cX1_size 4 = .ok (.ireturn, 1) := by decide +kernel
theorem dX1_at_0 : decode cX1_at 0 = .ok (.iload_n 1, 1) := by decide +kernel
theorem dX1_at_1 : decode cX1_at 1 = .ok (.ifCond .lt 11, 3) := by decide +kernel
theorem dX1_at_4 : decode cX1_at 4 = .ok (.iload_n 1, 1) := by decide +kernel
theorem dX1_at_5 : decode cX1_at 5 = .ok (.aload_n 0, 1) := by decide +kernel
theorem dX1_at_6 : decode cX1_at 6 = .ok (.getfield 21, 3) := by decide +kernel
theorem dX1_at_9 : decode cX1_at 9 = .ok (.if_icmp .lt 8, 3) := by decide +kernel
theorem dX1_at_12 : decode cX1_at 12 = .ok (.bipush (-101), 2) := by decide +kernel
theorem dX1_at_14 : decode cX1_at 14 = .ok (.goto 9, 3) := by decide +kernel
theorem dX1_at_17 : decode cX1_at 17 = .ok (.aload_n 0, 1) := by decide +kernel
theorem dX1_at_18 : decode cX1_at 18 = .ok (.getfield 15, 3) := by decide +kernel
theorem dX1_at_21 : decode cX1_at 21 = .ok (.iload_n 1, 1) := by decide +kernel
theorem dX1_at_22 : decode cX1_at 22 = .ok (.iaload, 1) := by decide +kernel
theorem dX1_at_23 : decode cX1_at 23 = .ok (.ireturn, 1) := by decide +kernel
theorem dX1_placeOf_0 : decode cX1_placeOf 0 = .ok (.iconst 0, 1) := by decide +kernel
theorem dX1_placeOf_1 : decode cX1_placeOf 1 = .ok (.istore_n 2, 1) := by decide +kernel
theorem dX1_placeOf_2 : decode cX1_placeOf 2 = .ok (.iload_n 2, 1) := by decide +kernel
theorem dX1_placeOf_3 : decode cX1_placeOf 3 = .ok (.aload_n 0, 1) := by decide +kernel
theorem dX1_placeOf_4 : decode cX1_placeOf 4 = .ok (.getfield 21, 3) := by decide +kernel
theorem dX1_placeOf_7 : decode cX1_placeOf 7 = .ok (.if_icmp .ge 21, 3) := by decide +kernel
theorem dX1_placeOf_10 : decode cX1_placeOf 10 = .ok (.aload_n 0, 1) := by decide +kernel
theorem dX1_placeOf_11 : decode cX1_placeOf 11 = .ok (.getfield 15, 3) := by decide +kernel
theorem dX1_placeOf_14 : decode cX1_placeOf 14 = .ok (.iload_n 2, 1) := by decide +kernel
theorem dX1_placeOf_15 : decode cX1_placeOf 15 = .ok (.iaload, 1) := by decide +kernel
theorem dX1_placeOf_16 : decode cX1_placeOf 16 = .ok (.iload_n 1, 1) := by decide +kernel
theorem dX1_placeOf_17 : decode cX1_placeOf 17 = .ok (.if_icmp .ne 5, 3) := by decide +kernel
theorem dX1_placeOf_20 : decode cX1_placeOf 20 = .ok (.iload_n 2, 1) := by decide +kernel
theorem dX1_placeOf_21 : decode cX1_placeOf 21 = .ok (.ireturn, 1) := by decide +kernel
theorem dX1_placeOf_22 : decode cX1_placeOf 22 = .ok (.iinc 2 1, 3) := by decide +kernel
theorem dX1_placeOf_25 : decode cX1_placeOf 25 = .ok (.goto (-23), 3) := by decide +kernel
theorem dX1_placeOf_28 : decode cX1_placeOf 28 = .ok (.iconst (-1), 1) := by decide +kernel
theorem dX1_placeOf_29 : decode cX1_placeOf 29 = .ok (.ireturn, 1) := by decide +kernel
theorem dX1_clear_0 : decode cX1_clear 0 = .ok (.aload_n 0, 1) := by decide +kernel
theorem dX1_clear_1 : decode cX1_clear 1 = .ok (.iconst 0, 1) := by decide +kernel
theorem dX1_clear_2 : decode cX1_clear 2 = .ok (.putfield 21, 3) := by decide +kernel
theorem dX1_clear_5 : decode cX1_clear 5 = .ok (.return_, 1) := by decide +kernel
theorem dX1_add_0 : decode cX1_add 0 = .ok (.aload_n 0, 1) := by decide +kernel
theorem dX1_add_1 : decode cX1_add 1 = .ok (.getfield 21, 3) := by decide +kernel
theorem dX1_add_4 : decode cX1_add 4 = .ok (.aload_n 0, 1) := by decide +kernel
theorem dX1_add_5 : decode cX1_add 5 = .ok (.getfield 15, 3) := by decide +kernel
theorem dX1_add_8 : decode cX1_add 8 = .ok (.arraylength, 1) := by decide +kernel
theorem dX1_add_9 : decode cX1_add 9 = .ok (.if_icmp .ge 23, 3) := by decide +kernel
theorem dX1_add_12 : decode cX1_add 12 = .ok (.aload_n 0, 1) := by decide +kernel
theorem dX1_add_13 : decode cX1_add 13 = .ok (.getfield 15, 3) := by decide +kernel
theorem dX1_add_16 : decode cX1_add 16 = .ok (.aload_n 0, 1) := by decide +kernel
theorem dX1_add_17 : decode cX1_add 17 = .ok (.getfield 21, 3) := by decide +kernel
theorem dX1_add_20 : decode cX1_add 20 = .ok (.iload_n 1, 1) := by decide +kernel
theorem dX1_add_21 : decode cX1_add 21 = .ok (.iastore, 1) := by decide +kernel
theorem dX1_add_22 : decode cX1_add 22 = .ok (.aload_n 0, 1) := by decide +kernel
theorem dX1_add_23 : decode cX1_add 23 = .ok (.dup, 1) := by decide +kernel
theorem dX1_add_24 : decode cX1_add 24 = .ok (.getfield 21, 3) := by decide +kernel
theorem dX1_add_27 : decode cX1_add 27 = .ok (.iconst 1, 1) := by decide +kernel
theorem dX1_add_28 : decode cX1_add 28 = .ok (.iadd, 1) := by decide +kernel
theorem dX1_add_29 : decode cX1_add 29 = .ok (.putfield 21, 3) := by decide +kernel
theorem dX1_add_32 : decode cX1_add 32 = .ok (.return_, 1) := by decide +kernel
theorem dX1_addWord_0 : decode cX1_addWord 0 = .ok (.iload_n 1, 1) := by decide +kernel
theorem dX1_addWord_1 : decode cX1_addWord 1 = .ok (.invokestatic 25, 3) := by decide +kernel
theorem dX1_addWord_4 : decode cX1_addWord 4 = .ok (.iconst 1, 1) := by decide +kernel
theorem dX1_addWord_5 : decode cX1_addWord 5 = .ok (.isub, 1) := by decide +kernel
theorem dX1_addWord_6 : decode cX1_addWord 6 = .ok (.istore_n 2, 1) := by decide +kernel
theorem dX1_addWord_7 : decode cX1_addWord 7 = .ok (.iload_n 2, 1) := by decide +kernel
theorem dX1_addWord_8 : decode cX1_addWord 8 = .ok (.ifCond .lt 18, 3) := by decide +kernel
theorem dX1_addWord_11 : decode cX1_addWord 11 = .ok (.aload_n 0, 1) := by decide +kernel
theorem dX1_addWord_12 : decode cX1_addWord 12 = .ok (.iload_n 1, 1) := by decide +kernel
theorem dX1_addWord_13 : decode cX1_addWord 13 = .ok (.iload_n 2, 1) := by decide +kernel
theorem dX1_addWord_14 : decode cX1_addWord 14 = .ok (.invokestatic 30, 3) := by decide +kernel
theorem dX1_addWord_17 : decode cX1_addWord 17 = .ok (.invokevirtual 33, 3) := by decide +kernel
theorem dX1_addWord_20 : decode cX1_addWord 20 = .ok (.iinc 2 (-1), 3) := by decide +kernel
theorem dX1_addWord_23 : decode cX1_addWord 23 = .ok (.goto (-16), 3) := by decide +kernel
theorem dX1_addWord_26 : decode cX1_addWord 26 = .ok (.return_, 1) := by decide +kernel
theorem dX1_copy_0 : decode cX1_copy 0 = .ok (.aload_n 0, 1) := by decide +kernel
theorem dX1_copy_1 : decode cX1_copy 1 = .ok (.aload_n 1, 1) := by decide +kernel
theorem dX1_copy_2 : decode cX1_copy 2 = .ok (.getfield 21, 3) := by decide +kernel
theorem dX1_copy_5 : decode cX1_copy 5 = .ok (.aload_n 0, 1) := by decide +kernel
theorem dX1_copy_6 : decode cX1_copy 6 = .ok (.getfield 15, 3) := by decide +kernel
theorem dX1_copy_9 : decode cX1_copy 9 = .ok (.arraylength, 1) := by decide +kernel
theorem dX1_copy_10 : decode cX1_copy 10 = .ok (.if_icmp .ge 10, 3) := by decide +kernel
theorem dX1_copy_13 : decode cX1_copy 13 = .ok (.aload_n 1, 1) := by decide +kernel
theorem dX1_copy_14 : decode cX1_copy 14 = .ok (.getfield 21, 3) := by decide +kernel
theorem dX1_copy_17 : decode cX1_copy 17 = .ok (.goto 8, 3) := by decide +kernel
theorem dX1_copy_20 : decode cX1_copy 20 = .ok (.aload_n 0, 1) := by decide +kernel
theorem dX1_copy_21 : decode cX1_copy 21 = .ok (.getfield 15, 3) := by decide +kernel
theorem dX1_copy_24 : decode cX1_copy 24 = .ok (.arraylength, 1) := by decide +kernel
theorem dX1_copy_25 : decode cX1_copy 25 = .ok (.putfield 21, 3) := by decide +kernel
theorem dX1_copy_28 : decode cX1_copy 28 = .ok (.iconst 0, 1) := by decide +kernel
theorem dX1_copy_29 : decode cX1_copy 29 = .ok (.istore_n 2, 1) := by decide +kernel
theorem dX1_copy_30 : decode cX1_copy 30 = .ok (.iload_n 2, 1) := by decide +kernel
theorem dX1_copy_31 : decode cX1_copy 31 = .ok (.aload_n 0, 1) := by decide +kernel
theorem dX1_copy_32 : decode cX1_copy 32 = .ok (.getfield 21, 3) := by decide +kernel
theorem dX1_copy_35 : decode cX1_copy 35 = .ok (.if_icmp .ge 21, 3) := by decide +kernel
theorem dX1_copy_38 : decode cX1_copy 38 = .ok (.aload_n 0, 1) := by decide +kernel
theorem dX1_copy_39 : decode cX1_copy 39 = .ok (.getfield 15, 3) := by decide +kernel
theorem dX1_copy_42 : decode cX1_copy 42 = .ok (.iload_n 2, 1) := by decide +kernel
theorem dX1_copy_43 : decode cX1_copy 43 = .ok (.aload_n 1, 1) := by decide +kernel
theorem dX1_copy_44 : decode cX1_copy 44 = .ok (.getfield 15, 3) := by decide +kernel
theorem dX1_copy_47 : decode cX1_copy 47 = .ok (.iload_n 2, 1) := by decide +kernel
theorem dX1_copy_48 : decode cX1_copy 48 = .ok (.iaload, 1) := by decide +kernel
theorem dX1_copy_49 : decode cX1_copy 49 = .ok (.iastore, 1) := by decide +kernel
theorem dX1_copy_50 : decode cX1_copy 50 = .ok (.iinc 2 1, 3) := by decide +kernel
theorem dX1_copy_53 : decode cX1_copy 53 = .ok (.goto (-23), 3) := by decide +kernel
theorem dX1_copy_56 : decode cX1_copy 56 = .ok (.return_, 1) := by decide +kernel
theorem dX1_remove_0 : decode cX1_remove 0 = .ok (.iload_n 1, 1) := by decide +kernel
theorem dX1_remove_1 : decode cX1_remove 1 = .ok (.ifCond .lt 11, 3) := by decide +kernel
theorem dX1_remove_4 : decode cX1_remove 4 = .ok (.iload_n 1, 1) := by decide +kernel
theorem dX1_remove_5 : decode cX1_remove 5 = .ok (.aload_n 0, 1) := by decide +kernel
theorem dX1_remove_6 : decode cX1_remove 6 = .ok (.getfield 21, 3) := by decide +kernel
theorem dX1_remove_9 : decode cX1_remove 9 = .ok (.if_icmp .lt 4, 3) := by decide +kernel
theorem dX1_remove_12 : decode cX1_remove 12 = .ok (.return_, 1) := by decide +kernel
theorem dX1_remove_13 : decode cX1_remove 13 = .ok (.iload_n 1, 1) := by decide +kernel
theorem dX1_remove_14 : decode cX1_remove 14 = .ok (.iconst 1, 1) := by decide +kernel
theorem dX1_remove_15 : decode cX1_remove 15 = .ok (.iadd, 1) := by decide +kernel
theorem dX1_remove_16 : decode cX1_remove 16 = .ok (.istore_n 2, 1) := by decide +kernel
theorem dX1_remove_17 : decode cX1_remove 17 = .ok (.iload_n 2, 1) := by decide +kernel
theorem dX1_remove_18 : decode cX1_remove 18 = .ok (.aload_n 0, 1) := by decide +kernel
theorem dX1_remove_19 : decode cX1_remove 19 = .ok (.getfield 21, 3) := by decide +kernel
theorem dX1_remove_22 : decode cX1_remove 22 = .ok (.if_icmp .ge 23, 3) := by decide +kernel
theorem dX1_remove_25 : decode cX1_remove 25 = .ok (.aload_n 0, 1) := by decide +kernel
theorem dX1_remove_26 : decode cX1_remove 26 = .ok (.getfield 15, 3) := by decide +kernel
theorem dX1_remove_29 : decode cX1_remove 29 = .ok (.iload_n 2, 1) := by decide +kernel
theorem dX1_remove_30 : decode cX1_remove 30 = .ok (.iconst 1, 1) := by decide +kernel
theorem dX1_remove_31 : decode cX1_remove 31 = .ok (.isub, 1) := by decide +kernel
theorem dX1_remove_32 : decode cX1_remove 32 = .ok (.aload_n 0, 1) := by decide +kernel
theorem dX1_remove_33 : decode cX1_remove 33 = .ok (.getfield 15, 3) := by decide +kernel
theorem dX1_remove_36 : decode cX1_remove 36 = .ok (.iload_n 2, 1) := by decide +kernel
theorem dX1_remove_37 : decode cX1_remove 37 = .ok (.iaload, 1) := by decide +kernel
theorem dX1_remove_38 : decode cX1_remove 38 = .ok (.iastore, 1) := by decide +kernel
theorem dX1_remove_39 : decode cX1_remove 39 = .ok (.iinc 2 1, 3) := by decide +kernel
theorem dX1_remove_42 : decode cX1_remove 42 = .ok (.goto (-25), 3) := by decide +kernel
theorem dX1_remove_45 : decode cX1_remove 45 = .ok (.aload_n 0, 1) := by decide +kernel
theorem dX1_remove_46 : decode cX1_remove 46 = .ok (.dup, 1) := by decide +kernel
theorem dX1_remove_47 : decode cX1_remove 47 = .ok (.getfield 21, 3) := by decide +kernel
theorem dX1_remove_50 : decode cX1_remove 50 = .ok (.iconst 1, 1) := by decide +kernel
theorem dX1_remove_51 : decode cX1_remove 51 = .ok (.isub, 1) := by decide +kernel
theorem dX1_remove_52 : decode cX1_remove 52 = .ok (.putfield 21, 3) := by decide +kernel
theorem dX1_remove_55 : decode cX1_remove 55 = .ok (.return_, 1) := by decide +kernel
theorem dX1_sort_0 : decode cX1_sort 0 = .ok (.iconst 1, 1) := by decide +kernel
theorem dX1_sort_1 : decode cX1_sort 1 = .ok (.istore_n 1, 1) := by decide +kernel
theorem dX1_sort_2 : decode cX1_sort 2 = .ok (.iload_n 1, 1) := by decide +kernel
theorem dX1_sort_3 : decode cX1_sort 3 = .ok (.aload_n 0, 1) := by decide +kernel
theorem dX1_sort_4 : decode cX1_sort 4 = .ok (.getfield 21, 3) := by decide +kernel
theorem dX1_sort_7 : decode cX1_sort 7 = .ok (.if_icmp .ge 61, 3) := by decide +kernel
theorem dX1_sort_10 : decode cX1_sort 10 = .ok (.aload_n 0, 1) := by decide +kernel
theorem dX1_sort_11 : decode cX1_sort 11 = .ok (.getfield 15, 3) := by decide +kernel
theorem dX1_sort_14 : decode cX1_sort 14 = .ok (.iload_n 1, 1) := by decide +kernel
theorem dX1_sort_15 : decode cX1_sort 15 = .ok (.iaload, 1) := by decide +kernel
theorem dX1_sort_16 : decode cX1_sort 16 = .ok (.istore_n 2, 1) := by decide +kernel
theorem dX1_sort_17 : decode cX1_sort 17 = .ok (.iload_n 1, 1) := by decide +kernel
theorem dX1_sort_18 : decode cX1_sort 18 = .ok (.istore_n 3, 1) := by decide +kernel
theorem dX1_sort_19 : decode cX1_sort 19 = .ok (.iload_n 3, 1) := by decide +kernel
theorem dX1_sort_20 : decode cX1_sort 20 = .ok (.ifCond .le 35, 3) := by decide +kernel
theorem dX1_sort_23 : decode cX1_sort 23 = .ok (.aload_n 0, 1) := by decide +kernel
theorem dX1_sort_24 : decode cX1_sort 24 = .ok (.getfield 15, 3) := by decide +kernel
theorem dX1_sort_27 : decode cX1_sort 27 = .ok (.iload_n 3, 1) := by decide +kernel
theorem dX1_sort_28 : decode cX1_sort 28 = .ok (.iconst 1, 1) := by decide +kernel
theorem dX1_sort_29 : decode cX1_sort 29 = .ok (.isub, 1) := by decide +kernel
theorem dX1_sort_30 : decode cX1_sort 30 = .ok (.iaload, 1) := by decide +kernel
theorem dX1_sort_31 : decode cX1_sort 31 = .ok (.iload_n 2, 1) := by decide +kernel
theorem dX1_sort_32 : decode cX1_sort 32 = .ok (.if_icmp .le 23, 3) := by decide +kernel
theorem dX1_sort_35 : decode cX1_sort 35 = .ok (.aload_n 0, 1) := by decide +kernel
theorem dX1_sort_36 : decode cX1_sort 36 = .ok (.getfield 15, 3) := by decide +kernel
theorem dX1_sort_39 : decode cX1_sort 39 = .ok (.iload_n 3, 1) := by decide +kernel
theorem dX1_sort_40 : decode cX1_sort 40 = .ok (.aload_n 0, 1) := by decide +kernel
theorem dX1_sort_41 : decode cX1_sort 41 = .ok (.getfield 15, 3) := by decide +kernel
theorem dX1_sort_44 : decode cX1_sort 44 = .ok (.iload_n 3, 1) := by decide +kernel
theorem dX1_sort_45 : decode cX1_sort 45 = .ok (.iconst 1, 1) := by decide +kernel
theorem dX1_sort_46 : decode cX1_sort 46 = .ok (.isub, 1) := by decide +kernel
theorem dX1_sort_47 : decode cX1_sort 47 = .ok (.iaload, 1) := by decide +kernel
theorem dX1_sort_48 : decode cX1_sort 48 = .ok (.iastore, 1) := by decide +kernel
theorem dX1_sort_49 : decode cX1_sort 49 = .ok (.iinc 3 (-1), 3) := by decide +kernel
theorem dX1_sort_52 : decode cX1_sort 52 = .ok (.goto (-33), 3) := by decide +kernel
theorem dX1_sort_55 : decode cX1_sort 55 = .ok (.aload_n 0, 1) := by decide +kernel
theorem dX1_sort_56 : decode cX1_sort 56 = .ok (.getfield 15, 3) := by decide +kernel
theorem dX1_sort_59 : decode cX1_sort 59 = .ok (.iload_n 3, 1) := by decide +kernel
theorem dX1_sort_60 : decode cX1_sort 60 = .ok (.iload_n 2, 1) := by decide +kernel
theorem dX1_sort_61 : decode cX1_sort 61 = .ok (.iastore, 1) := by decide +kernel
theorem dX1_sort_62 : decode cX1_sort 62 = .ok (.iinc 1 1, 3) := by decide +kernel
theorem dX1_sort_65 : decode cX1_sort 65 = .ok (.goto (-63), 3) := by decide +kernel
theorem dX1_sort_68 : decode cX1_sort 68 = .ok (.return_, 1) := by decide +kernel
theorem dX1_isSame_0 : decode cX1_isSame 0 = .ok (.aload_n 0, 1) := by decide +kernel
theorem dX1_isSame_1 : decode cX1_isSame 1 = .ok (.getfield 21, 3) := by decide +kernel
theorem dX1_isSame_4 : decode cX1_isSame 4 = .ok (.aload_n 1, 1) := by decide +kernel
theorem dX1_isSame_5 : decode cX1_isSame 5 = .ok (.getfield 21, 3) := by decide +kernel
theorem dX1_isSame_8 : decode cX1_isSame 8 = .ok (.if_icmp .eq 5, 3) := by decide +kernel
theorem dX1_isSame_11 : decode cX1_isSame 11 = .ok (.iconst 0, 1) := by decide +kernel
theorem dX1_isSame_12 : decode cX1_isSame 12 = .ok (.ireturn, 1) := by decide +kernel
theorem dX1_isSame_13 : decode cX1_isSame 13 = .ok (.iconst 0, 1) := by decide +kernel
theorem dX1_isSame_14 : decode cX1_isSame 14 = .ok (.istore_n 2, 1) := by decide +kernel
theorem dX1_isSame_15 : decode cX1_isSame 15 = .ok (.iload_n 2, 1) := by decide +kernel
theorem dX1_isSame_16 : decode cX1_isSame 16 = .ok (.aload_n 0, 1) := by decide +kernel
theorem dX1_isSame_17 : decode cX1_isSame 17 = .ok (.getfield 21, 3) := by decide +kernel
theorem dX1_isSame_20 : decode cX1_isSame 20 = .ok (.if_icmp .ge 26, 3) := by decide +kernel
theorem dX1_isSame_23 : decode cX1_isSame 23 = .ok (.aload_n 0, 1) := by decide +kernel
theorem dX1_isSame_24 : decode cX1_isSame 24 = .ok (.getfield 15, 3) := by decide +kernel
theorem dX1_isSame_27 : decode cX1_isSame 27 = .ok (.iload_n 2, 1) := by decide +kernel
theorem dX1_isSame_28 : decode cX1_isSame 28 = .ok (.iaload, 1) := by decide +kernel
theorem dX1_isSame_29 : decode cX1_isSame 29 = .ok (.aload_n 1, 1) := by decide +kernel
theorem dX1_isSame_30 : decode cX1_isSame 30 = .ok (.getfield 15, 3) := by decide +kernel
theorem dX1_isSame_33 : decode cX1_isSame 33 = .ok (.iload_n 2, 1) := by decide +kernel
theorem dX1_isSame_34 : decode cX1_isSame 34 = .ok (.iaload, 1) := by decide +kernel
theorem dX1_isSame_35 : decode cX1_isSame 35 = .ok (.if_icmp .eq 5, 3) := by decide +kernel
theorem dX1_isSame_38 : decode cX1_isSame 38 = .ok (.iconst 0, 1) := by decide +kernel
theorem dX1_isSame_39 : decode cX1_isSame 39 = .ok (.ireturn, 1) := by decide +kernel
theorem dX1_isSame_40 : decode cX1_isSame 40 = .ok (.iinc 2 1, 3) := by decide +kernel
theorem dX1_isSame_43 : decode cX1_isSame 43 = .ok (.goto (-28), 3) := by decide +kernel
theorem dX1_isSame_46 : decode cX1_isSame 46 = .ok (.iconst 1, 1) := by decide +kernel
theorem dX1_isSame_47 : decode cX1_isSame 47 = .ok (.ireturn, 1) := by decide +kernel
theorem dX1_isBefore_0 : decode cX1_isBefore 0 = .ok (.aload_n 0, 1) := by decide +kernel
theorem dX1_isBefore_1 : decode cX1_isBefore 1 = .ok (.getfield 21, 3) := by decide +kernel
theorem dX1_isBefore_4 : decode cX1_isBefore 4 = .ok (.aload_n 1, 1) := by decide +kernel
theorem dX1_isBefore_5 : decode cX1_isBefore 5 = .ok (.getfield 21, 3) := by decide +kernel
theorem dX1_isBefore_8 : decode cX1_isBefore 8 = .ok (.if_icmp .eq 20, 3) := by decide +kernel
theorem dX1_isBefore_11 : decode cX1_isBefore 11 = .ok (.aload_n 0, 1) := by decide +kernel
theorem dX1_isBefore_12 : decode cX1_isBefore 12 = .ok (.getfield 21, 3) := by decide +kernel
theorem dX1_isBefore_15 : decode cX1_isBefore 15 = .ok (.aload_n 1, 1) := by decide +kernel
theorem dX1_isBefore_16 : decode cX1_isBefore 16 = .ok (.getfield 21, 3) := by decide +kernel
theorem dX1_isBefore_19 : decode cX1_isBefore 19 = .ok (.if_icmp .ge 7, 3) := by decide +kernel
theorem dX1_isBefore_22 : decode cX1_isBefore 22 = .ok (.iconst 1, 1) := by decide +kernel
theorem dX1_isBefore_23 : decode cX1_isBefore 23 = .ok (.goto 4, 3) := by decide +kernel
theorem dX1_isBefore_26 : decode cX1_isBefore 26 = .ok (.iconst 0, 1) := by decide +kernel
theorem dX1_isBefore_27 : decode cX1_isBefore 27 = .ok (.ireturn, 1) := by decide +kernel
theorem dX1_isBefore_28 : decode cX1_isBefore 28 = .ok (.iconst 0, 1) := by decide +kernel
theorem dX1_isBefore_29 : decode cX1_isBefore 29 = .ok (.istore_n 2, 1) := by decide +kernel
theorem dX1_isBefore_30 : decode cX1_isBefore 30 = .ok (.iload_n 2, 1) := by decide +kernel
theorem dX1_isBefore_31 : decode cX1_isBefore 31 = .ok (.aload_n 0, 1) := by decide +kernel
theorem dX1_isBefore_32 : decode cX1_isBefore 32 = .ok (.getfield 21, 3) := by decide +kernel
theorem dX1_isBefore_35 : decode cX1_isBefore 35 = .ok (.if_icmp .ge 45, 3) := by decide +kernel
theorem dX1_isBefore_38 : decode cX1_isBefore 38 = .ok (.aload_n 0, 1) := by decide +kernel
theorem dX1_isBefore_39 : decode cX1_isBefore 39 = .ok (.getfield 15, 3) := by decide +kernel
theorem dX1_isBefore_42 : decode cX1_isBefore 42 = .ok (.iload_n 2, 1) := by decide +kernel
theorem dX1_isBefore_43 : decode cX1_isBefore 43 = .ok (.iaload, 1) := by decide +kernel
theorem dX1_isBefore_44 : decode cX1_isBefore 44 = .ok (.aload_n 1, 1) := by decide +kernel
theorem dX1_isBefore_45 : decode cX1_isBefore 45 = .ok (.getfield 15, 3) := by decide +kernel
theorem dX1_isBefore_48 : decode cX1_isBefore 48 = .ok (.iload_n 2, 1) := by decide +kernel
theorem dX1_isBefore_49 : decode cX1_isBefore 49 = .ok (.iaload, 1) := by decide +kernel
theorem dX1_isBefore_50 : decode cX1_isBefore 50 = .ok (.if_icmp .eq 24, 3) := by decide +kernel
theorem dX1_isBefore_53 : decode cX1_isBefore 53 = .ok (.aload_n 0, 1) := by decide +kernel
theorem dX1_isBefore_54 : decode cX1_isBefore 54 = .ok (.getfield 15, 3) := by decide +kernel
theorem dX1_isBefore_57 : decode cX1_isBefore 57 = .ok (.iload_n 2, 1) := by decide +kernel
theorem dX1_isBefore_58 : decode cX1_isBefore 58 = .ok (.iaload, 1) := by decide +kernel
theorem dX1_isBefore_59 : decode cX1_isBefore 59 = .ok (.aload_n 1, 1) := by decide +kernel
theorem dX1_isBefore_60 : decode cX1_isBefore 60 = .ok (.getfield 15, 3) := by decide +kernel
theorem dX1_isBefore_63 : decode cX1_isBefore 63 = .ok (.iload_n 2, 1) := by decide +kernel
theorem dX1_isBefore_64 : decode cX1_isBefore 64 = .ok (.iaload, 1) := by decide +kernel
theorem dX1_isBefore_65 : decode cX1_isBefore 65 = .ok (.if_icmp .ge 7, 3) := by decide +kernel
theorem dX1_isBefore_68 : decode cX1_isBefore 68 = .ok (.iconst 1, 1) := by decide +kernel
theorem dX1_isBefore_69 : decode cX1_isBefore 69 = .ok (.goto 4, 3) := by decide +kernel
theorem dX1_isBefore_72 : decode cX1_isBefore 72 = .ok (.iconst 0, 1) := by decide +kernel
theorem dX1_isBefore_73 : decode cX1_isBefore 73 = .ok (.ireturn, 1) := by decide +kernel
theorem dX1_isBefore_74 : decode cX1_isBefore 74 = .ok (.iinc 2 1, 3) := by decide +kernel
theorem dX1_isBefore_77 : decode cX1_isBefore 77 = .ok (.goto (-47), 3) := by decide +kernel
theorem dX1_isBefore_80 : decode cX1_isBefore 80 = .ok (.iconst 0, 1) := by decide +kernel
theorem dX1_isBefore_81 : decode cX1_isBefore 81 = .ok (.ireturn, 1) := by decide +kernel
theorem dX2_endOf_0 : decode cX2_endOf 0 = .ok (.iload_n 2, 1) := by decide +kernel
theorem dX2_endOf_1 : decode cX2_endOf 1 = .ok (.iload_n 0, 1) := by decide +kernel
theorem dX2_endOf_2 : decode cX2_endOf 2 = .ok (.invokestatic 9, 3) := by decide +kernel
theorem dX2_endOf_5 : decode cX2_endOf 5 = .ok (.iadd, 1) := by decide +kernel
theorem dX2_endOf_6 : decode cX2_endOf 6 = .ok (.istore_n 3, 1) := by decide +kernel
theorem dX2_endOf_7 : decode cX2_endOf 7 = .ok (.iload_n 2, 1) := by decide +kernel
theorem dX2_endOf_8 : decode cX2_endOf 8 = .ok (.istore 4, 2) := by decide +kernel
theorem dX2_endOf_10 : decode cX2_endOf 10 = .ok (.iload 4, 2) := by decide +kernel
theorem dX2_endOf_12 : decode cX2_endOf 12 = .ok (.iload_n 3, 1) := by decide +kernel
theorem dX2_endOf_13 : decode cX2_endOf 13 = .ok (.if_icmp .ge 30, 3) := by decide +kernel
theorem dX2_endOf_16 : decode cX2_endOf 16 = .ok (.aload_n 1, 1) := by decide +kernel
theorem dX2_endOf_17 : decode cX2_endOf 17 = .ok (.iload 4, 2) := by decide +kernel
theorem dX2_endOf_19 : decode cX2_endOf 19 = .ok (.invokevirtual 15, 3) := by decide +kernel
theorem dX2_endOf_22 : decode cX2_endOf 22 = .ok (.iload_n 0, 1) := by decide +kernel
theorem dX2_endOf_23 : decode cX2_endOf 23 = .ok (.iload_n 3, 1) := by decide +kernel
theorem dX2_endOf_24 : decode cX2_endOf 24 = .ok (.iconst 1, 1) := by decide +kernel
theorem dX2_endOf_25 : decode cX2_endOf 25 = .ok (.isub, 1) := by decide +kernel
theorem dX2_endOf_26 : decode cX2_endOf 26 = .ok (.iload 4, 2) := by decide +kernel
theorem dX2_endOf_28 : decode cX2_endOf 28 = .ok (.isub, 1) := by decide +kernel
theorem dX2_endOf_29 : decode cX2_endOf 29 = .ok (.invokestatic 20, 3) := by decide +kernel
theorem dX2_endOf_32 : decode cX2_endOf 32 = .ok (.if_icmp .eq 5, 3) := by decide +kernel
theorem dX2_endOf_35 : decode cX2_endOf 35 = .ok (.iconst (-1), 1) := by decide +kernel
theorem dX2_endOf_36 : decode cX2_endOf 36 = .ok (.ireturn, 1) := by decide +kernel
theorem dX2_endOf_37 : decode cX2_endOf 37 = .ok (.iinc 4 1, 3) := by decide +kernel
theorem dX2_endOf_40 : decode cX2_endOf 40 = .ok (.goto (-30), 3) := by decide +kernel
theorem dX2_endOf_43 : decode cX2_endOf 43 = .ok (.iload_n 3, 1) := by decide +kernel
theorem dX2_endOf_44 : decode cX2_endOf 44 = .ok (.ireturn, 1) := by decide +kernel
theorem dX2_longest_0 : decode cX2_longest 0 = .ok (.iconst (-1), 1) := by decide +kernel
theorem dX2_longest_1 : decode cX2_longest 1 = .ok (.istore_n 3, 1) := by decide +kernel
theorem dX2_longest_2 : decode cX2_longest 2 = .ok (.iload_n 2, 1) := by decide +kernel
theorem dX2_longest_3 : decode cX2_longest 3 = .ok (.istore 4, 2) := by decide +kernel
theorem dX2_longest_5 : decode cX2_longest 5 = .ok (.iconst 0, 1) := by decide +kernel
theorem dX2_longest_6 : decode cX2_longest 6 = .ok (.istore 5, 2) := by decide +kernel
theorem dX2_longest_8 : decode cX2_longest 8 = .ok (.iload 5, 2) := by decide +kernel
theorem dX2_longest_10 : decode cX2_longest 10 = .ok (.aload_n 0, 1) := by decide +kernel
theorem dX2_longest_11 : decode cX2_longest 11 = .ok (.invokevirtual 24, 3) := by decide +kernel
theorem dX2_longest_14 : decode cX2_longest 14 = .ok (.if_icmp .ge 36, 3) := by decide +kernel
theorem dX2_longest_17 : decode cX2_longest 17 = .ok (.aload_n 0, 1) := by decide +kernel
theorem dX2_longest_18 : decode cX2_longest 18 = .ok (.iload 5, 2) := by decide +kernel
theorem dX2_longest_20 : decode cX2_longest 20 = .ok (.invokevirtual 15, 3) := by decide +kernel
theorem dX2_longest_23 : decode cX2_longest 23 = .ok (.aload_n 1, 1) := by decide +kernel
theorem dX2_longest_24 : decode cX2_longest 24 = .ok (.iload_n 2, 1) := by decide +kernel
theorem dX2_longest_25 : decode cX2_longest 25 = .ok (.invokestatic 27, 3) := by decide +kernel
theorem dX2_longest_28 : decode cX2_longest 28 = .ok (.istore 6, 2) := by decide +kernel
theorem dX2_longest_30 : decode cX2_longest 30 = .ok (.iload 6, 2) := by decide +kernel
theorem dX2_longest_32 : decode cX2_longest 32 = .ok (.iload 4, 2) := by decide +kernel
theorem dX2_longest_34 : decode cX2_longest 34 = .ok (.if_icmp .le 10, 3) := by decide +kernel
theorem dX2_longest_37 : decode cX2_longest 37 = .ok (.iload 5, 2) := by decide +kernel
theorem dX2_longest_39 : decode cX2_longest 39 = .ok (.istore_n 3, 1) := by decide +kernel
theorem dX2_longest_40 : decode cX2_longest 40 = .ok (.iload 6, 2) := by decide +kernel
theorem dX2_longest_42 : decode cX2_longest 42 = .ok (.istore 4, 2) := by decide +kernel
theorem dX2_longest_44 : decode cX2_longest 44 = .ok (.iinc 5 1, 3) := by decide +kernel
theorem dX2_longest_47 : decode cX2_longest 47 = .ok (.goto (-39), 3) := by decide +kernel
theorem dX2_longest_50 : decode cX2_longest 50 = .ok (.iload_n 3, 1) := by decide +kernel
theorem dX2_longest_51 : decode cX2_longest 51 = .ok (.ireturn, 1) := by decide +kernel
theorem dX2_decode_0 : decode cX2_decode 0 = .ok (.aload_n 2, 1) := by decide +kernel
theorem dX2_decode_1 : decode cX2_decode 1 = .ok (.invokevirtual 33, 3) := by decide +kernel
theorem dX2_decode_4 : decode cX2_decode 4 = .ok (.iconst 0, 1) := by decide +kernel
theorem dX2_decode_5 : decode cX2_decode 5 = .ok (.istore_n 3, 1) := by decide +kernel
theorem dX2_decode_6 : decode cX2_decode 6 = .ok (.iconst 0, 1) := by decide +kernel
theorem dX2_decode_7 : decode cX2_decode 7 = .ok (.istore 4, 2) := by decide +kernel
theorem dX2_decode_9 : decode cX2_decode 9 = .ok (.iload 4, 2) := by decide +kernel
theorem dX2_decode_11 : decode cX2_decode 11 = .ok (.aload_n 1, 1) := by decide +kernel
theorem dX2_decode_12 : decode cX2_decode 12 = .ok (.invokevirtual 24, 3) := by decide +kernel
theorem dX2_decode_15 : decode cX2_decode 15 = .ok (.if_icmp .ge 51, 3) := by decide +kernel
theorem dX2_decode_18 : decode cX2_decode 18 = .ok (.iload_n 3, 1) := by decide +kernel
theorem dX2_decode_19 : decode cX2_decode 19 = .ok (.aload_n 1, 1) := by decide +kernel
theorem dX2_decode_20 : decode cX2_decode 20 = .ok (.invokevirtual 24, 3) := by decide +kernel
theorem dX2_decode_23 : decode cX2_decode 23 = .ok (.if_icmp .ge 43, 3) := by decide +kernel
theorem dX2_decode_26 : decode cX2_decode 26 = .ok (.aload_n 0, 1) := by decide +kernel
theorem dX2_decode_27 : decode cX2_decode 27 = .ok (.aload_n 1, 1) := by decide +kernel
theorem dX2_decode_28 : decode cX2_decode 28 = .ok (.iload_n 3, 1) := by decide +kernel
theorem dX2_decode_29 : decode cX2_decode 29 = .ok (.invokestatic 36, 3) := by decide +kernel
theorem dX2_decode_32 : decode cX2_decode 32 = .ok (.istore 5, 2) := by decide +kernel
theorem dX2_decode_34 : decode cX2_decode 34 = .ok (.iload 5, 2) := by decide +kernel
theorem dX2_decode_36 : decode cX2_decode 36 = .ok (.iconst (-1), 1) := by decide +kernel
theorem dX2_decode_37 : decode cX2_decode 37 = .ok (.if_icmp .ne 5, 3) := by decide +kernel
theorem dX2_decode_40 : decode cX2_decode 40 = .ok (.iload_n 3, 1) := by decide +kernel
theorem dX2_decode_41 : decode cX2_decode 41 = .ok (.ireturn, 1) := by decide +kernel
theorem dX2_decode_42 : decode cX2_decode 42 = .ok (.aload_n 2, 1) := by decide +kernel
theorem dX2_decode_43 : decode cX2_decode 43 = .ok (.iload 5, 2) := by decide +kernel
theorem dX2_decode_45 : decode cX2_decode 45 = .ok (.invokevirtual 40, 3) := by decide +kernel
theorem dX2_decode_48 : decode cX2_decode 48 = .ok (.iload_n 3, 1) := by decide +kernel
theorem dX2_decode_49 : decode cX2_decode 49 = .ok (.aload_n 0, 1) := by decide +kernel
theorem dX2_decode_50 : decode cX2_decode 50 = .ok (.iload 5, 2) := by decide +kernel
theorem dX2_decode_52 : decode cX2_decode 52 = .ok (.invokevirtual 15, 3) := by decide +kernel
theorem dX2_decode_55 : decode cX2_decode 55 = .ok (.invokestatic 9, 3) := by decide +kernel
theorem dX2_decode_58 : decode cX2_decode 58 = .ok (.iadd, 1) := by decide +kernel
theorem dX2_decode_59 : decode cX2_decode 59 = .ok (.istore_n 3, 1) := by decide +kernel
theorem dX2_decode_60 : decode cX2_decode 60 = .ok (.iinc 4 1, 3) := by decide +kernel
theorem dX2_decode_63 : decode cX2_decode 63 = .ok (.goto (-54), 3) := by decide +kernel
theorem dX2_decode_66 : decode cX2_decode 66 = .ok (.iload_n 3, 1) := by decide +kernel
theorem dX2_decode_67 : decode cX2_decode 67 = .ok (.ireturn, 1) := by decide +kernel
theorem dX3_init_0 : decode cX3_init 0 = .ok (.aload_n 0, 1) := by decide +kernel
theorem dX3_init_1 : decode cX3_init 1 = .ok (.invokespecial 3, 3) := by decide +kernel
theorem dX3_init_4 : decode cX3_init 4 = .ok (.aload_n 0, 1) := by decide +kernel
theorem dX3_init_5 : decode cX3_init 5 = .ok (.new 9, 3) := by decide +kernel
theorem dX3_init_8 : decode cX3_init 8 = .ok (.dup, 1) := by decide +kernel
theorem dX3_init_9 : decode cX3_init 9 = .ok (.invokespecial 11, 3) := by decide +kernel
theorem dX3_init_12 : decode cX3_init 12 = .ok (.putfield 12, 3) := by decide +kernel
theorem dX3_init_15 : decode cX3_init 15 = .ok (.aload_n 0, 1) := by decide +kernel
theorem dX3_init_16 : decode cX3_init 16 = .ok (.new 18, 3) := by decide +kernel
theorem dX3_init_19 : decode cX3_init 19 = .ok (.dup, 1) := by decide +kernel
theorem dX3_init_20 : decode cX3_init 20 = .ok (.bipush 8, 2) := by decide +kernel
theorem dX3_init_22 : decode cX3_init 22 = .ok (.invokespecial 20, 3) := by decide +kernel
theorem dX3_init_25 : decode cX3_init 25 = .ok (.putfield 23, 3) := by decide +kernel
theorem dX3_init_28 : decode cX3_init 28 = .ok (.aload_n 0, 1) := by decide +kernel
theorem dX3_init_29 : decode cX3_init 29 = .ok (.iconst 0, 1) := by decide +kernel
theorem dX3_init_30 : decode cX3_init 30 = .ok (.putfield 27, 3) := by decide +kernel
theorem dX3_init_33 : decode cX3_init 33 = .ok (.return_, 1) := by decide +kernel
theorem dX3_value_0 : decode cX3_value 0 = .ok (.aload_n 0, 1) := by decide +kernel
theorem dX3_value_1 : decode cX3_value 1 = .ok (.getfield 27, 3) := by decide +kernel
theorem dX3_value_4 : decode cX3_value 4 = .ok (.iconst (-1), 1) := by decide +kernel
theorem dX3_value_5 : decode cX3_value 5 = .ok (.if_icmp .ne 5, 3) := by decide +kernel
theorem dX3_value_8 : decode cX3_value 8 = .ok (.iconst (-1), 1) := by decide +kernel
theorem dX3_value_9 : decode cX3_value 9 = .ok (.ireturn, 1) := by decide +kernel
theorem dX3_value_10 : decode cX3_value 10 = .ok (.iload_n 1, 1) := by decide +kernel
theorem dX3_value_11 : decode cX3_value 11 = .ok (.ifCond .ne 13, 3) := by decide +kernel
theorem dX3_value_14 : decode cX3_value 14 = .ok (.aload_n 0, 1) := by decide +kernel
theorem dX3_value_15 : decode cX3_value 15 = .ok (.getfield 27, 3) := by decide +kernel
theorem dX3_value_18 : decode cX3_value 18 = .ok (.invokestatic 31, 3) := by decide +kernel
theorem dX3_value_21 : decode cX3_value 21 = .ok (.goto 7, 3) := by decide +kernel
theorem dX3_value_24 : decode cX3_value 24 = .ok (.aload_n 0, 1) := by decide +kernel
theorem dX3_value_25 : decode cX3_value 25 = .ok (.getfield 27, 3) := by decide +kernel
theorem dX3_value_28 : decode cX3_value 28 = .ok (.ireturn, 1) := by decide +kernel
theorem dX3_find_0 : decode cX3_find 0 = .ok (.aload_n 0, 1) := by decide +kernel
theorem dX3_find_1 : decode cX3_find 1 = .ok (.iconst (-1), 1) := by decide +kernel
theorem dX3_find_2 : decode cX3_find 2 = .ok (.putfield 27, 3) := by decide +kernel
theorem dX3_find_5 : decode cX3_find 5 = .ok (.iconst 1, 1) := by decide +kernel
theorem dX3_find_6 : decode cX3_find 6 = .ok (.aload_n 1, 1) := by decide +kernel
theorem dX3_find_7 : decode cX3_find 7 = .ok (.invokevirtual 37, 3) := by decide +kernel
theorem dX3_find_10 : decode cX3_find 10 = .ok (.ishl, 1) := by decide +kernel
theorem dX3_find_11 : decode cX3_find 11 = .ok (.istore_n 2, 1) := by decide +kernel
theorem dX3_find_12 : decode cX3_find 12 = .ok (.iconst 0, 1) := by decide +kernel
theorem dX3_find_13 : decode cX3_find 13 = .ok (.istore_n 3, 1) := by decide +kernel
theorem dX3_find_14 : decode cX3_find 14 = .ok (.iload_n 3, 1) := by decide +kernel
theorem dX3_find_15 : decode cX3_find 15 = .ok (.aload_n 1, 1) := by decide +kernel
theorem dX3_find_16 : decode cX3_find 16 = .ok (.invokevirtual 37, 3) := by decide +kernel
theorem dX3_find_19 : decode cX3_find 19 = .ok (.if_icmp .gt 64, 3) := by decide +kernel
theorem dX3_find_22 : decode cX3_find 22 = .ok (.iconst 0, 1) := by decide +kernel
theorem dX3_find_23 : decode cX3_find 23 = .ok (.istore 4, 2) := by decide +kernel
theorem dX3_find_25 : decode cX3_find 25 = .ok (.iload 4, 2) := by decide +kernel
theorem dX3_find_27 : decode cX3_find 27 = .ok (.iload_n 2, 1) := by decide +kernel
theorem dX3_find_28 : decode cX3_find 28 = .ok (.if_icmp .ge 49, 3) := by decide +kernel
theorem dX3_find_31 : decode cX3_find 31 = .ok (.iload 4, 2) := by decide +kernel
theorem dX3_find_33 : decode cX3_find 33 = .ok (.invokestatic 31, 3) := by decide +kernel
theorem dX3_find_36 : decode cX3_find 36 = .ok (.iload_n 3, 1) := by decide +kernel
theorem dX3_find_37 : decode cX3_find 37 = .ok (.if_icmp .ne 34, 3) := by decide +kernel
theorem dX3_find_40 : decode cX3_find 40 = .ok (.aload_n 1, 1) := by decide +kernel
theorem dX3_find_41 : decode cX3_find 41 = .ok (.iload 4, 2) := by decide +kernel
theorem dX3_find_43 : decode cX3_find 43 = .ok (.aload_n 0, 1) := by decide +kernel
theorem dX3_find_44 : decode cX3_find 44 = .ok (.getfield 23, 3) := by decide +kernel
theorem dX3_find_47 : decode cX3_find 47 = .ok (.invokevirtual 43, 3) := by decide +kernel
theorem dX3_find_50 : decode cX3_find 50 = .ok (.aload_n 0, 1) := by decide +kernel
theorem dX3_find_51 : decode cX3_find 51 = .ok (.getfield 12, 3) := by decide +kernel
theorem dX3_find_54 : decode cX3_find 54 = .ok (.aload_n 0, 1) := by decide +kernel
theorem dX3_find_55 : decode cX3_find 55 = .ok (.getfield 23, 3) := by decide +kernel
theorem dX3_find_58 : decode cX3_find 58 = .ok (.invokevirtual 47, 3) := by decide +kernel
theorem dX3_find_61 : decode cX3_find 61 = .ok (.ifCond .eq 10, 3) := by decide +kernel
theorem dX3_find_64 : decode cX3_find 64 = .ok (.aload_n 0, 1) := by decide +kernel
theorem dX3_find_65 : decode cX3_find 65 = .ok (.iload 4, 2) := by decide +kernel
theorem dX3_find_67 : decode cX3_find 67 = .ok (.putfield 27, 3) := by decide +kernel
theorem dX3_find_70 : decode cX3_find 70 = .ok (.return_, 1) := by decide +kernel
theorem dX3_find_71 : decode cX3_find 71 = .ok (.iinc 4 1, 3) := by decide +kernel
theorem dX3_find_74 : decode cX3_find 74 = .ok (.goto (-49), 3) := by decide +kernel
theorem dX3_find_77 : decode cX3_find 77 = .ok (.iinc 3 1, 3) := by decide +kernel
theorem dX3_find_80 : decode cX3_find 80 = .ok (.goto (-66), 3) := by decide +kernel
theorem dX3_find_83 : decode cX3_find 83 = .ok (.return_, 1) := by decide +kernel
theorem dX4_init_0 : decode cX4_init 0 = .ok (.aload_n 0, 1) := by decide +kernel
theorem dX4_init_1 : decode cX4_init 1 = .ok (.invokespecial 3, 3) := by decide +kernel
theorem dX4_init_4 : decode cX4_init 4 = .ok (.aload_n 0, 1) := by decide +kernel
theorem dX4_init_5 : decode cX4_init 5 = .ok (.new 9, 3) := by decide +kernel
theorem dX4_init_8 : decode cX4_init 8 = .ok (.dup, 1) := by decide +kernel
theorem dX4_init_9 : decode cX4_init 9 = .ok (.bipush 8, 2) := by decide +kernel
theorem dX4_init_11 : decode cX4_init 11 = .ok (.invokespecial 11, 3) := by decide +kernel
theorem dX4_init_14 : decode cX4_init 14 = .ok (.putfield 14, 3) := by decide +kernel
theorem dX4_init_17 : decode cX4_init 17 = .ok (.aload_n 0, 1) := by decide +kernel
theorem dX4_init_18 : decode cX4_init 18 = .ok (.new 9, 3) := by decide +kernel
theorem dX4_init_21 : decode cX4_init 21 = .ok (.dup, 1) := by decide +kernel
theorem dX4_init_22 : decode cX4_init 22 = .ok (.bipush 8, 2) := by decide +kernel
theorem dX4_init_24 : decode cX4_init 24 = .ok (.invokespecial 11, 3) := by decide +kernel
theorem dX4_init_27 : decode cX4_init 27 = .ok (.putfield 20, 3) := by decide +kernel
theorem dX4_init_30 : decode cX4_init 30 = .ok (.aload_n 0, 1) := by decide +kernel
theorem dX4_init_31 : decode cX4_init 31 = .ok (.iconst 1, 1) := by decide +kernel
theorem dX4_init_32 : decode cX4_init 32 = .ok (.putfield 25, 3) := by decide +kernel
theorem dX4_init_35 : decode cX4_init 35 = .ok (.aload_n 0, 1) := by decide +kernel
theorem dX4_init_36 : decode cX4_init 36 = .ok (.iconst 1, 1) := by decide +kernel
theorem dX4_init_37 : decode cX4_init 37 = .ok (.putfield 29, 3) := by decide +kernel
theorem dX4_init_40 : decode cX4_init 40 = .ok (.return_, 1) := by decide +kernel
theorem dX4_read_0 : decode cX4_read 0 = .ok (.aload_n 0, 1) := by decide +kernel
theorem dX4_read_1 : decode cX4_read 1 = .ok (.getfield 14, 3) := by decide +kernel
theorem dX4_read_4 : decode cX4_read 4 = .ok (.invokevirtual 32, 3) := by decide +kernel
theorem dX4_read_7 : decode cX4_read 7 = .ok (.aload_n 0, 1) := by decide +kernel
theorem dX4_read_8 : decode cX4_read 8 = .ok (.getfield 20, 3) := by decide +kernel
theorem dX4_read_11 : decode cX4_read 11 = .ok (.invokevirtual 32, 3) := by decide +kernel
theorem dX4_read_14 : decode cX4_read 14 = .ok (.aload_n 0, 1) := by decide +kernel
theorem dX4_read_15 : decode cX4_read 15 = .ok (.iconst 1, 1) := by decide +kernel
theorem dX4_read_16 : decode cX4_read 16 = .ok (.putfield 25, 3) := by decide +kernel
theorem dX4_read_19 : decode cX4_read 19 = .ok (.aload_n 0, 1) := by decide +kernel
theorem dX4_read_20 : decode cX4_read 20 = .ok (.iconst 1, 1) := by decide +kernel
theorem dX4_read_21 : decode cX4_read 21 = .ok (.putfield 29, 3) := by decide +kernel
theorem dX4_read_24 : decode cX4_read 24 = .ok (.iconst 0, 1) := by decide +kernel
theorem dX4_read_25 : decode cX4_read 25 = .ok (.istore_n 2, 1) := by decide +kernel
theorem dX4_read_26 : decode cX4_read 26 = .ok (.iload_n 2, 1) := by decide +kernel
theorem dX4_read_27 : decode cX4_read 27 = .ok (.aload_n 1, 1) := by decide +kernel
theorem dX4_read_28 : decode cX4_read 28 = .ok (.invokevirtual 35, 3) := by decide +kernel
theorem dX4_read_31 : decode cX4_read 31 = .ok (.if_icmp .ge 23, 3) := by decide +kernel
theorem dX4_read_34 : decode cX4_read 34 = .ok (.aload_n 0, 1) := by decide +kernel
theorem dX4_read_35 : decode cX4_read 35 = .ok (.aload_n 1, 1) := by decide +kernel
theorem dX4_read_36 : decode cX4_read 36 = .ok (.iload_n 2, 1) := by decide +kernel
theorem dX4_read_37 : decode cX4_read 37 = .ok (.invokevirtual 39, 3) := by decide +kernel
theorem dX4_read_40 : decode cX4_read 40 = .ok (.invokevirtual 43, 3) := by decide +kernel
theorem dX4_read_43 : decode cX4_read 43 = .ok (.ifCond .ne 5, 3) := by decide +kernel
theorem dX4_read_46 : decode cX4_read 46 = .ok (.iload_n 2, 1) := by decide +kernel
theorem dX4_read_47 : decode cX4_read 47 = .ok (.ireturn, 1) := by decide +kernel
theorem dX4_read_48 : decode cX4_read 48 = .ok (.iinc 2 1, 3) := by decide +kernel
theorem dX4_read_51 : decode cX4_read 51 = .ok (.goto (-25), 3) := by decide +kernel
theorem dX4_read_54 : decode cX4_read 54 = .ok (.aload_n 1, 1) := by decide +kernel
theorem dX4_read_55 : decode cX4_read 55 = .ok (.invokevirtual 35, 3) := by decide +kernel
theorem dX4_read_58 : decode cX4_read 58 = .ok (.ireturn, 1) := by decide +kernel
theorem dX4_readWhole_0 : decode cX4_readWhole 0 = .ok (.aload_n 0, 1) := by decide +kernel
theorem dX4_readWhole_1 : decode cX4_readWhole 1 = .ok (.aload_n 1, 1) := by decide +kernel
theorem dX4_readWhole_2 : decode cX4_readWhole 2 = .ok (.invokevirtual 47, 3) := by decide +kernel
theorem dX4_readWhole_5 : decode cX4_readWhole 5 = .ok (.aload_n 1, 1) := by decide +kernel
theorem dX4_readWhole_6 : decode cX4_readWhole 6 = .ok (.invokevirtual 35, 3) := by decide +kernel
theorem dX4_readWhole_9 : decode cX4_readWhole 9 = .ok (.if_icmp .lt 11, 3) := by decide +kernel
theorem dX4_readWhole_12 : decode cX4_readWhole 12 = .ok (.aload_n 0, 1) := by decide +kernel
theorem dX4_readWhole_13 : decode cX4_readWhole 13 = .ok (.getfield 29, 3) := by decide +kernel
theorem dX4_readWhole_16 : decode cX4_readWhole 16 = .ok (.iconst 1, 1) := by decide +kernel
theorem dX4_readWhole_17 : decode cX4_readWhole 17 = .ok (.if_icmp .ne 5, 3) := by decide +kernel
theorem dX4_readWhole_20 : decode cX4_readWhole 20 = .ok (.iconst 0, 1) := by decide +kernel
theorem dX4_readWhole_21 : decode cX4_readWhole 21 = .ok (.ireturn, 1) := by decide +kernel
theorem dX4_readWhole_22 : decode cX4_readWhole 22 = .ok (.aload_n 0, 1) := by decide +kernel
theorem dX4_readWhole_23 : decode cX4_readWhole 23 = .ok (.invokevirtual 51, 3) := by decide +kernel
theorem dX4_readWhole_26 : decode cX4_readWhole 26 = .ok (.iconst 1, 1) := by decide +kernel
theorem dX4_readWhole_27 : decode cX4_readWhole 27 = .ok (.ireturn, 1) := by decide +kernel
theorem dX4_takes_0 : decode cX4_takes 0 = .ok (.iload_n 1, 1) := by decide +kernel
theorem dX4_takes_1 : decode cX4_takes 1 = .ok (.invokestatic 54, 3) := by decide +kernel
theorem dX4_takes_4 : decode cX4_takes 4 = .ok (.ifCond .eq 9, 3) := by decide +kernel
theorem dX4_takes_7 : decode cX4_takes 7 = .ok (.aload_n 0, 1) := by decide +kernel
theorem dX4_takes_8 : decode cX4_takes 8 = .ok (.iload_n 1, 1) := by decide +kernel
theorem dX4_takes_9 : decode cX4_takes 9 = .ok (.invokevirtual 57, 3) := by decide +kernel
theorem dX4_takes_12 : decode cX4_takes 12 = .ok (.ireturn, 1) := by decide +kernel
theorem dX4_takes_13 : decode cX4_takes 13 = .ok (.iload_n 1, 1) := by decide +kernel
theorem dX4_takes_14 : decode cX4_takes 14 = .ok (.invokestatic 60, 3) := by decide +kernel
theorem dX4_takes_17 : decode cX4_takes 17 = .ok (.ifCond .eq 9, 3) := by decide +kernel
theorem dX4_takes_20 : decode cX4_takes 20 = .ok (.aload_n 0, 1) := by decide +kernel
theorem dX4_takes_21 : decode cX4_takes 21 = .ok (.iload_n 1, 1) := by decide +kernel
theorem dX4_takes_22 : decode cX4_takes 22 = .ok (.invokevirtual 63, 3) := by decide +kernel
theorem dX4_takes_25 : decode cX4_takes 25 = .ok (.ireturn, 1) := by decide +kernel
theorem dX4_takes_26 : decode cX4_takes 26 = .ok (.iload_n 1, 1) := by decide +kernel
theorem dX4_takes_27 : decode cX4_takes 27 = .ok (.bipush 44, 2) := by decide +kernel
theorem dX4_takes_29 : decode cX4_takes 29 = .ok (.if_icmp .ne 14, 3) := by decide +kernel
theorem dX4_takes_32 : decode cX4_takes 32 = .ok (.aload_n 0, 1) := by decide +kernel
theorem dX4_takes_33 : decode cX4_takes 33 = .ok (.invokevirtual 66, 3) := by decide +kernel
theorem dX4_takes_36 : decode cX4_takes 36 = .ok (.ifCond .eq 7, 3) := by decide +kernel
theorem dX4_takes_39 : decode cX4_takes 39 = .ok (.iconst 1, 1) := by decide +kernel
theorem dX4_takes_40 : decode cX4_takes 40 = .ok (.goto 4, 3) := by decide +kernel
theorem dX4_takes_43 : decode cX4_takes 43 = .ok (.iconst 0, 1) := by decide +kernel
theorem dX4_takes_44 : decode cX4_takes 44 = .ok (.ireturn, 1) := by decide +kernel
theorem dX4_takesSmall_0 : decode cX4_takesSmall 0 = .ok (.aload_n 0, 1) := by decide +kernel
theorem dX4_takesSmall_1 : decode cX4_takesSmall 1 = .ok (.getfield 29, 3) := by decide +kernel
theorem dX4_takesSmall_4 : decode cX4_takesSmall 4 = .ok (.iconst 1, 1) := by decide +kernel
theorem dX4_takesSmall_5 : decode cX4_takesSmall 5 = .ok (.if_icmp .ne 14, 3) := by decide +kernel
theorem dX4_takesSmall_8 : decode cX4_takesSmall 8 = .ok (.aload_n 0, 1) := by decide +kernel
theorem dX4_takesSmall_9 : decode cX4_takesSmall 9 = .ok (.getfield 25, 3) := by decide +kernel
theorem dX4_takesSmall_12 : decode cX4_takesSmall 12 = .ok (.invokestatic 70, 3) := by decide +kernel
theorem dX4_takesSmall_15 : decode cX4_takesSmall 15 = .ok (.iconst 3, 1) := by decide +kernel
theorem dX4_takesSmall_16 : decode cX4_takesSmall 16 = .ok (.if_icmp .lt 5, 3) := by decide +kernel
theorem dX4_takesSmall_19 : decode cX4_takesSmall 19 = .ok (.iconst 0, 1) := by decide +kernel
theorem dX4_takesSmall_20 : decode cX4_takesSmall 20 = .ok (.ireturn, 1) := by decide +kernel
theorem dX4_takesSmall_21 : decode cX4_takesSmall 21 = .ok (.aload_n 0, 1) := by decide +kernel
theorem dX4_takesSmall_22 : decode cX4_takesSmall 22 = .ok (.aload_n 0, 1) := by decide +kernel
theorem dX4_takesSmall_23 : decode cX4_takesSmall 23 = .ok (.getfield 25, 3) := by decide +kernel
theorem dX4_takesSmall_26 : decode cX4_takesSmall 26 = .ok (.iload_n 1, 1) := by decide +kernel
theorem dX4_takesSmall_27 : decode cX4_takesSmall 27 = .ok (.invokestatic 72, 3) := by decide +kernel
theorem dX4_takesSmall_30 : decode cX4_takesSmall 30 = .ok (.putfield 25, 3) := by decide +kernel
theorem dX4_takesSmall_33 : decode cX4_takesSmall 33 = .ok (.iconst 1, 1) := by decide +kernel
theorem dX4_takesSmall_34 : decode cX4_takesSmall 34 = .ok (.ireturn, 1) := by decide +kernel
theorem dX4_takesCapital_0 : decode cX4_takesCapital 0 = .ok (.aload_n 0, 1) := by decide +kernel
theorem dX4_takesCapital_1 : decode cX4_takesCapital 1 = .ok (.getfield 25, 3) := by decide +kernel
theorem dX4_takesCapital_4 : decode cX4_takesCapital 4 = .ok (.iconst 1, 1) := by decide +kernel
