theorem dX11_partingSet_49 : decode cX11_partingSet 49 = .ok (.ifCond .eq 7, 3) := by decide +kernel
theorem dX11_partingSet_52 : decode cX11_partingSet 52 = .ok (.iload_n 2, 1) := by decide +kernel
theorem dX11_partingSet_53 : decode cX11_partingSet 53 = .ok (.goto 4, 3) := by decide +kernel
theorem dX11_partingSet_56 : decode cX11_partingSet 56 = .ok (.iload_n 1, 1) := by decide +kernel
theorem dX11_partingSet_57 : decode cX11_partingSet 57 = .ok (.istore_n 1, 1) := by decide +kernel
theorem dX11_partingSet_58 : decode cX11_partingSet 58 = .ok (.iinc 2 1, 3) := by decide +kernel
theorem dX11_partingSet_61 : decode cX11_partingSet 61 = .ok (.goto (-57), 3) := by decide +kernel
theorem dX11_partingSet_64 : decode cX11_partingSet 64 = .ok (.aload_n 0, 1) := by decide +kernel
theorem dX11_partingSet_65 : decode cX11_partingSet 65 = .ok (.aload_n 0, 1) := by decide +kernel
theorem dX11_partingSet_66 : decode cX11_partingSet 66 = .ok (.getfield 112, 3) := by decide +kernel
theorem dX11_partingSet_69 : decode cX11_partingSet 69 = .ok (.putfield 115, 3) := by decide +kernel
theorem dX11_partingSet_72 : decode cX11_partingSet 72 = .ok (.iload_n 1, 1) := by decide +kernel
theorem dX11_partingSet_73 : decode cX11_partingSet 73 = .ok (.ireturn, 1) := by decide +kernel
theorem dX11_partingNow_0 : decode cX11_partingNow 0 = .ok (.aload_n 0, 1) := by decide +kernel
theorem dX11_partingNow_1 : decode cX11_partingNow 1 = .ok (.invokevirtual 306, 3) := by decide +kernel
theorem dX11_partingNow_4 : decode cX11_partingNow 4 = .ok (.istore_n 2, 1) := by decide +kernel
theorem dX11_partingNow_5 : decode cX11_partingNow 5 = .ok (.iload_n 2, 1) := by decide +kernel
theorem dX11_partingNow_6 : decode cX11_partingNow 6 = .ok (.iconst (-1), 1) := by decide +kernel
theorem dX11_partingNow_7 : decode cX11_partingNow 7 = .ok (.if_icmp .ne 7, 3) := by decide +kernel
theorem dX11_partingNow_10 : decode cX11_partingNow 10 = .ok (.iconst (-1), 1) := by decide +kernel
theorem dX11_partingNow_11 : decode cX11_partingNow 11 = .ok (.goto 15, 3) := by decide +kernel
theorem dX11_partingNow_14 : decode cX11_partingNow 14 = .ok (.iload_n 1, 1) := by decide +kernel
theorem dX11_partingNow_15 : decode cX11_partingNow 15 = .ok (.ifCond .ne 10, 3) := by decide +kernel
theorem dX11_partingNow_18 : decode cX11_partingNow 18 = .ok (.iload_n 2, 1) := by decide +kernel
theorem dX11_partingNow_19 : decode cX11_partingNow 19 = .ok (.invokestatic 303, 3) := by decide +kernel
theorem dX11_partingNow_22 : decode cX11_partingNow 22 = .ok (.goto 4, 3) := by decide +kernel
theorem dX11_partingNow_25 : decode cX11_partingNow 25 = .ok (.iload_n 2, 1) := by decide +kernel
theorem dX11_partingNow_26 : decode cX11_partingNow 26 = .ok (.ireturn, 1) := by decide +kernel
theorem dX11_parting_0 : decode cX11_parting 0 = .ok (.iload_n 1, 1) := by decide +kernel
theorem dX11_parting_1 : decode cX11_parting 1 = .ok (.iconst 0, 1) := by decide +kernel
theorem dX11_parting_2 : decode cX11_parting 2 = .ok (.iconst 1, 1) := by decide +kernel
theorem dX11_parting_3 : decode cX11_parting 3 = .ok (.invokestatic 71, 3) := by decide +kernel
theorem dX11_parting_6 : decode cX11_parting 6 = .ok (.ifCond .eq 11, 3) := by decide +kernel
theorem dX11_parting_9 : decode cX11_parting 9 = .ok (.aload_n 0, 1) := by decide +kernel
theorem dX11_parting_10 : decode cX11_parting 10 = .ok (.iload_n 1, 1) := by decide +kernel
theorem dX11_parting_11 : decode cX11_parting 11 = .ok (.invokevirtual 309, 3) := by decide +kernel
theorem dX11_parting_14 : decode cX11_parting 14 = .ok (.goto 5, 3) := by decide +kernel
theorem dX11_parting_17 : decode cX11_parting 17 = .ok (.bipush (-102), 2) := by decide +kernel
theorem dX11_parting_19 : decode cX11_parting 19 = .ok (.ireturn, 1) := by decide +kernel
theorem dX11_draw_0 : decode cX11_draw 0 = .ok (.aload_n 0, 1) := by decide +kernel
theorem dX11_draw_1 : decode cX11_draw 1 = .ok (.ldc2_w 312, 3) := by decide +kernel
theorem dX11_draw_4 : decode cX11_draw 4 = .ok (.aload_n 0, 1) := by decide +kernel
theorem dX11_draw_5 : decode cX11_draw 5 = .ok (.getfield 314, 3) := by decide +kernel
theorem dX11_draw_8 : decode cX11_draw 8 = .ok (.lmul, 1) := by decide +kernel
theorem dX11_draw_9 : decode cX11_draw 9 = .ok (.ldc2_w 318, 3) := by decide +kernel
theorem dX11_draw_12 : decode cX11_draw 12 = .ok (.ladd, 1) := by decide +kernel
theorem dX11_draw_13 : decode cX11_draw 13 = .ok (.ldc2_w 320, 3) := by decide +kernel
theorem dX11_draw_16 : decode cX11_draw 16 = .ok (.lrem, 1) := by decide +kernel
theorem dX11_draw_17 : decode cX11_draw 17 = .ok (.putfield 314, 3) := by decide +kernel
theorem dX11_draw_20 : decode cX11_draw 20 = .ok (.aload_n 0, 1) := by decide +kernel
theorem dX11_draw_21 : decode cX11_draw 21 = .ok (.getfield 314, 3) := by decide +kernel
theorem dX11_draw_24 : decode cX11_draw 24 = .ok (.ldc2_w 322, 3) := by decide +kernel
theorem dX11_draw_27 : decode cX11_draw 27 = .ok (.ldiv, 1) := by decide +kernel
theorem dX11_draw_28 : decode cX11_draw 28 = .ok (.iload_n 1, 1) := by decide +kernel
theorem dX11_draw_29 : decode cX11_draw 29 = .ok (.i2l, 1) := by decide +kernel
theorem dX11_draw_30 : decode cX11_draw 30 = .ok (.lrem, 1) := by decide +kernel
theorem dX11_draw_31 : decode cX11_draw 31 = .ok (.l2i, 1) := by decide +kernel
theorem dX11_draw_32 : decode cX11_draw 32 = .ok (.ireturn, 1) := by decide +kernel
theorem dX11_drawRow_0 : decode cX11_drawRow 0 = .ok (.aload_n 0, 1) := by decide +kernel
theorem dX11_drawRow_1 : decode cX11_drawRow 1 = .ok (.iconst 1, 1) := by decide +kernel
theorem dX11_drawRow_2 : decode cX11_drawRow 2 = .ok (.aload_n 0, 1) := by decide +kernel
theorem dX11_drawRow_3 : decode cX11_drawRow 3 = .ok (.iconst 5, 1) := by decide +kernel
theorem dX11_drawRow_4 : decode cX11_drawRow 4 = .ok (.invokevirtual 324, 3) := by decide +kernel
theorem dX11_drawRow_7 : decode cX11_drawRow 7 = .ok (.iadd, 1) := by decide +kernel
theorem dX11_drawRow_8 : decode cX11_drawRow 8 = .ok (.putfield 124, 3) := by decide +kernel
theorem dX11_drawRow_11 : decode cX11_drawRow 11 = .ok (.aload_n 0, 1) := by decide +kernel
theorem dX11_drawRow_12 : decode cX11_drawRow 12 = .ok (.iconst 0, 1) := by decide +kernel
theorem dX11_drawRow_13 : decode cX11_drawRow 13 = .ok (.putfield 167, 3) := by decide +kernel
theorem dX11_drawRow_16 : decode cX11_drawRow 16 = .ok (.iconst 0, 1) := by decide +kernel
theorem dX11_drawRow_17 : decode cX11_drawRow 17 = .ok (.istore_n 1, 1) := by decide +kernel
theorem dX11_drawRow_18 : decode cX11_drawRow 18 = .ok (.iload_n 1, 1) := by decide +kernel
theorem dX11_drawRow_19 : decode cX11_drawRow 19 = .ok (.aload_n 0, 1) := by decide +kernel
theorem dX11_drawRow_20 : decode cX11_drawRow 20 = .ok (.getfield 124, 3) := by decide +kernel
theorem dX11_drawRow_23 : decode cX11_drawRow 23 = .ok (.if_icmp .ge 75, 3) := by decide +kernel
theorem dX11_drawRow_26 : decode cX11_drawRow 26 = .ok (.aload_n 0, 1) := by decide +kernel
theorem dX11_drawRow_27 : decode cX11_drawRow 27 = .ok (.getfield 40, 3) := by decide +kernel
theorem dX11_drawRow_30 : decode cX11_drawRow 30 = .ok (.iload_n 1, 1) := by decide +kernel
theorem dX11_drawRow_31 : decode cX11_drawRow 31 = .ok (.aload_n 0, 1) := by decide +kernel
theorem dX11_drawRow_32 : decode cX11_drawRow 32 = .ok (.aload_n 0, 1) := by decide +kernel
theorem dX11_drawRow_33 : decode cX11_drawRow 33 = .ok (.getfield 109, 3) := by decide +kernel
theorem dX11_drawRow_36 : decode cX11_drawRow 36 = .ok (.invokevirtual 324, 3) := by decide +kernel
theorem dX11_drawRow_39 : decode cX11_drawRow 39 = .ok (.iastore, 1) := by decide +kernel
theorem dX11_drawRow_40 : decode cX11_drawRow 40 = .ok (.iconst 0, 1) := by decide +kernel
theorem dX11_drawRow_41 : decode cX11_drawRow 41 = .ok (.istore_n 2, 1) := by decide +kernel
theorem dX11_drawRow_42 : decode cX11_drawRow 42 = .ok (.iload_n 2, 1) := by decide +kernel
theorem dX11_drawRow_43 : decode cX11_drawRow 43 = .ok (.aload_n 0, 1) := by decide +kernel
theorem dX11_drawRow_44 : decode cX11_drawRow 44 = .ok (.aload_n 0, 1) := by decide +kernel
theorem dX11_drawRow_45 : decode cX11_drawRow 45 = .ok (.getfield 40, 3) := by decide +kernel
theorem dX11_drawRow_48 : decode cX11_drawRow 48 = .ok (.iload_n 1, 1) := by decide +kernel
theorem dX11_drawRow_49 : decode cX11_drawRow 49 = .ok (.iaload, 1) := by decide +kernel
theorem dX11_drawRow_50 : decode cX11_drawRow 50 = .ok (.invokevirtual 137, 3) := by decide +kernel
theorem dX11_drawRow_53 : decode cX11_drawRow 53 = .ok (.if_icmp .ge 39, 3) := by decide +kernel
theorem dX11_drawRow_56 : decode cX11_drawRow 56 = .ok (.aload_n 0, 1) := by decide +kernel
theorem dX11_drawRow_57 : decode cX11_drawRow 57 = .ok (.getfield 43, 3) := by decide +kernel
theorem dX11_drawRow_60 : decode cX11_drawRow 60 = .ok (.aload_n 0, 1) := by decide +kernel
theorem dX11_drawRow_61 : decode cX11_drawRow 61 = .ok (.getfield 167, 3) := by decide +kernel
theorem dX11_drawRow_64 : decode cX11_drawRow 64 = .ok (.aload_n 0, 1) := by decide +kernel
theorem dX11_drawRow_65 : decode cX11_drawRow 65 = .ok (.aload_n 0, 1) := by decide +kernel
theorem dX11_drawRow_66 : decode cX11_drawRow 66 = .ok (.getfield 40, 3) := by decide +kernel
theorem dX11_drawRow_69 : decode cX11_drawRow 69 = .ok (.iload_n 1, 1) := by decide +kernel
theorem dX11_drawRow_70 : decode cX11_drawRow 70 = .ok (.iaload, 1) := by decide +kernel
theorem dX11_drawRow_71 : decode cX11_drawRow 71 = .ok (.iload_n 2, 1) := by decide +kernel
theorem dX11_drawRow_72 : decode cX11_drawRow 72 = .ok (.invokevirtual 140, 3) := by decide +kernel
theorem dX11_drawRow_75 : decode cX11_drawRow 75 = .ok (.iastore, 1) := by decide +kernel
theorem dX11_drawRow_76 : decode cX11_drawRow 76 = .ok (.aload_n 0, 1) := by decide +kernel
theorem dX11_drawRow_77 : decode cX11_drawRow 77 = .ok (.dup, 1) := by decide +kernel
theorem dX11_drawRow_78 : decode cX11_drawRow 78 = .ok (.getfield 167, 3) := by decide +kernel
theorem dX11_drawRow_81 : decode cX11_drawRow 81 = .ok (.iconst 1, 1) := by decide +kernel
theorem dX11_drawRow_82 : decode cX11_drawRow 82 = .ok (.iadd, 1) := by decide +kernel
theorem dX11_drawRow_83 : decode cX11_drawRow 83 = .ok (.putfield 167, 3) := by decide +kernel
theorem dX11_drawRow_86 : decode cX11_drawRow 86 = .ok (.iinc 2 1, 3) := by decide +kernel
theorem dX11_drawRow_89 : decode cX11_drawRow 89 = .ok (.goto (-47), 3) := by decide +kernel
theorem dX11_drawRow_92 : decode cX11_drawRow 92 = .ok (.iinc 1 1, 3) := by decide +kernel
theorem dX11_drawRow_95 : decode cX11_drawRow 95 = .ok (.goto (-77), 3) := by decide +kernel
theorem dX11_drawRow_98 : decode cX11_drawRow 98 = .ok (.return_, 1) := by decide +kernel
theorem dX11_isSameRow_0 : decode cX11_isSameRow 0 = .ok (.aload_n 0, 1) := by decide +kernel
theorem dX11_isSameRow_1 : decode cX11_isSameRow 1 = .ok (.getfield 174, 3) := by decide +kernel
theorem dX11_isSameRow_4 : decode cX11_isSameRow 4 = .ok (.aload_n 0, 1) := by decide +kernel
theorem dX11_isSameRow_5 : decode cX11_isSameRow 5 = .ok (.getfield 124, 3) := by decide +kernel
theorem dX11_isSameRow_8 : decode cX11_isSameRow 8 = .ok (.if_icmp .ne 7, 3) := by decide +kernel
theorem dX11_isSameRow_11 : decode cX11_isSameRow 11 = .ok (.iconst 1, 1) := by decide +kernel
theorem dX11_isSameRow_12 : decode cX11_isSameRow 12 = .ok (.goto 4, 3) := by decide +kernel
theorem dX11_isSameRow_15 : decode cX11_isSameRow 15 = .ok (.iconst 0, 1) := by decide +kernel
theorem dX11_isSameRow_16 : decode cX11_isSameRow 16 = .ok (.istore_n 1, 1) := by decide +kernel
theorem dX11_isSameRow_17 : decode cX11_isSameRow 17 = .ok (.iconst 0, 1) := by decide +kernel
theorem dX11_isSameRow_18 : decode cX11_isSameRow 18 = .ok (.istore_n 2, 1) := by decide +kernel
theorem dX11_isSameRow_19 : decode cX11_isSameRow 19 = .ok (.iload_n 2, 1) := by decide +kernel
theorem dX11_isSameRow_20 : decode cX11_isSameRow 20 = .ok (.aload_n 0, 1) := by decide +kernel
theorem dX11_isSameRow_21 : decode cX11_isSameRow 21 = .ok (.getfield 124, 3) := by decide +kernel
theorem dX11_isSameRow_24 : decode cX11_isSameRow 24 = .ok (.if_icmp .ge 34, 3) := by decide +kernel
theorem dX11_isSameRow_27 : decode cX11_isSameRow 27 = .ok (.iload_n 1, 1) := by decide +kernel
theorem dX11_isSameRow_28 : decode cX11_isSameRow 28 = .ok (.ifCond .eq 30, 3) := by decide +kernel
theorem dX11_isSameRow_31 : decode cX11_isSameRow 31 = .ok (.aload_n 0, 1) := by decide +kernel
theorem dX11_isSameRow_32 : decode cX11_isSameRow 32 = .ok (.getfield 52, 3) := by decide +kernel
theorem dX11_isSameRow_35 : decode cX11_isSameRow 35 = .ok (.iload_n 2, 1) := by decide +kernel
theorem dX11_isSameRow_36 : decode cX11_isSameRow 36 = .ok (.iaload, 1) := by decide +kernel
theorem dX11_isSameRow_37 : decode cX11_isSameRow 37 = .ok (.aload_n 0, 1) := by decide +kernel
theorem dX11_isSameRow_38 : decode cX11_isSameRow 38 = .ok (.getfield 40, 3) := by decide +kernel
theorem dX11_isSameRow_41 : decode cX11_isSameRow 41 = .ok (.iload_n 2, 1) := by decide +kernel
theorem dX11_isSameRow_42 : decode cX11_isSameRow 42 = .ok (.iaload, 1) := by decide +kernel
theorem dX11_isSameRow_43 : decode cX11_isSameRow 43 = .ok (.if_icmp .ne 7, 3) := by decide +kernel
theorem dX11_isSameRow_46 : decode cX11_isSameRow 46 = .ok (.iconst 1, 1) := by decide +kernel
theorem dX11_isSameRow_47 : decode cX11_isSameRow 47 = .ok (.goto 4, 3) := by decide +kernel
theorem dX11_isSameRow_50 : decode cX11_isSameRow 50 = .ok (.iconst 0, 1) := by decide +kernel
theorem dX11_isSameRow_51 : decode cX11_isSameRow 51 = .ok (.istore_n 1, 1) := by decide +kernel
theorem dX11_isSameRow_52 : decode cX11_isSameRow 52 = .ok (.iinc 2 1, 3) := by decide +kernel
theorem dX11_isSameRow_55 : decode cX11_isSameRow 55 = .ok (.goto (-36), 3) := by decide +kernel
theorem dX11_isSameRow_58 : decode cX11_isSameRow 58 = .ok (.iload_n 1, 1) := by decide +kernel
theorem dX11_isSameRow_59 : decode cX11_isSameRow 59 = .ok (.ireturn, 1) := by decide +kernel
theorem dX11_trialNow_0 : decode cX11_trialNow 0 = .ok (.iconst 0, 1) := by decide +kernel
theorem dX11_trialNow_1 : decode cX11_trialNow 1 = .ok (.istore 4, 2) := by decide +kernel
theorem dX11_trialNow_3 : decode cX11_trialNow 3 = .ok (.aload_n 0, 1) := by decide +kernel
theorem dX11_trialNow_4 : decode cX11_trialNow 4 = .ok (.iload_n 2, 1) := by decide +kernel
theorem dX11_trialNow_5 : decode cX11_trialNow 5 = .ok (.i2l, 1) := by decide +kernel
theorem dX11_trialNow_6 : decode cX11_trialNow 6 = .ok (.putfield 314, 3) := by decide +kernel
theorem dX11_trialNow_9 : decode cX11_trialNow 9 = .ok (.iconst 0, 1) := by decide +kernel
theorem dX11_trialNow_10 : decode cX11_trialNow 10 = .ok (.istore 5, 2) := by decide +kernel
theorem dX11_trialNow_12 : decode cX11_trialNow 12 = .ok (.iload 5, 2) := by decide +kernel
theorem dX11_trialNow_14 : decode cX11_trialNow 14 = .ok (.iload_n 1, 1) := by decide +kernel
theorem dX11_trialNow_15 : decode cX11_trialNow 15 = .ok (.if_icmp .ge 71, 3) := by decide +kernel
theorem dX11_trialNow_18 : decode cX11_trialNow 18 = .ok (.aload_n 0, 1) := by decide +kernel
theorem dX11_trialNow_19 : decode cX11_trialNow 19 = .ok (.invokevirtual 327, 3) := by decide +kernel
theorem dX11_trialNow_22 : decode cX11_trialNow 22 = .ok (.aload_n 0, 1) := by decide +kernel
theorem dX11_trialNow_23 : decode cX11_trialNow 23 = .ok (.invokevirtual 186, 3) := by decide +kernel
theorem dX11_trialNow_26 : decode cX11_trialNow 26 = .ok (.aload_n 0, 1) := by decide +kernel
theorem dX11_trialNow_27 : decode cX11_trialNow 27 = .ok (.getfield 177, 3) := by decide +kernel
theorem dX11_trialNow_30 : decode cX11_trialNow 30 = .ok (.iconst (-1), 1) := by decide +kernel
theorem dX11_trialNow_31 : decode cX11_trialNow 31 = .ok (.if_icmp .eq 7, 3) := by decide +kernel
theorem dX11_trialNow_34 : decode cX11_trialNow 34 = .ok (.iconst 2, 1) := by decide +kernel
theorem dX11_trialNow_35 : decode cX11_trialNow 35 = .ok (.goto 15, 3) := by decide +kernel
theorem dX11_trialNow_38 : decode cX11_trialNow 38 = .ok (.aload_n 0, 1) := by decide +kernel
theorem dX11_trialNow_39 : decode cX11_trialNow 39 = .ok (.invokevirtual 330, 3) := by decide +kernel
theorem dX11_trialNow_42 : decode cX11_trialNow 42 = .ok (.ifCond .eq 7, 3) := by decide +kernel
theorem dX11_trialNow_45 : decode cX11_trialNow 45 = .ok (.iconst 0, 1) := by decide +kernel
theorem dX11_trialNow_46 : decode cX11_trialNow 46 = .ok (.goto 4, 3) := by decide +kernel
theorem dX11_trialNow_49 : decode cX11_trialNow 49 = .ok (.iconst 1, 1) := by decide +kernel
theorem dX11_trialNow_50 : decode cX11_trialNow 50 = .ok (.istore 6, 2) := by decide +kernel
theorem dX11_trialNow_52 : decode cX11_trialNow 52 = .ok (.iload 4, 2) := by decide +kernel
theorem dX11_trialNow_54 : decode cX11_trialNow 54 = .ok (.iload_n 3, 1) := by decide +kernel
theorem dX11_trialNow_55 : decode cX11_trialNow 55 = .ok (.iconst 3, 1) := by decide +kernel
theorem dX11_trialNow_56 : decode cX11_trialNow 56 = .ok (.if_icmp .ne 10, 3) := by decide +kernel
theorem dX11_trialNow_59 : decode cX11_trialNow 59 = .ok (.aload_n 0, 1) := by decide +kernel
theorem dX11_trialNow_60 : decode cX11_trialNow 60 = .ok (.getfield 167, 3) := by decide +kernel
theorem dX11_trialNow_63 : decode cX11_trialNow 63 = .ok (.goto 14, 3) := by decide +kernel
theorem dX11_trialNow_66 : decode cX11_trialNow 66 = .ok (.iload_n 3, 1) := by decide +kernel
theorem dX11_trialNow_67 : decode cX11_trialNow 67 = .ok (.iload 6, 2) := by decide +kernel
theorem dX11_trialNow_69 : decode cX11_trialNow 69 = .ok (.if_icmp .ne 7, 3) := by decide +kernel
theorem dX11_trialNow_72 : decode cX11_trialNow 72 = .ok (.iconst 1, 1) := by decide +kernel
theorem dX11_trialNow_73 : decode cX11_trialNow 73 = .ok (.goto 4, 3) := by decide +kernel
theorem dX11_trialNow_76 : decode cX11_trialNow 76 = .ok (.iconst 0, 1) := by decide +kernel
theorem dX11_trialNow_77 : decode cX11_trialNow 77 = .ok (.iadd, 1) := by decide +kernel
theorem dX11_trialNow_78 : decode cX11_trialNow 78 = .ok (.istore 4, 2) := by decide +kernel
theorem dX11_trialNow_80 : decode cX11_trialNow 80 = .ok (.iinc 5 1, 3) := by decide +kernel
theorem dX11_trialNow_83 : decode cX11_trialNow 83 = .ok (.goto (-71), 3) := by decide +kernel
theorem dX11_trialNow_86 : decode cX11_trialNow 86 = .ok (.iload 4, 2) := by decide +kernel
theorem dX11_trialNow_88 : decode cX11_trialNow 88 = .ok (.ireturn, 1) := by decide +kernel
theorem dX11_trial_0 : decode cX11_trial 0 = .ok (.iload_n 1, 1) := by decide +kernel
theorem dX11_trial_1 : decode cX11_trial 1 = .ok (.iconst 1, 1) := by decide +kernel
theorem dX11_trial_2 : decode cX11_trial 2 = .ok (.bipush 40, 2) := by decide +kernel
theorem dX11_trial_4 : decode cX11_trial 4 = .ok (.invokestatic 71, 3) := by decide +kernel
theorem dX11_trial_7 : decode cX11_trial 7 = .ok (.ifCond .eq 16, 3) := by decide +kernel
theorem dX11_trial_10 : decode cX11_trial 10 = .ok (.iload_n 2, 1) := by decide +kernel
theorem dX11_trial_11 : decode cX11_trial 11 = .ok (.ifCond .lt 12, 3) := by decide +kernel
theorem dX11_trial_14 : decode cX11_trial 14 = .ok (.iload_n 3, 1) := by decide +kernel
theorem dX11_trial_15 : decode cX11_trial 15 = .ok (.iconst 0, 1) := by decide +kernel
theorem dX11_trial_16 : decode cX11_trial 16 = .ok (.iconst 3, 1) := by decide +kernel
theorem dX11_trial_17 : decode cX11_trial 17 = .ok (.invokestatic 71, 3) := by decide +kernel
theorem dX11_trial_20 : decode cX11_trial 20 = .ok (.ifCond .ne 6, 3) := by decide +kernel
theorem dX11_trial_23 : decode cX11_trial 23 = .ok (.bipush (-102), 2) := by decide +kernel
theorem dX11_trial_25 : decode cX11_trial 25 = .ok (.ireturn, 1) := by decide +kernel
theorem dX11_trial_26 : decode cX11_trial 26 = .ok (.aload_n 0, 1) := by decide +kernel
theorem dX11_trial_27 : decode cX11_trial 27 = .ok (.getfield 109, 3) := by decide +kernel
theorem dX11_trial_30 : decode cX11_trial 30 = .ok (.ifCond .le 13, 3) := by decide +kernel
theorem dX11_trial_33 : decode cX11_trial 33 = .ok (.aload_n 0, 1) := by decide +kernel
theorem dX11_trial_34 : decode cX11_trial 34 = .ok (.iload_n 1, 1) := by decide +kernel
theorem dX11_trial_35 : decode cX11_trial 35 = .ok (.iload_n 2, 1) := by decide +kernel
theorem dX11_trial_36 : decode cX11_trial 36 = .ok (.iload_n 3, 1) := by decide +kernel
theorem dX11_trial_37 : decode cX11_trial 37 = .ok (.invokevirtual 333, 3) := by decide +kernel
theorem dX11_trial_40 : decode cX11_trial 40 = .ok (.goto 5, 3) := by decide +kernel
theorem dX11_trial_43 : decode cX11_trial 43 = .ok (.bipush (-103), 2) := by decide +kernel
theorem dX11_trial_45 : decode cX11_trial 45 = .ok (.ireturn, 1) := by decide +kernel
theorem dX11_howMany_0 : decode cX11_howMany 0 = .ok (.iload_n 1, 1) := by decide +kernel
theorem dX11_howMany_1 : decode cX11_howMany 1 = .ok (.tableswitch 81 0 6 #[43, 48, 53, 58, 66, 71, 76], 43) := by decide +kernel
theorem dX11_howMany_44 : decode cX11_howMany 44 = .ok (.aload_n 0, 1) := by decide +kernel
theorem dX11_howMany_45 : decode cX11_howMany 45 = .ok (.getfield 109, 3) := by decide +kernel
theorem dX11_howMany_48 : decode cX11_howMany 48 = .ok (.ireturn, 1) := by decide +kernel
theorem dX11_howMany_49 : decode cX11_howMany 49 = .ok (.aload_n 0, 1) := by decide +kernel
theorem dX11_howMany_50 : decode cX11_howMany 50 = .ok (.getfield 75, 3) := by decide +kernel
theorem dX11_howMany_53 : decode cX11_howMany 53 = .ok (.ireturn, 1) := by decide +kernel
theorem dX11_howMany_54 : decode cX11_howMany 54 = .ok (.aload_n 0, 1) := by decide +kernel
theorem dX11_howMany_55 : decode cX11_howMany 55 = .ok (.getfield 118, 3) := by decide +kernel
theorem dX11_howMany_58 : decode cX11_howMany 58 = .ok (.ireturn, 1) := by decide +kernel
theorem dX11_howMany_59 : decode cX11_howMany 59 = .ok (.aload_n 0, 1) := by decide +kernel
theorem dX11_howMany_60 : decode cX11_howMany 60 = .ok (.getfield 112, 3) := by decide +kernel
theorem dX11_howMany_63 : decode cX11_howMany 63 = .ok (.invokestatic 303, 3) := by decide +kernel
theorem dX11_howMany_66 : decode cX11_howMany 66 = .ok (.ireturn, 1) := by decide +kernel
theorem dX11_howMany_67 : decode cX11_howMany 67 = .ok (.aload_n 0, 1) := by decide +kernel
theorem dX11_howMany_68 : decode cX11_howMany 68 = .ok (.getfield 121, 3) := by decide +kernel
theorem dX11_howMany_71 : decode cX11_howMany 71 = .ok (.ireturn, 1) := by decide +kernel
theorem dX11_howMany_72 : decode cX11_howMany 72 = .ok (.aload_n 0, 1) := by decide +kernel
theorem dX11_howMany_73 : decode cX11_howMany 73 = .ok (.getfield 144, 3) := by decide +kernel
theorem dX11_howMany_76 : decode cX11_howMany 76 = .ok (.ireturn, 1) := by decide +kernel
theorem dX11_howMany_77 : decode cX11_howMany 77 = .ok (.aload_n 0, 1) := by decide +kernel
theorem dX11_howMany_78 : decode cX11_howMany 78 = .ok (.getfield 147, 3) := by decide +kernel
theorem dX11_howMany_81 : decode cX11_howMany 81 = .ok (.ireturn, 1) := by decide +kernel
theorem dX11_howMany_82 : decode cX11_howMany 82 = .ok (.bipush (-102), 2) := by decide +kernel
theorem dX11_howMany_84 : decode cX11_howMany 84 = .ok (.ireturn, 1) := by decide +kernel
theorem dX11_count_0 : decode cX11_count 0 = .ok (.aload_n 0, 1) := by decide +kernel
theorem dX11_count_1 : decode cX11_count 1 = .ok (.iload_n 1, 1) := by decide +kernel
theorem dX11_count_2 : decode cX11_count 2 = .ok (.invokevirtual 337, 3) := by decide +kernel
theorem dX11_count_5 : decode cX11_count 5 = .ok (.ireturn, 1) := by decide +kernel
theorem dX11_mix_0 : decode cX11_mix 0 = .ok (.aload_n 0, 1) := by decide +kernel
theorem dX11_mix_1 : decode cX11_mix 1 = .ok (.ldc2_w 340, 3) := by decide +kernel
theorem dX11_mix_4 : decode cX11_mix 4 = .ok (.aload_n 0, 1) := by decide +kernel
theorem dX11_mix_5 : decode cX11_mix 5 = .ok (.getfield 342, 3) := by decide +kernel
theorem dX11_mix_8 : decode cX11_mix 8 = .ok (.lmul, 1) := by decide +kernel
theorem dX11_mix_9 : decode cX11_mix 9 = .ok (.lload_n 1, 1) := by decide +kernel
theorem dX11_mix_10 : decode cX11_mix 10 = .ok (.ladd, 1) := by decide +kernel
theorem dX11_mix_11 : decode cX11_mix 11 = .ok (.putfield 342, 3) := by decide +kernel
theorem dX11_mix_14 : decode cX11_mix 14 = .ok (.return_, 1) := by decide +kernel
theorem dX11_mixRules_0 : decode cX11_mixRules 0 = .ok (.iconst 0, 1) := by decide +kernel
theorem dX11_mixRules_1 : decode cX11_mixRules 1 = .ok (.istore_n 1, 1) := by decide +kernel
theorem dX11_mixRules_2 : decode cX11_mixRules 2 = .ok (.iload_n 1, 1) := by decide +kernel
theorem dX11_mixRules_3 : decode cX11_mixRules 3 = .ok (.aload_n 0, 1) := by decide +kernel
theorem dX11_mixRules_4 : decode cX11_mixRules 4 = .ok (.getfield 109, 3) := by decide +kernel
theorem dX11_mixRules_7 : decode cX11_mixRules 7 = .ok (.if_icmp .ge 94, 3) := by decide +kernel
theorem dX11_mixRules_10 : decode cX11_mixRules 10 = .ok (.iconst 0, 1) := by decide +kernel
theorem dX11_mixRules_11 : decode cX11_mixRules 11 = .ok (.istore_n 2, 1) := by decide +kernel
theorem dX11_mixRules_12 : decode cX11_mixRules 12 = .ok (.iload_n 2, 1) := by decide +kernel
theorem dX11_mixRules_13 : decode cX11_mixRules 13 = .ok (.iconst 5, 1) := by decide +kernel
theorem dX11_mixRules_14 : decode cX11_mixRules 14 = .ok (.if_icmp .ge 20, 3) := by decide +kernel
theorem dX11_mixRules_17 : decode cX11_mixRules 17 = .ok (.aload_n 0, 1) := by decide +kernel
theorem dX11_mixRules_18 : decode cX11_mixRules 18 = .ok (.aload_n 0, 1) := by decide +kernel
theorem dX11_mixRules_19 : decode cX11_mixRules 19 = .ok (.iload_n 1, 1) := by decide +kernel
theorem dX11_mixRules_20 : decode cX11_mixRules 20 = .ok (.iload_n 2, 1) := by decide +kernel
theorem dX11_mixRules_21 : decode cX11_mixRules 21 = .ok (.invokevirtual 164, 3) := by decide +kernel
theorem dX11_mixRules_24 : decode cX11_mixRules 24 = .ok (.i2l, 1) := by decide +kernel
theorem dX11_mixRules_25 : decode cX11_mixRules 25 = .ok (.invokevirtual 345, 3) := by decide +kernel
theorem dX11_mixRules_28 : decode cX11_mixRules 28 = .ok (.iinc 2 1, 3) := by decide +kernel
theorem dX11_mixRules_31 : decode cX11_mixRules 31 = .ok (.goto (-19), 3) := by decide +kernel
theorem dX11_mixRules_34 : decode cX11_mixRules 34 = .ok (.iconst 0, 1) := by decide +kernel
theorem dX11_mixRules_35 : decode cX11_mixRules 35 = .ok (.istore_n 2, 1) := by decide +kernel
theorem dX11_mixRules_36 : decode cX11_mixRules 36 = .ok (.iload_n 2, 1) := by decide +kernel
theorem dX11_mixRules_37 : decode cX11_mixRules 37 = .ok (.aload_n 0, 1) := by decide +kernel
theorem dX11_mixRules_38 : decode cX11_mixRules 38 = .ok (.getfield 7, 3) := by decide +kernel
theorem dX11_mixRules_41 : decode cX11_mixRules 41 = .ok (.iload_n 1, 1) := by decide +kernel
theorem dX11_mixRules_42 : decode cX11_mixRules 42 = .ok (.iaload, 1) := by decide +kernel
theorem dX11_mixRules_43 : decode cX11_mixRules 43 = .ok (.if_icmp .ge 24, 3) := by decide +kernel
theorem dX11_mixRules_46 : decode cX11_mixRules 46 = .ok (.aload_n 0, 1) := by decide +kernel
theorem dX11_mixRules_47 : decode cX11_mixRules 47 = .ok (.aload_n 0, 1) := by decide +kernel
theorem dX11_mixRules_48 : decode cX11_mixRules 48 = .ok (.getfield 16, 3) := by decide +kernel
theorem dX11_mixRules_51 : decode cX11_mixRules 51 = .ok (.iconst 3, 1) := by decide +kernel
theorem dX11_mixRules_52 : decode cX11_mixRules 52 = .ok (.iload_n 1, 1) := by decide +kernel
theorem dX11_mixRules_53 : decode cX11_mixRules 53 = .ok (.imul, 1) := by decide +kernel
theorem dX11_mixRules_54 : decode cX11_mixRules 54 = .ok (.iload_n 2, 1) := by decide +kernel
theorem dX11_mixRules_55 : decode cX11_mixRules 55 = .ok (.iadd, 1) := by decide +kernel
theorem dX11_mixRules_56 : decode cX11_mixRules 56 = .ok (.iaload, 1) := by decide +kernel
theorem dX11_mixRules_57 : decode cX11_mixRules 57 = .ok (.i2l, 1) := by decide +kernel
theorem dX11_mixRules_58 : decode cX11_mixRules 58 = .ok (.invokevirtual 345, 3) := by decide +kernel
theorem dX11_mixRules_61 : decode cX11_mixRules 61 = .ok (.iinc 2 1, 3) := by decide +kernel
theorem dX11_mixRules_64 : decode cX11_mixRules 64 = .ok (.goto (-28), 3) := by decide +kernel
theorem dX11_mixRules_67 : decode cX11_mixRules 67 = .ok (.iconst 0, 1) := by decide +kernel
theorem dX11_mixRules_68 : decode cX11_mixRules 68 = .ok (.istore_n 2, 1) := by decide +kernel
theorem dX11_mixRules_69 : decode cX11_mixRules 69 = .ok (.iload_n 2, 1) := by decide +kernel
theorem dX11_mixRules_70 : decode cX11_mixRules 70 = .ok (.aload_n 0, 1) := by decide +kernel
theorem dX11_mixRules_71 : decode cX11_mixRules 71 = .ok (.iload_n 1, 1) := by decide +kernel
theorem dX11_mixRules_72 : decode cX11_mixRules 72 = .ok (.invokevirtual 137, 3) := by decide +kernel
theorem dX11_mixRules_75 : decode cX11_mixRules 75 = .ok (.if_icmp .ge 20, 3) := by decide +kernel
theorem dX11_mixRules_78 : decode cX11_mixRules 78 = .ok (.aload_n 0, 1) := by decide +kernel
theorem dX11_mixRules_79 : decode cX11_mixRules 79 = .ok (.aload_n 0, 1) := by decide +kernel
theorem dX11_mixRules_80 : decode cX11_mixRules 80 = .ok (.iload_n 1, 1) := by decide +kernel
theorem dX11_mixRules_81 : decode cX11_mixRules 81 = .ok (.iload_n 2, 1) := by decide +kernel
theorem dX11_mixRules_82 : decode cX11_mixRules 82 = .ok (.invokevirtual 140, 3) := by decide +kernel
theorem dX11_mixRules_85 : decode cX11_mixRules 85 = .ok (.i2l, 1) := by decide +kernel
theorem dX11_mixRules_86 : decode cX11_mixRules 86 = .ok (.invokevirtual 345, 3) := by decide +kernel
theorem dX11_mixRules_89 : decode cX11_mixRules 89 = .ok (.iinc 2 1, 3) := by decide +kernel
theorem dX11_mixRules_92 : decode cX11_mixRules 92 = .ok (.goto (-23), 3) := by decide +kernel
theorem dX11_mixRules_95 : decode cX11_mixRules 95 = .ok (.iinc 1 1, 3) := by decide +kernel
theorem dX11_mixRules_98 : decode cX11_mixRules 98 = .ok (.goto (-96), 3) := by decide +kernel
theorem dX11_mixRules_101 : decode cX11_mixRules 101 = .ok (.return_, 1) := by decide +kernel
theorem dX11_mixText_0 : decode cX11_mixText 0 = .ok (.iconst 0, 1) := by decide +kernel
theorem dX11_mixText_1 : decode cX11_mixText 1 = .ok (.istore_n 1, 1) := by decide +kernel
theorem dX11_mixText_2 : decode cX11_mixText 2 = .ok (.iload_n 1, 1) := by decide +kernel
theorem dX11_mixText_3 : decode cX11_mixText 3 = .ok (.aload_n 0, 1) := by decide +kernel
theorem dX11_mixText_4 : decode cX11_mixText 4 = .ok (.getfield 118, 3) := by decide +kernel
theorem dX11_mixText_7 : decode cX11_mixText 7 = .ok (.if_icmp .ge 20, 3) := by decide +kernel
theorem dX11_mixText_10 : decode cX11_mixText 10 = .ok (.aload_n 0, 1) := by decide +kernel
theorem dX11_mixText_11 : decode cX11_mixText 11 = .ok (.aload_n 0, 1) := by decide +kernel
theorem dX11_mixText_12 : decode cX11_mixText 12 = .ok (.getfield 22, 3) := by decide +kernel
theorem dX11_mixText_15 : decode cX11_mixText 15 = .ok (.iload_n 1, 1) := by decide +kernel
theorem dX11_mixText_16 : decode cX11_mixText 16 = .ok (.iaload, 1) := by decide +kernel
theorem dX11_mixText_17 : decode cX11_mixText 17 = .ok (.i2l, 1) := by decide +kernel
theorem dX11_mixText_18 : decode cX11_mixText 18 = .ok (.invokevirtual 345, 3) := by decide +kernel
theorem dX11_mixText_21 : decode cX11_mixText 21 = .ok (.iinc 1 1, 3) := by decide +kernel
theorem dX11_mixText_24 : decode cX11_mixText 24 = .ok (.goto (-22), 3) := by decide +kernel
theorem dX11_mixText_27 : decode cX11_mixText 27 = .ok (.aload_n 0, 1) := by decide +kernel
theorem dX11_mixText_28 : decode cX11_mixText 28 = .ok (.invokevirtual 183, 3) := by decide +kernel
theorem dX11_mixText_31 : decode cX11_mixText 31 = .ok (.aload_n 0, 1) := by decide +kernel
theorem dX11_mixText_32 : decode cX11_mixText 32 = .ok (.invokevirtual 186, 3) := by decide +kernel
theorem dX11_mixText_35 : decode cX11_mixText 35 = .ok (.aload_n 0, 1) := by decide +kernel
theorem dX11_mixText_36 : decode cX11_mixText 36 = .ok (.aload_n 0, 1) := by decide +kernel
theorem dX11_mixText_37 : decode cX11_mixText 37 = .ok (.getfield 174, 3) := by decide +kernel
theorem dX11_mixText_40 : decode cX11_mixText 40 = .ok (.i2l, 1) := by decide +kernel
theorem dX11_mixText_41 : decode cX11_mixText 41 = .ok (.invokevirtual 345, 3) := by decide +kernel
theorem dX11_mixText_44 : decode cX11_mixText 44 = .ok (.aload_n 0, 1) := by decide +kernel
theorem dX11_mixText_45 : decode cX11_mixText 45 = .ok (.aload_n 0, 1) := by decide +kernel
theorem dX11_mixText_46 : decode cX11_mixText 46 = .ok (.getfield 177, 3) := by decide +kernel
theorem dX11_mixText_49 : decode cX11_mixText 49 = .ok (.i2l, 1) := by decide +kernel
theorem dX11_mixText_50 : decode cX11_mixText 50 = .ok (.invokevirtual 345, 3) := by decide +kernel
theorem dX11_mixText_53 : decode cX11_mixText 53 = .ok (.iconst 0, 1) := by decide +kernel
theorem dX11_mixText_54 : decode cX11_mixText 54 = .ok (.istore_n 1, 1) := by decide +kernel
theorem dX11_mixText_55 : decode cX11_mixText 55 = .ok (.iload_n 1, 1) := by decide +kernel
theorem dX11_mixText_56 : decode cX11_mixText 56 = .ok (.aload_n 0, 1) := by decide +kernel
theorem dX11_mixText_57 : decode cX11_mixText 57 = .ok (.getfield 174, 3) := by decide +kernel
theorem dX11_mixText_60 : decode cX11_mixText 60 = .ok (.if_icmp .ge 20, 3) := by decide +kernel
theorem dX11_mixText_63 : decode cX11_mixText 63 = .ok (.aload_n 0, 1) := by decide +kernel
theorem dX11_mixText_64 : decode cX11_mixText 64 = .ok (.aload_n 0, 1) := by decide +kernel
theorem dX11_mixText_65 : decode cX11_mixText 65 = .ok (.getfield 52, 3) := by decide +kernel
theorem dX11_mixText_68 : decode cX11_mixText 68 = .ok (.iload_n 1, 1) := by decide +kernel
theorem dX11_mixText_69 : decode cX11_mixText 69 = .ok (.iaload, 1) := by decide +kernel
theorem dX11_mixText_70 : decode cX11_mixText 70 = .ok (.i2l, 1) := by decide +kernel
theorem dX11_mixText_71 : decode cX11_mixText 71 = .ok (.invokevirtual 345, 3) := by decide +kernel
theorem dX11_mixText_74 : decode cX11_mixText 74 = .ok (.iinc 1 1, 3) := by decide +kernel
theorem dX11_mixText_77 : decode cX11_mixText 77 = .ok (.goto (-22), 3) := by decide +kernel
theorem dX11_mixText_80 : decode cX11_mixText 80 = .ok (.aload_n 0, 1) := by decide +kernel
theorem dX11_mixText_81 : decode cX11_mixText 81 = .ok (.invokevirtual 195, 3) := by decide +kernel
theorem dX11_mixText_84 : decode cX11_mixText 84 = .ok (.aload_n 0, 1) := by decide +kernel
theorem dX11_mixText_85 : decode cX11_mixText 85 = .ok (.aload_n 0, 1) := by decide +kernel
theorem dX11_mixText_86 : decode cX11_mixText 86 = .ok (.getfield 46, 3) := by decide +kernel
theorem dX11_mixText_89 : decode cX11_mixText 89 = .ok (.iconst 0, 1) := by decide +kernel
theorem dX11_mixText_90 : decode cX11_mixText 90 = .ok (.iaload, 1) := by decide +kernel
theorem dX11_mixText_91 : decode cX11_mixText 91 = .ok (.i2l, 1) := by decide +kernel
theorem dX11_mixText_92 : decode cX11_mixText 92 = .ok (.invokevirtual 345, 3) := by decide +kernel
theorem dX11_mixText_95 : decode cX11_mixText 95 = .ok (.iconst 0, 1) := by decide +kernel
theorem dX11_mixText_96 : decode cX11_mixText 96 = .ok (.istore_n 1, 1) := by decide +kernel
theorem dX11_mixText_97 : decode cX11_mixText 97 = .ok (.aload_n 0, 1) := by decide +kernel
theorem dX11_mixText_98 : decode cX11_mixText 98 = .ok (.iconst 0, 1) := by decide +kernel
theorem dX11_mixText_99 : decode cX11_mixText 99 = .ok (.iload_n 1, 1) := by decide +kernel
theorem dX11_mixText_100 : decode cX11_mixText 100 = .ok (.invokevirtual 201, 3) := by decide +kernel
theorem dX11_mixText_103 : decode cX11_mixText 103 = .ok (.iconst (-1), 1) := by decide +kernel
theorem dX11_mixText_104 : decode cX11_mixText 104 = .ok (.if_icmp .eq 20, 3) := by decide +kernel
theorem dX11_mixText_107 : decode cX11_mixText 107 = .ok (.aload_n 0, 1) := by decide +kernel
theorem dX11_mixText_108 : decode cX11_mixText 108 = .ok (.aload_n 0, 1) := by decide +kernel
theorem dX11_mixText_109 : decode cX11_mixText 109 = .ok (.iconst 0, 1) := by decide +kernel
theorem dX11_mixText_110 : decode cX11_mixText 110 = .ok (.iload_n 1, 1) := by decide +kernel
theorem dX11_mixText_111 : decode cX11_mixText 111 = .ok (.invokevirtual 201, 3) := by decide +kernel
theorem dX11_mixText_114 : decode cX11_mixText 114 = .ok (.i2l, 1) := by decide +kernel
theorem dX11_mixText_115 : decode cX11_mixText 115 = .ok (.invokevirtual 345, 3) := by decide +kernel
theorem dX11_mixText_118 : decode cX11_mixText 118 = .ok (.iinc 1 1, 3) := by decide +kernel
theorem dX11_mixText_121 : decode cX11_mixText 121 = .ok (.goto (-24), 3) := by decide +kernel
theorem dX11_mixText_124 : decode cX11_mixText 124 = .ok (.return_, 1) := by decide +kernel
theorem dX11_mixClash_0 : decode cX11_mixClash 0 = .ok (.iconst 0, 1) := by decide +kernel
theorem dX11_mixClash_1 : decode cX11_mixClash 1 = .ok (.istore_n 1, 1) := by decide +kernel
theorem dX11_mixClash_2 : decode cX11_mixClash 2 = .ok (.iload_n 1, 1) := by decide +kernel
theorem dX11_mixClash_3 : decode cX11_mixClash 3 = .ok (.bipush 6, 2) := by decide +kernel
theorem dX11_mixClash_5 : decode cX11_mixClash 5 = .ok (.if_icmp .ge 19, 3) := by decide +kernel
theorem dX11_mixClash_8 : decode cX11_mixClash 8 = .ok (.aload_n 0, 1) := by decide +kernel
theorem dX11_mixClash_9 : decode cX11_mixClash 9 = .ok (.aload_n 0, 1) := by decide +kernel
theorem dX11_mixClash_10 : decode cX11_mixClash 10 = .ok (.iload_n 1, 1) := by decide +kernel
theorem dX11_mixClash_11 : decode cX11_mixClash 11 = .ok (.invokevirtual 297, 3) := by decide +kernel
theorem dX11_mixClash_14 : decode cX11_mixClash 14 = .ok (.i2l, 1) := by decide +kernel
theorem dX11_mixClash_15 : decode cX11_mixClash 15 = .ok (.invokevirtual 345, 3) := by decide +kernel
theorem dX11_mixClash_18 : decode cX11_mixClash 18 = .ok (.iinc 1 1, 3) := by decide +kernel
theorem dX11_mixClash_21 : decode cX11_mixClash 21 = .ok (.goto (-19), 3) := by decide +kernel
theorem dX11_mixClash_24 : decode cX11_mixClash 24 = .ok (.aload_n 0, 1) := by decide +kernel
theorem dX11_mixClash_25 : decode cX11_mixClash 25 = .ok (.invokevirtual 282, 3) := by decide +kernel
theorem dX11_mixClash_28 : decode cX11_mixClash 28 = .ok (.iconst 0, 1) := by decide +kernel
theorem dX11_mixClash_29 : decode cX11_mixClash 29 = .ok (.istore_n 1, 1) := by decide +kernel
theorem dX11_mixClash_30 : decode cX11_mixClash 30 = .ok (.iload_n 1, 1) := by decide +kernel
theorem dX11_mixClash_31 : decode cX11_mixClash 31 = .ok (.aload_n 0, 1) := by decide +kernel
theorem dX11_mixClash_32 : decode cX11_mixClash 32 = .ok (.getfield 269, 3) := by decide +kernel
theorem dX11_mixClash_35 : decode cX11_mixClash 35 = .ok (.if_icmp .ge 20, 3) := by decide +kernel
theorem dX11_mixClash_38 : decode cX11_mixClash 38 = .ok (.aload_n 0, 1) := by decide +kernel
theorem dX11_mixClash_39 : decode cX11_mixClash 39 = .ok (.aload_n 0, 1) := by decide +kernel
theorem dX11_mixClash_40 : decode cX11_mixClash 40 = .ok (.getfield 68, 3) := by decide +kernel
theorem dX11_mixClash_43 : decode cX11_mixClash 43 = .ok (.iload_n 1, 1) := by decide +kernel
theorem dX11_mixClash_44 : decode cX11_mixClash 44 = .ok (.iaload, 1) := by decide +kernel
theorem dX11_mixClash_45 : decode cX11_mixClash 45 = .ok (.i2l, 1) := by decide +kernel
theorem dX11_mixClash_46 : decode cX11_mixClash 46 = .ok (.invokevirtual 345, 3) := by decide +kernel
theorem dX11_mixClash_49 : decode cX11_mixClash 49 = .ok (.iinc 1 1, 3) := by decide +kernel
theorem dX11_mixClash_52 : decode cX11_mixClash 52 = .ok (.goto (-22), 3) := by decide +kernel
theorem dX11_mixClash_55 : decode cX11_mixClash 55 = .ok (.iconst 0, 1) := by decide +kernel
theorem dX11_mixClash_56 : decode cX11_mixClash 56 = .ok (.istore_n 1, 1) := by decide +kernel
theorem dX11_mixClash_57 : decode cX11_mixClash 57 = .ok (.iload_n 1, 1) := by decide +kernel
theorem dX11_mixClash_58 : decode cX11_mixClash 58 = .ok (.iconst 2, 1) := by decide +kernel
theorem dX11_mixClash_59 : decode cX11_mixClash 59 = .ok (.if_icmp .ge 46, 3) := by decide +kernel
theorem dX11_mixClash_62 : decode cX11_mixClash 62 = .ok (.aload_n 0, 1) := by decide +kernel
theorem dX11_mixClash_63 : decode cX11_mixClash 63 = .ok (.getfield 269, 3) := by decide +kernel
theorem dX11_mixClash_66 : decode cX11_mixClash 66 = .ok (.iconst (-1), 1) := by decide +kernel
theorem dX11_mixClash_67 : decode cX11_mixClash 67 = .ok (.if_icmp .eq 38, 3) := by decide +kernel
theorem dX11_mixClash_70 : decode cX11_mixClash 70 = .ok (.iconst 0, 1) := by decide +kernel
theorem dX11_mixClash_71 : decode cX11_mixClash 71 = .ok (.istore_n 2, 1) := by decide +kernel
theorem dX11_mixClash_72 : decode cX11_mixClash 72 = .ok (.aload_n 0, 1) := by decide +kernel
theorem dX11_mixClash_73 : decode cX11_mixClash 73 = .ok (.iload_n 1, 1) := by decide +kernel
theorem dX11_mixClash_74 : decode cX11_mixClash 74 = .ok (.iload_n 2, 1) := by decide +kernel
theorem dX11_mixClash_75 : decode cX11_mixClash 75 = .ok (.invokevirtual 201, 3) := by decide +kernel
theorem dX11_mixClash_78 : decode cX11_mixClash 78 = .ok (.iconst (-1), 1) := by decide +kernel
theorem dX11_mixClash_79 : decode cX11_mixClash 79 = .ok (.if_icmp .eq 20, 3) := by decide +kernel
theorem dX11_mixClash_82 : decode cX11_mixClash 82 = .ok (.aload_n 0, 1) := by decide +kernel
theorem dX11_mixClash_83 : decode cX11_mixClash 83 = .ok (.aload_n 0, 1) := by decide +kernel
theorem dX11_mixClash_84 : decode cX11_mixClash 84 = .ok (.iload_n 1, 1) := by decide +kernel
theorem dX11_mixClash_85 : decode cX11_mixClash 85 = .ok (.iload_n 2, 1) := by decide +kernel
theorem dX11_mixClash_86 : decode cX11_mixClash 86 = .ok (.invokevirtual 201, 3) := by decide +kernel
theorem dX11_mixClash_89 : decode cX11_mixClash 89 = .ok (.i2l, 1) := by decide +kernel
theorem dX11_mixClash_90 : decode cX11_mixClash 90 = .ok (.invokevirtual 345, 3) := by decide +kernel
theorem dX11_mixClash_93 : decode cX11_mixClash 93 = .ok (.iinc 2 1, 3) := by decide +kernel
theorem dX11_mixClash_96 : decode cX11_mixClash 96 = .ok (.goto (-24), 3) := by decide +kernel
theorem dX11_mixClash_99 : decode cX11_mixClash 99 = .ok (.iinc 1 1, 3) := by decide +kernel
theorem dX11_mixClash_102 : decode cX11_mixClash 102 = .ok (.goto (-45), 3) := by decide +kernel
theorem dX11_mixClash_105 : decode cX11_mixClash 105 = .ok (.return_, 1) := by decide +kernel
theorem dX11_mixAheads_0 : decode cX11_mixAheads 0 = .ok (.aload_n 0, 1) := by decide +kernel
theorem dX11_mixAheads_1 : decode cX11_mixAheads 1 = .ok (.invokevirtual 291, 3) := by decide +kernel
theorem dX11_mixAheads_4 : decode cX11_mixAheads 4 = .ok (.istore_n 1, 1) := by decide +kernel
theorem dX11_mixAheads_5 : decode cX11_mixAheads 5 = .ok (.iconst 0, 1) := by decide +kernel
theorem dX11_mixAheads_6 : decode cX11_mixAheads 6 = .ok (.istore_n 2, 1) := by decide +kernel
theorem dX11_mixAheads_7 : decode cX11_mixAheads 7 = .ok (.iload_n 2, 1) := by decide +kernel
theorem dX11_mixAheads_8 : decode cX11_mixAheads 8 = .ok (.iload_n 1, 1) := by decide +kernel
theorem dX11_mixAheads_9 : decode cX11_mixAheads 9 = .ok (.if_icmp .ge 46, 3) := by decide +kernel
theorem dX11_mixAheads_12 : decode cX11_mixAheads 12 = .ok (.aload_n 0, 1) := by decide +kernel
theorem dX11_mixAheads_13 : decode cX11_mixAheads 13 = .ok (.iload_n 2, 1) := by decide +kernel
theorem dX11_mixAheads_14 : decode cX11_mixAheads 14 = .ok (.invokevirtual 245, 3) := by decide +kernel
theorem dX11_mixAheads_17 : decode cX11_mixAheads 17 = .ok (.istore_n 3, 1) := by decide +kernel
theorem dX11_mixAheads_18 : decode cX11_mixAheads 18 = .ok (.iconst 0, 1) := by decide +kernel
theorem dX11_mixAheads_19 : decode cX11_mixAheads 19 = .ok (.istore 4, 2) := by decide +kernel
theorem dX11_mixAheads_21 : decode cX11_mixAheads 21 = .ok (.iload 4, 2) := by decide +kernel
theorem dX11_mixAheads_23 : decode cX11_mixAheads 23 = .ok (.aload_n 0, 1) := by decide +kernel
theorem dX11_mixAheads_24 : decode cX11_mixAheads 24 = .ok (.iload_n 3, 1) := by decide +kernel
theorem dX11_mixAheads_25 : decode cX11_mixAheads 25 = .ok (.invokevirtual 207, 3) := by decide +kernel
theorem dX11_mixAheads_28 : decode cX11_mixAheads 28 = .ok (.if_icmp .ge 21, 3) := by decide +kernel
theorem dX11_mixAheads_31 : decode cX11_mixAheads 31 = .ok (.aload_n 0, 1) := by decide +kernel
theorem dX11_mixAheads_32 : decode cX11_mixAheads 32 = .ok (.aload_n 0, 1) := by decide +kernel
theorem dX11_mixAheads_33 : decode cX11_mixAheads 33 = .ok (.iload_n 3, 1) := by decide +kernel
theorem dX11_mixAheads_34 : decode cX11_mixAheads 34 = .ok (.iload 4, 2) := by decide +kernel
theorem dX11_mixAheads_36 : decode cX11_mixAheads 36 = .ok (.invokevirtual 210, 3) := by decide +kernel
theorem dX11_mixAheads_39 : decode cX11_mixAheads 39 = .ok (.i2l, 1) := by decide +kernel
theorem dX11_mixAheads_40 : decode cX11_mixAheads 40 = .ok (.invokevirtual 345, 3) := by decide +kernel
theorem dX11_mixAheads_43 : decode cX11_mixAheads 43 = .ok (.iinc 4 1, 3) := by decide +kernel
theorem dX11_mixAheads_46 : decode cX11_mixAheads 46 = .ok (.goto (-25), 3) := by decide +kernel
theorem dX11_mixAheads_49 : decode cX11_mixAheads 49 = .ok (.iinc 2 1, 3) := by decide +kernel
theorem dX11_mixAheads_52 : decode cX11_mixAheads 52 = .ok (.goto (-45), 3) := by decide +kernel
theorem dX11_mixAheads_55 : decode cX11_mixAheads 55 = .ok (.aload_n 0, 1) := by decide +kernel
theorem dX11_mixAheads_56 : decode cX11_mixAheads 56 = .ok (.invokevirtual 306, 3) := by decide +kernel
theorem dX11_mixAheads_59 : decode cX11_mixAheads 59 = .ok (.istore_n 2, 1) := by decide +kernel
theorem dX11_mixAheads_60 : decode cX11_mixAheads 60 = .ok (.aload_n 0, 1) := by decide +kernel
theorem dX11_mixAheads_61 : decode cX11_mixAheads 61 = .ok (.iload_n 2, 1) := by decide +kernel
theorem dX11_mixAheads_62 : decode cX11_mixAheads 62 = .ok (.iconst (-1), 1) := by decide +kernel
theorem dX11_mixAheads_63 : decode cX11_mixAheads 63 = .ok (.if_icmp .ne 9, 3) := by decide +kernel
theorem dX11_mixAheads_66 : decode cX11_mixAheads 66 = .ok (.ldc2_w 349, 3) := by decide +kernel
theorem dX11_mixAheads_69 : decode cX11_mixAheads 69 = .ok (.goto 8, 3) := by decide +kernel
theorem dX11_mixAheads_72 : decode cX11_mixAheads 72 = .ok (.iload_n 2, 1) := by decide +kernel
theorem dX11_mixAheads_73 : decode cX11_mixAheads 73 = .ok (.invokestatic 303, 3) := by decide +kernel
theorem dX11_mixAheads_76 : decode cX11_mixAheads 76 = .ok (.i2l, 1) := by decide +kernel
theorem dX11_mixAheads_77 : decode cX11_mixAheads 77 = .ok (.invokevirtual 345, 3) := by decide +kernel
theorem dX11_mixAheads_80 : decode cX11_mixAheads 80 = .ok (.aload_n 0, 1) := by decide +kernel
theorem dX11_mixAheads_81 : decode cX11_mixAheads 81 = .ok (.iload_n 2, 1) := by decide +kernel
theorem dX11_mixAheads_82 : decode cX11_mixAheads 82 = .ok (.i2l, 1) := by decide +kernel
theorem dX11_mixAheads_83 : decode cX11_mixAheads 83 = .ok (.invokevirtual 345, 3) := by decide +kernel
theorem dX11_mixAheads_86 : decode cX11_mixAheads 86 = .ok (.return_, 1) := by decide +kernel
theorem dX11_digest_0 : decode cX11_digest 0 = .ok (.aload_n 0, 1) := by decide +kernel
theorem dX11_digest_1 : decode cX11_digest 1 = .ok (.ldc2_w 351, 3) := by decide +kernel
theorem dX11_digest_4 : decode cX11_digest 4 = .ok (.putfield 342, 3) := by decide +kernel
theorem dX11_digest_7 : decode cX11_digest 7 = .ok (.aload_n 0, 1) := by decide +kernel
theorem dX11_digest_8 : decode cX11_digest 8 = .ok (.invokevirtual 353, 3) := by decide +kernel
theorem dX11_digest_11 : decode cX11_digest 11 = .ok (.aload_n 0, 1) := by decide +kernel
theorem dX11_digest_12 : decode cX11_digest 12 = .ok (.invokevirtual 356, 3) := by decide +kernel
theorem dX11_digest_15 : decode cX11_digest 15 = .ok (.aload_n 0, 1) := by decide +kernel
theorem dX11_digest_16 : decode cX11_digest 16 = .ok (.invokevirtual 359, 3) := by decide +kernel
theorem dX11_digest_19 : decode cX11_digest 19 = .ok (.aload_n 0, 1) := by decide +kernel
theorem dX11_digest_20 : decode cX11_digest 20 = .ok (.invokevirtual 362, 3) := by decide +kernel
theorem dX11_digest_23 : decode cX11_digest 23 = .ok (.iconst 0, 1) := by decide +kernel
theorem dX11_digest_24 : decode cX11_digest 24 = .ok (.istore_n 1, 1) := by decide +kernel
theorem dX11_digest_25 : decode cX11_digest 25 = .ok (.iload_n 1, 1) := by decide +kernel
theorem dX11_digest_26 : decode cX11_digest 26 = .ok (.aload_n 0, 1) := by decide +kernel
theorem dX11_digest_27 : decode cX11_digest 27 = .ok (.getfield 75, 3) := by decide +kernel
theorem dX11_digest_30 : decode cX11_digest 30 = .ok (.if_icmp .ge 20, 3) := by decide +kernel
theorem dX11_digest_33 : decode cX11_digest 33 = .ok (.aload_n 0, 1) := by decide +kernel
theorem dX11_digest_34 : decode cX11_digest 34 = .ok (.aload_n 0, 1) := by decide +kernel
theorem dX11_digest_35 : decode cX11_digest 35 = .ok (.getfield 25, 3) := by decide +kernel
theorem dX11_digest_38 : decode cX11_digest 38 = .ok (.iload_n 1, 1) := by decide +kernel
theorem dX11_digest_39 : decode cX11_digest 39 = .ok (.iaload, 1) := by decide +kernel
theorem dX11_digest_40 : decode cX11_digest 40 = .ok (.i2l, 1) := by decide +kernel
theorem dX11_digest_41 : decode cX11_digest 41 = .ok (.invokevirtual 345, 3) := by decide +kernel
theorem dX11_digest_44 : decode cX11_digest 44 = .ok (.iinc 1 1, 3) := by decide +kernel
theorem dX11_digest_47 : decode cX11_digest 47 = .ok (.goto (-22), 3) := by decide +kernel
theorem dX11_digest_50 : decode cX11_digest 50 = .ok (.iconst 0, 1) := by decide +kernel
theorem dX11_digest_51 : decode cX11_digest 51 = .ok (.istore_n 1, 1) := by decide +kernel
theorem dX11_digest_52 : decode cX11_digest 52 = .ok (.iload_n 1, 1) := by decide +kernel
theorem dX11_digest_53 : decode cX11_digest 53 = .ok (.bipush 7, 2) := by decide +kernel
theorem dX11_digest_55 : decode cX11_digest 55 = .ok (.if_icmp .ge 19, 3) := by decide +kernel
theorem dX11_digest_58 : decode cX11_digest 58 = .ok (.aload_n 0, 1) := by decide +kernel
theorem dX11_digest_59 : decode cX11_digest 59 = .ok (.aload_n 0, 1) := by decide +kernel
theorem dX11_digest_60 : decode cX11_digest 60 = .ok (.iload_n 1, 1) := by decide +kernel
theorem dX11_digest_61 : decode cX11_digest 61 = .ok (.invokevirtual 337, 3) := by decide +kernel
theorem dX11_digest_64 : decode cX11_digest 64 = .ok (.i2l, 1) := by decide +kernel
theorem dX11_digest_65 : decode cX11_digest 65 = .ok (.invokevirtual 345, 3) := by decide +kernel
theorem dX11_digest_68 : decode cX11_digest 68 = .ok (.iinc 1 1, 3) := by decide +kernel
theorem dX11_digest_71 : decode cX11_digest 71 = .ok (.goto (-19), 3) := by decide +kernel
theorem dX11_digest_74 : decode cX11_digest 74 = .ok (.aload_n 0, 1) := by decide +kernel
theorem dX11_digest_75 : decode cX11_digest 75 = .ok (.getfield 342, 3) := by decide +kernel
theorem dX11_digest_78 : decode cX11_digest 78 = .ok (.lreturn, 1) := by decide +kernel
