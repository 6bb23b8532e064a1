theorem dX4_takesCapital_5 : decode cX4_takesCapital 5 = .ok (.if_icmp .eq 14, 3) := by decide +kernel
theorem dX4_takesCapital_8 : decode cX4_takesCapital 8 = .ok (.aload_n 0, 1) := by decide +kernel
theorem dX4_takesCapital_9 : decode cX4_takesCapital 9 = .ok (.getfield 29, 3) := by decide +kernel
theorem dX4_takesCapital_12 : decode cX4_takesCapital 12 = .ok (.invokestatic 70, 3) := by decide +kernel
theorem dX4_takesCapital_15 : decode cX4_takesCapital 15 = .ok (.iconst 3, 1) := by decide +kernel
theorem dX4_takesCapital_16 : decode cX4_takesCapital 16 = .ok (.if_icmp .lt 5, 3) := by decide +kernel
theorem dX4_takesCapital_19 : decode cX4_takesCapital 19 = .ok (.iconst 0, 1) := by decide +kernel
theorem dX4_takesCapital_20 : decode cX4_takesCapital 20 = .ok (.ireturn, 1) := by decide +kernel
theorem dX4_takesCapital_21 : decode cX4_takesCapital 21 = .ok (.aload_n 0, 1) := by decide +kernel
theorem dX4_takesCapital_22 : decode cX4_takesCapital 22 = .ok (.getfield 29, 3) := by decide +kernel
theorem dX4_takesCapital_25 : decode cX4_takesCapital 25 = .ok (.iconst 1, 1) := by decide +kernel
theorem dX4_takesCapital_26 : decode cX4_takesCapital 26 = .ok (.if_icmp .ne 20, 3) := by decide +kernel
theorem dX4_takesCapital_29 : decode cX4_takesCapital 29 = .ok (.aload_n 0, 1) := by decide +kernel
theorem dX4_takesCapital_30 : decode cX4_takesCapital 30 = .ok (.getfield 14, 3) := by decide +kernel
theorem dX4_takesCapital_33 : decode cX4_takesCapital 33 = .ok (.aload_n 0, 1) := by decide +kernel
theorem dX4_takesCapital_34 : decode cX4_takesCapital 34 = .ok (.getfield 25, 3) := by decide +kernel
theorem dX4_takesCapital_37 : decode cX4_takesCapital 37 = .ok (.invokevirtual 76, 3) := by decide +kernel
theorem dX4_takesCapital_40 : decode cX4_takesCapital 40 = .ok (.iconst (-1), 1) := by decide +kernel
theorem dX4_takesCapital_41 : decode cX4_takesCapital 41 = .ok (.if_icmp .eq 5, 3) := by decide +kernel
theorem dX4_takesCapital_44 : decode cX4_takesCapital 44 = .ok (.iconst 0, 1) := by decide +kernel
theorem dX4_takesCapital_45 : decode cX4_takesCapital 45 = .ok (.ireturn, 1) := by decide +kernel
theorem dX4_takesCapital_46 : decode cX4_takesCapital 46 = .ok (.aload_n 0, 1) := by decide +kernel
theorem dX4_takesCapital_47 : decode cX4_takesCapital 47 = .ok (.aload_n 0, 1) := by decide +kernel
theorem dX4_takesCapital_48 : decode cX4_takesCapital 48 = .ok (.getfield 29, 3) := by decide +kernel
theorem dX4_takesCapital_51 : decode cX4_takesCapital 51 = .ok (.iload_n 1, 1) := by decide +kernel
theorem dX4_takesCapital_52 : decode cX4_takesCapital 52 = .ok (.invokestatic 72, 3) := by decide +kernel
theorem dX4_takesCapital_55 : decode cX4_takesCapital 55 = .ok (.putfield 29, 3) := by decide +kernel
theorem dX4_takesCapital_58 : decode cX4_takesCapital 58 = .ok (.iconst 1, 1) := by decide +kernel
theorem dX4_takesCapital_59 : decode cX4_takesCapital 59 = .ok (.ireturn, 1) := by decide +kernel
theorem dX4_takesComma_0 : decode cX4_takesComma 0 = .ok (.aload_n 0, 1) := by decide +kernel
theorem dX4_takesComma_1 : decode cX4_takesComma 1 = .ok (.getfield 29, 3) := by decide +kernel
theorem dX4_takesComma_4 : decode cX4_takesComma 4 = .ok (.iconst 1, 1) := by decide +kernel
theorem dX4_takesComma_5 : decode cX4_takesComma 5 = .ok (.if_icmp .eq 17, 3) := by decide +kernel
theorem dX4_takesComma_8 : decode cX4_takesComma 8 = .ok (.aload_n 0, 1) := by decide +kernel
theorem dX4_takesComma_9 : decode cX4_takesComma 9 = .ok (.getfield 14, 3) := by decide +kernel
theorem dX4_takesComma_12 : decode cX4_takesComma 12 = .ok (.invokevirtual 35, 3) := by decide +kernel
theorem dX4_takesComma_15 : decode cX4_takesComma 15 = .ok (.iconst 1, 1) := by decide +kernel
theorem dX4_takesComma_16 : decode cX4_takesComma 16 = .ok (.iadd, 1) := by decide +kernel
theorem dX4_takesComma_17 : decode cX4_takesComma 17 = .ok (.bipush 8, 2) := by decide +kernel
theorem dX4_takesComma_19 : decode cX4_takesComma 19 = .ok (.if_icmp .lt 5, 3) := by decide +kernel
theorem dX4_takesComma_22 : decode cX4_takesComma 22 = .ok (.iconst 0, 1) := by decide +kernel
theorem dX4_takesComma_23 : decode cX4_takesComma 23 = .ok (.ireturn, 1) := by decide +kernel
theorem dX4_takesComma_24 : decode cX4_takesComma 24 = .ok (.aload_n 0, 1) := by decide +kernel
theorem dX4_takesComma_25 : decode cX4_takesComma 25 = .ok (.invokevirtual 51, 3) := by decide +kernel
theorem dX4_takesComma_28 : decode cX4_takesComma 28 = .ok (.iconst 1, 1) := by decide +kernel
theorem dX4_takesComma_29 : decode cX4_takesComma 29 = .ok (.ireturn, 1) := by decide +kernel
theorem dX4_endRule_0 : decode cX4_endRule 0 = .ok (.aload_n 0, 1) := by decide +kernel
theorem dX4_endRule_1 : decode cX4_endRule 1 = .ok (.getfield 14, 3) := by decide +kernel
theorem dX4_endRule_4 : decode cX4_endRule 4 = .ok (.aload_n 0, 1) := by decide +kernel
theorem dX4_endRule_5 : decode cX4_endRule 5 = .ok (.getfield 25, 3) := by decide +kernel
theorem dX4_endRule_8 : decode cX4_endRule 8 = .ok (.invokevirtual 79, 3) := by decide +kernel
theorem dX4_endRule_11 : decode cX4_endRule 11 = .ok (.aload_n 0, 1) := by decide +kernel
theorem dX4_endRule_12 : decode cX4_endRule 12 = .ok (.getfield 20, 3) := by decide +kernel
theorem dX4_endRule_15 : decode cX4_endRule 15 = .ok (.aload_n 0, 1) := by decide +kernel
theorem dX4_endRule_16 : decode cX4_endRule 16 = .ok (.getfield 29, 3) := by decide +kernel
theorem dX4_endRule_19 : decode cX4_endRule 19 = .ok (.invokevirtual 79, 3) := by decide +kernel
theorem dX4_endRule_22 : decode cX4_endRule 22 = .ok (.aload_n 0, 1) := by decide +kernel
theorem dX4_endRule_23 : decode cX4_endRule 23 = .ok (.iconst 1, 1) := by decide +kernel
theorem dX4_endRule_24 : decode cX4_endRule 24 = .ok (.putfield 25, 3) := by decide +kernel
theorem dX4_endRule_27 : decode cX4_endRule 27 = .ok (.aload_n 0, 1) := by decide +kernel
theorem dX4_endRule_28 : decode cX4_endRule 28 = .ok (.iconst 1, 1) := by decide +kernel
theorem dX4_endRule_29 : decode cX4_endRule 29 = .ok (.putfield 29, 3) := by decide +kernel
theorem dX4_endRule_32 : decode cX4_endRule 32 = .ok (.return_, 1) := by decide +kernel
theorem dX5_init_0 : decode cX5_init 0 = .ok (.aload_n 0, 1) := by decide +kernel
theorem dX5_init_1 : decode cX5_init 1 = .ok (.invokespecial 3, 3) := by decide +kernel
theorem dX5_init_4 : decode cX5_init 4 = .ok (.aload_n 0, 1) := by decide +kernel
theorem dX5_init_5 : decode cX5_init 5 = .ok (.new 9, 3) := by decide +kernel
theorem dX5_init_8 : decode cX5_init 8 = .ok (.dup, 1) := by decide +kernel
theorem dX5_init_9 : decode cX5_init 9 = .ok (.bipush 25, 2) := by decide +kernel
theorem dX5_init_11 : decode cX5_init 11 = .ok (.invokespecial 11, 3) := by decide +kernel
theorem dX5_init_14 : decode cX5_init 14 = .ok (.putfield 14, 3) := by decide +kernel
theorem dX5_init_17 : decode cX5_init 17 = .ok (.aload_n 0, 1) := by decide +kernel
theorem dX5_init_18 : decode cX5_init 18 = .ok (.iconst 0, 1) := by decide +kernel
theorem dX5_init_19 : decode cX5_init 19 = .ok (.putfield 20, 3) := by decide +kernel
theorem dX5_init_22 : decode cX5_init 22 = .ok (.return_, 1) := by decide +kernel
theorem dX5_areClean_0 : decode cX5_areClean 0 = .ok (.aload_n 0, 1) := by decide +kernel
theorem dX5_areClean_1 : decode cX5_areClean 1 = .ok (.getfield 20, 3) := by decide +kernel
theorem dX5_areClean_4 : decode cX5_areClean 4 = .ok (.ifCond .ne 7, 3) := by decide +kernel
theorem dX5_areClean_7 : decode cX5_areClean 7 = .ok (.iconst 1, 1) := by decide +kernel
theorem dX5_areClean_8 : decode cX5_areClean 8 = .ok (.goto 4, 3) := by decide +kernel
theorem dX5_areClean_11 : decode cX5_areClean 11 = .ok (.iconst 0, 1) := by decide +kernel
theorem dX5_areClean_12 : decode cX5_areClean 12 = .ok (.ireturn, 1) := by decide +kernel
theorem dX5_gather_0 : decode cX5_gather 0 = .ok (.aload_n 0, 1) := by decide +kernel
theorem dX5_gather_1 : decode cX5_gather 1 = .ok (.aload_n 1, 1) := by decide +kernel
theorem dX5_gather_2 : decode cX5_gather 2 = .ok (.invokevirtual 24, 3) := by decide +kernel
theorem dX5_gather_5 : decode cX5_gather 5 = .ok (.iconst 0, 1) := by decide +kernel
theorem dX5_gather_6 : decode cX5_gather 6 = .ok (.istore_n 2, 1) := by decide +kernel
theorem dX5_gather_7 : decode cX5_gather 7 = .ok (.iload_n 2, 1) := by decide +kernel
theorem dX5_gather_8 : decode cX5_gather 8 = .ok (.aload_n 0, 1) := by decide +kernel
theorem dX5_gather_9 : decode cX5_gather 9 = .ok (.getfield 14, 3) := by decide +kernel
theorem dX5_gather_12 : decode cX5_gather 12 = .ok (.invokevirtual 28, 3) := by decide +kernel
theorem dX5_gather_15 : decode cX5_gather 15 = .ok (.if_icmp .ge 28, 3) := by decide +kernel
theorem dX5_gather_18 : decode cX5_gather 18 = .ok (.iload_n 2, 1) := by decide +kernel
theorem dX5_gather_19 : decode cX5_gather 19 = .ok (.bipush 25, 2) := by decide +kernel
theorem dX5_gather_21 : decode cX5_gather 21 = .ok (.if_icmp .ge 22, 3) := by decide +kernel
theorem dX5_gather_24 : decode cX5_gather 24 = .ok (.aload_n 0, 1) := by decide +kernel
theorem dX5_gather_25 : decode cX5_gather 25 = .ok (.aload_n 0, 1) := by decide +kernel
theorem dX5_gather_26 : decode cX5_gather 26 = .ok (.getfield 14, 3) := by decide +kernel
theorem dX5_gather_29 : decode cX5_gather 29 = .ok (.iload_n 2, 1) := by decide +kernel
theorem dX5_gather_30 : decode cX5_gather 30 = .ok (.invokevirtual 32, 3) := by decide +kernel
theorem dX5_gather_33 : decode cX5_gather 33 = .ok (.aload_n 1, 1) := by decide +kernel
theorem dX5_gather_34 : decode cX5_gather 34 = .ok (.invokevirtual 36, 3) := by decide +kernel
theorem dX5_gather_37 : decode cX5_gather 37 = .ok (.iinc 2 1, 3) := by decide +kernel
theorem dX5_gather_40 : decode cX5_gather 40 = .ok (.goto (-33), 3) := by decide +kernel
theorem dX5_gather_43 : decode cX5_gather 43 = .ok (.aload_n 0, 1) := by decide +kernel
theorem dX5_gather_44 : decode cX5_gather 44 = .ok (.getfield 14, 3) := by decide +kernel
theorem dX5_gather_47 : decode cX5_gather 47 = .ok (.invokevirtual 40, 3) := by decide +kernel
theorem dX5_gather_50 : decode cX5_gather 50 = .ok (.return_, 1) := by decide +kernel
theorem dX5_wouldBeClean_0 : decode cX5_wouldBeClean 0 = .ok (.aload_n 0, 1) := by decide +kernel
theorem dX5_wouldBeClean_1 : decode cX5_wouldBeClean 1 = .ok (.aload_n 1, 1) := by decide +kernel
theorem dX5_wouldBeClean_2 : decode cX5_wouldBeClean 2 = .ok (.invokevirtual 24, 3) := by decide +kernel
theorem dX5_wouldBeClean_5 : decode cX5_wouldBeClean 5 = .ok (.iconst 0, 1) := by decide +kernel
theorem dX5_wouldBeClean_6 : decode cX5_wouldBeClean 6 = .ok (.istore_n 2, 1) := by decide +kernel
theorem dX5_wouldBeClean_7 : decode cX5_wouldBeClean 7 = .ok (.iload_n 2, 1) := by decide +kernel
theorem dX5_wouldBeClean_8 : decode cX5_wouldBeClean 8 = .ok (.aload_n 0, 1) := by decide +kernel
theorem dX5_wouldBeClean_9 : decode cX5_wouldBeClean 9 = .ok (.getfield 14, 3) := by decide +kernel
theorem dX5_wouldBeClean_12 : decode cX5_wouldBeClean 12 = .ok (.invokevirtual 28, 3) := by decide +kernel
theorem dX5_wouldBeClean_15 : decode cX5_wouldBeClean 15 = .ok (.if_icmp .ge 37, 3) := by decide +kernel
theorem dX5_wouldBeClean_18 : decode cX5_wouldBeClean 18 = .ok (.iload_n 2, 1) := by decide +kernel
theorem dX5_wouldBeClean_19 : decode cX5_wouldBeClean 19 = .ok (.bipush 25, 2) := by decide +kernel
theorem dX5_wouldBeClean_21 : decode cX5_wouldBeClean 21 = .ok (.if_icmp .ge 31, 3) := by decide +kernel
theorem dX5_wouldBeClean_24 : decode cX5_wouldBeClean 24 = .ok (.aload_n 0, 1) := by decide +kernel
theorem dX5_wouldBeClean_25 : decode cX5_wouldBeClean 25 = .ok (.getfield 20, 3) := by decide +kernel
theorem dX5_wouldBeClean_28 : decode cX5_wouldBeClean 28 = .ok (.ifCond .eq 5, 3) := by decide +kernel
theorem dX5_wouldBeClean_31 : decode cX5_wouldBeClean 31 = .ok (.iconst 0, 1) := by decide +kernel
theorem dX5_wouldBeClean_32 : decode cX5_wouldBeClean 32 = .ok (.ireturn, 1) := by decide +kernel
theorem dX5_wouldBeClean_33 : decode cX5_wouldBeClean 33 = .ok (.aload_n 0, 1) := by decide +kernel
theorem dX5_wouldBeClean_34 : decode cX5_wouldBeClean 34 = .ok (.aload_n 0, 1) := by decide +kernel
theorem dX5_wouldBeClean_35 : decode cX5_wouldBeClean 35 = .ok (.getfield 14, 3) := by decide +kernel
theorem dX5_wouldBeClean_38 : decode cX5_wouldBeClean 38 = .ok (.iload_n 2, 1) := by decide +kernel
theorem dX5_wouldBeClean_39 : decode cX5_wouldBeClean 39 = .ok (.invokevirtual 32, 3) := by decide +kernel
theorem dX5_wouldBeClean_42 : decode cX5_wouldBeClean 42 = .ok (.aload_n 1, 1) := by decide +kernel
theorem dX5_wouldBeClean_43 : decode cX5_wouldBeClean 43 = .ok (.invokevirtual 36, 3) := by decide +kernel
theorem dX5_wouldBeClean_46 : decode cX5_wouldBeClean 46 = .ok (.iinc 2 1, 3) := by decide +kernel
theorem dX5_wouldBeClean_49 : decode cX5_wouldBeClean 49 = .ok (.goto (-42), 3) := by decide +kernel
theorem dX5_wouldBeClean_52 : decode cX5_wouldBeClean 52 = .ok (.aload_n 0, 1) := by decide +kernel
theorem dX5_wouldBeClean_53 : decode cX5_wouldBeClean 53 = .ok (.getfield 20, 3) := by decide +kernel
theorem dX5_wouldBeClean_56 : decode cX5_wouldBeClean 56 = .ok (.ifCond .ne 7, 3) := by decide +kernel
theorem dX5_wouldBeClean_59 : decode cX5_wouldBeClean 59 = .ok (.iconst 1, 1) := by decide +kernel
theorem dX5_wouldBeClean_60 : decode cX5_wouldBeClean 60 = .ok (.goto 4, 3) := by decide +kernel
theorem dX5_wouldBeClean_63 : decode cX5_wouldBeClean 63 = .ok (.iconst 0, 1) := by decide +kernel
theorem dX5_wouldBeClean_64 : decode cX5_wouldBeClean 64 = .ok (.ireturn, 1) := by decide +kernel
theorem dX5_start_0 : decode cX5_start 0 = .ok (.aload_n 0, 1) := by decide +kernel
theorem dX5_start_1 : decode cX5_start 1 = .ok (.getfield 14, 3) := by decide +kernel
theorem dX5_start_4 : decode cX5_start 4 = .ok (.invokevirtual 43, 3) := by decide +kernel
theorem dX5_start_7 : decode cX5_start 7 = .ok (.aload_n 0, 1) := by decide +kernel
theorem dX5_start_8 : decode cX5_start 8 = .ok (.iconst 0, 1) := by decide +kernel
theorem dX5_start_9 : decode cX5_start 9 = .ok (.putfield 20, 3) := by decide +kernel
theorem dX5_start_12 : decode cX5_start 12 = .ok (.iconst 0, 1) := by decide +kernel
theorem dX5_start_13 : decode cX5_start 13 = .ok (.istore_n 2, 1) := by decide +kernel
theorem dX5_start_14 : decode cX5_start 14 = .ok (.iload_n 2, 1) := by decide +kernel
theorem dX5_start_15 : decode cX5_start 15 = .ok (.aload_n 1, 1) := by decide +kernel
theorem dX5_start_16 : decode cX5_start 16 = .ok (.invokevirtual 28, 3) := by decide +kernel
theorem dX5_start_19 : decode cX5_start 19 = .ok (.if_icmp .ge 66, 3) := by decide +kernel
theorem dX5_start_22 : decode cX5_start 22 = .ok (.aload_n 1, 1) := by decide +kernel
theorem dX5_start_23 : decode cX5_start 23 = .ok (.iload_n 2, 1) := by decide +kernel
theorem dX5_start_24 : decode cX5_start 24 = .ok (.invokevirtual 32, 3) := by decide +kernel
theorem dX5_start_27 : decode cX5_start 27 = .ok (.istore_n 3, 1) := by decide +kernel
theorem dX5_start_28 : decode cX5_start 28 = .ok (.iconst 0, 1) := by decide +kernel
theorem dX5_start_29 : decode cX5_start 29 = .ok (.istore 4, 2) := by decide +kernel
theorem dX5_start_31 : decode cX5_start 31 = .ok (.iload 4, 2) := by decide +kernel
theorem dX5_start_33 : decode cX5_start 33 = .ok (.aload_n 1, 1) := by decide +kernel
theorem dX5_start_34 : decode cX5_start 34 = .ok (.invokevirtual 28, 3) := by decide +kernel
theorem dX5_start_37 : decode cX5_start 37 = .ok (.if_icmp .ge 42, 3) := by decide +kernel
theorem dX5_start_40 : decode cX5_start 40 = .ok (.aload_n 1, 1) := by decide +kernel
theorem dX5_start_41 : decode cX5_start 41 = .ok (.iload 4, 2) := by decide +kernel
theorem dX5_start_43 : decode cX5_start 43 = .ok (.invokevirtual 32, 3) := by decide +kernel
theorem dX5_start_46 : decode cX5_start 46 = .ok (.istore 5, 2) := by decide +kernel
theorem dX5_start_48 : decode cX5_start 48 = .ok (.iload_n 2, 1) := by decide +kernel
theorem dX5_start_49 : decode cX5_start 49 = .ok (.iload 4, 2) := by decide +kernel
theorem dX5_start_51 : decode cX5_start 51 = .ok (.if_icmp .eq 22, 3) := by decide +kernel
theorem dX5_start_54 : decode cX5_start 54 = .ok (.iload 5, 2) := by decide +kernel
theorem dX5_start_56 : decode cX5_start 56 = .ok (.iload_n 3, 1) := by decide +kernel
theorem dX5_start_57 : decode cX5_start 57 = .ok (.invokestatic 46, 3) := by decide +kernel
theorem dX5_start_60 : decode cX5_start 60 = .ok (.ifCond .eq 13, 3) := by decide +kernel
theorem dX5_start_63 : decode cX5_start 63 = .ok (.aload_n 0, 1) := by decide +kernel
theorem dX5_start_64 : decode cX5_start 64 = .ok (.iload 5, 2) := by decide +kernel
theorem dX5_start_66 : decode cX5_start 66 = .ok (.iload_n 3, 1) := by decide +kernel
theorem dX5_start_67 : decode cX5_start 67 = .ok (.invokestatic 52, 3) := by decide +kernel
theorem dX5_start_70 : decode cX5_start 70 = .ok (.invokevirtual 56, 3) := by decide +kernel
theorem dX5_start_73 : decode cX5_start 73 = .ok (.iinc 4 1, 3) := by decide +kernel
theorem dX5_start_76 : decode cX5_start 76 = .ok (.goto (-45), 3) := by decide +kernel
theorem dX5_start_79 : decode cX5_start 79 = .ok (.iinc 2 1, 3) := by decide +kernel
theorem dX5_start_82 : decode cX5_start 82 = .ok (.goto (-68), 3) := by decide +kernel
theorem dX5_start_85 : decode cX5_start 85 = .ok (.return_, 1) := by decide +kernel
theorem dX5_follow_0 : decode cX5_follow 0 = .ok (.iload_n 1, 1) := by decide +kernel
theorem dX5_follow_1 : decode cX5_follow 1 = .ok (.iconst 1, 1) := by decide +kernel
theorem dX5_follow_2 : decode cX5_follow 2 = .ok (.if_icmp .ne 4, 3) := by decide +kernel
theorem dX5_follow_5 : decode cX5_follow 5 = .ok (.return_, 1) := by decide +kernel
theorem dX5_follow_6 : decode cX5_follow 6 = .ok (.iconst 0, 1) := by decide +kernel
theorem dX5_follow_7 : decode cX5_follow 7 = .ok (.istore_n 3, 1) := by decide +kernel
theorem dX5_follow_8 : decode cX5_follow 8 = .ok (.iload_n 3, 1) := by decide +kernel
theorem dX5_follow_9 : decode cX5_follow 9 = .ok (.aload_n 2, 1) := by decide +kernel
theorem dX5_follow_10 : decode cX5_follow 10 = .ok (.invokevirtual 28, 3) := by decide +kernel
theorem dX5_follow_13 : decode cX5_follow 13 = .ok (.if_icmp .ge 57, 3) := by decide +kernel
theorem dX5_follow_16 : decode cX5_follow 16 = .ok (.aload_n 2, 1) := by decide +kernel
theorem dX5_follow_17 : decode cX5_follow 17 = .ok (.iload_n 3, 1) := by decide +kernel
theorem dX5_follow_18 : decode cX5_follow 18 = .ok (.invokevirtual 32, 3) := by decide +kernel
theorem dX5_follow_21 : decode cX5_follow 21 = .ok (.istore 4, 2) := by decide +kernel
theorem dX5_follow_23 : decode cX5_follow 23 = .ok (.iload 4, 2) := by decide +kernel
theorem dX5_follow_25 : decode cX5_follow 25 = .ok (.iload_n 1, 1) := by decide +kernel
theorem dX5_follow_26 : decode cX5_follow 26 = .ok (.invokestatic 46, 3) := by decide +kernel
theorem dX5_follow_29 : decode cX5_follow 29 = .ok (.ifCond .eq 16, 3) := by decide +kernel
theorem dX5_follow_32 : decode cX5_follow 32 = .ok (.aload_n 0, 1) := by decide +kernel
theorem dX5_follow_33 : decode cX5_follow 33 = .ok (.iload 4, 2) := by decide +kernel
theorem dX5_follow_35 : decode cX5_follow 35 = .ok (.iload_n 1, 1) := by decide +kernel
theorem dX5_follow_36 : decode cX5_follow 36 = .ok (.invokestatic 52, 3) := by decide +kernel
theorem dX5_follow_39 : decode cX5_follow 39 = .ok (.invokevirtual 56, 3) := by decide +kernel
theorem dX5_follow_42 : decode cX5_follow 42 = .ok (.goto 22, 3) := by decide +kernel
theorem dX5_follow_45 : decode cX5_follow 45 = .ok (.iload_n 1, 1) := by decide +kernel
theorem dX5_follow_46 : decode cX5_follow 46 = .ok (.iload 4, 2) := by decide +kernel
theorem dX5_follow_48 : decode cX5_follow 48 = .ok (.invokestatic 46, 3) := by decide +kernel
theorem dX5_follow_51 : decode cX5_follow 51 = .ok (.ifCond .eq 13, 3) := by decide +kernel
theorem dX5_follow_54 : decode cX5_follow 54 = .ok (.aload_n 0, 1) := by decide +kernel
theorem dX5_follow_55 : decode cX5_follow 55 = .ok (.iload_n 1, 1) := by decide +kernel
theorem dX5_follow_56 : decode cX5_follow 56 = .ok (.iload 4, 2) := by decide +kernel
theorem dX5_follow_58 : decode cX5_follow 58 = .ok (.invokestatic 52, 3) := by decide +kernel
theorem dX5_follow_61 : decode cX5_follow 61 = .ok (.invokevirtual 56, 3) := by decide +kernel
theorem dX5_follow_64 : decode cX5_follow 64 = .ok (.iinc 3 1, 3) := by decide +kernel
theorem dX5_follow_67 : decode cX5_follow 67 = .ok (.goto (-59), 3) := by decide +kernel
theorem dX5_follow_70 : decode cX5_follow 70 = .ok (.return_, 1) := by decide +kernel
theorem dX5_note_0 : decode cX5_note 0 = .ok (.aload_n 0, 1) := by decide +kernel
theorem dX5_note_1 : decode cX5_note 1 = .ok (.getfield 14, 3) := by decide +kernel
theorem dX5_note_4 : decode cX5_note 4 = .ok (.iload_n 1, 1) := by decide +kernel
theorem dX5_note_5 : decode cX5_note 5 = .ok (.invokevirtual 59, 3) := by decide +kernel
theorem dX5_note_8 : decode cX5_note 8 = .ok (.iconst (-1), 1) := by decide +kernel
theorem dX5_note_9 : decode cX5_note 9 = .ok (.if_icmp .ne 11, 3) := by decide +kernel
theorem dX5_note_12 : decode cX5_note 12 = .ok (.aload_n 0, 1) := by decide +kernel
theorem dX5_note_13 : decode cX5_note 13 = .ok (.getfield 14, 3) := by decide +kernel
theorem dX5_note_16 : decode cX5_note 16 = .ok (.iload_n 1, 1) := by decide +kernel
theorem dX5_note_17 : decode cX5_note 17 = .ok (.invokevirtual 62, 3) := by decide +kernel
theorem dX5_note_20 : decode cX5_note 20 = .ok (.iload_n 1, 1) := by decide +kernel
theorem dX5_note_21 : decode cX5_note 21 = .ok (.iconst 1, 1) := by decide +kernel
theorem dX5_note_22 : decode cX5_note 22 = .ok (.if_icmp .ne 8, 3) := by decide +kernel
theorem dX5_note_25 : decode cX5_note 25 = .ok (.aload_n 0, 1) := by decide +kernel
theorem dX5_note_26 : decode cX5_note 26 = .ok (.iconst 1, 1) := by decide +kernel
theorem dX5_note_27 : decode cX5_note 27 = .ok (.putfield 20, 3) := by decide +kernel
theorem dX5_note_30 : decode cX5_note 30 = .ok (.return_, 1) := by decide +kernel
theorem dX6_init_0 : decode cX6_init 0 = .ok (.aload_n 0, 1) := by decide +kernel
theorem dX6_init_1 : decode cX6_init 1 = .ok (.invokespecial 3, 3) := by decide +kernel
theorem dX6_init_4 : decode cX6_init 4 = .ok (.aload_n 0, 1) := by decide +kernel
theorem dX6_init_5 : decode cX6_init 5 = .ok (.new 9, 3) := by decide +kernel
theorem dX6_init_8 : decode cX6_init 8 = .ok (.dup, 1) := by decide +kernel
theorem dX6_init_9 : decode cX6_init 9 = .ok (.bipush 8, 2) := by decide +kernel
theorem dX6_init_11 : decode cX6_init 11 = .ok (.invokespecial 11, 3) := by decide +kernel
theorem dX6_init_14 : decode cX6_init 14 = .ok (.putfield 14, 3) := by decide +kernel
theorem dX6_init_17 : decode cX6_init 17 = .ok (.aload_n 0, 1) := by decide +kernel
theorem dX6_init_18 : decode cX6_init 18 = .ok (.new 9, 3) := by decide +kernel
theorem dX6_init_21 : decode cX6_init 21 = .ok (.dup, 1) := by decide +kernel
theorem dX6_init_22 : decode cX6_init 22 = .ok (.bipush 8, 2) := by decide +kernel
theorem dX6_init_24 : decode cX6_init 24 = .ok (.invokespecial 11, 3) := by decide +kernel
theorem dX6_init_27 : decode cX6_init 27 = .ok (.putfield 20, 3) := by decide +kernel
theorem dX6_init_30 : decode cX6_init 30 = .ok (.aload_n 0, 1) := by decide +kernel
theorem dX6_init_31 : decode cX6_init 31 = .ok (.new 9, 3) := by decide +kernel
theorem dX6_init_34 : decode cX6_init 34 = .ok (.dup, 1) := by decide +kernel
theorem dX6_init_35 : decode cX6_init 35 = .ok (.bipush 8, 2) := by decide +kernel
theorem dX6_init_37 : decode cX6_init 37 = .ok (.invokespecial 11, 3) := by decide +kernel
theorem dX6_init_40 : decode cX6_init 40 = .ok (.putfield 23, 3) := by decide +kernel
theorem dX6_init_43 : decode cX6_init 43 = .ok (.aload_n 0, 1) := by decide +kernel
theorem dX6_init_44 : decode cX6_init 44 = .ok (.iconst 0, 1) := by decide +kernel
theorem dX6_init_45 : decode cX6_init 45 = .ok (.putfield 26, 3) := by decide +kernel
theorem dX6_init_48 : decode cX6_init 48 = .ok (.return_, 1) := by decide +kernel
theorem dX6_size_0 : decode cX6_size 0 = .ok (.aload_n 0, 1) := by decide +kernel
theorem dX6_size_1 : decode cX6_size 1 = .ok (.getfield 14, 3) := by decide +kernel
theorem dX6_size_4 : decode cX6_size 4 = .ok (.invokevirtual 30, 3) := by decide +kernel
theorem dX6_size_7 : decode cX6_size 7 = .ok (.ireturn, 1) := by decide +kernel
theorem dX6_has_0 : decode cX6_has 0 = .ok (.iload_n 1, 1) := by decide +kernel
theorem dX6_has_1 : decode cX6_has 1 = .ok (.ifCond .lt 18, 3) := by decide +kernel
theorem dX6_has_4 : decode cX6_has 4 = .ok (.iload_n 1, 1) := by decide +kernel
theorem dX6_has_5 : decode cX6_has 5 = .ok (.aload_n 0, 1) := by decide +kernel
theorem dX6_has_6 : decode cX6_has 6 = .ok (.getfield 14, 3) := by decide +kernel
theorem dX6_has_9 : decode cX6_has 9 = .ok (.invokevirtual 30, 3) := by decide +kernel
theorem dX6_has_12 : decode cX6_has 12 = .ok (.if_icmp .ge 7, 3) := by decide +kernel
theorem dX6_has_15 : decode cX6_has 15 = .ok (.iconst 1, 1) := by decide +kernel
theorem dX6_has_16 : decode cX6_has 16 = .ok (.goto 4, 3) := by decide +kernel
theorem dX6_has_19 : decode cX6_has 19 = .ok (.iconst 0, 1) := by decide +kernel
theorem dX6_has_20 : decode cX6_has 20 = .ok (.ireturn, 1) := by decide +kernel
theorem dX6_isMarked_0 : decode cX6_isMarked 0 = .ok (.aload_n 0, 1) := by decide +kernel
theorem dX6_isMarked_1 : decode cX6_isMarked 1 = .ok (.iload_n 1, 1) := by decide +kernel
theorem dX6_isMarked_2 : decode cX6_isMarked 2 = .ok (.invokevirtual 34, 3) := by decide +kernel
theorem dX6_isMarked_5 : decode cX6_isMarked 5 = .ok (.ifCond .eq 19, 3) := by decide +kernel
theorem dX6_isMarked_8 : decode cX6_isMarked 8 = .ok (.aload_n 0, 1) := by decide +kernel
theorem dX6_isMarked_9 : decode cX6_isMarked 9 = .ok (.getfield 26, 3) := by decide +kernel
theorem dX6_isMarked_12 : decode cX6_isMarked 12 = .ok (.iload_n 1, 1) := by decide +kernel
theorem dX6_isMarked_13 : decode cX6_isMarked 13 = .ok (.ishr, 1) := by decide +kernel
theorem dX6_isMarked_14 : decode cX6_isMarked 14 = .ok (.iconst 1, 1) := by decide +kernel
theorem dX6_isMarked_15 : decode cX6_isMarked 15 = .ok (.iand, 1) := by decide +kernel
theorem dX6_isMarked_16 : decode cX6_isMarked 16 = .ok (.iconst 1, 1) := by decide +kernel
theorem dX6_isMarked_17 : decode cX6_isMarked 17 = .ok (.if_icmp .ne 7, 3) := by decide +kernel
theorem dX6_isMarked_20 : decode cX6_isMarked 20 = .ok (.iconst 1, 1) := by decide +kernel
theorem dX6_isMarked_21 : decode cX6_isMarked 21 = .ok (.goto 4, 3) := by decide +kernel
theorem dX6_isMarked_24 : decode cX6_isMarked 24 = .ok (.iconst 0, 1) := by decide +kernel
theorem dX6_isMarked_25 : decode cX6_isMarked 25 = .ok (.ireturn, 1) := by decide +kernel
theorem dX6_markedRules_0 : decode cX6_markedRules 0 = .ok (.aload_n 0, 1) := by decide +kernel
theorem dX6_markedRules_1 : decode cX6_markedRules 1 = .ok (.getfield 26, 3) := by decide +kernel
theorem dX6_markedRules_4 : decode cX6_markedRules 4 = .ok (.invokestatic 38, 3) := by decide +kernel
theorem dX6_markedRules_7 : decode cX6_markedRules 7 = .ok (.ireturn, 1) := by decide +kernel
theorem dX6_replace_0 : decode cX6_replace 0 = .ok (.aload_n 0, 1) := by decide +kernel
theorem dX6_replace_1 : decode cX6_replace 1 = .ok (.getfield 14, 3) := by decide +kernel
theorem dX6_replace_4 : decode cX6_replace 4 = .ok (.aload_n 1, 1) := by decide +kernel
theorem dX6_replace_5 : decode cX6_replace 5 = .ok (.invokevirtual 44, 3) := by decide +kernel
theorem dX6_replace_8 : decode cX6_replace 8 = .ok (.aload_n 0, 1) := by decide +kernel
theorem dX6_replace_9 : decode cX6_replace 9 = .ok (.getfield 20, 3) := by decide +kernel
theorem dX6_replace_12 : decode cX6_replace 12 = .ok (.aload_n 2, 1) := by decide +kernel
theorem dX6_replace_13 : decode cX6_replace 13 = .ok (.invokevirtual 44, 3) := by decide +kernel
theorem dX6_replace_16 : decode cX6_replace 16 = .ok (.aload_n 0, 1) := by decide +kernel
theorem dX6_replace_17 : decode cX6_replace 17 = .ok (.iconst 0, 1) := by decide +kernel
theorem dX6_replace_18 : decode cX6_replace 18 = .ok (.putfield 26, 3) := by decide +kernel
theorem dX6_replace_21 : decode cX6_replace 21 = .ok (.aload_n 0, 1) := by decide +kernel
theorem dX6_replace_22 : decode cX6_replace 22 = .ok (.aload_n 0, 1) := by decide +kernel
theorem dX6_replace_23 : decode cX6_replace 23 = .ok (.getfield 26, 3) := by decide +kernel
theorem dX6_replace_26 : decode cX6_replace 26 = .ok (.aload_n 0, 1) := by decide +kernel
theorem dX6_replace_27 : decode cX6_replace 27 = .ok (.getfield 23, 3) := by decide +kernel
theorem dX6_replace_30 : decode cX6_replace 30 = .ok (.invokevirtual 48, 3) := by decide +kernel
theorem dX6_replace_33 : decode cX6_replace 33 = .ok (.return_, 1) := by decide +kernel
theorem dX6_turnMark_0 : decode cX6_turnMark 0 = .ok (.aload_n 0, 1) := by decide +kernel
theorem dX6_turnMark_1 : decode cX6_turnMark 1 = .ok (.iload_n 1, 1) := by decide +kernel
theorem dX6_turnMark_2 : decode cX6_turnMark 2 = .ok (.invokevirtual 34, 3) := by decide +kernel
theorem dX6_turnMark_5 : decode cX6_turnMark 5 = .ok (.ifCond .eq 27, 3) := by decide +kernel
theorem dX6_turnMark_8 : decode cX6_turnMark 8 = .ok (.aload_n 0, 1) := by decide +kernel
theorem dX6_turnMark_9 : decode cX6_turnMark 9 = .ok (.dup, 1) := by decide +kernel
theorem dX6_turnMark_10 : decode cX6_turnMark 10 = .ok (.getfield 26, 3) := by decide +kernel
theorem dX6_turnMark_13 : decode cX6_turnMark 13 = .ok (.iconst 1, 1) := by decide +kernel
theorem dX6_turnMark_14 : decode cX6_turnMark 14 = .ok (.iload_n 1, 1) := by decide +kernel
theorem dX6_turnMark_15 : decode cX6_turnMark 15 = .ok (.ishl, 1) := by decide +kernel
theorem dX6_turnMark_16 : decode cX6_turnMark 16 = .ok (.ixor, 1) := by decide +kernel
theorem dX6_turnMark_17 : decode cX6_turnMark 17 = .ok (.putfield 26, 3) := by decide +kernel
theorem dX6_turnMark_20 : decode cX6_turnMark 20 = .ok (.aload_n 0, 1) := by decide +kernel
theorem dX6_turnMark_21 : decode cX6_turnMark 21 = .ok (.aload_n 0, 1) := by decide +kernel
theorem dX6_turnMark_22 : decode cX6_turnMark 22 = .ok (.getfield 26, 3) := by decide +kernel
theorem dX6_turnMark_25 : decode cX6_turnMark 25 = .ok (.aload_n 0, 1) := by decide +kernel
theorem dX6_turnMark_26 : decode cX6_turnMark 26 = .ok (.getfield 23, 3) := by decide +kernel
theorem dX6_turnMark_29 : decode cX6_turnMark 29 = .ok (.invokevirtual 48, 3) := by decide +kernel
theorem dX6_turnMark_32 : decode cX6_turnMark 32 = .ok (.return_, 1) := by decide +kernel
theorem dX6_remove_0 : decode cX6_remove 0 = .ok (.aload_n 0, 1) := by decide +kernel
theorem dX6_remove_1 : decode cX6_remove 1 = .ok (.iload_n 1, 1) := by decide +kernel
theorem dX6_remove_2 : decode cX6_remove 2 = .ok (.invokevirtual 34, 3) := by decide +kernel
theorem dX6_remove_5 : decode cX6_remove 5 = .ok (.ifCond .eq 58, 3) := by decide +kernel
theorem dX6_remove_8 : decode cX6_remove 8 = .ok (.aload_n 0, 1) := by decide +kernel
theorem dX6_remove_9 : decode cX6_remove 9 = .ok (.getfield 14, 3) := by decide +kernel
theorem dX6_remove_12 : decode cX6_remove 12 = .ok (.iload_n 1, 1) := by decide +kernel
theorem dX6_remove_13 : decode cX6_remove 13 = .ok (.invokevirtual 52, 3) := by decide +kernel
theorem dX6_remove_16 : decode cX6_remove 16 = .ok (.aload_n 0, 1) := by decide +kernel
theorem dX6_remove_17 : decode cX6_remove 17 = .ok (.getfield 20, 3) := by decide +kernel
theorem dX6_remove_20 : decode cX6_remove 20 = .ok (.iload_n 1, 1) := by decide +kernel
theorem dX6_remove_21 : decode cX6_remove 21 = .ok (.invokevirtual 52, 3) := by decide +kernel
theorem dX6_remove_24 : decode cX6_remove 24 = .ok (.aload_n 0, 1) := by decide +kernel
theorem dX6_remove_25 : decode cX6_remove 25 = .ok (.getfield 26, 3) := by decide +kernel
theorem dX6_remove_28 : decode cX6_remove 28 = .ok (.iconst 1, 1) := by decide +kernel
theorem dX6_remove_29 : decode cX6_remove 29 = .ok (.iload_n 1, 1) := by decide +kernel
theorem dX6_remove_30 : decode cX6_remove 30 = .ok (.ishl, 1) := by decide +kernel
theorem dX6_remove_31 : decode cX6_remove 31 = .ok (.iconst 1, 1) := by decide +kernel
theorem dX6_remove_32 : decode cX6_remove 32 = .ok (.isub, 1) := by decide +kernel
theorem dX6_remove_33 : decode cX6_remove 33 = .ok (.iand, 1) := by decide +kernel
theorem dX6_remove_34 : decode cX6_remove 34 = .ok (.istore_n 2, 1) := by decide +kernel
theorem dX6_remove_35 : decode cX6_remove 35 = .ok (.aload_n 0, 1) := by decide +kernel
theorem dX6_remove_36 : decode cX6_remove 36 = .ok (.iload_n 2, 1) := by decide +kernel
theorem dX6_remove_37 : decode cX6_remove 37 = .ok (.aload_n 0, 1) := by decide +kernel
theorem dX6_remove_38 : decode cX6_remove 38 = .ok (.getfield 26, 3) := by decide +kernel
theorem dX6_remove_41 : decode cX6_remove 41 = .ok (.iload_n 1, 1) := by decide +kernel
theorem dX6_remove_42 : decode cX6_remove 42 = .ok (.iconst 1, 1) := by decide +kernel
theorem dX6_remove_43 : decode cX6_remove 43 = .ok (.iadd, 1) := by decide +kernel
theorem dX6_remove_44 : decode cX6_remove 44 = .ok (.ishr, 1) := by decide +kernel
theorem dX6_remove_45 : decode cX6_remove 45 = .ok (.iload_n 1, 1) := by decide +kernel
theorem dX6_remove_46 : decode cX6_remove 46 = .ok (.ishl, 1) := by decide +kernel
theorem dX6_remove_47 : decode cX6_remove 47 = .ok (.ior, 1) := by decide +kernel
theorem dX6_remove_48 : decode cX6_remove 48 = .ok (.putfield 26, 3) := by decide +kernel
theorem dX6_remove_51 : decode cX6_remove 51 = .ok (.aload_n 0, 1) := by decide +kernel
theorem dX6_remove_52 : decode cX6_remove 52 = .ok (.aload_n 0, 1) := by decide +kernel
theorem dX6_remove_53 : decode cX6_remove 53 = .ok (.getfield 26, 3) := by decide +kernel
theorem dX6_remove_56 : decode cX6_remove 56 = .ok (.aload_n 0, 1) := by decide +kernel
theorem dX6_remove_57 : decode cX6_remove 57 = .ok (.getfield 23, 3) := by decide +kernel
theorem dX6_remove_60 : decode cX6_remove 60 = .ok (.invokevirtual 48, 3) := by decide +kernel
theorem dX6_remove_63 : decode cX6_remove 63 = .ok (.return_, 1) := by decide +kernel
theorem dX6_makeSigns_0 : decode cX6_makeSigns 0 = .ok (.aload_n 2, 1) := by decide +kernel
theorem dX6_makeSigns_1 : decode cX6_makeSigns 1 = .ok (.invokevirtual 55, 3) := by decide +kernel
theorem dX6_makeSigns_4 : decode cX6_makeSigns 4 = .ok (.iconst 0, 1) := by decide +kernel
theorem dX6_makeSigns_5 : decode cX6_makeSigns 5 = .ok (.istore_n 3, 1) := by decide +kernel
theorem dX6_makeSigns_6 : decode cX6_makeSigns 6 = .ok (.iload_n 3, 1) := by decide +kernel
theorem dX6_makeSigns_7 : decode cX6_makeSigns 7 = .ok (.aload_n 0, 1) := by decide +kernel
theorem dX6_makeSigns_8 : decode cX6_makeSigns 8 = .ok (.getfield 20, 3) := by decide +kernel
theorem dX6_makeSigns_11 : decode cX6_makeSigns 11 = .ok (.invokevirtual 30, 3) := by decide +kernel
theorem dX6_makeSigns_14 : decode cX6_makeSigns 14 = .ok (.if_icmp .ge 56, 3) := by decide +kernel
theorem dX6_makeSigns_17 : decode cX6_makeSigns 17 = .ok (.aload_n 0, 1) := by decide +kernel
theorem dX6_makeSigns_18 : decode cX6_makeSigns 18 = .ok (.getfield 20, 3) := by decide +kernel
theorem dX6_makeSigns_21 : decode cX6_makeSigns 21 = .ok (.iload_n 3, 1) := by decide +kernel
theorem dX6_makeSigns_22 : decode cX6_makeSigns 22 = .ok (.invokevirtual 58, 3) := by decide +kernel
theorem dX6_makeSigns_25 : decode cX6_makeSigns 25 = .ok (.istore 4, 2) := by decide +kernel
theorem dX6_makeSigns_27 : decode cX6_makeSigns 27 = .ok (.iload_n 1, 1) := by decide +kernel
theorem dX6_makeSigns_28 : decode cX6_makeSigns 28 = .ok (.iload_n 3, 1) := by decide +kernel
theorem dX6_makeSigns_29 : decode cX6_makeSigns 29 = .ok (.ishr, 1) := by decide +kernel
theorem dX6_makeSigns_30 : decode cX6_makeSigns 30 = .ok (.iconst 1, 1) := by decide +kernel
theorem dX6_makeSigns_31 : decode cX6_makeSigns 31 = .ok (.iand, 1) := by decide +kernel
theorem dX6_makeSigns_32 : decode cX6_makeSigns 32 = .ok (.iconst 1, 1) := by decide +kernel
theorem dX6_makeSigns_33 : decode cX6_makeSigns 33 = .ok (.if_icmp .ne 7, 3) := by decide +kernel
theorem dX6_makeSigns_36 : decode cX6_makeSigns 36 = .ok (.iconst 1, 1) := by decide +kernel
theorem dX6_makeSigns_37 : decode cX6_makeSigns 37 = .ok (.goto 4, 3) := by decide +kernel
theorem dX6_makeSigns_40 : decode cX6_makeSigns 40 = .ok (.iconst 0, 1) := by decide +kernel
theorem dX6_makeSigns_41 : decode cX6_makeSigns 41 = .ok (.istore 5, 2) := by decide +kernel
theorem dX6_makeSigns_43 : decode cX6_makeSigns 43 = .ok (.aload_n 2, 1) := by decide +kernel
theorem dX6_makeSigns_44 : decode cX6_makeSigns 44 = .ok (.iload 5, 2) := by decide +kernel
theorem dX6_makeSigns_46 : decode cX6_makeSigns 46 = .ok (.ifCond .eq 13, 3) := by decide +kernel
theorem dX6_makeSigns_49 : decode cX6_makeSigns 49 = .ok (.iload 4, 2) := by decide +kernel
theorem dX6_makeSigns_51 : decode cX6_makeSigns 51 = .ok (.bipush 39, 2) := by decide +kernel
theorem dX6_makeSigns_53 : decode cX6_makeSigns 53 = .ok (.invokestatic 61, 3) := by decide +kernel
theorem dX6_makeSigns_56 : decode cX6_makeSigns 56 = .ok (.goto 5, 3) := by decide +kernel
theorem dX6_makeSigns_59 : decode cX6_makeSigns 59 = .ok (.iload 4, 2) := by decide +kernel
theorem dX6_makeSigns_61 : decode cX6_makeSigns 61 = .ok (.invokevirtual 67, 3) := by decide +kernel
theorem dX6_makeSigns_64 : decode cX6_makeSigns 64 = .ok (.iinc 3 1, 3) := by decide +kernel
theorem dX6_makeSigns_67 : decode cX6_makeSigns 67 = .ok (.goto (-61), 3) := by decide +kernel
theorem dX6_makeSigns_70 : decode cX6_makeSigns 70 = .ok (.return_, 1) := by decide +kernel
theorem dX6_spell_0 : decode cX6_spell 0 = .ok (.aload_n 2, 1) := by decide +kernel
theorem dX6_spell_1 : decode cX6_spell 1 = .ok (.invokevirtual 55, 3) := by decide +kernel
theorem dX6_spell_4 : decode cX6_spell 4 = .ok (.iconst 0, 1) := by decide +kernel
theorem dX6_spell_5 : decode cX6_spell 5 = .ok (.istore_n 3, 1) := by decide +kernel
theorem dX6_spell_6 : decode cX6_spell 6 = .ok (.iload_n 3, 1) := by decide +kernel
theorem dX6_spell_7 : decode cX6_spell 7 = .ok (.aload_n 1, 1) := by decide +kernel
theorem dX6_spell_8 : decode cX6_spell 8 = .ok (.invokevirtual 30, 3) := by decide +kernel
theorem dX6_spell_11 : decode cX6_spell 11 = .ok (.if_icmp .ge 25, 3) := by decide +kernel
theorem dX6_spell_14 : decode cX6_spell 14 = .ok (.aload_n 2, 1) := by decide +kernel
theorem dX6_spell_15 : decode cX6_spell 15 = .ok (.aload_n 0, 1) := by decide +kernel
theorem dX6_spell_16 : decode cX6_spell 16 = .ok (.getfield 23, 3) := by decide +kernel
theorem dX6_spell_19 : decode cX6_spell 19 = .ok (.aload_n 1, 1) := by decide +kernel
theorem dX6_spell_20 : decode cX6_spell 20 = .ok (.iload_n 3, 1) := by decide +kernel
theorem dX6_spell_21 : decode cX6_spell 21 = .ok (.invokevirtual 58, 3) := by decide +kernel
theorem dX6_spell_24 : decode cX6_spell 24 = .ok (.invokevirtual 58, 3) := by decide +kernel
theorem dX6_spell_27 : decode cX6_spell 27 = .ok (.invokevirtual 70, 3) := by decide +kernel
theorem dX6_spell_30 : decode cX6_spell 30 = .ok (.iinc 3 1, 3) := by decide +kernel
theorem dX6_spell_33 : decode cX6_spell 33 = .ok (.goto (-27), 3) := by decide +kernel
theorem dX6_spell_36 : decode cX6_spell 36 = .ok (.return_, 1) := by decide +kernel
theorem dX6_othersBeginning_0 : decode cX6_othersBeginning 0 = .ok (.iconst 0, 1) := by decide +kernel
theorem dX6_othersBeginning_1 : decode cX6_othersBeginning 1 = .ok (.istore_n 2, 1) := by decide +kernel
theorem dX6_othersBeginning_2 : decode cX6_othersBeginning 2 = .ok (.iconst 0, 1) := by decide +kernel
theorem dX6_othersBeginning_3 : decode cX6_othersBeginning 3 = .ok (.istore_n 3, 1) := by decide +kernel
theorem dX6_othersBeginning_4 : decode cX6_othersBeginning 4 = .ok (.iload_n 3, 1) := by decide +kernel
theorem dX6_othersBeginning_5 : decode cX6_othersBeginning 5 = .ok (.aload_n 0, 1) := by decide +kernel
theorem dX6_othersBeginning_6 : decode cX6_othersBeginning 6 = .ok (.invokevirtual 30, 3) := by decide +kernel
theorem dX6_othersBeginning_9 : decode cX6_othersBeginning 9 = .ok (.if_icmp .ge 33, 3) := by decide +kernel
theorem dX6_othersBeginning_12 : decode cX6_othersBeginning 12 = .ok (.iload_n 3, 1) := by decide +kernel
theorem dX6_othersBeginning_13 : decode cX6_othersBeginning 13 = .ok (.iload_n 1, 1) := by decide +kernel
theorem dX6_othersBeginning_14 : decode cX6_othersBeginning 14 = .ok (.if_icmp .eq 22, 3) := by decide +kernel
theorem dX6_othersBeginning_17 : decode cX6_othersBeginning 17 = .ok (.aload_n 0, 1) := by decide +kernel
theorem dX6_othersBeginning_18 : decode cX6_othersBeginning 18 = .ok (.iload_n 3, 1) := by decide +kernel
theorem dX6_othersBeginning_19 : decode cX6_othersBeginning 19 = .ok (.invokevirtual 58, 3) := by decide +kernel
theorem dX6_othersBeginning_22 : decode cX6_othersBeginning 22 = .ok (.aload_n 0, 1) := by decide +kernel
theorem dX6_othersBeginning_23 : decode cX6_othersBeginning 23 = .ok (.iload_n 1, 1) := by decide +kernel
theorem dX6_othersBeginning_24 : decode cX6_othersBeginning 24 = .ok (.invokevirtual 58, 3) := by decide +kernel
theorem dX6_othersBeginning_27 : decode cX6_othersBeginning 27 = .ok (.invokestatic 73, 3) := by decide +kernel
theorem dX6_othersBeginning_30 : decode cX6_othersBeginning 30 = .ok (.ifCond .eq 6, 3) := by decide +kernel
theorem dX6_othersBeginning_33 : decode cX6_othersBeginning 33 = .ok (.iinc 2 1, 3) := by decide +kernel
theorem dX6_othersBeginning_36 : decode cX6_othersBeginning 36 = .ok (.iinc 3 1, 3) := by decide +kernel
theorem dX6_othersBeginning_39 : decode cX6_othersBeginning 39 = .ok (.goto (-35), 3) := by decide +kernel
theorem dX6_othersBeginning_42 : decode cX6_othersBeginning 42 = .ok (.iload_n 2, 1) := by decide +kernel
theorem dX6_othersBeginning_43 : decode cX6_othersBeginning 43 = .ok (.ireturn, 1) := by decide +kernel
theorem dX7_init_0 : decode cX7_init 0 = .ok (.aload_n 0, 1) := by decide +kernel
theorem dX7_init_1 : decode cX7_init 1 = .ok (.invokespecial 3, 3) := by decide +kernel
theorem dX7_init_4 : decode cX7_init 4 = .ok (.aload_n 0, 1) := by decide +kernel
theorem dX7_init_5 : decode cX7_init 5 = .ok (.bipush 57, 2) := by decide +kernel
theorem dX7_init_7 : decode cX7_init 7 = .ok (.newarray .int, 2) := by decide +kernel
theorem dX7_init_9 : decode cX7_init 9 = .ok (.putfield 9, 3) := by decide +kernel
theorem dX7_init_12 : decode cX7_init 12 = .ok (.aload_n 0, 1) := by decide +kernel
theorem dX7_init_13 : decode cX7_init 13 = .ok (.bipush 57, 2) := by decide +kernel
theorem dX7_init_15 : decode cX7_init 15 = .ok (.newarray .int, 2) := by decide +kernel
theorem dX7_init_17 : decode cX7_init 17 = .ok (.putfield 15, 3) := by decide +kernel
theorem dX7_init_20 : decode cX7_init 20 = .ok (.aload_n 0, 1) := by decide +kernel
theorem dX7_init_21 : decode cX7_init 21 = .ok (.iconst 0, 1) := by decide +kernel
theorem dX7_init_22 : decode cX7_init 22 = .ok (.putfield 18, 3) := by decide +kernel
theorem dX7_init_25 : decode cX7_init 25 = .ok (.return_, 1) := by decide +kernel
theorem dX7_weigh_0 : decode cX7_weigh 0 = .ok (.aload_n 0, 1) := by decide +kernel
theorem dX7_weigh_1 : decode cX7_weigh 1 = .ok (.aload_n 2, 1) := by decide +kernel
theorem dX7_weigh_2 : decode cX7_weigh 2 = .ok (.invokevirtual 22, 3) := by decide +kernel
theorem dX7_weigh_5 : decode cX7_weigh 5 = .ok (.bipush 56, 2) := by decide +kernel
theorem dX7_weigh_7 : decode cX7_weigh 7 = .ok (.invokestatic 28, 3) := by decide +kernel
theorem dX7_weigh_10 : decode cX7_weigh 10 = .ok (.putfield 18, 3) := by decide +kernel
theorem dX7_weigh_13 : decode cX7_weigh 13 = .ok (.aload_n 0, 1) := by decide +kernel
theorem dX7_weigh_14 : decode cX7_weigh 14 = .ok (.getfield 9, 3) := by decide +kernel
theorem dX7_weigh_17 : decode cX7_weigh 17 = .ok (.aload_n 0, 1) := by decide +kernel
theorem dX7_weigh_18 : decode cX7_weigh 18 = .ok (.getfield 18, 3) := by decide +kernel
theorem dX7_weigh_21 : decode cX7_weigh 21 = .ok (.iconst 1, 1) := by decide +kernel
theorem dX7_weigh_22 : decode cX7_weigh 22 = .ok (.iastore, 1) := by decide +kernel
theorem dX7_weigh_23 : decode cX7_weigh 23 = .ok (.aload_n 0, 1) := by decide +kernel
theorem dX7_weigh_24 : decode cX7_weigh 24 = .ok (.getfield 15, 3) := by decide +kernel
theorem dX7_weigh_27 : decode cX7_weigh 27 = .ok (.aload_n 0, 1) := by decide +kernel
theorem dX7_weigh_28 : decode cX7_weigh 28 = .ok (.getfield 18, 3) := by decide +kernel
theorem dX7_weigh_31 : decode cX7_weigh 31 = .ok (.iconst 1, 1) := by decide +kernel
theorem dX7_weigh_32 : decode cX7_weigh 32 = .ok (.iastore, 1) := by decide +kernel
theorem dX7_weigh_33 : decode cX7_weigh 33 = .ok (.aload_n 0, 1) := by decide +kernel
theorem dX7_weigh_34 : decode cX7_weigh 34 = .ok (.getfield 18, 3) := by decide +kernel
theorem dX7_weigh_37 : decode cX7_weigh 37 = .ok (.iconst 1, 1) := by decide +kernel
theorem dX7_weigh_38 : decode cX7_weigh 38 = .ok (.isub, 1) := by decide +kernel
theorem dX7_weigh_39 : decode cX7_weigh 39 = .ok (.istore_n 3, 1) := by decide +kernel
theorem dX7_weigh_40 : decode cX7_weigh 40 = .ok (.iload_n 3, 1) := by decide +kernel
theorem dX7_weigh_41 : decode cX7_weigh 41 = .ok (.ifCond .lt 16, 3) := by decide +kernel
theorem dX7_weigh_44 : decode cX7_weigh 44 = .ok (.aload_n 0, 1) := by decide +kernel
theorem dX7_weigh_45 : decode cX7_weigh 45 = .ok (.aload_n 1, 1) := by decide +kernel
theorem dX7_weigh_46 : decode cX7_weigh 46 = .ok (.aload_n 2, 1) := by decide +kernel
theorem dX7_weigh_47 : decode cX7_weigh 47 = .ok (.iload_n 3, 1) := by decide +kernel
theorem dX7_weigh_48 : decode cX7_weigh 48 = .ok (.invokevirtual 34, 3) := by decide +kernel
theorem dX7_weigh_51 : decode cX7_weigh 51 = .ok (.iinc 3 (-1), 3) := by decide +kernel
theorem dX7_weigh_54 : decode cX7_weigh 54 = .ok (.goto (-14), 3) := by decide +kernel
theorem dX7_weigh_57 : decode cX7_weigh 57 = .ok (.return_, 1) := by decide +kernel
theorem dX7_weighPlace_0 : decode cX7_weighPlace 0 = .ok (.iconst 0, 1) := by decide +kernel
theorem dX7_weighPlace_1 : decode cX7_weighPlace 1 = .ok (.istore 4, 2) := by decide +kernel
theorem dX7_weighPlace_3 : decode cX7_weighPlace 3 = .ok (.iconst 0, 1) := by decide +kernel
theorem dX7_weighPlace_4 : decode cX7_weighPlace 4 = .ok (.istore 5, 2) := by decide +kernel
theorem dX7_weighPlace_6 : decode cX7_weighPlace 6 = .ok (.iconst 0, 1) := by decide +kernel
theorem dX7_weighPlace_7 : decode cX7_weighPlace 7 = .ok (.istore 6, 2) := by decide +kernel
theorem dX7_weighPlace_9 : decode cX7_weighPlace 9 = .ok (.iload 6, 2) := by decide +kernel
theorem dX7_weighPlace_11 : decode cX7_weighPlace 11 = .ok (.aload_n 1, 1) := by decide +kernel
theorem dX7_weighPlace_12 : decode cX7_weighPlace 12 = .ok (.invokevirtual 22, 3) := by decide +kernel
theorem dX7_weighPlace_15 : decode cX7_weighPlace 15 = .ok (.if_icmp .ge 68, 3) := by decide +kernel
theorem dX7_weighPlace_18 : decode cX7_weighPlace 18 = .ok (.aload_n 1, 1) := by decide +kernel
theorem dX7_weighPlace_19 : decode cX7_weighPlace 19 = .ok (.iload 6, 2) := by decide +kernel
theorem dX7_weighPlace_21 : decode cX7_weighPlace 21 = .ok (.invokevirtual 38, 3) := by decide +kernel
theorem dX7_weighPlace_24 : decode cX7_weighPlace 24 = .ok (.aload_n 2, 1) := by decide +kernel
theorem dX7_weighPlace_25 : decode cX7_weighPlace 25 = .ok (.iload_n 3, 1) := by decide +kernel
theorem dX7_weighPlace_26 : decode cX7_weighPlace 26 = .ok (.invokestatic 42, 3) := by decide +kernel
theorem dX7_weighPlace_29 : decode cX7_weighPlace 29 = .ok (.istore 7, 2) := by decide +kernel
theorem dX7_weighPlace_31 : decode cX7_weighPlace 31 = .ok (.iload 7, 2) := by decide +kernel
theorem dX7_weighPlace_33 : decode cX7_weighPlace 33 = .ok (.iload_n 3, 1) := by decide +kernel
theorem dX7_weighPlace_34 : decode cX7_weighPlace 34 = .ok (.if_icmp .le 43, 3) := by decide +kernel
theorem dX7_weighPlace_37 : decode cX7_weighPlace 37 = .ok (.iload 7, 2) := by decide +kernel
theorem dX7_weighPlace_39 : decode cX7_weighPlace 39 = .ok (.aload_n 0, 1) := by decide +kernel
theorem dX7_weighPlace_40 : decode cX7_weighPlace 40 = .ok (.getfield 18, 3) := by decide +kernel
theorem dX7_weighPlace_43 : decode cX7_weighPlace 43 = .ok (.if_icmp .gt 34, 3) := by decide +kernel
theorem dX7_weighPlace_46 : decode cX7_weighPlace 46 = .ok (.iload 4, 2) := by decide +kernel
theorem dX7_weighPlace_48 : decode cX7_weighPlace 48 = .ok (.aload_n 0, 1) := by decide +kernel
theorem dX7_weighPlace_49 : decode cX7_weighPlace 49 = .ok (.getfield 9, 3) := by decide +kernel
theorem dX7_weighPlace_52 : decode cX7_weighPlace 52 = .ok (.iload 7, 2) := by decide +kernel
theorem dX7_weighPlace_54 : decode cX7_weighPlace 54 = .ok (.iaload, 1) := by decide +kernel
theorem dX7_weighPlace_55 : decode cX7_weighPlace 55 = .ok (.iadd, 1) := by decide +kernel
theorem dX7_weighPlace_56 : decode cX7_weighPlace 56 = .ok (.ldc 48, 2) := by decide +kernel
theorem dX7_weighPlace_58 : decode cX7_weighPlace 58 = .ok (.irem, 1) := by decide +kernel
theorem dX7_weighPlace_59 : decode cX7_weighPlace 59 = .ok (.istore 4, 2) := by decide +kernel
theorem dX7_weighPlace_61 : decode cX7_weighPlace 61 = .ok (.iconst 2, 1) := by decide +kernel
theorem dX7_weighPlace_62 : decode cX7_weighPlace 62 = .ok (.iload 5, 2) := by decide +kernel
theorem dX7_weighPlace_64 : decode cX7_weighPlace 64 = .ok (.aload_n 0, 1) := by decide +kernel
theorem dX7_weighPlace_65 : decode cX7_weighPlace 65 = .ok (.getfield 15, 3) := by decide +kernel
theorem dX7_weighPlace_68 : decode cX7_weighPlace 68 = .ok (.iload 7, 2) := by decide +kernel
theorem dX7_weighPlace_70 : decode cX7_weighPlace 70 = .ok (.iaload, 1) := by decide +kernel
theorem dX7_weighPlace_71 : decode cX7_weighPlace 71 = .ok (.iadd, 1) := by decide +kernel
theorem dX7_weighPlace_72 : decode cX7_weighPlace 72 = .ok (.invokestatic 28, 3) := by decide +kernel
theorem dX7_weighPlace_75 : decode cX7_weighPlace 75 = .ok (.istore 5, 2) := by decide +kernel
theorem dX7_weighPlace_77 : decode cX7_weighPlace 77 = .ok (.iinc 6 1, 3) := by decide +kernel
theorem dX7_weighPlace_80 : decode cX7_weighPlace 80 = .ok (.goto (-71), 3) := by decide +kernel
theorem dX7_weighPlace_83 : decode cX7_weighPlace 83 = .ok (.aload_n 0, 1) := by decide +kernel
theorem dX7_weighPlace_84 : decode cX7_weighPlace 84 = .ok (.getfield 9, 3) := by decide +kernel
theorem dX7_weighPlace_87 : decode cX7_weighPlace 87 = .ok (.iload_n 3, 1) := by decide +kernel
theorem dX7_weighPlace_88 : decode cX7_weighPlace 88 = .ok (.iload 4, 2) := by decide +kernel
theorem dX7_weighPlace_90 : decode cX7_weighPlace 90 = .ok (.iastore, 1) := by decide +kernel
theorem dX7_weighPlace_91 : decode cX7_weighPlace 91 = .ok (.aload_n 0, 1) := by decide +kernel
theorem dX7_weighPlace_92 : decode cX7_weighPlace 92 = .ok (.getfield 15, 3) := by decide +kernel
theorem dX7_weighPlace_95 : decode cX7_weighPlace 95 = .ok (.iload_n 3, 1) := by decide +kernel
theorem dX7_weighPlace_96 : decode cX7_weighPlace 96 = .ok (.iload 5, 2) := by decide +kernel
theorem dX7_weighPlace_98 : decode cX7_weighPlace 98 = .ok (.iastore, 1) := by decide +kernel
theorem dX7_weighPlace_99 : decode cX7_weighPlace 99 = .ok (.return_, 1) := by decide +kernel
theorem dX7_total_0 : decode cX7_total 0 = .ok (.aload_n 0, 1) := by decide +kernel
theorem dX7_total_1 : decode cX7_total 1 = .ok (.getfield 9, 3) := by decide +kernel
theorem dX7_total_4 : decode cX7_total 4 = .ok (.iconst 0, 1) := by decide +kernel
theorem dX7_total_5 : decode cX7_total 5 = .ok (.iaload, 1) := by decide +kernel
theorem dX7_total_6 : decode cX7_total 6 = .ok (.ireturn, 1) := by decide +kernel
theorem dX7_pick_0 : decode cX7_pick 0 = .ok (.aload 4, 2) := by decide +kernel
theorem dX7_pick_2 : decode cX7_pick 2 = .ok (.invokevirtual 49, 3) := by decide +kernel
theorem dX7_pick_5 : decode cX7_pick 5 = .ok (.iload_n 3, 1) := by decide +kernel
theorem dX7_pick_6 : decode cX7_pick 6 = .ok (.aload_n 0, 1) := by decide +kernel
theorem dX7_pick_7 : decode cX7_pick 7 = .ok (.getfield 15, 3) := by decide +kernel
theorem dX7_pick_10 : decode cX7_pick 10 = .ok (.iconst 0, 1) := by decide +kernel
theorem dX7_pick_11 : decode cX7_pick 11 = .ok (.iaload, 1) := by decide +kernel
theorem dX7_pick_12 : decode cX7_pick 12 = .ok (.if_icmp .lt 4, 3) := by decide +kernel
theorem dX7_pick_15 : decode cX7_pick 15 = .ok (.return_, 1) := by decide +kernel
theorem dX7_pick_16 : decode cX7_pick 16 = .ok (.iload_n 3, 1) := by decide +kernel
theorem dX7_pick_17 : decode cX7_pick 17 = .ok (.istore 5, 2) := by decide +kernel
theorem dX7_pick_19 : decode cX7_pick 19 = .ok (.iconst 0, 1) := by decide +kernel
theorem dX7_pick_20 : decode cX7_pick 20 = .ok (.istore 6, 2) := by decide +kernel
theorem dX7_pick_22 : decode cX7_pick 22 = .ok (.iconst 0, 1) := by decide +kernel
theorem dX7_pick_23 : decode cX7_pick 23 = .ok (.istore 7, 2) := by decide +kernel
theorem dX7_pick_25 : decode cX7_pick 25 = .ok (.iload 7, 2) := by decide +kernel
theorem dX7_pick_27 : decode cX7_pick 27 = .ok (.aload_n 0, 1) := by decide +kernel
theorem dX7_pick_28 : decode cX7_pick 28 = .ok (.getfield 18, 3) := by decide +kernel
theorem dX7_pick_31 : decode cX7_pick 31 = .ok (.if_icmp .ge 119, 3) := by decide +kernel
theorem dX7_pick_34 : decode cX7_pick 34 = .ok (.iload 6, 2) := by decide +kernel
theorem dX7_pick_36 : decode cX7_pick 36 = .ok (.aload_n 0, 1) := by decide +kernel
theorem dX7_pick_37 : decode cX7_pick 37 = .ok (.getfield 18, 3) := by decide +kernel
theorem dX7_pick_40 : decode cX7_pick 40 = .ok (.if_icmp .ge 110, 3) := by decide +kernel
theorem dX7_pick_43 : decode cX7_pick 43 = .ok (.iload 6, 2) := by decide +kernel
theorem dX7_pick_45 : decode cX7_pick 45 = .ok (.istore 8, 2) := by decide +kernel
theorem dX7_pick_47 : decode cX7_pick 47 = .ok (.iconst 0, 1) := by decide +kernel
theorem dX7_pick_48 : decode cX7_pick 48 = .ok (.istore 9, 2) := by decide +kernel
theorem dX7_pick_50 : decode cX7_pick 50 = .ok (.iload 9, 2) := by decide +kernel
theorem dX7_pick_52 : decode cX7_pick 52 = .ok (.aload_n 1, 1) := by decide +kernel
theorem dX7_pick_53 : decode cX7_pick 53 = .ok (.invokevirtual 22, 3) := by decide +kernel
theorem dX7_pick_56 : decode cX7_pick 56 = .ok (.if_icmp .ge 84, 3) := by decide +kernel
theorem dX7_pick_59 : decode cX7_pick 59 = .ok (.iload 8, 2) := by decide +kernel
theorem dX7_pick_61 : decode cX7_pick 61 = .ok (.iload 6, 2) := by decide +kernel
theorem dX7_pick_63 : decode cX7_pick 63 = .ok (.if_icmp .ne 77, 3) := by decide +kernel
theorem dX7_pick_66 : decode cX7_pick 66 = .ok (.aload_n 1, 1) := by decide +kernel
theorem dX7_pick_67 : decode cX7_pick 67 = .ok (.iload 9, 2) := by decide +kernel
theorem dX7_pick_69 : decode cX7_pick 69 = .ok (.invokevirtual 38, 3) := by decide +kernel
theorem dX7_pick_72 : decode cX7_pick 72 = .ok (.aload_n 2, 1) := by decide +kernel
theorem dX7_pick_73 : decode cX7_pick 73 = .ok (.iload 6, 2) := by decide +kernel
theorem dX7_pick_75 : decode cX7_pick 75 = .ok (.invokestatic 42, 3) := by decide +kernel
theorem dX7_pick_78 : decode cX7_pick 78 = .ok (.istore 10, 2) := by decide +kernel
theorem dX7_pick_80 : decode cX7_pick 80 = .ok (.iload 10, 2) := by decide +kernel
theorem dX7_pick_82 : decode cX7_pick 82 = .ok (.iload 6, 2) := by decide +kernel
theorem dX7_pick_84 : decode cX7_pick 84 = .ok (.if_icmp .le 50, 3) := by decide +kernel
theorem dX7_pick_87 : decode cX7_pick 87 = .ok (.iload 10, 2) := by decide +kernel
theorem dX7_pick_89 : decode cX7_pick 89 = .ok (.aload_n 0, 1) := by decide +kernel
theorem dX7_pick_90 : decode cX7_pick 90 = .ok (.getfield 18, 3) := by decide +kernel
theorem dX7_pick_93 : decode cX7_pick 93 = .ok (.if_icmp .gt 41, 3) := by decide +kernel
theorem dX7_pick_96 : decode cX7_pick 96 = .ok (.iload 5, 2) := by decide +kernel
theorem dX7_pick_98 : decode cX7_pick 98 = .ok (.aload_n 0, 1) := by decide +kernel
theorem dX7_pick_99 : decode cX7_pick 99 = .ok (.getfield 15, 3) := by decide +kernel
theorem dX7_pick_102 : decode cX7_pick 102 = .ok (.iload 10, 2) := by decide +kernel
theorem dX7_pick_104 : decode cX7_pick 104 = .ok (.iaload, 1) := by decide +kernel
theorem dX7_pick_105 : decode cX7_pick 105 = .ok (.if_icmp .ge 17, 3) := by decide +kernel
theorem dX7_pick_108 : decode cX7_pick 108 = .ok (.aload 4, 2) := by decide +kernel
theorem dX7_pick_110 : decode cX7_pick 110 = .ok (.iload 9, 2) := by decide +kernel
theorem dX7_pick_112 : decode cX7_pick 112 = .ok (.invokevirtual 52, 3) := by decide +kernel
theorem dX7_pick_115 : decode cX7_pick 115 = .ok (.iload 10, 2) := by decide +kernel
theorem dX7_pick_117 : decode cX7_pick 117 = .ok (.istore 8, 2) := by decide +kernel
theorem dX7_pick_119 : decode cX7_pick 119 = .ok (.goto 15, 3) := by decide +kernel
theorem dX7_pick_122 : decode cX7_pick 122 = .ok (.iload 5, 2) := by decide +kernel
theorem dX7_pick_124 : decode cX7_pick 124 = .ok (.aload_n 0, 1) := by decide +kernel
theorem dX7_pick_125 : decode cX7_pick 125 = .ok (.getfield 15, 3) := by decide +kernel
theorem dX7_pick_128 : decode cX7_pick 128 = .ok (.iload 10, 2) := by decide +kernel
theorem dX7_pick_130 : decode cX7_pick 130 = .ok (.iaload, 1) := by decide +kernel
theorem dX7_pick_131 : decode cX7_pick 131 = .ok (.isub, 1) := by decide +kernel
theorem dX7_pick_132 : decode cX7_pick 132 = .ok (.istore 5, 2) := by decide +kernel
theorem dX7_pick_134 : decode cX7_pick 134 = .ok (.iinc 9 1, 3) := by decide +kernel
theorem dX7_pick_137 : decode cX7_pick 137 = .ok (.goto (-87), 3) := by decide +kernel
theorem dX7_pick_140 : decode cX7_pick 140 = .ok (.iload 8, 2) := by decide +kernel
theorem dX7_pick_142 : decode cX7_pick 142 = .ok (.istore 6, 2) := by decide +kernel
theorem dX7_pick_144 : decode cX7_pick 144 = .ok (.iinc 7 1, 3) := by decide +kernel
theorem dX7_pick_147 : decode cX7_pick 147 = .ok (.goto (-122), 3) := by decide +kernel
theorem dX7_pick_150 : decode cX7_pick 150 = .ok (.return_, 1) := by decide +kernel
theorem dX8_init_0 : decode cX8_init 0 = .ok (.aload_n 0, 1) := by decide +kernel
theorem dX8_init_1 : decode cX8_init 1 = .ok (.invokespecial 3, 3) := by decide +kernel
theorem dX8_init_4 : decode cX8_init 4 = .ok (.aload_n 0, 1) := by decide +kernel
theorem dX8_init_5 : decode cX8_init 5 = .ok (.new 9, 3) := by decide +kernel
theorem dX8_init_8 : decode cX8_init 8 = .ok (.dup, 1) := by decide +kernel
theorem dX8_init_9 : decode cX8_init 9 = .ok (.iconst 5, 1) := by decide +kernel
theorem dX8_init_10 : decode cX8_init 10 = .ok (.invokespecial 11, 3) := by decide +kernel
theorem dX8_init_13 : decode cX8_init 13 = .ok (.putfield 14, 3) := by decide +kernel
theorem dX8_init_16 : decode cX8_init 16 = .ok (.aload_n 0, 1) := by decide +kernel
theorem dX8_init_17 : decode cX8_init 17 = .ok (.new 9, 3) := by decide +kernel
theorem dX8_init_20 : decode cX8_init 20 = .ok (.dup, 1) := by decide +kernel
theorem dX8_init_21 : decode cX8_init 21 = .ok (.bipush 56, 2) := by decide +kernel
theorem dX8_init_23 : decode cX8_init 23 = .ok (.invokespecial 11, 3) := by decide +kernel
theorem dX8_init_26 : decode cX8_init 26 = .ok (.putfield 20, 3) := by decide +kernel
theorem dX8_init_29 : decode cX8_init 29 = .ok (.aload_n 0, 1) := by decide +kernel
theorem dX8_init_30 : decode cX8_init 30 = .ok (.new 9, 3) := by decide +kernel
theorem dX8_init_33 : decode cX8_init 33 = .ok (.dup, 1) := by decide +kernel
theorem dX8_init_34 : decode cX8_init 34 = .ok (.bipush 56, 2) := by decide +kernel
theorem dX8_init_36 : decode cX8_init 36 = .ok (.invokespecial 11, 3) := by decide +kernel
theorem dX8_init_39 : decode cX8_init 39 = .ok (.putfield 23, 3) := by decide +kernel
theorem dX8_init_42 : decode cX8_init 42 = .ok (.aload_n 0, 1) := by decide +kernel
theorem dX8_init_43 : decode cX8_init 43 = .ok (.lconst 0, 1) := by decide +kernel
theorem dX8_init_44 : decode cX8_init 44 = .ok (.putfield 26, 3) := by decide +kernel
theorem dX8_init_47 : decode cX8_init 47 = .ok (.aload_n 0, 1) := by decide +kernel
theorem dX8_init_48 : decode cX8_init 48 = .ok (.iconst 0, 1) := by decide +kernel
theorem dX8_init_49 : decode cX8_init 49 = .ok (.putfield 30, 3) := by decide +kernel
theorem dX8_init_52 : decode cX8_init 52 = .ok (.aload_n 0, 1) := by decide +kernel
theorem dX8_init_53 : decode cX8_init 53 = .ok (.iconst 0, 1) := by decide +kernel
theorem dX8_init_54 : decode cX8_init 54 = .ok (.putfield 34, 3) := by decide +kernel
theorem dX8_init_57 : decode cX8_init 57 = .ok (.aload_n 0, 1) := by decide +kernel
theorem dX8_init_58 : decode cX8_init 58 = .ok (.iconst 0, 1) := by decide +kernel
theorem dX8_init_59 : decode cX8_init 59 = .ok (.putfield 37, 3) := by decide +kernel
theorem dX8_init_62 : decode cX8_init 62 = .ok (.aload_n 0, 1) := by decide +kernel
theorem dX8_init_63 : decode cX8_init 63 = .ok (.iconst 0, 1) := by decide +kernel
theorem dX8_init_64 : decode cX8_init 64 = .ok (.putfield 40, 3) := by decide +kernel
theorem dX8_init_67 : decode cX8_init 67 = .ok (.return_, 1) := by decide +kernel
theorem dX8_value_0 : decode cX8_value 0 = .ok (.iload_n 1, 1) := by decide +kernel
theorem dX8_value_1 : decode cX8_value 1 = .ok (.tableswitch 42 0 2 #[27, 32, 37], 27) := by decide +kernel
theorem dX8_value_28 : decode cX8_value 28 = .ok (.aload_n 0, 1) := by decide +kernel
theorem dX8_value_29 : decode cX8_value 29 = .ok (.getfield 30, 3) := by decide +kernel
theorem dX8_value_32 : decode cX8_value 32 = .ok (.ireturn, 1) := by decide +kernel
theorem dX8_value_33 : decode cX8_value 33 = .ok (.aload_n 0, 1) := by decide +kernel
theorem dX8_value_34 : decode cX8_value 34 = .ok (.getfield 34, 3) := by decide +kernel
theorem dX8_value_37 : decode cX8_value 37 = .ok (.ireturn, 1) := by decide +kernel
theorem dX8_value_38 : decode cX8_value 38 = .ok (.aload_n 0, 1) := by decide +kernel
theorem dX8_value_39 : decode cX8_value 39 = .ok (.getfield 37, 3) := by decide +kernel
theorem dX8_value_42 : decode cX8_value 42 = .ok (.ireturn, 1) := by decide +kernel
theorem dX8_value_43 : decode cX8_value 43 = .ok (.aload_n 0, 1) := by decide +kernel
theorem dX8_value_44 : decode cX8_value 44 = .ok (.getfield 40, 3) := by decide +kernel
theorem dX8_value_47 : decode cX8_value 47 = .ok (.ireturn, 1) := by decide +kernel
theorem dX8_run_0 : decode cX8_run 0 = .ok (.aload_n 0, 1) := by decide +kernel
theorem dX8_run_1 : decode cX8_run 1 = .ok (.iload_n 3, 1) := by decide +kernel
theorem dX8_run_2 : decode cX8_run 2 = .ok (.i2l, 1) := by decide +kernel
theorem dX8_run_3 : decode cX8_run 3 = .ok (.putfield 26, 3) := by decide +kernel
theorem dX8_run_6 : decode cX8_run 6 = .ok (.aload_n 0, 1) := by decide +kernel
theorem dX8_run_7 : decode cX8_run 7 = .ok (.iconst 0, 1) := by decide +kernel
theorem dX8_run_8 : decode cX8_run 8 = .ok (.putfield 30, 3) := by decide +kernel
theorem dX8_run_11 : decode cX8_run 11 = .ok (.aload_n 0, 1) := by decide +kernel
theorem dX8_run_12 : decode cX8_run 12 = .ok (.iconst 0, 1) := by decide +kernel
theorem dX8_run_13 : decode cX8_run 13 = .ok (.putfield 34, 3) := by decide +kernel
theorem dX8_run_16 : decode cX8_run 16 = .ok (.aload_n 0, 1) := by decide +kernel
theorem dX8_run_17 : decode cX8_run 17 = .ok (.iconst 0, 1) := by decide +kernel
theorem dX8_run_18 : decode cX8_run 18 = .ok (.putfield 37, 3) := by decide +kernel
theorem dX8_run_21 : decode cX8_run 21 = .ok (.aload_n 0, 1) := by decide +kernel
theorem dX8_run_22 : decode cX8_run 22 = .ok (.iconst 0, 1) := by decide +kernel
theorem dX8_run_23 : decode cX8_run 23 = .ok (.putfield 40, 3) := by decide +kernel
theorem dX8_run_26 : decode cX8_run 26 = .ok (.iconst 0, 1) := by decide +kernel
theorem dX8_run_27 : decode cX8_run 27 = .ok (.istore 4, 2) := by decide +kernel
theorem dX8_run_29 : decode cX8_run 29 = .ok (.iload 4, 2) := by decide +kernel
theorem dX8_run_31 : decode cX8_run 31 = .ok (.iload_n 2, 1) := by decide +kernel
theorem dX8_run_32 : decode cX8_run 32 = .ok (.if_icmp .ge 22, 3) := by decide +kernel
theorem dX8_run_35 : decode cX8_run 35 = .ok (.aload_n 0, 1) := by decide +kernel
theorem dX8_run_36 : decode cX8_run 36 = .ok (.aload_n 1, 1) := by decide +kernel
theorem dX8_run_37 : decode cX8_run 37 = .ok (.invokevirtual 43, 3) := by decide +kernel
theorem dX8_run_40 : decode cX8_run 40 = .ok (.invokevirtual 49, 3) := by decide +kernel
theorem dX8_run_43 : decode cX8_run 43 = .ok (.aload_n 0, 1) := by decide +kernel
theorem dX8_run_44 : decode cX8_run 44 = .ok (.aload_n 1, 1) := by decide +kernel
theorem dX8_run_45 : decode cX8_run 45 = .ok (.invokevirtual 52, 3) := by decide +kernel
theorem dX8_run_48 : decode cX8_run 48 = .ok (.iinc 4 1, 3) := by decide +kernel
theorem dX8_run_51 : decode cX8_run 51 = .ok (.goto (-22), 3) := by decide +kernel
theorem dX8_run_54 : decode cX8_run 54 = .ok (.return_, 1) := by decide +kernel
theorem dX8_drawRow_0 : decode cX8_drawRow 0 = .ok (.aload_n 0, 1) := by decide +kernel
theorem dX8_drawRow_1 : decode cX8_drawRow 1 = .ok (.getfield 14, 3) := by decide +kernel
theorem dX8_drawRow_4 : decode cX8_drawRow 4 = .ok (.invokevirtual 56, 3) := by decide +kernel
theorem dX8_drawRow_7 : decode cX8_drawRow 7 = .ok (.iconst 1, 1) := by decide +kernel
theorem dX8_drawRow_8 : decode cX8_drawRow 8 = .ok (.aload_n 0, 1) := by decide +kernel
theorem dX8_drawRow_9 : decode cX8_drawRow 9 = .ok (.iconst 5, 1) := by decide +kernel
theorem dX8_drawRow_10 : decode cX8_drawRow 10 = .ok (.invokevirtual 59, 3) := by decide +kernel
theorem dX8_drawRow_13 : decode cX8_drawRow 13 = .ok (.iadd, 1) := by decide +kernel
theorem dX8_drawRow_14 : decode cX8_drawRow 14 = .ok (.istore_n 2, 1) := by decide +kernel
theorem dX8_drawRow_15 : decode cX8_drawRow 15 = .ok (.iconst 0, 1) := by decide +kernel
theorem dX8_drawRow_16 : decode cX8_drawRow 16 = .ok (.istore_n 3, 1) := by decide +kernel
theorem dX8_drawRow_17 : decode cX8_drawRow 17 = .ok (.iload_n 3, 1) := by decide +kernel
theorem dX8_drawRow_18 : decode cX8_drawRow 18 = .ok (.iload_n 2, 1) := by decide +kernel
theorem dX8_drawRow_19 : decode cX8_drawRow 19 = .ok (.if_icmp .ge 21, 3) := by decide +kernel
theorem dX8_drawRow_22 : decode cX8_drawRow 22 = .ok (.aload_n 0, 1) := by decide +kernel
theorem dX8_drawRow_23 : decode cX8_drawRow 23 = .ok (.getfield 14, 3) := by decide +kernel
theorem dX8_drawRow_26 : decode cX8_drawRow 26 = .ok (.aload_n 0, 1) := by decide +kernel
theorem dX8_drawRow_27 : decode cX8_drawRow 27 = .ok (.iload_n 1, 1) := by decide +kernel
theorem dX8_drawRow_28 : decode cX8_drawRow 28 = .ok (.invokevirtual 59, 3) := by decide +kernel
theorem dX8_drawRow_31 : decode cX8_drawRow 31 = .ok (.invokevirtual 63, 3) := by decide +kernel
theorem dX8_drawRow_34 : decode cX8_drawRow 34 = .ok (.iinc 3 1, 3) := by decide +kernel
theorem dX8_drawRow_37 : decode cX8_drawRow 37 = .ok (.goto (-20), 3) := by decide +kernel
theorem dX8_drawRow_40 : decode cX8_drawRow 40 = .ok (.return_, 1) := by decide +kernel
theorem dX8_tryRow_0 : decode cX8_tryRow 0 = .ok (.aload_n 1, 1) := by decide +kernel
theorem dX8_tryRow_1 : decode cX8_tryRow 1 = .ok (.aload_n 0, 1) := by decide +kernel
theorem dX8_tryRow_2 : decode cX8_tryRow 2 = .ok (.getfield 14, 3) := by decide +kernel
theorem dX8_tryRow_5 : decode cX8_tryRow 5 = .ok (.aload_n 0, 1) := by decide +kernel
theorem dX8_tryRow_6 : decode cX8_tryRow 6 = .ok (.getfield 20, 3) := by decide +kernel
theorem dX8_tryRow_9 : decode cX8_tryRow 9 = .ok (.invokevirtual 66, 3) := by decide +kernel
theorem dX8_tryRow_12 : decode cX8_tryRow 12 = .ok (.aload_n 0, 1) := by decide +kernel
theorem dX8_tryRow_13 : decode cX8_tryRow 13 = .ok (.dup, 1) := by decide +kernel
theorem dX8_tryRow_14 : decode cX8_tryRow 14 = .ok (.getfield 40, 3) := by decide +kernel
theorem dX8_tryRow_17 : decode cX8_tryRow 17 = .ok (.aload_n 0, 1) := by decide +kernel
theorem dX8_tryRow_18 : decode cX8_tryRow 18 = .ok (.getfield 20, 3) := by decide +kernel
theorem dX8_tryRow_21 : decode cX8_tryRow 21 = .ok (.invokevirtual 70, 3) := by decide +kernel
theorem dX8_tryRow_24 : decode cX8_tryRow 24 = .ok (.iadd, 1) := by decide +kernel
theorem dX8_tryRow_25 : decode cX8_tryRow 25 = .ok (.putfield 40, 3) := by decide +kernel
theorem dX8_tryRow_28 : decode cX8_tryRow 28 = .ok (.aload_n 1, 1) := by decide +kernel
theorem dX8_tryRow_29 : decode cX8_tryRow 29 = .ok (.getfield 71, 3) := by decide +kernel
theorem dX8_tryRow_32 : decode cX8_tryRow 32 = .ok (.aload_n 0, 1) := by decide +kernel
theorem dX8_tryRow_33 : decode cX8_tryRow 33 = .ok (.getfield 20, 3) := by decide +kernel
theorem dX8_tryRow_36 : decode cX8_tryRow 36 = .ok (.aload_n 0, 1) := by decide +kernel
theorem dX8_tryRow_37 : decode cX8_tryRow 37 = .ok (.getfield 23, 3) := by decide +kernel
theorem dX8_tryRow_40 : decode cX8_tryRow 40 = .ok (.invokestatic 74, 3) := by decide +kernel
theorem dX8_tryRow_43 : decode cX8_tryRow 43 = .ok (.istore_n 2, 1) := by decide +kernel
theorem dX8_tryRow_44 : decode cX8_tryRow 44 = .ok (.iload_n 2, 1) := by decide +kernel
theorem dX8_tryRow_45 : decode cX8_tryRow 45 = .ok (.aload_n 0, 1) := by decide +kernel
theorem dX8_tryRow_46 : decode cX8_tryRow 46 = .ok (.getfield 20, 3) := by decide +kernel
theorem dX8_tryRow_49 : decode cX8_tryRow 49 = .ok (.invokevirtual 70, 3) := by decide +kernel
theorem dX8_tryRow_52 : decode cX8_tryRow 52 = .ok (.if_icmp .ge 16, 3) := by decide +kernel
theorem dX8_tryRow_55 : decode cX8_tryRow 55 = .ok (.aload_n 0, 1) := by decide +kernel
theorem dX8_tryRow_56 : decode cX8_tryRow 56 = .ok (.dup, 1) := by decide +kernel
theorem dX8_tryRow_57 : decode cX8_tryRow 57 = .ok (.getfield 37, 3) := by decide +kernel
theorem dX8_tryRow_60 : decode cX8_tryRow 60 = .ok (.iconst 1, 1) := by decide +kernel
theorem dX8_tryRow_61 : decode cX8_tryRow 61 = .ok (.iadd, 1) := by decide +kernel
theorem dX8_tryRow_62 : decode cX8_tryRow 62 = .ok (.putfield 37, 3) := by decide +kernel
theorem dX8_tryRow_65 : decode cX8_tryRow 65 = .ok (.goto 40, 3) := by decide +kernel
theorem dX8_tryRow_68 : decode cX8_tryRow 68 = .ok (.aload_n 0, 1) := by decide +kernel
theorem dX8_tryRow_69 : decode cX8_tryRow 69 = .ok (.getfield 23, 3) := by decide +kernel
theorem dX8_tryRow_72 : decode cX8_tryRow 72 = .ok (.aload_n 0, 1) := by decide +kernel
theorem dX8_tryRow_73 : decode cX8_tryRow 73 = .ok (.getfield 14, 3) := by decide +kernel
theorem dX8_tryRow_76 : decode cX8_tryRow 76 = .ok (.invokevirtual 80, 3) := by decide +kernel
theorem dX8_tryRow_79 : decode cX8_tryRow 79 = .ok (.ifCond .eq 16, 3) := by decide +kernel
theorem dX8_tryRow_82 : decode cX8_tryRow 82 = .ok (.aload_n 0, 1) := by decide +kernel
theorem dX8_tryRow_83 : decode cX8_tryRow 83 = .ok (.dup, 1) := by decide +kernel
theorem dX8_tryRow_84 : decode cX8_tryRow 84 = .ok (.getfield 30, 3) := by decide +kernel
theorem dX8_tryRow_87 : decode cX8_tryRow 87 = .ok (.iconst 1, 1) := by decide +kernel
theorem dX8_tryRow_88 : decode cX8_tryRow 88 = .ok (.iadd, 1) := by decide +kernel
theorem dX8_tryRow_89 : decode cX8_tryRow 89 = .ok (.putfield 30, 3) := by decide +kernel
theorem dX8_tryRow_92 : decode cX8_tryRow 92 = .ok (.goto 13, 3) := by decide +kernel
theorem dX8_tryRow_95 : decode cX8_tryRow 95 = .ok (.aload_n 0, 1) := by decide +kernel
theorem dX8_tryRow_96 : decode cX8_tryRow 96 = .ok (.dup, 1) := by decide +kernel
theorem dX8_tryRow_97 : decode cX8_tryRow 97 = .ok (.getfield 34, 3) := by decide +kernel
theorem dX8_tryRow_100 : decode cX8_tryRow 100 = .ok (.iconst 1, 1) := by decide +kernel
theorem dX8_tryRow_101 : decode cX8_tryRow 101 = .ok (.iadd, 1) := by decide +kernel
theorem dX8_tryRow_102 : decode cX8_tryRow 102 = .ok (.putfield 34, 3) := by decide +kernel
theorem dX8_tryRow_105 : decode cX8_tryRow 105 = .ok (.return_, 1) := by decide +kernel
theorem dX8_draw_0 : decode cX8_draw 0 = .ok (.aload_n 0, 1) := by decide +kernel
theorem dX8_draw_1 : decode cX8_draw 1 = .ok (.ldc2_w 84, 3) := by decide +kernel
theorem dX8_draw_4 : decode cX8_draw 4 = .ok (.aload_n 0, 1) := by decide +kernel
theorem dX8_draw_5 : decode cX8_draw 5 = .ok (.getfield 26, 3) := by decide +kernel
theorem dX8_draw_8 : decode cX8_draw 8 = .ok (.lmul, 1) := by decide +kernel
theorem dX8_draw_9 : decode cX8_draw 9 = .ok (.ldc2_w 86, 3) := by decide +kernel
theorem dX8_draw_12 : decode cX8_draw 12 = .ok (.ladd, 1) := by decide +kernel
theorem dX8_draw_13 : decode cX8_draw 13 = .ok (.ldc2_w 88, 3) := by decide +kernel
theorem dX8_draw_16 : decode cX8_draw 16 = .ok (.lrem, 1) := by decide +kernel
theorem dX8_draw_17 : decode cX8_draw 17 = .ok (.putfield 26, 3) := by decide +kernel
theorem dX8_draw_20 : decode cX8_draw 20 = .ok (.iload_n 1, 1) := by decide +kernel
theorem dX8_draw_21 : decode cX8_draw 21 = .ok (.ifCond .le 18, 3) := by decide +kernel
theorem dX8_draw_24 : decode cX8_draw 24 = .ok (.aload_n 0, 1) := by decide +kernel
theorem dX8_draw_25 : decode cX8_draw 25 = .ok (.getfield 26, 3) := by decide +kernel
theorem dX8_draw_28 : decode cX8_draw 28 = .ok (.ldc2_w 90, 3) := by decide +kernel
theorem dX8_draw_31 : decode cX8_draw 31 = .ok (.ldiv, 1) := by decide +kernel
theorem dX8_draw_32 : decode cX8_draw 32 = .ok (.iload_n 1, 1) := by decide +kernel
theorem dX8_draw_33 : decode cX8_draw 33 = .ok (.i2l, 1) := by decide +kernel
theorem dX8_draw_34 : decode cX8_draw 34 = .ok (.lrem, 1) := by decide +kernel
theorem dX8_draw_35 : decode cX8_draw 35 = .ok (.l2i, 1) := by decide +kernel
theorem dX8_draw_36 : decode cX8_draw 36 = .ok (.goto 4, 3) := by decide +kernel
theorem dX8_draw_39 : decode cX8_draw 39 = .ok (.iconst 0, 1) := by decide +kernel
theorem dX8_draw_40 : decode cX8_draw 40 = .ok (.ireturn, 1) := by decide +kernel
theorem dX9_size_0 : decode cX9_size 0 = .ok (.iload_n 0, 1) := by decide +kernel
theorem dX9_size_1 : decode cX9_size 1 = .ok (.sipush 16384, 3) := by decide +kernel
theorem dX9_size_4 : decode cX9_size 4 = .ok (.if_icmp .ge 16, 3) := by decide +kernel
theorem dX9_size_7 : decode cX9_size 7 = .ok (.iload_n 0, 1) := by decide +kernel
theorem dX9_size_8 : decode cX9_size 8 = .ok (.sipush 128, 3) := by decide +kernel
theorem dX9_size_11 : decode cX9_size 11 = .ok (.if_icmp .ge 7, 3) := by decide +kernel
theorem dX9_size_14 : decode cX9_size 14 = .ok (.iconst 0, 1) := by decide +kernel
theorem dX9_size_15 : decode cX9_size 15 = .ok (.goto 4, 3) := by decide +kernel
theorem dX9_size_18 : decode cX9_size 18 = .ok (.iconst 1, 1) := by decide +kernel
theorem dX9_size_19 : decode cX9_size 19 = .ok (.ireturn, 1) := by decide +kernel
theorem dX9_size_20 : decode cX9_size 20 = .ok (.iload_n 0, 1) := by decide +kernel
theorem dX9_size_21 : decode cX9_size 21 = .ok (.ldc 11, 2) := by decide +kernel
theorem dX9_size_23 : decode cX9_size 23 = .ok (.if_icmp .ge 5, 3) := by decide +kernel
theorem dX9_size_26 : decode cX9_size 26 = .ok (.iconst 2, 1) := by decide +kernel
theorem dX9_size_27 : decode cX9_size 27 = .ok (.ireturn, 1) := by decide +kernel
theorem dX9_size_28 : decode cX9_size 28 = .ok (.iload_n 0, 1) := by decide +kernel
theorem dX9_size_29 : decode cX9_size 29 = .ok (.ldc 12, 2) := by decide +kernel
theorem dX9_size_31 : decode cX9_size 31 = .ok (.if_icmp .ge 7, 3) := by decide +kernel
theorem dX9_size_34 : decode cX9_size 34 = .ok (.iconst 3, 1) := by decide +kernel
theorem dX9_size_35 : decode cX9_size 35 = .ok (.goto 4, 3) := by decide +kernel
theorem dX9_size_38 : decode cX9_size 38 = .ok (.iconst 4, 1) := by decide +kernel
theorem dX9_size_39 : decode cX9_size 39 = .ok (.ireturn, 1) := by decide +kernel
theorem dX9_append_0 : decode cX9_append 0 = .ok (.iload_n 0, 1) := by decide +kernel
theorem dX9_append_1 : decode cX9_append 1 = .ok (.bipush 7, 2) := by decide +kernel
theorem dX9_append_3 : decode cX9_append 3 = .ok (.ishl, 1) := by decide +kernel
theorem dX9_append_4 : decode cX9_append 4 = .ok (.iload_n 1, 1) := by decide +kernel
theorem dX9_append_5 : decode cX9_append 5 = .ok (.bipush 127, 2) := by decide +kernel
theorem dX9_append_7 : decode cX9_append 7 = .ok (.iand, 1) := by decide +kernel
theorem dX9_append_8 : decode cX9_append 8 = .ok (.ior, 1) := by decide +kernel
theorem dX9_append_9 : decode cX9_append 9 = .ok (.ireturn, 1) := by decide +kernel
theorem dX9_character_0 : decode cX9_character 0 = .ok (.iload_n 0, 1) := by decide +kernel
theorem dX9_character_1 : decode cX9_character 1 = .ok (.invokestatic 13, 3) := by decide +kernel
theorem dX9_character_4 : decode cX9_character 4 = .ok (.istore_n 2, 1) := by decide +kernel
theorem dX9_character_5 : decode cX9_character 5 = .ok (.iload_n 1, 1) := by decide +kernel
theorem dX9_character_6 : decode cX9_character 6 = .ok (.ifCond .lt 8, 3) := by decide +kernel
theorem dX9_character_9 : decode cX9_character 9 = .ok (.iload_n 1, 1) := by decide +kernel
theorem dX9_character_10 : decode cX9_character 10 = .ok (.iload_n 2, 1) := by decide +kernel
theorem dX9_character_11 : decode cX9_character 11 = .ok (.if_icmp .lt 6, 3) := by decide +kernel
theorem dX9_character_14 : decode cX9_character 14 = .ok (.bipush (-101), 2) := by decide +kernel
theorem dX9_character_16 : decode cX9_character 16 = .ok (.ireturn, 1) := by decide +kernel
theorem dX9_character_17 : decode cX9_character 17 = .ok (.iload_n 0, 1) := by decide +kernel
theorem dX9_character_18 : decode cX9_character 18 = .ok (.iload_n 2, 1) := by decide +kernel
theorem dX9_character_19 : decode cX9_character 19 = .ok (.iconst 1, 1) := by decide +kernel
theorem dX9_character_20 : decode cX9_character 20 = .ok (.isub, 1) := by decide +kernel
theorem dX9_character_21 : decode cX9_character 21 = .ok (.iload_n 1, 1) := by decide +kernel
theorem dX9_character_22 : decode cX9_character 22 = .ok (.isub, 1) := by decide +kernel
theorem dX9_character_23 : decode cX9_character 23 = .ok (.invokestatic 17, 3) := by decide +kernel
theorem dX9_character_26 : decode cX9_character 26 = .ok (.ireturn, 1) := by decide +kernel
theorem dX9_fromEnd_0 : decode cX9_fromEnd 0 = .ok (.iload_n 0, 1) := by decide +kernel
theorem dX9_fromEnd_1 : decode cX9_fromEnd 1 = .ok (.bipush 7, 2) := by decide +kernel
theorem dX9_fromEnd_3 : decode cX9_fromEnd 3 = .ok (.iload_n 1, 1) := by decide +kernel
theorem dX9_fromEnd_4 : decode cX9_fromEnd 4 = .ok (.imul, 1) := by decide +kernel
theorem dX9_fromEnd_5 : decode cX9_fromEnd 5 = .ok (.ishr, 1) := by decide +kernel
theorem dX9_fromEnd_6 : decode cX9_fromEnd 6 = .ok (.bipush 127, 2) := by decide +kernel
theorem dX9_fromEnd_8 : decode cX9_fromEnd 8 = .ok (.iand, 1) := by decide +kernel
theorem dX9_fromEnd_9 : decode cX9_fromEnd 9 = .ok (.ireturn, 1) := by decide +kernel
theorem dX9_begins_0 : decode cX9_begins 0 = .ok (.iload_n 0, 1) := by decide +kernel
theorem dX9_begins_1 : decode cX9_begins 1 = .ok (.invokestatic 13, 3) := by decide +kernel
theorem dX9_begins_4 : decode cX9_begins 4 = .ok (.iload_n 1, 1) := by decide +kernel
theorem dX9_begins_5 : decode cX9_begins 5 = .ok (.invokestatic 13, 3) := by decide +kernel
theorem dX9_begins_8 : decode cX9_begins 8 = .ok (.isub, 1) := by decide +kernel
theorem dX9_begins_9 : decode cX9_begins 9 = .ok (.istore_n 2, 1) := by decide +kernel
theorem dX9_begins_10 : decode cX9_begins 10 = .ok (.iload_n 2, 1) := by decide +kernel
theorem dX9_begins_11 : decode cX9_begins 11 = .ok (.ifCond .lt 17, 3) := by decide +kernel
theorem dX9_begins_14 : decode cX9_begins 14 = .ok (.iload_n 0, 1) := by decide +kernel
theorem dX9_begins_15 : decode cX9_begins 15 = .ok (.bipush 7, 2) := by decide +kernel
theorem dX9_begins_17 : decode cX9_begins 17 = .ok (.iload_n 2, 1) := by decide +kernel
theorem dX9_begins_18 : decode cX9_begins 18 = .ok (.imul, 1) := by decide +kernel
theorem dX9_begins_19 : decode cX9_begins 19 = .ok (.ishr, 1) := by decide +kernel
theorem dX9_begins_20 : decode cX9_begins 20 = .ok (.iload_n 1, 1) := by decide +kernel
theorem dX9_begins_21 : decode cX9_begins 21 = .ok (.if_icmp .ne 7, 3) := by decide +kernel
theorem dX9_begins_24 : decode cX9_begins 24 = .ok (.iconst 1, 1) := by decide +kernel
theorem dX9_begins_25 : decode cX9_begins 25 = .ok (.goto 4, 3) := by decide +kernel
theorem dX9_begins_28 : decode cX9_begins 28 = .ok (.iconst 0, 1) := by decide +kernel
theorem dX9_begins_29 : decode cX9_begins 29 = .ok (.ireturn, 1) := by decide +kernel
theorem dX9_behind_0 : decode cX9_behind 0 = .ok (.bipush 7, 2) := by decide +kernel
theorem dX9_behind_2 : decode cX9_behind 2 = .ok (.iconst 0, 1) := by decide +kernel
theorem dX9_behind_3 : decode cX9_behind 3 = .ok (.iload_n 0, 1) := by decide +kernel
theorem dX9_behind_4 : decode cX9_behind 4 = .ok (.invokestatic 13, 3) := by decide +kernel
theorem dX9_behind_7 : decode cX9_behind 7 = .ok (.iload_n 1, 1) := by decide +kernel
theorem dX9_behind_8 : decode cX9_behind 8 = .ok (.invokestatic 13, 3) := by decide +kernel
theorem dX9_behind_11 : decode cX9_behind 11 = .ok (.isub, 1) := by decide +kernel
theorem dX9_behind_12 : decode cX9_behind 12 = .ok (.invokestatic 21, 3) := by decide +kernel
theorem dX9_behind_15 : decode cX9_behind 15 = .ok (.imul, 1) := by decide +kernel
