theorem dX11_drop_105 : decode cX11_drop 105 = .ok (.iadd, 1) := by decide +kernel
theorem dX11_drop_106 : decode cX11_drop 106 = .ok (.iload_n 3, 1) := by decide +kernel
theorem dX11_drop_107 : decode cX11_drop 107 = .ok (.iadd, 1) := by decide +kernel
theorem dX11_drop_108 : decode cX11_drop 108 = .ok (.iaload, 1) := by decide +kernel
theorem dX11_drop_109 : decode cX11_drop 109 = .ok (.iastore, 1) := by decide +kernel
theorem dX11_drop_110 : decode cX11_drop 110 = .ok (.iinc 3 1, 3) := by decide +kernel
theorem dX11_drop_113 : decode cX11_drop 113 = .ok (.goto (-52), 3) := by decide +kernel
theorem dX11_drop_116 : decode cX11_drop 116 = .ok (.iinc 2 1, 3) := by decide +kernel
theorem dX11_drop_119 : decode cX11_drop 119 = .ok (.goto (-96), 3) := by decide +kernel
theorem dX11_drop_122 : decode cX11_drop 122 = .ok (.aload_n 0, 1) := by decide +kernel
theorem dX11_drop_123 : decode cX11_drop 123 = .ok (.aload_n 0, 1) := by decide +kernel
theorem dX11_drop_124 : decode cX11_drop 124 = .ok (.getfield 112, 3) := by decide +kernel
theorem dX11_drop_127 : decode cX11_drop 127 = .ok (.iconst 1, 1) := by decide +kernel
theorem dX11_drop_128 : decode cX11_drop 128 = .ok (.iload_n 1, 1) := by decide +kernel
theorem dX11_drop_129 : decode cX11_drop 129 = .ok (.ishl, 1) := by decide +kernel
theorem dX11_drop_130 : decode cX11_drop 130 = .ok (.iconst 1, 1) := by decide +kernel
theorem dX11_drop_131 : decode cX11_drop 131 = .ok (.isub, 1) := by decide +kernel
theorem dX11_drop_132 : decode cX11_drop 132 = .ok (.iand, 1) := by decide +kernel
theorem dX11_drop_133 : decode cX11_drop 133 = .ok (.aload_n 0, 1) := by decide +kernel
theorem dX11_drop_134 : decode cX11_drop 134 = .ok (.getfield 112, 3) := by decide +kernel
theorem dX11_drop_137 : decode cX11_drop 137 = .ok (.iload_n 1, 1) := by decide +kernel
theorem dX11_drop_138 : decode cX11_drop 138 = .ok (.iconst 1, 1) := by decide +kernel
theorem dX11_drop_139 : decode cX11_drop 139 = .ok (.iadd, 1) := by decide +kernel
theorem dX11_drop_140 : decode cX11_drop 140 = .ok (.ishr, 1) := by decide +kernel
theorem dX11_drop_141 : decode cX11_drop 141 = .ok (.iload_n 1, 1) := by decide +kernel
theorem dX11_drop_142 : decode cX11_drop 142 = .ok (.ishl, 1) := by decide +kernel
theorem dX11_drop_143 : decode cX11_drop 143 = .ok (.ior, 1) := by decide +kernel
theorem dX11_drop_144 : decode cX11_drop 144 = .ok (.putfield 112, 3) := by decide +kernel
theorem dX11_drop_147 : decode cX11_drop 147 = .ok (.aload_n 0, 1) := by decide +kernel
theorem dX11_drop_148 : decode cX11_drop 148 = .ok (.aload_n 0, 1) := by decide +kernel
theorem dX11_drop_149 : decode cX11_drop 149 = .ok (.getfield 112, 3) := by decide +kernel
theorem dX11_drop_152 : decode cX11_drop 152 = .ok (.putfield 115, 3) := by decide +kernel
theorem dX11_drop_155 : decode cX11_drop 155 = .ok (.aload_n 0, 1) := by decide +kernel
theorem dX11_drop_156 : decode cX11_drop 156 = .ok (.getfield 109, 3) := by decide +kernel
theorem dX11_drop_159 : decode cX11_drop 159 = .ok (.ireturn, 1) := by decide +kernel
theorem dX11_begins_0 : decode cX11_begins 0 = .ok (.aload_n 0, 1) := by decide +kernel
theorem dX11_begins_1 : decode cX11_begins 1 = .ok (.iload_n 1, 1) := by decide +kernel
theorem dX11_begins_2 : decode cX11_begins 2 = .ok (.invokevirtual 137, 3) := by decide +kernel
theorem dX11_begins_5 : decode cX11_begins 5 = .ok (.aload_n 0, 1) := by decide +kernel
theorem dX11_begins_6 : decode cX11_begins 6 = .ok (.iload_n 2, 1) := by decide +kernel
theorem dX11_begins_7 : decode cX11_begins 7 = .ok (.invokevirtual 137, 3) := by decide +kernel
theorem dX11_begins_10 : decode cX11_begins 10 = .ok (.if_icmp .gt 7, 3) := by decide +kernel
theorem dX11_begins_13 : decode cX11_begins 13 = .ok (.iconst 1, 1) := by decide +kernel
theorem dX11_begins_14 : decode cX11_begins 14 = .ok (.goto 4, 3) := by decide +kernel
theorem dX11_begins_17 : decode cX11_begins 17 = .ok (.iconst 0, 1) := by decide +kernel
theorem dX11_begins_18 : decode cX11_begins 18 = .ok (.istore_n 3, 1) := by decide +kernel
theorem dX11_begins_19 : decode cX11_begins 19 = .ok (.iconst 0, 1) := by decide +kernel
theorem dX11_begins_20 : decode cX11_begins 20 = .ok (.istore 4, 2) := by decide +kernel
theorem dX11_begins_22 : decode cX11_begins 22 = .ok (.iload 4, 2) := by decide +kernel
theorem dX11_begins_24 : decode cX11_begins 24 = .ok (.aload_n 0, 1) := by decide +kernel
theorem dX11_begins_25 : decode cX11_begins 25 = .ok (.iload_n 1, 1) := by decide +kernel
theorem dX11_begins_26 : decode cX11_begins 26 = .ok (.invokevirtual 137, 3) := by decide +kernel
theorem dX11_begins_29 : decode cX11_begins 29 = .ok (.if_icmp .ge 36, 3) := by decide +kernel
theorem dX11_begins_32 : decode cX11_begins 32 = .ok (.iload_n 3, 1) := by decide +kernel
theorem dX11_begins_33 : decode cX11_begins 33 = .ok (.ifCond .eq 32, 3) := by decide +kernel
theorem dX11_begins_36 : decode cX11_begins 36 = .ok (.aload_n 0, 1) := by decide +kernel
theorem dX11_begins_37 : decode cX11_begins 37 = .ok (.iload_n 1, 1) := by decide +kernel
theorem dX11_begins_38 : decode cX11_begins 38 = .ok (.iload 4, 2) := by decide +kernel
theorem dX11_begins_40 : decode cX11_begins 40 = .ok (.invokevirtual 140, 3) := by decide +kernel
theorem dX11_begins_43 : decode cX11_begins 43 = .ok (.aload_n 0, 1) := by decide +kernel
theorem dX11_begins_44 : decode cX11_begins 44 = .ok (.iload_n 2, 1) := by decide +kernel
theorem dX11_begins_45 : decode cX11_begins 45 = .ok (.iload 4, 2) := by decide +kernel
theorem dX11_begins_47 : decode cX11_begins 47 = .ok (.invokevirtual 140, 3) := by decide +kernel
theorem dX11_begins_50 : decode cX11_begins 50 = .ok (.if_icmp .ne 7, 3) := by decide +kernel
theorem dX11_begins_53 : decode cX11_begins 53 = .ok (.iconst 1, 1) := by decide +kernel
theorem dX11_begins_54 : decode cX11_begins 54 = .ok (.goto 4, 3) := by decide +kernel
theorem dX11_begins_57 : decode cX11_begins 57 = .ok (.iconst 0, 1) := by decide +kernel
theorem dX11_begins_58 : decode cX11_begins 58 = .ok (.istore_n 3, 1) := by decide +kernel
theorem dX11_begins_59 : decode cX11_begins 59 = .ok (.iinc 4 1, 3) := by decide +kernel
theorem dX11_begins_62 : decode cX11_begins 62 = .ok (.goto (-40), 3) := by decide +kernel
theorem dX11_begins_65 : decode cX11_begins 65 = .ok (.iload_n 3, 1) := by decide +kernel
theorem dX11_begins_66 : decode cX11_begins 66 = .ok (.ireturn, 1) := by decide +kernel
theorem dX11_leftBegins_0 : decode cX11_leftBegins 0 = .ok (.aload_n 0, 1) := by decide +kernel
theorem dX11_leftBegins_1 : decode cX11_leftBegins 1 = .ok (.getfield 7, 3) := by decide +kernel
theorem dX11_leftBegins_4 : decode cX11_leftBegins 4 = .ok (.iload_n 1, 1) := by decide +kernel
theorem dX11_leftBegins_5 : decode cX11_leftBegins 5 = .ok (.iaload, 1) := by decide +kernel
theorem dX11_leftBegins_6 : decode cX11_leftBegins 6 = .ok (.aload_n 0, 1) := by decide +kernel
theorem dX11_leftBegins_7 : decode cX11_leftBegins 7 = .ok (.getfield 7, 3) := by decide +kernel
theorem dX11_leftBegins_10 : decode cX11_leftBegins 10 = .ok (.iload_n 2, 1) := by decide +kernel
theorem dX11_leftBegins_11 : decode cX11_leftBegins 11 = .ok (.iaload, 1) := by decide +kernel
theorem dX11_leftBegins_12 : decode cX11_leftBegins 12 = .ok (.if_icmp .gt 7, 3) := by decide +kernel
theorem dX11_leftBegins_15 : decode cX11_leftBegins 15 = .ok (.iconst 1, 1) := by decide +kernel
theorem dX11_leftBegins_16 : decode cX11_leftBegins 16 = .ok (.goto 4, 3) := by decide +kernel
theorem dX11_leftBegins_19 : decode cX11_leftBegins 19 = .ok (.iconst 0, 1) := by decide +kernel
theorem dX11_leftBegins_20 : decode cX11_leftBegins 20 = .ok (.istore_n 3, 1) := by decide +kernel
theorem dX11_leftBegins_21 : decode cX11_leftBegins 21 = .ok (.iconst 0, 1) := by decide +kernel
theorem dX11_leftBegins_22 : decode cX11_leftBegins 22 = .ok (.istore 4, 2) := by decide +kernel
theorem dX11_leftBegins_24 : decode cX11_leftBegins 24 = .ok (.iload 4, 2) := by decide +kernel
theorem dX11_leftBegins_26 : decode cX11_leftBegins 26 = .ok (.aload_n 0, 1) := by decide +kernel
theorem dX11_leftBegins_27 : decode cX11_leftBegins 27 = .ok (.getfield 7, 3) := by decide +kernel
theorem dX11_leftBegins_30 : decode cX11_leftBegins 30 = .ok (.iload_n 1, 1) := by decide +kernel
theorem dX11_leftBegins_31 : decode cX11_leftBegins 31 = .ok (.iaload, 1) := by decide +kernel
theorem dX11_leftBegins_32 : decode cX11_leftBegins 32 = .ok (.if_icmp .ge 44, 3) := by decide +kernel
theorem dX11_leftBegins_35 : decode cX11_leftBegins 35 = .ok (.iload_n 3, 1) := by decide +kernel
theorem dX11_leftBegins_36 : decode cX11_leftBegins 36 = .ok (.ifCond .eq 40, 3) := by decide +kernel
theorem dX11_leftBegins_39 : decode cX11_leftBegins 39 = .ok (.aload_n 0, 1) := by decide +kernel
theorem dX11_leftBegins_40 : decode cX11_leftBegins 40 = .ok (.getfield 16, 3) := by decide +kernel
theorem dX11_leftBegins_43 : decode cX11_leftBegins 43 = .ok (.iconst 3, 1) := by decide +kernel
theorem dX11_leftBegins_44 : decode cX11_leftBegins 44 = .ok (.iload_n 1, 1) := by decide +kernel
theorem dX11_leftBegins_45 : decode cX11_leftBegins 45 = .ok (.imul, 1) := by decide +kernel
theorem dX11_leftBegins_46 : decode cX11_leftBegins 46 = .ok (.iload 4, 2) := by decide +kernel
theorem dX11_leftBegins_48 : decode cX11_leftBegins 48 = .ok (.iadd, 1) := by decide +kernel
theorem dX11_leftBegins_49 : decode cX11_leftBegins 49 = .ok (.iaload, 1) := by decide +kernel
theorem dX11_leftBegins_50 : decode cX11_leftBegins 50 = .ok (.aload_n 0, 1) := by decide +kernel
theorem dX11_leftBegins_51 : decode cX11_leftBegins 51 = .ok (.getfield 16, 3) := by decide +kernel
theorem dX11_leftBegins_54 : decode cX11_leftBegins 54 = .ok (.iconst 3, 1) := by decide +kernel
theorem dX11_leftBegins_55 : decode cX11_leftBegins 55 = .ok (.iload_n 2, 1) := by decide +kernel
theorem dX11_leftBegins_56 : decode cX11_leftBegins 56 = .ok (.imul, 1) := by decide +kernel
theorem dX11_leftBegins_57 : decode cX11_leftBegins 57 = .ok (.iload 4, 2) := by decide +kernel
theorem dX11_leftBegins_59 : decode cX11_leftBegins 59 = .ok (.iadd, 1) := by decide +kernel
theorem dX11_leftBegins_60 : decode cX11_leftBegins 60 = .ok (.iaload, 1) := by decide +kernel
theorem dX11_leftBegins_61 : decode cX11_leftBegins 61 = .ok (.if_icmp .ne 7, 3) := by decide +kernel
theorem dX11_leftBegins_64 : decode cX11_leftBegins 64 = .ok (.iconst 1, 1) := by decide +kernel
theorem dX11_leftBegins_65 : decode cX11_leftBegins 65 = .ok (.goto 4, 3) := by decide +kernel
theorem dX11_leftBegins_68 : decode cX11_leftBegins 68 = .ok (.iconst 0, 1) := by decide +kernel
theorem dX11_leftBegins_69 : decode cX11_leftBegins 69 = .ok (.istore_n 3, 1) := by decide +kernel
theorem dX11_leftBegins_70 : decode cX11_leftBegins 70 = .ok (.iinc 4 1, 3) := by decide +kernel
theorem dX11_leftBegins_73 : decode cX11_leftBegins 73 = .ok (.goto (-49), 3) := by decide +kernel
theorem dX11_leftBegins_76 : decode cX11_leftBegins 76 = .ok (.iload_n 3, 1) := by decide +kernel
theorem dX11_leftBegins_77 : decode cX11_leftBegins 77 = .ok (.ireturn, 1) := by decide +kernel
theorem dX11_begunBy_0 : decode cX11_begunBy 0 = .ok (.iconst 0, 1) := by decide +kernel
theorem dX11_begunBy_1 : decode cX11_begunBy 1 = .ok (.istore_n 3, 1) := by decide +kernel
theorem dX11_begunBy_2 : decode cX11_begunBy 2 = .ok (.iconst 0, 1) := by decide +kernel
theorem dX11_begunBy_3 : decode cX11_begunBy 3 = .ok (.istore 4, 2) := by decide +kernel
theorem dX11_begunBy_5 : decode cX11_begunBy 5 = .ok (.iload 4, 2) := by decide +kernel
theorem dX11_begunBy_7 : decode cX11_begunBy 7 = .ok (.aload_n 0, 1) := by decide +kernel
theorem dX11_begunBy_8 : decode cX11_begunBy 8 = .ok (.getfield 109, 3) := by decide +kernel
theorem dX11_begunBy_11 : decode cX11_begunBy 11 = .ok (.if_icmp .ge 50, 3) := by decide +kernel
theorem dX11_begunBy_14 : decode cX11_begunBy 14 = .ok (.iload_n 3, 1) := by decide +kernel
theorem dX11_begunBy_15 : decode cX11_begunBy 15 = .ok (.iload 4, 2) := by decide +kernel
theorem dX11_begunBy_17 : decode cX11_begunBy 17 = .ok (.iload_n 1, 1) := by decide +kernel
theorem dX11_begunBy_18 : decode cX11_begunBy 18 = .ok (.if_icmp .eq 34, 3) := by decide +kernel
theorem dX11_begunBy_21 : decode cX11_begunBy 21 = .ok (.iload_n 2, 1) := by decide +kernel
theorem dX11_begunBy_22 : decode cX11_begunBy 22 = .ok (.ifCond .eq 16, 3) := by decide +kernel
theorem dX11_begunBy_25 : decode cX11_begunBy 25 = .ok (.aload_n 0, 1) := by decide +kernel
theorem dX11_begunBy_26 : decode cX11_begunBy 26 = .ok (.iload_n 1, 1) := by decide +kernel
theorem dX11_begunBy_27 : decode cX11_begunBy 27 = .ok (.iload 4, 2) := by decide +kernel
theorem dX11_begunBy_29 : decode cX11_begunBy 29 = .ok (.invokevirtual 153, 3) := by decide +kernel
theorem dX11_begunBy_32 : decode cX11_begunBy 32 = .ok (.ifCond .eq 20, 3) := by decide +kernel
theorem dX11_begunBy_35 : decode cX11_begunBy 35 = .ok (.goto 13, 3) := by decide +kernel
theorem dX11_begunBy_38 : decode cX11_begunBy 38 = .ok (.aload_n 0, 1) := by decide +kernel
theorem dX11_begunBy_39 : decode cX11_begunBy 39 = .ok (.iload_n 1, 1) := by decide +kernel
theorem dX11_begunBy_40 : decode cX11_begunBy 40 = .ok (.iload 4, 2) := by decide +kernel
theorem dX11_begunBy_42 : decode cX11_begunBy 42 = .ok (.invokevirtual 157, 3) := by decide +kernel
theorem dX11_begunBy_45 : decode cX11_begunBy 45 = .ok (.ifCond .eq 7, 3) := by decide +kernel
theorem dX11_begunBy_48 : decode cX11_begunBy 48 = .ok (.iconst 1, 1) := by decide +kernel
theorem dX11_begunBy_49 : decode cX11_begunBy 49 = .ok (.goto 4, 3) := by decide +kernel
theorem dX11_begunBy_52 : decode cX11_begunBy 52 = .ok (.iconst 0, 1) := by decide +kernel
theorem dX11_begunBy_53 : decode cX11_begunBy 53 = .ok (.iadd, 1) := by decide +kernel
theorem dX11_begunBy_54 : decode cX11_begunBy 54 = .ok (.istore_n 3, 1) := by decide +kernel
theorem dX11_begunBy_55 : decode cX11_begunBy 55 = .ok (.iinc 4 1, 3) := by decide +kernel
theorem dX11_begunBy_58 : decode cX11_begunBy 58 = .ok (.goto (-53), 3) := by decide +kernel
theorem dX11_begunBy_61 : decode cX11_begunBy 61 = .ok (.iload_n 3, 1) := by decide +kernel
theorem dX11_begunBy_62 : decode cX11_begunBy 62 = .ok (.ireturn, 1) := by decide +kernel
theorem dX11_ruleNow_0 : decode cX11_ruleNow 0 = .ok (.iload_n 2, 1) := by decide +kernel
theorem dX11_ruleNow_1 : decode cX11_ruleNow 1 = .ok (.tableswitch 61 0 3 #[31, 38, 45, 54], 31) := by decide +kernel
theorem dX11_ruleNow_32 : decode cX11_ruleNow 32 = .ok (.aload_n 0, 1) := by decide +kernel
theorem dX11_ruleNow_33 : decode cX11_ruleNow 33 = .ok (.getfield 7, 3) := by decide +kernel
theorem dX11_ruleNow_36 : decode cX11_ruleNow 36 = .ok (.iload_n 1, 1) := by decide +kernel
theorem dX11_ruleNow_37 : decode cX11_ruleNow 37 = .ok (.iaload, 1) := by decide +kernel
theorem dX11_ruleNow_38 : decode cX11_ruleNow 38 = .ok (.ireturn, 1) := by decide +kernel
theorem dX11_ruleNow_39 : decode cX11_ruleNow 39 = .ok (.aload_n 0, 1) := by decide +kernel
theorem dX11_ruleNow_40 : decode cX11_ruleNow 40 = .ok (.getfield 13, 3) := by decide +kernel
theorem dX11_ruleNow_43 : decode cX11_ruleNow 43 = .ok (.iload_n 1, 1) := by decide +kernel
theorem dX11_ruleNow_44 : decode cX11_ruleNow 44 = .ok (.iaload, 1) := by decide +kernel
theorem dX11_ruleNow_45 : decode cX11_ruleNow 45 = .ok (.ireturn, 1) := by decide +kernel
theorem dX11_ruleNow_46 : decode cX11_ruleNow 46 = .ok (.aload_n 0, 1) := by decide +kernel
theorem dX11_ruleNow_47 : decode cX11_ruleNow 47 = .ok (.getfield 112, 3) := by decide +kernel
theorem dX11_ruleNow_50 : decode cX11_ruleNow 50 = .ok (.iload_n 1, 1) := by decide +kernel
theorem dX11_ruleNow_51 : decode cX11_ruleNow 51 = .ok (.ishr, 1) := by decide +kernel
theorem dX11_ruleNow_52 : decode cX11_ruleNow 52 = .ok (.iconst 1, 1) := by decide +kernel
theorem dX11_ruleNow_53 : decode cX11_ruleNow 53 = .ok (.iand, 1) := by decide +kernel
theorem dX11_ruleNow_54 : decode cX11_ruleNow 54 = .ok (.ireturn, 1) := by decide +kernel
theorem dX11_ruleNow_55 : decode cX11_ruleNow 55 = .ok (.aload_n 0, 1) := by decide +kernel
theorem dX11_ruleNow_56 : decode cX11_ruleNow 56 = .ok (.iload_n 1, 1) := by decide +kernel
theorem dX11_ruleNow_57 : decode cX11_ruleNow 57 = .ok (.iconst 0, 1) := by decide +kernel
theorem dX11_ruleNow_58 : decode cX11_ruleNow 58 = .ok (.invokevirtual 160, 3) := by decide +kernel
theorem dX11_ruleNow_61 : decode cX11_ruleNow 61 = .ok (.ireturn, 1) := by decide +kernel
theorem dX11_ruleNow_62 : decode cX11_ruleNow 62 = .ok (.aload_n 0, 1) := by decide +kernel
theorem dX11_ruleNow_63 : decode cX11_ruleNow 63 = .ok (.iload_n 1, 1) := by decide +kernel
theorem dX11_ruleNow_64 : decode cX11_ruleNow 64 = .ok (.iconst 1, 1) := by decide +kernel
theorem dX11_ruleNow_65 : decode cX11_ruleNow 65 = .ok (.invokevirtual 160, 3) := by decide +kernel
theorem dX11_ruleNow_68 : decode cX11_ruleNow 68 = .ok (.ireturn, 1) := by decide +kernel
theorem dX11_rule_0 : decode cX11_rule 0 = .ok (.aload_n 0, 1) := by decide +kernel
theorem dX11_rule_1 : decode cX11_rule 1 = .ok (.iload_n 1, 1) := by decide +kernel
theorem dX11_rule_2 : decode cX11_rule 2 = .ok (.invokevirtual 150, 3) := by decide +kernel
theorem dX11_rule_5 : decode cX11_rule 5 = .ok (.ifCond .ne 8, 3) := by decide +kernel
theorem dX11_rule_8 : decode cX11_rule 8 = .ok (.bipush (-101), 2) := by decide +kernel
theorem dX11_rule_10 : decode cX11_rule 10 = .ok (.goto 23, 3) := by decide +kernel
theorem dX11_rule_13 : decode cX11_rule 13 = .ok (.iload_n 2, 1) := by decide +kernel
theorem dX11_rule_14 : decode cX11_rule 14 = .ok (.iconst 0, 1) := by decide +kernel
theorem dX11_rule_15 : decode cX11_rule 15 = .ok (.iconst 4, 1) := by decide +kernel
theorem dX11_rule_16 : decode cX11_rule 16 = .ok (.invokestatic 71, 3) := by decide +kernel
theorem dX11_rule_19 : decode cX11_rule 19 = .ok (.ifCond .eq 12, 3) := by decide +kernel
theorem dX11_rule_22 : decode cX11_rule 22 = .ok (.aload_n 0, 1) := by decide +kernel
theorem dX11_rule_23 : decode cX11_rule 23 = .ok (.iload_n 1, 1) := by decide +kernel
theorem dX11_rule_24 : decode cX11_rule 24 = .ok (.iload_n 2, 1) := by decide +kernel
theorem dX11_rule_25 : decode cX11_rule 25 = .ok (.invokevirtual 164, 3) := by decide +kernel
theorem dX11_rule_28 : decode cX11_rule 28 = .ok (.goto 5, 3) := by decide +kernel
theorem dX11_rule_31 : decode cX11_rule 31 = .ok (.bipush (-102), 2) := by decide +kernel
theorem dX11_rule_33 : decode cX11_rule 33 = .ok (.ireturn, 1) := by decide +kernel
theorem dX11_sign_0 : decode cX11_sign 0 = .ok (.aload_n 0, 1) := by decide +kernel
theorem dX11_sign_1 : decode cX11_sign 1 = .ok (.iload_n 1, 1) := by decide +kernel
theorem dX11_sign_2 : decode cX11_sign 2 = .ok (.invokevirtual 150, 3) := by decide +kernel
theorem dX11_sign_5 : decode cX11_sign 5 = .ok (.ifCond .ne 6, 3) := by decide +kernel
theorem dX11_sign_8 : decode cX11_sign 8 = .ok (.bipush (-101), 2) := by decide +kernel
theorem dX11_sign_10 : decode cX11_sign 10 = .ok (.ireturn, 1) := by decide +kernel
theorem dX11_sign_11 : decode cX11_sign 11 = .ok (.iload_n 2, 1) := by decide +kernel
theorem dX11_sign_12 : decode cX11_sign 12 = .ok (.iconst 0, 1) := by decide +kernel
theorem dX11_sign_13 : decode cX11_sign 13 = .ok (.iconst 1, 1) := by decide +kernel
theorem dX11_sign_14 : decode cX11_sign 14 = .ok (.invokestatic 71, 3) := by decide +kernel
theorem dX11_sign_17 : decode cX11_sign 17 = .ok (.ifCond .ne 6, 3) := by decide +kernel
theorem dX11_sign_20 : decode cX11_sign 20 = .ok (.bipush (-102), 2) := by decide +kernel
theorem dX11_sign_22 : decode cX11_sign 22 = .ok (.ireturn, 1) := by decide +kernel
theorem dX11_sign_23 : decode cX11_sign 23 = .ok (.iload_n 3, 1) := by decide +kernel
theorem dX11_sign_24 : decode cX11_sign 24 = .ok (.iconst 0, 1) := by decide +kernel
theorem dX11_sign_25 : decode cX11_sign 25 = .ok (.iload_n 2, 1) := by decide +kernel
theorem dX11_sign_26 : decode cX11_sign 26 = .ok (.ifCond .ne 12, 3) := by decide +kernel
theorem dX11_sign_29 : decode cX11_sign 29 = .ok (.aload_n 0, 1) := by decide +kernel
theorem dX11_sign_30 : decode cX11_sign 30 = .ok (.getfield 7, 3) := by decide +kernel
theorem dX11_sign_33 : decode cX11_sign 33 = .ok (.iload_n 1, 1) := by decide +kernel
theorem dX11_sign_34 : decode cX11_sign 34 = .ok (.iaload, 1) := by decide +kernel
theorem dX11_sign_35 : decode cX11_sign 35 = .ok (.goto 8, 3) := by decide +kernel
theorem dX11_sign_38 : decode cX11_sign 38 = .ok (.aload_n 0, 1) := by decide +kernel
theorem dX11_sign_39 : decode cX11_sign 39 = .ok (.iload_n 1, 1) := by decide +kernel
theorem dX11_sign_40 : decode cX11_sign 40 = .ok (.invokevirtual 137, 3) := by decide +kernel
theorem dX11_sign_43 : decode cX11_sign 43 = .ok (.iconst 1, 1) := by decide +kernel
theorem dX11_sign_44 : decode cX11_sign 44 = .ok (.isub, 1) := by decide +kernel
theorem dX11_sign_45 : decode cX11_sign 45 = .ok (.invokestatic 71, 3) := by decide +kernel
theorem dX11_sign_48 : decode cX11_sign 48 = .ok (.ifCond .ne 6, 3) := by decide +kernel
theorem dX11_sign_51 : decode cX11_sign 51 = .ok (.bipush (-101), 2) := by decide +kernel
theorem dX11_sign_53 : decode cX11_sign 53 = .ok (.ireturn, 1) := by decide +kernel
theorem dX11_sign_54 : decode cX11_sign 54 = .ok (.iload_n 2, 1) := by decide +kernel
theorem dX11_sign_55 : decode cX11_sign 55 = .ok (.ifCond .ne 16, 3) := by decide +kernel
theorem dX11_sign_58 : decode cX11_sign 58 = .ok (.aload_n 0, 1) := by decide +kernel
theorem dX11_sign_59 : decode cX11_sign 59 = .ok (.getfield 16, 3) := by decide +kernel
theorem dX11_sign_62 : decode cX11_sign 62 = .ok (.iconst 3, 1) := by decide +kernel
theorem dX11_sign_63 : decode cX11_sign 63 = .ok (.iload_n 1, 1) := by decide +kernel
theorem dX11_sign_64 : decode cX11_sign 64 = .ok (.imul, 1) := by decide +kernel
theorem dX11_sign_65 : decode cX11_sign 65 = .ok (.iload_n 3, 1) := by decide +kernel
theorem dX11_sign_66 : decode cX11_sign 66 = .ok (.iadd, 1) := by decide +kernel
theorem dX11_sign_67 : decode cX11_sign 67 = .ok (.iaload, 1) := by decide +kernel
theorem dX11_sign_68 : decode cX11_sign 68 = .ok (.goto 9, 3) := by decide +kernel
theorem dX11_sign_71 : decode cX11_sign 71 = .ok (.aload_n 0, 1) := by decide +kernel
theorem dX11_sign_72 : decode cX11_sign 72 = .ok (.iload_n 1, 1) := by decide +kernel
theorem dX11_sign_73 : decode cX11_sign 73 = .ok (.iload_n 3, 1) := by decide +kernel
theorem dX11_sign_74 : decode cX11_sign 74 = .ok (.invokevirtual 140, 3) := by decide +kernel
theorem dX11_sign_77 : decode cX11_sign 77 = .ok (.ireturn, 1) := by decide +kernel
theorem dX11_lies_0 : decode cX11_lies 0 = .ok (.iload_n 2, 1) := by decide +kernel
theorem dX11_lies_1 : decode cX11_lies 1 = .ok (.aload_n 0, 1) := by decide +kernel
theorem dX11_lies_2 : decode cX11_lies 2 = .ok (.iload_n 1, 1) := by decide +kernel
theorem dX11_lies_3 : decode cX11_lies 3 = .ok (.invokevirtual 137, 3) := by decide +kernel
theorem dX11_lies_6 : decode cX11_lies 6 = .ok (.iadd, 1) := by decide +kernel
theorem dX11_lies_7 : decode cX11_lies 7 = .ok (.aload_n 0, 1) := by decide +kernel
theorem dX11_lies_8 : decode cX11_lies 8 = .ok (.getfield 167, 3) := by decide +kernel
theorem dX11_lies_11 : decode cX11_lies 11 = .ok (.if_icmp .gt 7, 3) := by decide +kernel
theorem dX11_lies_14 : decode cX11_lies 14 = .ok (.iconst 1, 1) := by decide +kernel
theorem dX11_lies_15 : decode cX11_lies 15 = .ok (.goto 4, 3) := by decide +kernel
theorem dX11_lies_18 : decode cX11_lies 18 = .ok (.iconst 0, 1) := by decide +kernel
theorem dX11_lies_19 : decode cX11_lies 19 = .ok (.istore_n 3, 1) := by decide +kernel
theorem dX11_lies_20 : decode cX11_lies 20 = .ok (.iconst 0, 1) := by decide +kernel
theorem dX11_lies_21 : decode cX11_lies 21 = .ok (.istore 4, 2) := by decide +kernel
theorem dX11_lies_23 : decode cX11_lies 23 = .ok (.iload 4, 2) := by decide +kernel
theorem dX11_lies_25 : decode cX11_lies 25 = .ok (.aload_n 0, 1) := by decide +kernel
theorem dX11_lies_26 : decode cX11_lies 26 = .ok (.iload_n 1, 1) := by decide +kernel
theorem dX11_lies_27 : decode cX11_lies 27 = .ok (.invokevirtual 137, 3) := by decide +kernel
theorem dX11_lies_30 : decode cX11_lies 30 = .ok (.if_icmp .ge 38, 3) := by decide +kernel
theorem dX11_lies_33 : decode cX11_lies 33 = .ok (.iload_n 3, 1) := by decide +kernel
theorem dX11_lies_34 : decode cX11_lies 34 = .ok (.ifCond .eq 34, 3) := by decide +kernel
theorem dX11_lies_37 : decode cX11_lies 37 = .ok (.aload_n 0, 1) := by decide +kernel
theorem dX11_lies_38 : decode cX11_lies 38 = .ok (.getfield 43, 3) := by decide +kernel
theorem dX11_lies_41 : decode cX11_lies 41 = .ok (.iload_n 2, 1) := by decide +kernel
theorem dX11_lies_42 : decode cX11_lies 42 = .ok (.iload 4, 2) := by decide +kernel
theorem dX11_lies_44 : decode cX11_lies 44 = .ok (.iadd, 1) := by decide +kernel
theorem dX11_lies_45 : decode cX11_lies 45 = .ok (.iaload, 1) := by decide +kernel
theorem dX11_lies_46 : decode cX11_lies 46 = .ok (.aload_n 0, 1) := by decide +kernel
theorem dX11_lies_47 : decode cX11_lies 47 = .ok (.iload_n 1, 1) := by decide +kernel
theorem dX11_lies_48 : decode cX11_lies 48 = .ok (.iload 4, 2) := by decide +kernel
theorem dX11_lies_50 : decode cX11_lies 50 = .ok (.invokevirtual 140, 3) := by decide +kernel
theorem dX11_lies_53 : decode cX11_lies 53 = .ok (.if_icmp .ne 7, 3) := by decide +kernel
theorem dX11_lies_56 : decode cX11_lies 56 = .ok (.iconst 1, 1) := by decide +kernel
theorem dX11_lies_57 : decode cX11_lies 57 = .ok (.goto 4, 3) := by decide +kernel
theorem dX11_lies_60 : decode cX11_lies 60 = .ok (.iconst 0, 1) := by decide +kernel
theorem dX11_lies_61 : decode cX11_lies 61 = .ok (.istore_n 3, 1) := by decide +kernel
theorem dX11_lies_62 : decode cX11_lies 62 = .ok (.iinc 4 1, 3) := by decide +kernel
theorem dX11_lies_65 : decode cX11_lies 65 = .ok (.goto (-42), 3) := by decide +kernel
theorem dX11_lies_68 : decode cX11_lies 68 = .ok (.iload_n 3, 1) := by decide +kernel
theorem dX11_lies_69 : decode cX11_lies 69 = .ok (.ireturn, 1) := by decide +kernel
theorem dX11_longestSign_0 : decode cX11_longestSign 0 = .ok (.iconst (-1), 1) := by decide +kernel
theorem dX11_longestSign_1 : decode cX11_longestSign 1 = .ok (.istore_n 2, 1) := by decide +kernel
theorem dX11_longestSign_2 : decode cX11_longestSign 2 = .ok (.iconst 0, 1) := by decide +kernel
theorem dX11_longestSign_3 : decode cX11_longestSign 3 = .ok (.istore_n 3, 1) := by decide +kernel
theorem dX11_longestSign_4 : decode cX11_longestSign 4 = .ok (.iload_n 3, 1) := by decide +kernel
theorem dX11_longestSign_5 : decode cX11_longestSign 5 = .ok (.aload_n 0, 1) := by decide +kernel
theorem dX11_longestSign_6 : decode cX11_longestSign 6 = .ok (.getfield 109, 3) := by decide +kernel
theorem dX11_longestSign_9 : decode cX11_longestSign 9 = .ok (.if_icmp .ge 54, 3) := by decide +kernel
theorem dX11_longestSign_12 : decode cX11_longestSign 12 = .ok (.aload_n 0, 1) := by decide +kernel
theorem dX11_longestSign_13 : decode cX11_longestSign 13 = .ok (.iload_n 3, 1) := by decide +kernel
theorem dX11_longestSign_14 : decode cX11_longestSign 14 = .ok (.iload_n 1, 1) := by decide +kernel
theorem dX11_longestSign_15 : decode cX11_longestSign 15 = .ok (.invokevirtual 170, 3) := by decide +kernel
theorem dX11_longestSign_18 : decode cX11_longestSign 18 = .ok (.ifCond .eq 25, 3) := by decide +kernel
theorem dX11_longestSign_21 : decode cX11_longestSign 21 = .ok (.iload_n 2, 1) := by decide +kernel
theorem dX11_longestSign_22 : decode cX11_longestSign 22 = .ok (.iconst (-1), 1) := by decide +kernel
theorem dX11_longestSign_23 : decode cX11_longestSign 23 = .ok (.if_icmp .eq 16, 3) := by decide +kernel
theorem dX11_longestSign_26 : decode cX11_longestSign 26 = .ok (.aload_n 0, 1) := by decide +kernel
theorem dX11_longestSign_27 : decode cX11_longestSign 27 = .ok (.iload_n 3, 1) := by decide +kernel
theorem dX11_longestSign_28 : decode cX11_longestSign 28 = .ok (.invokevirtual 137, 3) := by decide +kernel
theorem dX11_longestSign_31 : decode cX11_longestSign 31 = .ok (.aload_n 0, 1) := by decide +kernel
theorem dX11_longestSign_32 : decode cX11_longestSign 32 = .ok (.iload_n 2, 1) := by decide +kernel
theorem dX11_longestSign_33 : decode cX11_longestSign 33 = .ok (.invokevirtual 137, 3) := by decide +kernel
theorem dX11_longestSign_36 : decode cX11_longestSign 36 = .ok (.if_icmp .le 7, 3) := by decide +kernel
theorem dX11_longestSign_39 : decode cX11_longestSign 39 = .ok (.iconst 1, 1) := by decide +kernel
theorem dX11_longestSign_40 : decode cX11_longestSign 40 = .ok (.goto 4, 3) := by decide +kernel
theorem dX11_longestSign_43 : decode cX11_longestSign 43 = .ok (.iconst 0, 1) := by decide +kernel
theorem dX11_longestSign_44 : decode cX11_longestSign 44 = .ok (.istore 4, 2) := by decide +kernel
theorem dX11_longestSign_46 : decode cX11_longestSign 46 = .ok (.iload 4, 2) := by decide +kernel
theorem dX11_longestSign_48 : decode cX11_longestSign 48 = .ok (.ifCond .eq 7, 3) := by decide +kernel
theorem dX11_longestSign_51 : decode cX11_longestSign 51 = .ok (.iload_n 3, 1) := by decide +kernel
theorem dX11_longestSign_52 : decode cX11_longestSign 52 = .ok (.goto 4, 3) := by decide +kernel
theorem dX11_longestSign_55 : decode cX11_longestSign 55 = .ok (.iload_n 2, 1) := by decide +kernel
theorem dX11_longestSign_56 : decode cX11_longestSign 56 = .ok (.istore_n 2, 1) := by decide +kernel
theorem dX11_longestSign_57 : decode cX11_longestSign 57 = .ok (.iinc 3 1, 3) := by decide +kernel
theorem dX11_longestSign_60 : decode cX11_longestSign 60 = .ok (.goto (-56), 3) := by decide +kernel
theorem dX11_longestSign_63 : decode cX11_longestSign 63 = .ok (.iload_n 2, 1) := by decide +kernel
theorem dX11_longestSign_64 : decode cX11_longestSign 64 = .ok (.ireturn, 1) := by decide +kernel
theorem dX11_workText_0 : decode cX11_workText 0 = .ok (.aload_n 0, 1) := by decide +kernel
theorem dX11_workText_1 : decode cX11_workText 1 = .ok (.aload_n 0, 1) := by decide +kernel
theorem dX11_workText_2 : decode cX11_workText 2 = .ok (.getfield 118, 3) := by decide +kernel
theorem dX11_workText_5 : decode cX11_workText 5 = .ok (.putfield 167, 3) := by decide +kernel
theorem dX11_workText_8 : decode cX11_workText 8 = .ok (.iconst 0, 1) := by decide +kernel
theorem dX11_workText_9 : decode cX11_workText 9 = .ok (.istore_n 1, 1) := by decide +kernel
theorem dX11_workText_10 : decode cX11_workText 10 = .ok (.iload_n 1, 1) := by decide +kernel
theorem dX11_workText_11 : decode cX11_workText 11 = .ok (.aload_n 0, 1) := by decide +kernel
theorem dX11_workText_12 : decode cX11_workText 12 = .ok (.getfield 118, 3) := by decide +kernel
theorem dX11_workText_15 : decode cX11_workText 15 = .ok (.if_icmp .ge 21, 3) := by decide +kernel
theorem dX11_workText_18 : decode cX11_workText 18 = .ok (.aload_n 0, 1) := by decide +kernel
theorem dX11_workText_19 : decode cX11_workText 19 = .ok (.getfield 43, 3) := by decide +kernel
theorem dX11_workText_22 : decode cX11_workText 22 = .ok (.iload_n 1, 1) := by decide +kernel
theorem dX11_workText_23 : decode cX11_workText 23 = .ok (.aload_n 0, 1) := by decide +kernel
theorem dX11_workText_24 : decode cX11_workText 24 = .ok (.getfield 22, 3) := by decide +kernel
theorem dX11_workText_27 : decode cX11_workText 27 = .ok (.iload_n 1, 1) := by decide +kernel
theorem dX11_workText_28 : decode cX11_workText 28 = .ok (.iaload, 1) := by decide +kernel
theorem dX11_workText_29 : decode cX11_workText 29 = .ok (.iastore, 1) := by decide +kernel
theorem dX11_workText_30 : decode cX11_workText 30 = .ok (.iinc 1 1, 3) := by decide +kernel
theorem dX11_workText_33 : decode cX11_workText 33 = .ok (.goto (-23), 3) := by decide +kernel
theorem dX11_workText_36 : decode cX11_workText 36 = .ok (.return_, 1) := by decide +kernel
theorem dX11_layWays_0 : decode cX11_layWays 0 = .ok (.aload_n 0, 1) := by decide +kernel
theorem dX11_layWays_1 : decode cX11_layWays 1 = .ok (.getfield 46, 3) := by decide +kernel
theorem dX11_layWays_4 : decode cX11_layWays 4 = .ok (.aload_n 0, 1) := by decide +kernel
theorem dX11_layWays_5 : decode cX11_layWays 5 = .ok (.getfield 167, 3) := by decide +kernel
theorem dX11_layWays_8 : decode cX11_layWays 8 = .ok (.iconst 1, 1) := by decide +kernel
theorem dX11_layWays_9 : decode cX11_layWays 9 = .ok (.iastore, 1) := by decide +kernel
theorem dX11_layWays_10 : decode cX11_layWays 10 = .ok (.aload_n 0, 1) := by decide +kernel
theorem dX11_layWays_11 : decode cX11_layWays 11 = .ok (.getfield 49, 3) := by decide +kernel
theorem dX11_layWays_14 : decode cX11_layWays 14 = .ok (.aload_n 0, 1) := by decide +kernel
theorem dX11_layWays_15 : decode cX11_layWays 15 = .ok (.getfield 167, 3) := by decide +kernel
theorem dX11_layWays_18 : decode cX11_layWays 18 = .ok (.iconst 1, 1) := by decide +kernel
theorem dX11_layWays_19 : decode cX11_layWays 19 = .ok (.iastore, 1) := by decide +kernel
theorem dX11_layWays_20 : decode cX11_layWays 20 = .ok (.aload_n 0, 1) := by decide +kernel
theorem dX11_layWays_21 : decode cX11_layWays 21 = .ok (.getfield 167, 3) := by decide +kernel
theorem dX11_layWays_24 : decode cX11_layWays 24 = .ok (.iconst 1, 1) := by decide +kernel
theorem dX11_layWays_25 : decode cX11_layWays 25 = .ok (.isub, 1) := by decide +kernel
theorem dX11_layWays_26 : decode cX11_layWays 26 = .ok (.istore_n 1, 1) := by decide +kernel
theorem dX11_layWays_27 : decode cX11_layWays 27 = .ok (.iload_n 1, 1) := by decide +kernel
theorem dX11_layWays_28 : decode cX11_layWays 28 = .ok (.ifCond .lt 123, 3) := by decide +kernel
theorem dX11_layWays_31 : decode cX11_layWays 31 = .ok (.aload_n 0, 1) := by decide +kernel
theorem dX11_layWays_32 : decode cX11_layWays 32 = .ok (.getfield 46, 3) := by decide +kernel
theorem dX11_layWays_35 : decode cX11_layWays 35 = .ok (.iload_n 1, 1) := by decide +kernel
theorem dX11_layWays_36 : decode cX11_layWays 36 = .ok (.iconst 0, 1) := by decide +kernel
theorem dX11_layWays_37 : decode cX11_layWays 37 = .ok (.iastore, 1) := by decide +kernel
theorem dX11_layWays_38 : decode cX11_layWays 38 = .ok (.aload_n 0, 1) := by decide +kernel
theorem dX11_layWays_39 : decode cX11_layWays 39 = .ok (.getfield 49, 3) := by decide +kernel
theorem dX11_layWays_42 : decode cX11_layWays 42 = .ok (.iload_n 1, 1) := by decide +kernel
theorem dX11_layWays_43 : decode cX11_layWays 43 = .ok (.iconst 0, 1) := by decide +kernel
theorem dX11_layWays_44 : decode cX11_layWays 44 = .ok (.iastore, 1) := by decide +kernel
theorem dX11_layWays_45 : decode cX11_layWays 45 = .ok (.iconst 0, 1) := by decide +kernel
theorem dX11_layWays_46 : decode cX11_layWays 46 = .ok (.istore_n 2, 1) := by decide +kernel
theorem dX11_layWays_47 : decode cX11_layWays 47 = .ok (.iload_n 2, 1) := by decide +kernel
theorem dX11_layWays_48 : decode cX11_layWays 48 = .ok (.aload_n 0, 1) := by decide +kernel
theorem dX11_layWays_49 : decode cX11_layWays 49 = .ok (.getfield 109, 3) := by decide +kernel
theorem dX11_layWays_52 : decode cX11_layWays 52 = .ok (.if_icmp .ge 67, 3) := by decide +kernel
theorem dX11_layWays_55 : decode cX11_layWays 55 = .ok (.aload_n 0, 1) := by decide +kernel
theorem dX11_layWays_56 : decode cX11_layWays 56 = .ok (.iload_n 2, 1) := by decide +kernel
theorem dX11_layWays_57 : decode cX11_layWays 57 = .ok (.iload_n 1, 1) := by decide +kernel
theorem dX11_layWays_58 : decode cX11_layWays 58 = .ok (.invokevirtual 170, 3) := by decide +kernel
theorem dX11_layWays_61 : decode cX11_layWays 61 = .ok (.ifCond .eq 52, 3) := by decide +kernel
theorem dX11_layWays_64 : decode cX11_layWays 64 = .ok (.aload_n 0, 1) := by decide +kernel
theorem dX11_layWays_65 : decode cX11_layWays 65 = .ok (.getfield 46, 3) := by decide +kernel
theorem dX11_layWays_68 : decode cX11_layWays 68 = .ok (.iload_n 1, 1) := by decide +kernel
theorem dX11_layWays_69 : decode cX11_layWays 69 = .ok (.aload_n 0, 1) := by decide +kernel
theorem dX11_layWays_70 : decode cX11_layWays 70 = .ok (.getfield 46, 3) := by decide +kernel
theorem dX11_layWays_73 : decode cX11_layWays 73 = .ok (.iload_n 1, 1) := by decide +kernel
theorem dX11_layWays_74 : decode cX11_layWays 74 = .ok (.iaload, 1) := by decide +kernel
theorem dX11_layWays_75 : decode cX11_layWays 75 = .ok (.aload_n 0, 1) := by decide +kernel
theorem dX11_layWays_76 : decode cX11_layWays 76 = .ok (.getfield 46, 3) := by decide +kernel
theorem dX11_layWays_79 : decode cX11_layWays 79 = .ok (.iload_n 1, 1) := by decide +kernel
theorem dX11_layWays_80 : decode cX11_layWays 80 = .ok (.aload_n 0, 1) := by decide +kernel
theorem dX11_layWays_81 : decode cX11_layWays 81 = .ok (.iload_n 2, 1) := by decide +kernel
theorem dX11_layWays_82 : decode cX11_layWays 82 = .ok (.invokevirtual 137, 3) := by decide +kernel
theorem dX11_layWays_85 : decode cX11_layWays 85 = .ok (.iadd, 1) := by decide +kernel
theorem dX11_layWays_86 : decode cX11_layWays 86 = .ok (.iaload, 1) := by decide +kernel
theorem dX11_layWays_87 : decode cX11_layWays 87 = .ok (.iadd, 1) := by decide +kernel
theorem dX11_layWays_88 : decode cX11_layWays 88 = .ok (.ldc 173, 2) := by decide +kernel
theorem dX11_layWays_90 : decode cX11_layWays 90 = .ok (.irem, 1) := by decide +kernel
theorem dX11_layWays_91 : decode cX11_layWays 91 = .ok (.iastore, 1) := by decide +kernel
theorem dX11_layWays_92 : decode cX11_layWays 92 = .ok (.aload_n 0, 1) := by decide +kernel
theorem dX11_layWays_93 : decode cX11_layWays 93 = .ok (.getfield 49, 3) := by decide +kernel
theorem dX11_layWays_96 : decode cX11_layWays 96 = .ok (.iload_n 1, 1) := by decide +kernel
theorem dX11_layWays_97 : decode cX11_layWays 97 = .ok (.dup2, 1) := by decide +kernel
theorem dX11_layWays_98 : decode cX11_layWays 98 = .ok (.iaload, 1) := by decide +kernel
theorem dX11_layWays_99 : decode cX11_layWays 99 = .ok (.aload_n 0, 1) := by decide +kernel
theorem dX11_layWays_100 : decode cX11_layWays 100 = .ok (.getfield 49, 3) := by decide +kernel
theorem dX11_layWays_103 : decode cX11_layWays 103 = .ok (.iload_n 1, 1) := by decide +kernel
theorem dX11_layWays_104 : decode cX11_layWays 104 = .ok (.aload_n 0, 1) := by decide +kernel
theorem dX11_layWays_105 : decode cX11_layWays 105 = .ok (.iload_n 2, 1) := by decide +kernel
theorem dX11_layWays_106 : decode cX11_layWays 106 = .ok (.invokevirtual 137, 3) := by decide +kernel
theorem dX11_layWays_109 : decode cX11_layWays 109 = .ok (.iadd, 1) := by decide +kernel
theorem dX11_layWays_110 : decode cX11_layWays 110 = .ok (.iaload, 1) := by decide +kernel
theorem dX11_layWays_111 : decode cX11_layWays 111 = .ok (.iadd, 1) := by decide +kernel
theorem dX11_layWays_112 : decode cX11_layWays 112 = .ok (.iastore, 1) := by decide +kernel
theorem dX11_layWays_113 : decode cX11_layWays 113 = .ok (.iinc 2 1, 3) := by decide +kernel
theorem dX11_layWays_116 : decode cX11_layWays 116 = .ok (.goto (-69), 3) := by decide +kernel
theorem dX11_layWays_119 : decode cX11_layWays 119 = .ok (.aload_n 0, 1) := by decide +kernel
theorem dX11_layWays_120 : decode cX11_layWays 120 = .ok (.getfield 49, 3) := by decide +kernel
theorem dX11_layWays_123 : decode cX11_layWays 123 = .ok (.iload_n 1, 1) := by decide +kernel
theorem dX11_layWays_124 : decode cX11_layWays 124 = .ok (.aload_n 0, 1) := by decide +kernel
theorem dX11_layWays_125 : decode cX11_layWays 125 = .ok (.getfield 49, 3) := by decide +kernel
theorem dX11_layWays_128 : decode cX11_layWays 128 = .ok (.iload_n 1, 1) := by decide +kernel
theorem dX11_layWays_129 : decode cX11_layWays 129 = .ok (.iaload, 1) := by decide +kernel
theorem dX11_layWays_130 : decode cX11_layWays 130 = .ok (.iconst 2, 1) := by decide +kernel
theorem dX11_layWays_131 : decode cX11_layWays 131 = .ok (.if_icmp .le 7, 3) := by decide +kernel
theorem dX11_layWays_134 : decode cX11_layWays 134 = .ok (.iconst 2, 1) := by decide +kernel
theorem dX11_layWays_135 : decode cX11_layWays 135 = .ok (.goto 9, 3) := by decide +kernel
theorem dX11_layWays_138 : decode cX11_layWays 138 = .ok (.aload_n 0, 1) := by decide +kernel
theorem dX11_layWays_139 : decode cX11_layWays 139 = .ok (.getfield 49, 3) := by decide +kernel
theorem dX11_layWays_142 : decode cX11_layWays 142 = .ok (.iload_n 1, 1) := by decide +kernel
theorem dX11_layWays_143 : decode cX11_layWays 143 = .ok (.iaload, 1) := by decide +kernel
theorem dX11_layWays_144 : decode cX11_layWays 144 = .ok (.iastore, 1) := by decide +kernel
theorem dX11_layWays_145 : decode cX11_layWays 145 = .ok (.iinc 1 (-1), 3) := by decide +kernel
theorem dX11_layWays_148 : decode cX11_layWays 148 = .ok (.goto (-121), 3) := by decide +kernel
theorem dX11_layWays_151 : decode cX11_layWays 151 = .ok (.return_, 1) := by decide +kernel
theorem dX11_ink_0 : decode cX11_ink 0 = .ok (.iload_n 1, 1) := by decide +kernel
theorem dX11_ink_1 : decode cX11_ink 1 = .ok (.iconst 0, 1) := by decide +kernel
theorem dX11_ink_2 : decode cX11_ink 2 = .ok (.aload_n 0, 1) := by decide +kernel
theorem dX11_ink_3 : decode cX11_ink 3 = .ok (.getfield 118, 3) := by decide +kernel
theorem dX11_ink_6 : decode cX11_ink 6 = .ok (.iconst 1, 1) := by decide +kernel
theorem dX11_ink_7 : decode cX11_ink 7 = .ok (.isub, 1) := by decide +kernel
theorem dX11_ink_8 : decode cX11_ink 8 = .ok (.invokestatic 71, 3) := by decide +kernel
theorem dX11_ink_11 : decode cX11_ink 11 = .ok (.ifCond .eq 12, 3) := by decide +kernel
theorem dX11_ink_14 : decode cX11_ink 14 = .ok (.aload_n 0, 1) := by decide +kernel
theorem dX11_ink_15 : decode cX11_ink 15 = .ok (.getfield 22, 3) := by decide +kernel
theorem dX11_ink_18 : decode cX11_ink 18 = .ok (.iload_n 1, 1) := by decide +kernel
theorem dX11_ink_19 : decode cX11_ink 19 = .ok (.iaload, 1) := by decide +kernel
theorem dX11_ink_20 : decode cX11_ink 20 = .ok (.goto 5, 3) := by decide +kernel
theorem dX11_ink_23 : decode cX11_ink 23 = .ok (.bipush (-101), 2) := by decide +kernel
theorem dX11_ink_25 : decode cX11_ink 25 = .ok (.ireturn, 1) := by decide +kernel
theorem dX11_layBack_0 : decode cX11_layBack 0 = .ok (.aload_n 0, 1) := by decide +kernel
theorem dX11_layBack_1 : decode cX11_layBack 1 = .ok (.iconst 0, 1) := by decide +kernel
theorem dX11_layBack_2 : decode cX11_layBack 2 = .ok (.putfield 174, 3) := by decide +kernel
theorem dX11_layBack_5 : decode cX11_layBack 5 = .ok (.aload_n 0, 1) := by decide +kernel
theorem dX11_layBack_6 : decode cX11_layBack 6 = .ok (.iconst (-1), 1) := by decide +kernel
theorem dX11_layBack_7 : decode cX11_layBack 7 = .ok (.putfield 177, 3) := by decide +kernel
theorem dX11_layBack_10 : decode cX11_layBack 10 = .ok (.iconst 0, 1) := by decide +kernel
theorem dX11_layBack_11 : decode cX11_layBack 11 = .ok (.istore_n 1, 1) := by decide +kernel
theorem dX11_layBack_12 : decode cX11_layBack 12 = .ok (.iload_n 1, 1) := by decide +kernel
theorem dX11_layBack_13 : decode cX11_layBack 13 = .ok (.aload_n 0, 1) := by decide +kernel
theorem dX11_layBack_14 : decode cX11_layBack 14 = .ok (.getfield 167, 3) := by decide +kernel
theorem dX11_layBack_17 : decode cX11_layBack 17 = .ok (.if_icmp .ge 61, 3) := by decide +kernel
theorem dX11_layBack_20 : decode cX11_layBack 20 = .ok (.aload_n 0, 1) := by decide +kernel
theorem dX11_layBack_21 : decode cX11_layBack 21 = .ok (.getfield 177, 3) := by decide +kernel
theorem dX11_layBack_24 : decode cX11_layBack 24 = .ok (.iconst (-1), 1) := by decide +kernel
theorem dX11_layBack_25 : decode cX11_layBack 25 = .ok (.if_icmp .ne 53, 3) := by decide +kernel
theorem dX11_layBack_28 : decode cX11_layBack 28 = .ok (.aload_n 0, 1) := by decide +kernel
theorem dX11_layBack_29 : decode cX11_layBack 29 = .ok (.iload_n 1, 1) := by decide +kernel
theorem dX11_layBack_30 : decode cX11_layBack 30 = .ok (.invokevirtual 180, 3) := by decide +kernel
theorem dX11_layBack_33 : decode cX11_layBack 33 = .ok (.istore_n 2, 1) := by decide +kernel
theorem dX11_layBack_34 : decode cX11_layBack 34 = .ok (.iload_n 2, 1) := by decide +kernel
theorem dX11_layBack_35 : decode cX11_layBack 35 = .ok (.iconst (-1), 1) := by decide +kernel
theorem dX11_layBack_36 : decode cX11_layBack 36 = .ok (.if_icmp .ne 11, 3) := by decide +kernel
theorem dX11_layBack_39 : decode cX11_layBack 39 = .ok (.aload_n 0, 1) := by decide +kernel
theorem dX11_layBack_40 : decode cX11_layBack 40 = .ok (.iload_n 1, 1) := by decide +kernel
theorem dX11_layBack_41 : decode cX11_layBack 41 = .ok (.putfield 177, 3) := by decide +kernel
theorem dX11_layBack_44 : decode cX11_layBack 44 = .ok (.goto 31, 3) := by decide +kernel
theorem dX11_layBack_47 : decode cX11_layBack 47 = .ok (.aload_n 0, 1) := by decide +kernel
theorem dX11_layBack_48 : decode cX11_layBack 48 = .ok (.getfield 52, 3) := by decide +kernel
theorem dX11_layBack_51 : decode cX11_layBack 51 = .ok (.aload_n 0, 1) := by decide +kernel
theorem dX11_layBack_52 : decode cX11_layBack 52 = .ok (.getfield 174, 3) := by decide +kernel
theorem dX11_layBack_55 : decode cX11_layBack 55 = .ok (.iload_n 2, 1) := by decide +kernel
theorem dX11_layBack_56 : decode cX11_layBack 56 = .ok (.iastore, 1) := by decide +kernel
theorem dX11_layBack_57 : decode cX11_layBack 57 = .ok (.aload_n 0, 1) := by decide +kernel
theorem dX11_layBack_58 : decode cX11_layBack 58 = .ok (.dup, 1) := by decide +kernel
theorem dX11_layBack_59 : decode cX11_layBack 59 = .ok (.getfield 174, 3) := by decide +kernel
theorem dX11_layBack_62 : decode cX11_layBack 62 = .ok (.iconst 1, 1) := by decide +kernel
theorem dX11_layBack_63 : decode cX11_layBack 63 = .ok (.iadd, 1) := by decide +kernel
theorem dX11_layBack_64 : decode cX11_layBack 64 = .ok (.putfield 174, 3) := by decide +kernel
theorem dX11_layBack_67 : decode cX11_layBack 67 = .ok (.iload_n 1, 1) := by decide +kernel
theorem dX11_layBack_68 : decode cX11_layBack 68 = .ok (.aload_n 0, 1) := by decide +kernel
theorem dX11_layBack_69 : decode cX11_layBack 69 = .ok (.iload_n 2, 1) := by decide +kernel
theorem dX11_layBack_70 : decode cX11_layBack 70 = .ok (.invokevirtual 137, 3) := by decide +kernel
theorem dX11_layBack_73 : decode cX11_layBack 73 = .ok (.iadd, 1) := by decide +kernel
theorem dX11_layBack_74 : decode cX11_layBack 74 = .ok (.istore_n 1, 1) := by decide +kernel
theorem dX11_layBack_75 : decode cX11_layBack 75 = .ok (.goto (-63), 3) := by decide +kernel
theorem dX11_layBack_78 : decode cX11_layBack 78 = .ok (.return_, 1) := by decide +kernel
theorem dX11_backNow_0 : decode cX11_backNow 0 = .ok (.aload_n 0, 1) := by decide +kernel
theorem dX11_backNow_1 : decode cX11_backNow 1 = .ok (.invokevirtual 183, 3) := by decide +kernel
theorem dX11_backNow_4 : decode cX11_backNow 4 = .ok (.aload_n 0, 1) := by decide +kernel
theorem dX11_backNow_5 : decode cX11_backNow 5 = .ok (.invokevirtual 186, 3) := by decide +kernel
theorem dX11_backNow_8 : decode cX11_backNow 8 = .ok (.iload_n 1, 1) := by decide +kernel
theorem dX11_backNow_9 : decode cX11_backNow 9 = .ok (.ifCond .ne 10, 3) := by decide +kernel
theorem dX11_backNow_12 : decode cX11_backNow 12 = .ok (.aload_n 0, 1) := by decide +kernel
theorem dX11_backNow_13 : decode cX11_backNow 13 = .ok (.getfield 174, 3) := by decide +kernel
theorem dX11_backNow_16 : decode cX11_backNow 16 = .ok (.goto 7, 3) := by decide +kernel
theorem dX11_backNow_19 : decode cX11_backNow 19 = .ok (.aload_n 0, 1) := by decide +kernel
theorem dX11_backNow_20 : decode cX11_backNow 20 = .ok (.getfield 177, 3) := by decide +kernel
theorem dX11_backNow_23 : decode cX11_backNow 23 = .ok (.ireturn, 1) := by decide +kernel
theorem dX11_back_0 : decode cX11_back 0 = .ok (.iload_n 1, 1) := by decide +kernel
theorem dX11_back_1 : decode cX11_back 1 = .ok (.iconst 0, 1) := by decide +kernel
theorem dX11_back_2 : decode cX11_back 2 = .ok (.iconst 1, 1) := by decide +kernel
theorem dX11_back_3 : decode cX11_back 3 = .ok (.invokestatic 71, 3) := by decide +kernel
theorem dX11_back_6 : decode cX11_back 6 = .ok (.ifCond .eq 11, 3) := by decide +kernel
theorem dX11_back_9 : decode cX11_back 9 = .ok (.aload_n 0, 1) := by decide +kernel
theorem dX11_back_10 : decode cX11_back 10 = .ok (.iload_n 1, 1) := by decide +kernel
theorem dX11_back_11 : decode cX11_back 11 = .ok (.invokevirtual 189, 3) := by decide +kernel
theorem dX11_back_14 : decode cX11_back 14 = .ok (.goto 5, 3) := by decide +kernel
theorem dX11_back_17 : decode cX11_back 17 = .ok (.bipush (-102), 2) := by decide +kernel
theorem dX11_back_19 : decode cX11_back 19 = .ok (.ireturn, 1) := by decide +kernel
theorem dX11_backAtNow_0 : decode cX11_backAtNow 0 = .ok (.aload_n 0, 1) := by decide +kernel
theorem dX11_backAtNow_1 : decode cX11_backAtNow 1 = .ok (.iconst 0, 1) := by decide +kernel
theorem dX11_backAtNow_2 : decode cX11_backAtNow 2 = .ok (.invokevirtual 189, 3) := by decide +kernel
theorem dX11_backAtNow_5 : decode cX11_backAtNow 5 = .ok (.pop, 1) := by decide +kernel
theorem dX11_backAtNow_6 : decode cX11_backAtNow 6 = .ok (.iload_n 1, 1) := by decide +kernel
theorem dX11_backAtNow_7 : decode cX11_backAtNow 7 = .ok (.iconst 0, 1) := by decide +kernel
theorem dX11_backAtNow_8 : decode cX11_backAtNow 8 = .ok (.aload_n 0, 1) := by decide +kernel
theorem dX11_backAtNow_9 : decode cX11_backAtNow 9 = .ok (.getfield 174, 3) := by decide +kernel
theorem dX11_backAtNow_12 : decode cX11_backAtNow 12 = .ok (.iconst 1, 1) := by decide +kernel
theorem dX11_backAtNow_13 : decode cX11_backAtNow 13 = .ok (.isub, 1) := by decide +kernel
theorem dX11_backAtNow_14 : decode cX11_backAtNow 14 = .ok (.invokestatic 71, 3) := by decide +kernel
theorem dX11_backAtNow_17 : decode cX11_backAtNow 17 = .ok (.ifCond .eq 12, 3) := by decide +kernel
theorem dX11_backAtNow_20 : decode cX11_backAtNow 20 = .ok (.aload_n 0, 1) := by decide +kernel
theorem dX11_backAtNow_21 : decode cX11_backAtNow 21 = .ok (.getfield 52, 3) := by decide +kernel
theorem dX11_backAtNow_24 : decode cX11_backAtNow 24 = .ok (.iload_n 1, 1) := by decide +kernel
theorem dX11_backAtNow_25 : decode cX11_backAtNow 25 = .ok (.iaload, 1) := by decide +kernel
theorem dX11_backAtNow_26 : decode cX11_backAtNow 26 = .ok (.goto 5, 3) := by decide +kernel
theorem dX11_backAtNow_29 : decode cX11_backAtNow 29 = .ok (.bipush (-101), 2) := by decide +kernel
theorem dX11_backAtNow_31 : decode cX11_backAtNow 31 = .ok (.ireturn, 1) := by decide +kernel
theorem dX11_backAt_0 : decode cX11_backAt 0 = .ok (.aload_n 0, 1) := by decide +kernel
theorem dX11_backAt_1 : decode cX11_backAt 1 = .ok (.iload_n 1, 1) := by decide +kernel
theorem dX11_backAt_2 : decode cX11_backAt 2 = .ok (.invokevirtual 192, 3) := by decide +kernel
theorem dX11_backAt_5 : decode cX11_backAt 5 = .ok (.ireturn, 1) := by decide +kernel
theorem dX11_waysNow_0 : decode cX11_waysNow 0 = .ok (.aload_n 0, 1) := by decide +kernel
theorem dX11_waysNow_1 : decode cX11_waysNow 1 = .ok (.invokevirtual 183, 3) := by decide +kernel
theorem dX11_waysNow_4 : decode cX11_waysNow 4 = .ok (.aload_n 0, 1) := by decide +kernel
theorem dX11_waysNow_5 : decode cX11_waysNow 5 = .ok (.invokevirtual 195, 3) := by decide +kernel
theorem dX11_waysNow_8 : decode cX11_waysNow 8 = .ok (.aload_n 0, 1) := by decide +kernel
theorem dX11_waysNow_9 : decode cX11_waysNow 9 = .ok (.getfield 46, 3) := by decide +kernel
theorem dX11_waysNow_12 : decode cX11_waysNow 12 = .ok (.iconst 0, 1) := by decide +kernel
theorem dX11_waysNow_13 : decode cX11_waysNow 13 = .ok (.iaload, 1) := by decide +kernel
theorem dX11_waysNow_14 : decode cX11_waysNow 14 = .ok (.ireturn, 1) := by decide +kernel
theorem dX11_ways_0 : decode cX11_ways 0 = .ok (.aload_n 0, 1) := by decide +kernel
theorem dX11_ways_1 : decode cX11_ways 1 = .ok (.invokevirtual 198, 3) := by decide +kernel
theorem dX11_ways_4 : decode cX11_ways 4 = .ok (.ireturn, 1) := by decide +kernel
theorem dX11_ruleIn_0 : decode cX11_ruleIn 0 = .ok (.aload_n 0, 1) := by decide +kernel
theorem dX11_ruleIn_1 : decode cX11_ruleIn 1 = .ok (.getfield 49, 3) := by decide +kernel
theorem dX11_ruleIn_4 : decode cX11_ruleIn 4 = .ok (.iconst 0, 1) := by decide +kernel
theorem dX11_ruleIn_5 : decode cX11_ruleIn 5 = .ok (.iaload, 1) := by decide +kernel
theorem dX11_ruleIn_6 : decode cX11_ruleIn 6 = .ok (.iload_n 1, 1) := by decide +kernel
theorem dX11_ruleIn_7 : decode cX11_ruleIn 7 = .ok (.if_icmp .le 7, 3) := by decide +kernel
theorem dX11_ruleIn_10 : decode cX11_ruleIn 10 = .ok (.iload_n 2, 1) := by decide +kernel
theorem dX11_ruleIn_11 : decode cX11_ruleIn 11 = .ok (.ifCond .ge 5, 3) := by decide +kernel
theorem dX11_ruleIn_14 : decode cX11_ruleIn 14 = .ok (.iconst (-1), 1) := by decide +kernel
theorem dX11_ruleIn_15 : decode cX11_ruleIn 15 = .ok (.ireturn, 1) := by decide +kernel
theorem dX11_ruleIn_16 : decode cX11_ruleIn 16 = .ok (.iconst 0, 1) := by decide +kernel
theorem dX11_ruleIn_17 : decode cX11_ruleIn 17 = .ok (.istore_n 3, 1) := by decide +kernel
theorem dX11_ruleIn_18 : decode cX11_ruleIn 18 = .ok (.iload_n 1, 1) := by decide +kernel
theorem dX11_ruleIn_19 : decode cX11_ruleIn 19 = .ok (.istore 4, 2) := by decide +kernel
theorem dX11_ruleIn_21 : decode cX11_ruleIn 21 = .ok (.iconst (-1), 1) := by decide +kernel
theorem dX11_ruleIn_22 : decode cX11_ruleIn 22 = .ok (.istore 5, 2) := by decide +kernel
theorem dX11_ruleIn_24 : decode cX11_ruleIn 24 = .ok (.iconst 0, 1) := by decide +kernel
theorem dX11_ruleIn_25 : decode cX11_ruleIn 25 = .ok (.istore 6, 2) := by decide +kernel
theorem dX11_ruleIn_27 : decode cX11_ruleIn 27 = .ok (.iload 6, 2) := by decide +kernel
theorem dX11_ruleIn_29 : decode cX11_ruleIn 29 = .ok (.iload_n 2, 1) := by decide +kernel
theorem dX11_ruleIn_30 : decode cX11_ruleIn 30 = .ok (.if_icmp .gt 116, 3) := by decide +kernel
theorem dX11_ruleIn_33 : decode cX11_ruleIn 33 = .ok (.iload_n 3, 1) := by decide +kernel
theorem dX11_ruleIn_34 : decode cX11_ruleIn 34 = .ok (.aload_n 0, 1) := by decide +kernel
theorem dX11_ruleIn_35 : decode cX11_ruleIn 35 = .ok (.getfield 167, 3) := by decide +kernel
theorem dX11_ruleIn_38 : decode cX11_ruleIn 38 = .ok (.if_icmp .ne 5, 3) := by decide +kernel
theorem dX11_ruleIn_41 : decode cX11_ruleIn 41 = .ok (.iconst (-1), 1) := by decide +kernel
theorem dX11_ruleIn_42 : decode cX11_ruleIn 42 = .ok (.ireturn, 1) := by decide +kernel
theorem dX11_ruleIn_43 : decode cX11_ruleIn 43 = .ok (.iconst (-1), 1) := by decide +kernel
theorem dX11_ruleIn_44 : decode cX11_ruleIn 44 = .ok (.istore 5, 2) := by decide +kernel
theorem dX11_ruleIn_46 : decode cX11_ruleIn 46 = .ok (.iconst 0, 1) := by decide +kernel
theorem dX11_ruleIn_47 : decode cX11_ruleIn 47 = .ok (.istore 7, 2) := by decide +kernel
theorem dX11_ruleIn_49 : decode cX11_ruleIn 49 = .ok (.iload 7, 2) := by decide +kernel
theorem dX11_ruleIn_51 : decode cX11_ruleIn 51 = .ok (.aload_n 0, 1) := by decide +kernel
theorem dX11_ruleIn_52 : decode cX11_ruleIn 52 = .ok (.getfield 109, 3) := by decide +kernel
theorem dX11_ruleIn_55 : decode cX11_ruleIn 55 = .ok (.if_icmp .ge 76, 3) := by decide +kernel
theorem dX11_ruleIn_58 : decode cX11_ruleIn 58 = .ok (.iload 5, 2) := by decide +kernel
theorem dX11_ruleIn_60 : decode cX11_ruleIn 60 = .ok (.iconst (-1), 1) := by decide +kernel
theorem dX11_ruleIn_61 : decode cX11_ruleIn 61 = .ok (.if_icmp .ne 70, 3) := by decide +kernel
theorem dX11_ruleIn_64 : decode cX11_ruleIn 64 = .ok (.aload_n 0, 1) := by decide +kernel
theorem dX11_ruleIn_65 : decode cX11_ruleIn 65 = .ok (.iload 7, 2) := by decide +kernel
theorem dX11_ruleIn_67 : decode cX11_ruleIn 67 = .ok (.iload_n 3, 1) := by decide +kernel
theorem dX11_ruleIn_68 : decode cX11_ruleIn 68 = .ok (.invokevirtual 170, 3) := by decide +kernel
theorem dX11_ruleIn_71 : decode cX11_ruleIn 71 = .ok (.ifCond .eq 19, 3) := by decide +kernel
theorem dX11_ruleIn_74 : decode cX11_ruleIn 74 = .ok (.aload_n 0, 1) := by decide +kernel
theorem dX11_ruleIn_75 : decode cX11_ruleIn 75 = .ok (.getfield 49, 3) := by decide +kernel
theorem dX11_ruleIn_78 : decode cX11_ruleIn 78 = .ok (.iload_n 3, 1) := by decide +kernel
theorem dX11_ruleIn_79 : decode cX11_ruleIn 79 = .ok (.aload_n 0, 1) := by decide +kernel
theorem dX11_ruleIn_80 : decode cX11_ruleIn 80 = .ok (.iload 7, 2) := by decide +kernel
theorem dX11_ruleIn_82 : decode cX11_ruleIn 82 = .ok (.invokevirtual 137, 3) := by decide +kernel
theorem dX11_ruleIn_85 : decode cX11_ruleIn 85 = .ok (.iadd, 1) := by decide +kernel
theorem dX11_ruleIn_86 : decode cX11_ruleIn 86 = .ok (.iaload, 1) := by decide +kernel
theorem dX11_ruleIn_87 : decode cX11_ruleIn 87 = .ok (.goto 4, 3) := by decide +kernel
theorem dX11_ruleIn_90 : decode cX11_ruleIn 90 = .ok (.iconst 0, 1) := by decide +kernel
theorem dX11_ruleIn_91 : decode cX11_ruleIn 91 = .ok (.istore 8, 2) := by decide +kernel
theorem dX11_ruleIn_93 : decode cX11_ruleIn 93 = .ok (.iload 4, 2) := by decide +kernel
theorem dX11_ruleIn_95 : decode cX11_ruleIn 95 = .ok (.iload 8, 2) := by decide +kernel
theorem dX11_ruleIn_97 : decode cX11_ruleIn 97 = .ok (.if_icmp .ge 8, 3) := by decide +kernel
theorem dX11_ruleIn_100 : decode cX11_ruleIn 100 = .ok (.iload 7, 2) := by decide +kernel
theorem dX11_ruleIn_102 : decode cX11_ruleIn 102 = .ok (.goto 4, 3) := by decide +kernel
theorem dX11_ruleIn_105 : decode cX11_ruleIn 105 = .ok (.iconst (-1), 1) := by decide +kernel
theorem dX11_ruleIn_106 : decode cX11_ruleIn 106 = .ok (.istore 5, 2) := by decide +kernel
theorem dX11_ruleIn_108 : decode cX11_ruleIn 108 = .ok (.iload 4, 2) := by decide +kernel
theorem dX11_ruleIn_110 : decode cX11_ruleIn 110 = .ok (.iload 5, 2) := by decide +kernel
theorem dX11_ruleIn_112 : decode cX11_ruleIn 112 = .ok (.iconst (-1), 1) := by decide +kernel
theorem dX11_ruleIn_113 : decode cX11_ruleIn 113 = .ok (.if_icmp .ne 8, 3) := by decide +kernel
theorem dX11_ruleIn_116 : decode cX11_ruleIn 116 = .ok (.iload 8, 2) := by decide +kernel
theorem dX11_ruleIn_118 : decode cX11_ruleIn 118 = .ok (.goto 4, 3) := by decide +kernel
theorem dX11_ruleIn_121 : decode cX11_ruleIn 121 = .ok (.iconst 0, 1) := by decide +kernel
theorem dX11_ruleIn_122 : decode cX11_ruleIn 122 = .ok (.isub, 1) := by decide +kernel
theorem dX11_ruleIn_123 : decode cX11_ruleIn 123 = .ok (.istore 4, 2) := by decide +kernel
theorem dX11_ruleIn_125 : decode cX11_ruleIn 125 = .ok (.iinc 7 1, 3) := by decide +kernel
theorem dX11_ruleIn_128 : decode cX11_ruleIn 128 = .ok (.goto (-79), 3) := by decide +kernel
theorem dX11_ruleIn_131 : decode cX11_ruleIn 131 = .ok (.iload_n 3, 1) := by decide +kernel
theorem dX11_ruleIn_132 : decode cX11_ruleIn 132 = .ok (.aload_n 0, 1) := by decide +kernel
theorem dX11_ruleIn_133 : decode cX11_ruleIn 133 = .ok (.iload 5, 2) := by decide +kernel
theorem dX11_ruleIn_135 : decode cX11_ruleIn 135 = .ok (.invokevirtual 137, 3) := by decide +kernel
theorem dX11_ruleIn_138 : decode cX11_ruleIn 138 = .ok (.iadd, 1) := by decide +kernel
theorem dX11_ruleIn_139 : decode cX11_ruleIn 139 = .ok (.istore_n 3, 1) := by decide +kernel
theorem dX11_ruleIn_140 : decode cX11_ruleIn 140 = .ok (.iinc 6 1, 3) := by decide +kernel
theorem dX11_ruleIn_143 : decode cX11_ruleIn 143 = .ok (.goto (-116), 3) := by decide +kernel
theorem dX11_ruleIn_146 : decode cX11_ruleIn 146 = .ok (.iload 5, 2) := by decide +kernel
theorem dX11_ruleIn_148 : decode cX11_ruleIn 148 = .ok (.ireturn, 1) := by decide +kernel
theorem dX11_firstNow_0 : decode cX11_firstNow 0 = .ok (.aload_n 0, 1) := by decide +kernel
theorem dX11_firstNow_1 : decode cX11_firstNow 1 = .ok (.invokevirtual 183, 3) := by decide +kernel
theorem dX11_firstNow_4 : decode cX11_firstNow 4 = .ok (.aload_n 0, 1) := by decide +kernel
theorem dX11_firstNow_5 : decode cX11_firstNow 5 = .ok (.invokevirtual 195, 3) := by decide +kernel
theorem dX11_firstNow_8 : decode cX11_firstNow 8 = .ok (.aload_n 0, 1) := by decide +kernel
theorem dX11_firstNow_9 : decode cX11_firstNow 9 = .ok (.iconst 0, 1) := by decide +kernel
theorem dX11_firstNow_10 : decode cX11_firstNow 10 = .ok (.iload_n 1, 1) := by decide +kernel
theorem dX11_firstNow_11 : decode cX11_firstNow 11 = .ok (.invokevirtual 201, 3) := by decide +kernel
theorem dX11_firstNow_14 : decode cX11_firstNow 14 = .ok (.istore_n 2, 1) := by decide +kernel
theorem dX11_firstNow_15 : decode cX11_firstNow 15 = .ok (.iload_n 2, 1) := by decide +kernel
theorem dX11_firstNow_16 : decode cX11_firstNow 16 = .ok (.iconst (-1), 1) := by decide +kernel
theorem dX11_firstNow_17 : decode cX11_firstNow 17 = .ok (.if_icmp .ne 8, 3) := by decide +kernel
theorem dX11_firstNow_20 : decode cX11_firstNow 20 = .ok (.bipush (-101), 2) := by decide +kernel
theorem dX11_firstNow_22 : decode cX11_firstNow 22 = .ok (.goto 4, 3) := by decide +kernel
theorem dX11_firstNow_25 : decode cX11_firstNow 25 = .ok (.iload_n 2, 1) := by decide +kernel
theorem dX11_firstNow_26 : decode cX11_firstNow 26 = .ok (.ireturn, 1) := by decide +kernel
theorem dX11_first_0 : decode cX11_first 0 = .ok (.aload_n 0, 1) := by decide +kernel
theorem dX11_first_1 : decode cX11_first 1 = .ok (.iload_n 1, 1) := by decide +kernel
theorem dX11_first_2 : decode cX11_first 2 = .ok (.invokevirtual 204, 3) := by decide +kernel
theorem dX11_first_5 : decode cX11_first 5 = .ok (.ireturn, 1) := by decide +kernel
theorem dX11_lengthOf_0 : decode cX11_lengthOf 0 = .ok (.aload_n 0, 1) := by decide +kernel
theorem dX11_lengthOf_1 : decode cX11_lengthOf 1 = .ok (.iload_n 1, 1) := by decide +kernel
theorem dX11_lengthOf_2 : decode cX11_lengthOf 2 = .ok (.iconst 5, 1) := by decide +kernel
theorem dX11_lengthOf_3 : decode cX11_lengthOf 3 = .ok (.idiv, 1) := by decide +kernel
theorem dX11_lengthOf_4 : decode cX11_lengthOf 4 = .ok (.invokevirtual 137, 3) := by decide +kernel
theorem dX11_lengthOf_7 : decode cX11_lengthOf 7 = .ok (.iload_n 1, 1) := by decide +kernel
theorem dX11_lengthOf_8 : decode cX11_lengthOf 8 = .ok (.iconst 5, 1) := by decide +kernel
theorem dX11_lengthOf_9 : decode cX11_lengthOf 9 = .ok (.irem, 1) := by decide +kernel
theorem dX11_lengthOf_10 : decode cX11_lengthOf 10 = .ok (.isub, 1) := by decide +kernel
theorem dX11_lengthOf_11 : decode cX11_lengthOf 11 = .ok (.ireturn, 1) := by decide +kernel
theorem dX11_letterOf_0 : decode cX11_letterOf 0 = .ok (.aload_n 0, 1) := by decide +kernel
theorem dX11_letterOf_1 : decode cX11_letterOf 1 = .ok (.iload_n 1, 1) := by decide +kernel
theorem dX11_letterOf_2 : decode cX11_letterOf 2 = .ok (.iconst 5, 1) := by decide +kernel
theorem dX11_letterOf_3 : decode cX11_letterOf 3 = .ok (.idiv, 1) := by decide +kernel
theorem dX11_letterOf_4 : decode cX11_letterOf 4 = .ok (.iload_n 1, 1) := by decide +kernel
theorem dX11_letterOf_5 : decode cX11_letterOf 5 = .ok (.iconst 5, 1) := by decide +kernel
theorem dX11_letterOf_6 : decode cX11_letterOf 6 = .ok (.irem, 1) := by decide +kernel
theorem dX11_letterOf_7 : decode cX11_letterOf 7 = .ok (.iload_n 2, 1) := by decide +kernel
theorem dX11_letterOf_8 : decode cX11_letterOf 8 = .ok (.iadd, 1) := by decide +kernel
theorem dX11_letterOf_9 : decode cX11_letterOf 9 = .ok (.invokevirtual 140, 3) := by decide +kernel
theorem dX11_letterOf_12 : decode cX11_letterOf 12 = .ok (.ireturn, 1) := by decide +kernel
theorem dX11_isPart_0 : decode cX11_isPart 0 = .ok (.iload_n 1, 1) := by decide +kernel
theorem dX11_isPart_1 : decode cX11_isPart 1 = .ok (.iconst 5, 1) := by decide +kernel
theorem dX11_isPart_2 : decode cX11_isPart 2 = .ok (.idiv, 1) := by decide +kernel
theorem dX11_isPart_3 : decode cX11_isPart 3 = .ok (.aload_n 0, 1) := by decide +kernel
theorem dX11_isPart_4 : decode cX11_isPart 4 = .ok (.getfield 109, 3) := by decide +kernel
theorem dX11_isPart_7 : decode cX11_isPart 7 = .ok (.if_icmp .ge 20, 3) := by decide +kernel
theorem dX11_isPart_10 : decode cX11_isPart 10 = .ok (.iload_n 1, 1) := by decide +kernel
theorem dX11_isPart_11 : decode cX11_isPart 11 = .ok (.iconst 5, 1) := by decide +kernel
theorem dX11_isPart_12 : decode cX11_isPart 12 = .ok (.irem, 1) := by decide +kernel
theorem dX11_isPart_13 : decode cX11_isPart 13 = .ok (.aload_n 0, 1) := by decide +kernel
theorem dX11_isPart_14 : decode cX11_isPart 14 = .ok (.iload_n 1, 1) := by decide +kernel
theorem dX11_isPart_15 : decode cX11_isPart 15 = .ok (.iconst 5, 1) := by decide +kernel
theorem dX11_isPart_16 : decode cX11_isPart 16 = .ok (.idiv, 1) := by decide +kernel
theorem dX11_isPart_17 : decode cX11_isPart 17 = .ok (.invokevirtual 137, 3) := by decide +kernel
theorem dX11_isPart_20 : decode cX11_isPart 20 = .ok (.if_icmp .gt 7, 3) := by decide +kernel
theorem dX11_isPart_23 : decode cX11_isPart 23 = .ok (.iconst 1, 1) := by decide +kernel
theorem dX11_isPart_24 : decode cX11_isPart 24 = .ok (.goto 4, 3) := by decide +kernel
theorem dX11_isPart_27 : decode cX11_isPart 27 = .ok (.iconst 0, 1) := by decide +kernel
theorem dX11_isPart_28 : decode cX11_isPart 28 = .ok (.ireturn, 1) := by decide +kernel
theorem dX11_areAlike_0 : decode cX11_areAlike 0 = .ok (.aload_n 0, 1) := by decide +kernel
theorem dX11_areAlike_1 : decode cX11_areAlike 1 = .ok (.iload_n 1, 1) := by decide +kernel
theorem dX11_areAlike_2 : decode cX11_areAlike 2 = .ok (.invokevirtual 207, 3) := by decide +kernel
theorem dX11_areAlike_5 : decode cX11_areAlike 5 = .ok (.aload_n 0, 1) := by decide +kernel
theorem dX11_areAlike_6 : decode cX11_areAlike 6 = .ok (.iload_n 2, 1) := by decide +kernel
theorem dX11_areAlike_7 : decode cX11_areAlike 7 = .ok (.invokevirtual 207, 3) := by decide +kernel
theorem dX11_areAlike_10 : decode cX11_areAlike 10 = .ok (.if_icmp .ne 7, 3) := by decide +kernel
theorem dX11_areAlike_13 : decode cX11_areAlike 13 = .ok (.iconst 1, 1) := by decide +kernel
theorem dX11_areAlike_14 : decode cX11_areAlike 14 = .ok (.goto 4, 3) := by decide +kernel
theorem dX11_areAlike_17 : decode cX11_areAlike 17 = .ok (.iconst 0, 1) := by decide +kernel
theorem dX11_areAlike_18 : decode cX11_areAlike 18 = .ok (.istore_n 3, 1) := by decide +kernel
theorem dX11_areAlike_19 : decode cX11_areAlike 19 = .ok (.iconst 0, 1) := by decide +kernel
theorem dX11_areAlike_20 : decode cX11_areAlike 20 = .ok (.istore 4, 2) := by decide +kernel
theorem dX11_areAlike_22 : decode cX11_areAlike 22 = .ok (.iload 4, 2) := by decide +kernel
theorem dX11_areAlike_24 : decode cX11_areAlike 24 = .ok (.aload_n 0, 1) := by decide +kernel
theorem dX11_areAlike_25 : decode cX11_areAlike 25 = .ok (.iload_n 1, 1) := by decide +kernel
theorem dX11_areAlike_26 : decode cX11_areAlike 26 = .ok (.invokevirtual 207, 3) := by decide +kernel
theorem dX11_areAlike_29 : decode cX11_areAlike 29 = .ok (.if_icmp .ge 36, 3) := by decide +kernel
theorem dX11_areAlike_32 : decode cX11_areAlike 32 = .ok (.iload_n 3, 1) := by decide +kernel
theorem dX11_areAlike_33 : decode cX11_areAlike 33 = .ok (.ifCond .eq 32, 3) := by decide +kernel
theorem dX11_areAlike_36 : decode cX11_areAlike 36 = .ok (.aload_n 0, 1) := by decide +kernel
theorem dX11_areAlike_37 : decode cX11_areAlike 37 = .ok (.iload_n 1, 1) := by decide +kernel
theorem dX11_areAlike_38 : decode cX11_areAlike 38 = .ok (.iload 4, 2) := by decide +kernel
theorem dX11_areAlike_40 : decode cX11_areAlike 40 = .ok (.invokevirtual 210, 3) := by decide +kernel
theorem dX11_areAlike_43 : decode cX11_areAlike 43 = .ok (.aload_n 0, 1) := by decide +kernel
theorem dX11_areAlike_44 : decode cX11_areAlike 44 = .ok (.iload_n 2, 1) := by decide +kernel
theorem dX11_areAlike_45 : decode cX11_areAlike 45 = .ok (.iload 4, 2) := by decide +kernel
theorem dX11_areAlike_47 : decode cX11_areAlike 47 = .ok (.invokevirtual 210, 3) := by decide +kernel
theorem dX11_areAlike_50 : decode cX11_areAlike 50 = .ok (.if_icmp .ne 7, 3) := by decide +kernel
theorem dX11_areAlike_53 : decode cX11_areAlike 53 = .ok (.iconst 1, 1) := by decide +kernel
theorem dX11_areAlike_54 : decode cX11_areAlike 54 = .ok (.goto 4, 3) := by decide +kernel
theorem dX11_areAlike_57 : decode cX11_areAlike 57 = .ok (.iconst 0, 1) := by decide +kernel
theorem dX11_areAlike_58 : decode cX11_areAlike 58 = .ok (.istore_n 3, 1) := by decide +kernel
theorem dX11_areAlike_59 : decode cX11_areAlike 59 = .ok (.iinc 4 1, 3) := by decide +kernel
theorem dX11_areAlike_62 : decode cX11_areAlike 62 = .ok (.goto (-40), 3) := by decide +kernel
theorem dX11_areAlike_65 : decode cX11_areAlike 65 = .ok (.iload_n 3, 1) := by decide +kernel
theorem dX11_areAlike_66 : decode cX11_areAlike 66 = .ok (.ireturn, 1) := by decide +kernel
theorem dX11_leastOf_0 : decode cX11_leastOf 0 = .ok (.iconst 0, 1) := by decide +kernel
theorem dX11_leastOf_1 : decode cX11_leastOf 1 = .ok (.istore_n 2, 1) := by decide +kernel
theorem dX11_leastOf_2 : decode cX11_leastOf 2 = .ok (.aload_n 0, 1) := by decide +kernel
theorem dX11_leastOf_3 : decode cX11_leastOf 3 = .ok (.iload_n 2, 1) := by decide +kernel
theorem dX11_leastOf_4 : decode cX11_leastOf 4 = .ok (.invokevirtual 213, 3) := by decide +kernel
theorem dX11_leastOf_7 : decode cX11_leastOf 7 = .ok (.ifCond .eq 12, 3) := by decide +kernel
theorem dX11_leastOf_10 : decode cX11_leastOf 10 = .ok (.aload_n 0, 1) := by decide +kernel
theorem dX11_leastOf_11 : decode cX11_leastOf 11 = .ok (.iload_n 2, 1) := by decide +kernel
theorem dX11_leastOf_12 : decode cX11_leastOf 12 = .ok (.iload_n 1, 1) := by decide +kernel
theorem dX11_leastOf_13 : decode cX11_leastOf 13 = .ok (.invokevirtual 216, 3) := by decide +kernel
theorem dX11_leastOf_16 : decode cX11_leastOf 16 = .ok (.ifCond .ne 9, 3) := by decide +kernel
theorem dX11_leastOf_19 : decode cX11_leastOf 19 = .ok (.iinc 2 1, 3) := by decide +kernel
theorem dX11_leastOf_22 : decode cX11_leastOf 22 = .ok (.goto (-20), 3) := by decide +kernel
theorem dX11_leastOf_25 : decode cX11_leastOf 25 = .ok (.iload_n 2, 1) := by decide +kernel
theorem dX11_leastOf_26 : decode cX11_leastOf 26 = .ok (.ireturn, 1) := by decide +kernel
theorem dX11_partBegins_0 : decode cX11_partBegins 0 = .ok (.aload_n 0, 1) := by decide +kernel
theorem dX11_partBegins_1 : decode cX11_partBegins 1 = .ok (.iload_n 1, 1) := by decide +kernel
theorem dX11_partBegins_2 : decode cX11_partBegins 2 = .ok (.invokevirtual 207, 3) := by decide +kernel
theorem dX11_partBegins_5 : decode cX11_partBegins 5 = .ok (.aload_n 0, 1) := by decide +kernel
theorem dX11_partBegins_6 : decode cX11_partBegins 6 = .ok (.iload_n 2, 1) := by decide +kernel
theorem dX11_partBegins_7 : decode cX11_partBegins 7 = .ok (.invokevirtual 137, 3) := by decide +kernel
theorem dX11_partBegins_10 : decode cX11_partBegins 10 = .ok (.if_icmp .gt 7, 3) := by decide +kernel
theorem dX11_partBegins_13 : decode cX11_partBegins 13 = .ok (.iconst 1, 1) := by decide +kernel
theorem dX11_partBegins_14 : decode cX11_partBegins 14 = .ok (.goto 4, 3) := by decide +kernel
theorem dX11_partBegins_17 : decode cX11_partBegins 17 = .ok (.iconst 0, 1) := by decide +kernel
theorem dX11_partBegins_18 : decode cX11_partBegins 18 = .ok (.istore_n 3, 1) := by decide +kernel
theorem dX11_partBegins_19 : decode cX11_partBegins 19 = .ok (.iconst 0, 1) := by decide +kernel
theorem dX11_partBegins_20 : decode cX11_partBegins 20 = .ok (.istore 4, 2) := by decide +kernel
theorem dX11_partBegins_22 : decode cX11_partBegins 22 = .ok (.iload 4, 2) := by decide +kernel
theorem dX11_partBegins_24 : decode cX11_partBegins 24 = .ok (.aload_n 0, 1) := by decide +kernel
theorem dX11_partBegins_25 : decode cX11_partBegins 25 = .ok (.iload_n 1, 1) := by decide +kernel
theorem dX11_partBegins_26 : decode cX11_partBegins 26 = .ok (.invokevirtual 207, 3) := by decide +kernel
theorem dX11_partBegins_29 : decode cX11_partBegins 29 = .ok (.if_icmp .ge 36, 3) := by decide +kernel
theorem dX11_partBegins_32 : decode cX11_partBegins 32 = .ok (.iload_n 3, 1) := by decide +kernel
theorem dX11_partBegins_33 : decode cX11_partBegins 33 = .ok (.ifCond .eq 32, 3) := by decide +kernel
theorem dX11_partBegins_36 : decode cX11_partBegins 36 = .ok (.aload_n 0, 1) := by decide +kernel
theorem dX11_partBegins_37 : decode cX11_partBegins 37 = .ok (.iload_n 1, 1) := by decide +kernel
theorem dX11_partBegins_38 : decode cX11_partBegins 38 = .ok (.iload 4, 2) := by decide +kernel
theorem dX11_partBegins_40 : decode cX11_partBegins 40 = .ok (.invokevirtual 210, 3) := by decide +kernel
theorem dX11_partBegins_43 : decode cX11_partBegins 43 = .ok (.aload_n 0, 1) := by decide +kernel
theorem dX11_partBegins_44 : decode cX11_partBegins 44 = .ok (.iload_n 2, 1) := by decide +kernel
theorem dX11_partBegins_45 : decode cX11_partBegins 45 = .ok (.iload 4, 2) := by decide +kernel
theorem dX11_partBegins_47 : decode cX11_partBegins 47 = .ok (.invokevirtual 140, 3) := by decide +kernel
theorem dX11_partBegins_50 : decode cX11_partBegins 50 = .ok (.if_icmp .ne 7, 3) := by decide +kernel
theorem dX11_partBegins_53 : decode cX11_partBegins 53 = .ok (.iconst 1, 1) := by decide +kernel
theorem dX11_partBegins_54 : decode cX11_partBegins 54 = .ok (.goto 4, 3) := by decide +kernel
theorem dX11_partBegins_57 : decode cX11_partBegins 57 = .ok (.iconst 0, 1) := by decide +kernel
theorem dX11_partBegins_58 : decode cX11_partBegins 58 = .ok (.istore_n 3, 1) := by decide +kernel
theorem dX11_partBegins_59 : decode cX11_partBegins 59 = .ok (.iinc 4 1, 3) := by decide +kernel
theorem dX11_partBegins_62 : decode cX11_partBegins 62 = .ok (.goto (-40), 3) := by decide +kernel
theorem dX11_partBegins_65 : decode cX11_partBegins 65 = .ok (.iload_n 3, 1) := by decide +kernel
theorem dX11_partBegins_66 : decode cX11_partBegins 66 = .ok (.ireturn, 1) := by decide +kernel
theorem dX11_signBegins_0 : decode cX11_signBegins 0 = .ok (.aload_n 0, 1) := by decide +kernel
theorem dX11_signBegins_1 : decode cX11_signBegins 1 = .ok (.iload_n 1, 1) := by decide +kernel
theorem dX11_signBegins_2 : decode cX11_signBegins 2 = .ok (.invokevirtual 137, 3) := by decide +kernel
theorem dX11_signBegins_5 : decode cX11_signBegins 5 = .ok (.aload_n 0, 1) := by decide +kernel
theorem dX11_signBegins_6 : decode cX11_signBegins 6 = .ok (.iload_n 2, 1) := by decide +kernel
theorem dX11_signBegins_7 : decode cX11_signBegins 7 = .ok (.invokevirtual 207, 3) := by decide +kernel
theorem dX11_signBegins_10 : decode cX11_signBegins 10 = .ok (.if_icmp .gt 7, 3) := by decide +kernel
theorem dX11_signBegins_13 : decode cX11_signBegins 13 = .ok (.iconst 1, 1) := by decide +kernel
theorem dX11_signBegins_14 : decode cX11_signBegins 14 = .ok (.goto 4, 3) := by decide +kernel
theorem dX11_signBegins_17 : decode cX11_signBegins 17 = .ok (.iconst 0, 1) := by decide +kernel
theorem dX11_signBegins_18 : decode cX11_signBegins 18 = .ok (.istore_n 3, 1) := by decide +kernel
theorem dX11_signBegins_19 : decode cX11_signBegins 19 = .ok (.iconst 0, 1) := by decide +kernel
theorem dX11_signBegins_20 : decode cX11_signBegins 20 = .ok (.istore 4, 2) := by decide +kernel
theorem dX11_signBegins_22 : decode cX11_signBegins 22 = .ok (.iload 4, 2) := by decide +kernel
theorem dX11_signBegins_24 : decode cX11_signBegins 24 = .ok (.aload_n 0, 1) := by decide +kernel
theorem dX11_signBegins_25 : decode cX11_signBegins 25 = .ok (.iload_n 1, 1) := by decide +kernel
theorem dX11_signBegins_26 : decode cX11_signBegins 26 = .ok (.invokevirtual 137, 3) := by decide +kernel
theorem dX11_signBegins_29 : decode cX11_signBegins 29 = .ok (.if_icmp .ge 36, 3) := by decide +kernel
theorem dX11_signBegins_32 : decode cX11_signBegins 32 = .ok (.iload_n 3, 1) := by decide +kernel
theorem dX11_signBegins_33 : decode cX11_signBegins 33 = .ok (.ifCond .eq 32, 3) := by decide +kernel
theorem dX11_signBegins_36 : decode cX11_signBegins 36 = .ok (.aload_n 0, 1) := by decide +kernel
theorem dX11_signBegins_37 : decode cX11_signBegins 37 = .ok (.iload_n 1, 1) := by decide +kernel
theorem dX11_signBegins_38 : decode cX11_signBegins 38 = .ok (.iload 4, 2) := by decide +kernel
theorem dX11_signBegins_40 : decode cX11_signBegins 40 = .ok (.invokevirtual 140, 3) := by decide +kernel
theorem dX11_signBegins_43 : decode cX11_signBegins 43 = .ok (.aload_n 0, 1) := by decide +kernel
theorem dX11_signBegins_44 : decode cX11_signBegins 44 = .ok (.iload_n 2, 1) := by decide +kernel
theorem dX11_signBegins_45 : decode cX11_signBegins 45 = .ok (.iload 4, 2) := by decide +kernel
theorem dX11_signBegins_47 : decode cX11_signBegins 47 = .ok (.invokevirtual 210, 3) := by decide +kernel
theorem dX11_signBegins_50 : decode cX11_signBegins 50 = .ok (.if_icmp .ne 7, 3) := by decide +kernel
theorem dX11_signBegins_53 : decode cX11_signBegins 53 = .ok (.iconst 1, 1) := by decide +kernel
theorem dX11_signBegins_54 : decode cX11_signBegins 54 = .ok (.goto 4, 3) := by decide +kernel
theorem dX11_signBegins_57 : decode cX11_signBegins 57 = .ok (.iconst 0, 1) := by decide +kernel
theorem dX11_signBegins_58 : decode cX11_signBegins 58 = .ok (.istore_n 3, 1) := by decide +kernel
theorem dX11_signBegins_59 : decode cX11_signBegins 59 = .ok (.iinc 4 1, 3) := by decide +kernel
theorem dX11_signBegins_62 : decode cX11_signBegins 62 = .ok (.goto (-40), 3) := by decide +kernel
theorem dX11_signBegins_65 : decode cX11_signBegins 65 = .ok (.iload_n 3, 1) := by decide +kernel
theorem dX11_signBegins_66 : decode cX11_signBegins 66 = .ok (.ireturn, 1) := by decide +kernel
theorem dX11_comesAhead_0 : decode cX11_comesAhead 0 = .ok (.aload_n 0, 1) := by decide +kernel
theorem dX11_comesAhead_1 : decode cX11_comesAhead 1 = .ok (.iload_n 1, 1) := by decide +kernel
theorem dX11_comesAhead_2 : decode cX11_comesAhead 2 = .ok (.invokevirtual 219, 3) := by decide +kernel
theorem dX11_comesAhead_5 : decode cX11_comesAhead 5 = .ok (.istore_n 2, 1) := by decide +kernel
theorem dX11_comesAhead_6 : decode cX11_comesAhead 6 = .ok (.aload_n 0, 1) := by decide +kernel
theorem dX11_comesAhead_7 : decode cX11_comesAhead 7 = .ok (.aload_n 0, 1) := by decide +kernel
theorem dX11_comesAhead_8 : decode cX11_comesAhead 8 = .ok (.getfield 222, 3) := by decide +kernel
theorem dX11_comesAhead_11 : decode cX11_comesAhead 11 = .ok (.ifCond .ne 12, 3) := by decide +kernel
theorem dX11_comesAhead_14 : decode cX11_comesAhead 14 = .ok (.aload_n 0, 1) := by decide +kernel
theorem dX11_comesAhead_15 : decode cX11_comesAhead 15 = .ok (.getfield 55, 3) := by decide +kernel
theorem dX11_comesAhead_18 : decode cX11_comesAhead 18 = .ok (.iload_n 2, 1) := by decide +kernel
theorem dX11_comesAhead_19 : decode cX11_comesAhead 19 = .ok (.baload, 1) := by decide +kernel
theorem dX11_comesAhead_20 : decode cX11_comesAhead 20 = .ok (.ifCond .ne 7, 3) := by decide +kernel
theorem dX11_comesAhead_23 : decode cX11_comesAhead 23 = .ok (.iconst 1, 1) := by decide +kernel
theorem dX11_comesAhead_24 : decode cX11_comesAhead 24 = .ok (.goto 4, 3) := by decide +kernel
theorem dX11_comesAhead_27 : decode cX11_comesAhead 27 = .ok (.iconst 0, 1) := by decide +kernel
theorem dX11_comesAhead_28 : decode cX11_comesAhead 28 = .ok (.putfield 222, 3) := by decide +kernel
theorem dX11_comesAhead_31 : decode cX11_comesAhead 31 = .ok (.aload_n 0, 1) := by decide +kernel
theorem dX11_comesAhead_32 : decode cX11_comesAhead 32 = .ok (.getfield 55, 3) := by decide +kernel
theorem dX11_comesAhead_35 : decode cX11_comesAhead 35 = .ok (.iload_n 2, 1) := by decide +kernel
theorem dX11_comesAhead_36 : decode cX11_comesAhead 36 = .ok (.iconst 1, 1) := by decide +kernel
theorem dX11_comesAhead_37 : decode cX11_comesAhead 37 = .ok (.bastore, 1) := by decide +kernel
theorem dX11_comesAhead_38 : decode cX11_comesAhead 38 = .ok (.return_, 1) := by decide +kernel
theorem dX11_goOnFrom_0 : decode cX11_goOnFrom 0 = .ok (.iconst 0, 1) := by decide +kernel
theorem dX11_goOnFrom_1 : decode cX11_goOnFrom 1 = .ok (.istore_n 2, 1) := by decide +kernel
theorem dX11_goOnFrom_2 : decode cX11_goOnFrom 2 = .ok (.iload_n 2, 1) := by decide +kernel
theorem dX11_goOnFrom_3 : decode cX11_goOnFrom 3 = .ok (.aload_n 0, 1) := by decide +kernel
theorem dX11_goOnFrom_4 : decode cX11_goOnFrom 4 = .ok (.getfield 109, 3) := by decide +kernel
theorem dX11_goOnFrom_7 : decode cX11_goOnFrom 7 = .ok (.if_icmp .ge 51, 3) := by decide +kernel
theorem dX11_goOnFrom_10 : decode cX11_goOnFrom 10 = .ok (.aload_n 0, 1) := by decide +kernel
theorem dX11_goOnFrom_11 : decode cX11_goOnFrom 11 = .ok (.iload_n 1, 1) := by decide +kernel
theorem dX11_goOnFrom_12 : decode cX11_goOnFrom 12 = .ok (.iload_n 2, 1) := by decide +kernel
theorem dX11_goOnFrom_13 : decode cX11_goOnFrom 13 = .ok (.invokevirtual 226, 3) := by decide +kernel
theorem dX11_goOnFrom_16 : decode cX11_goOnFrom 16 = .ok (.ifCond .eq 16, 3) := by decide +kernel
theorem dX11_goOnFrom_19 : decode cX11_goOnFrom 19 = .ok (.aload_n 0, 1) := by decide +kernel
theorem dX11_goOnFrom_20 : decode cX11_goOnFrom 20 = .ok (.iconst 5, 1) := by decide +kernel
theorem dX11_goOnFrom_21 : decode cX11_goOnFrom 21 = .ok (.iload_n 2, 1) := by decide +kernel
theorem dX11_goOnFrom_22 : decode cX11_goOnFrom 22 = .ok (.imul, 1) := by decide +kernel
theorem dX11_goOnFrom_23 : decode cX11_goOnFrom 23 = .ok (.aload_n 0, 1) := by decide +kernel
theorem dX11_goOnFrom_24 : decode cX11_goOnFrom 24 = .ok (.iload_n 1, 1) := by decide +kernel
theorem dX11_goOnFrom_25 : decode cX11_goOnFrom 25 = .ok (.invokevirtual 207, 3) := by decide +kernel
theorem dX11_goOnFrom_28 : decode cX11_goOnFrom 28 = .ok (.iadd, 1) := by decide +kernel
theorem dX11_goOnFrom_29 : decode cX11_goOnFrom 29 = .ok (.invokevirtual 229, 3) := by decide +kernel
theorem dX11_goOnFrom_32 : decode cX11_goOnFrom 32 = .ok (.aload_n 0, 1) := by decide +kernel
theorem dX11_goOnFrom_33 : decode cX11_goOnFrom 33 = .ok (.iload_n 2, 1) := by decide +kernel
theorem dX11_goOnFrom_34 : decode cX11_goOnFrom 34 = .ok (.iload_n 1, 1) := by decide +kernel
theorem dX11_goOnFrom_35 : decode cX11_goOnFrom 35 = .ok (.invokevirtual 233, 3) := by decide +kernel
theorem dX11_goOnFrom_38 : decode cX11_goOnFrom 38 = .ok (.ifCond .eq 14, 3) := by decide +kernel
theorem dX11_goOnFrom_41 : decode cX11_goOnFrom 41 = .ok (.aload_n 0, 1) := by decide +kernel
theorem dX11_goOnFrom_42 : decode cX11_goOnFrom 42 = .ok (.iload_n 1, 1) := by decide +kernel
theorem dX11_goOnFrom_43 : decode cX11_goOnFrom 43 = .ok (.aload_n 0, 1) := by decide +kernel
theorem dX11_goOnFrom_44 : decode cX11_goOnFrom 44 = .ok (.iload_n 2, 1) := by decide +kernel
theorem dX11_goOnFrom_45 : decode cX11_goOnFrom 45 = .ok (.invokevirtual 137, 3) := by decide +kernel
theorem dX11_goOnFrom_48 : decode cX11_goOnFrom 48 = .ok (.iadd, 1) := by decide +kernel
theorem dX11_goOnFrom_49 : decode cX11_goOnFrom 49 = .ok (.invokevirtual 229, 3) := by decide +kernel
theorem dX11_goOnFrom_52 : decode cX11_goOnFrom 52 = .ok (.iinc 2 1, 3) := by decide +kernel
theorem dX11_goOnFrom_55 : decode cX11_goOnFrom 55 = .ok (.goto (-53), 3) := by decide +kernel
theorem dX11_goOnFrom_58 : decode cX11_goOnFrom 58 = .ok (.return_, 1) := by decide +kernel
theorem dX11_layAheads_0 : decode cX11_layAheads 0 = .ok (.iconst 0, 1) := by decide +kernel
theorem dX11_layAheads_1 : decode cX11_layAheads 1 = .ok (.istore_n 1, 1) := by decide +kernel
theorem dX11_layAheads_2 : decode cX11_layAheads 2 = .ok (.iload_n 1, 1) := by decide +kernel
theorem dX11_layAheads_3 : decode cX11_layAheads 3 = .ok (.bipush 40, 2) := by decide +kernel
theorem dX11_layAheads_5 : decode cX11_layAheads 5 = .ok (.if_icmp .ge 16, 3) := by decide +kernel
theorem dX11_layAheads_8 : decode cX11_layAheads 8 = .ok (.aload_n 0, 1) := by decide +kernel
theorem dX11_layAheads_9 : decode cX11_layAheads 9 = .ok (.getfield 55, 3) := by decide +kernel
theorem dX11_layAheads_12 : decode cX11_layAheads 12 = .ok (.iload_n 1, 1) := by decide +kernel
theorem dX11_layAheads_13 : decode cX11_layAheads 13 = .ok (.iconst 0, 1) := by decide +kernel
theorem dX11_layAheads_14 : decode cX11_layAheads 14 = .ok (.bastore, 1) := by decide +kernel
theorem dX11_layAheads_15 : decode cX11_layAheads 15 = .ok (.iinc 1 1, 3) := by decide +kernel
theorem dX11_layAheads_18 : decode cX11_layAheads 18 = .ok (.goto (-16), 3) := by decide +kernel
theorem dX11_layAheads_21 : decode cX11_layAheads 21 = .ok (.iconst 0, 1) := by decide +kernel
