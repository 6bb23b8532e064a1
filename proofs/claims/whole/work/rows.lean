section
-- ===== PART A: goes FIRST, ahead of the names: the tables' words, and 'selects' of the private methods out of them =====
/-- a private method of a class that the tables say can be made, by its rows of tables_1 -/
def lw_okq (q : MethodName × Nat) : Prop := (q.1.cls ≠ "java/lang/invoke/MethodHandle" ∧ q.1.cls ≠ "java/lang/invoke/VarHandle") ∧ Cond.instantiable q.1.cls q.2 ∈ tables_1 ∧ Cond.privateMethod q.1 ∈ tables_1 ∧ Cond.instanceMethod q.1 ∈ tables_1
theorem lw_p0 : lw_okq (⟨"SpellTables$Reader", "takes", "(I)Z"⟩, 4) := ⟨⟨by decide +kernel, by decide +kernel⟩, List.mem_of_getElem? (i := 66) (by decide +kernel), List.mem_of_getElem? (i := 289) (by decide +kernel), List.mem_of_getElem? (i := 290) (by decide +kernel)⟩
theorem lw_p1 : lw_okq (⟨"SpellTables$Reader", "takesSmall", "(I)Z"⟩, 4) := ⟨⟨by decide +kernel, by decide +kernel⟩, List.mem_of_getElem? (i := 66) (by decide +kernel), List.mem_of_getElem? (i := 296) (by decide +kernel), List.mem_of_getElem? (i := 297) (by decide +kernel)⟩
theorem lw_p2 : lw_okq (⟨"SpellTables$Reader", "takesCapital", "(I)Z"⟩, 4) := ⟨⟨by decide +kernel, by decide +kernel⟩, List.mem_of_getElem? (i := 66) (by decide +kernel), List.mem_of_getElem? (i := 311) (by decide +kernel), List.mem_of_getElem? (i := 312) (by decide +kernel)⟩
theorem lw_p3 : lw_okq (⟨"SpellTables$Reader", "takesComma", "()Z"⟩, 4) := ⟨⟨by decide +kernel, by decide +kernel⟩, List.mem_of_getElem? (i := 66) (by decide +kernel), List.mem_of_getElem? (i := 319) (by decide +kernel), List.mem_of_getElem? (i := 320) (by decide +kernel)⟩
theorem lw_p4 : lw_okq (⟨"SpellTables$Reader", "endRule", "()V"⟩, 4) := ⟨⟨by decide +kernel, by decide +kernel⟩, List.mem_of_getElem? (i := 66) (by decide +kernel), List.mem_of_getElem? (i := 323) (by decide +kernel), List.mem_of_getElem? (i := 324) (by decide +kernel)⟩
theorem lw_p5 : lw_okq (⟨"SpellTables", "forgetTable", "()V"⟩, 14) := ⟨⟨by decide +kernel, by decide +kernel⟩, List.mem_of_getElem? (i := 16) (by decide +kernel), List.mem_of_getElem? (i := 354) (by decide +kernel), List.mem_of_getElem? (i := 355) (by decide +kernel)⟩
theorem lw_p6 : lw_okq (⟨"SpellTables", "stuckPlace", "(I)I"⟩, 14) := ⟨⟨by decide +kernel, by decide +kernel⟩, List.mem_of_getElem? (i := 16) (by decide +kernel), List.mem_of_getElem? (i := 465) (by decide +kernel), List.mem_of_getElem? (i := 466) (by decide +kernel)⟩
theorem lw_p7 : lw_okq (⟨"SpellTables$Spellings", "weighPlace", "(LSpellTables$Line;LSpellTables$Line;I)V"⟩, 3) := ⟨⟨by decide +kernel, by decide +kernel⟩, List.mem_of_getElem? (i := 89) (by decide +kernel), List.mem_of_getElem? (i := 485) (by decide +kernel), List.mem_of_getElem? (i := 486) (by decide +kernel)⟩
theorem lw_p8 : lw_okq (⟨"SpellTables", "knowClashes", "()V"⟩, 14) := ⟨⟨by decide +kernel, by decide +kernel⟩, List.mem_of_getElem? (i := 16) (by decide +kernel), List.mem_of_getElem? (i := 510) (by decide +kernel), List.mem_of_getElem? (i := 511) (by decide +kernel)⟩
theorem lw_p9 : lw_okq (⟨"SpellTables$Remainders", "start", "(LSpellTables$Line;)V"⟩, 2) := ⟨⟨by decide +kernel, by decide +kernel⟩, List.mem_of_getElem? (i := 111) (by decide +kernel), List.mem_of_getElem? (i := 522) (by decide +kernel), List.mem_of_getElem? (i := 523) (by decide +kernel)⟩
theorem lw_p10 : lw_okq (⟨"SpellTables$Remainders", "note", "(I)V"⟩, 2) := ⟨⟨by decide +kernel, by decide +kernel⟩, List.mem_of_getElem? (i := 111) (by decide +kernel), List.mem_of_getElem? (i := 534) (by decide +kernel), List.mem_of_getElem? (i := 535) (by decide +kernel)⟩
theorem lw_p11 : lw_okq (⟨"SpellTables$Remainders", "follow", "(ILSpellTables$Line;)V"⟩, 2) := ⟨⟨by decide +kernel, by decide +kernel⟩, List.mem_of_getElem? (i := 111) (by decide +kernel), List.mem_of_getElem? (i := 540) (by decide +kernel), List.mem_of_getElem? (i := 541) (by decide +kernel)⟩
theorem lw_p12 : lw_okq (⟨"SpellTables$Clashes", "findTexts", "(LSpellTables$Line;)V"⟩, 7) := ⟨⟨by decide +kernel, by decide +kernel⟩, List.mem_of_getElem? (i := 105) (by decide +kernel), List.mem_of_getElem? (i := 553) (by decide +kernel), List.mem_of_getElem? (i := 554) (by decide +kernel)⟩
theorem lw_p13 : lw_okq (⟨"SpellTables$Clashes", "startTexts", "(LSpellTables$Line;)V"⟩, 7) := ⟨⟨by decide +kernel, by decide +kernel⟩, List.mem_of_getElem? (i := 105) (by decide +kernel), List.mem_of_getElem? (i := 557) (by decide +kernel), List.mem_of_getElem? (i := 558) (by decide +kernel)⟩
theorem lw_p14 : lw_okq (⟨"SpellTables$Clashes", "take", "(I)Z"⟩, 7) := ⟨⟨by decide +kernel, by decide +kernel⟩, List.mem_of_getElem? (i := 105) (by decide +kernel), List.mem_of_getElem? (i := 566) (by decide +kernel), List.mem_of_getElem? (i := 567) (by decide +kernel)⟩
theorem lw_p15 : lw_okq (⟨"SpellTables$Clashes", "followText", "(LSpellTables$Line;I)Z"⟩, 7) := ⟨⟨by decide +kernel, by decide +kernel⟩, List.mem_of_getElem? (i := 105) (by decide +kernel), List.mem_of_getElem? (i := 576) (by decide +kernel), List.mem_of_getElem? (i := 577) (by decide +kernel)⟩
def lw_privs_1 : List (MethodName × Nat) := [(⟨"SpellTables$Reader", "takes", "(I)Z"⟩, 4), (⟨"SpellTables$Reader", "takesSmall", "(I)Z"⟩, 4), (⟨"SpellTables$Reader", "takesCapital", "(I)Z"⟩, 4), (⟨"SpellTables$Reader", "takesComma", "()Z"⟩, 4), (⟨"SpellTables$Reader", "endRule", "()V"⟩, 4), (⟨"SpellTables", "forgetTable", "()V"⟩, 14), (⟨"SpellTables", "stuckPlace", "(I)I"⟩, 14), (⟨"SpellTables$Spellings", "weighPlace", "(LSpellTables$Line;LSpellTables$Line;I)V"⟩, 3), (⟨"SpellTables", "knowClashes", "()V"⟩, 14), (⟨"SpellTables$Remainders", "start", "(LSpellTables$Line;)V"⟩, 2), (⟨"SpellTables$Remainders", "note", "(I)V"⟩, 2), (⟨"SpellTables$Remainders", "follow", "(ILSpellTables$Line;)V"⟩, 2), (⟨"SpellTables$Clashes", "findTexts", "(LSpellTables$Line;)V"⟩, 7), (⟨"SpellTables$Clashes", "startTexts", "(LSpellTables$Line;)V"⟩, 7), (⟨"SpellTables$Clashes", "take", "(I)Z"⟩, 7), (⟨"SpellTables$Clashes", "followText", "(LSpellTables$Line;I)Z"⟩, 7)]
theorem lw_r1 : ∀ q ∈ lw_privs_1, lw_okq q := List.forall_mem_cons.mpr ⟨lw_p0, List.forall_mem_cons.mpr ⟨lw_p1, List.forall_mem_cons.mpr ⟨lw_p2, List.forall_mem_cons.mpr ⟨lw_p3, List.forall_mem_cons.mpr ⟨lw_p4, List.forall_mem_cons.mpr ⟨lw_p5, List.forall_mem_cons.mpr ⟨lw_p6, List.forall_mem_cons.mpr ⟨lw_p7, List.forall_mem_cons.mpr ⟨lw_p8, List.forall_mem_cons.mpr ⟨lw_p9, List.forall_mem_cons.mpr ⟨lw_p10, List.forall_mem_cons.mpr ⟨lw_p11, List.forall_mem_cons.mpr ⟨lw_p12, List.forall_mem_cons.mpr ⟨lw_p13, List.forall_mem_cons.mpr ⟨lw_p14, List.forall_mem_cons.mpr ⟨lw_p15, fun _ h => absurd h List.not_mem_nil⟩⟩⟩⟩⟩⟩⟩⟩⟩⟩⟩⟩⟩⟩⟩⟩
theorem lw_p16 : lw_okq (⟨"SpellTables", "knowPartings", "()V"⟩, 14) := ⟨⟨by decide +kernel, by decide +kernel⟩, List.mem_of_getElem? (i := 16) (by decide +kernel), List.mem_of_getElem? (i := 607) (by decide +kernel), List.mem_of_getElem? (i := 608) (by decide +kernel)⟩
theorem lw_p17 : lw_okq (⟨"SpellTables$Trials", "drawRow", "(I)V"⟩, 8) := ⟨⟨by decide +kernel, by decide +kernel⟩, List.mem_of_getElem? (i := 179) (by decide +kernel), List.mem_of_getElem? (i := 640) (by decide +kernel), List.mem_of_getElem? (i := 641) (by decide +kernel)⟩
theorem lw_p18 : lw_okq (⟨"SpellTables$Trials", "draw", "(I)I"⟩, 8) := ⟨⟨by decide +kernel, by decide +kernel⟩, List.mem_of_getElem? (i := 179) (by decide +kernel), List.mem_of_getElem? (i := 645) (by decide +kernel), List.mem_of_getElem? (i := 646) (by decide +kernel)⟩
theorem lw_p19 : lw_okq (⟨"SpellTables$Trials", "tryRow", "(LSpellTables$Rules;)V"⟩, 8) := ⟨⟨by decide +kernel, by decide +kernel⟩, List.mem_of_getElem? (i := 179) (by decide +kernel), List.mem_of_getElem? (i := 654) (by decide +kernel), List.mem_of_getElem? (i := 655) (by decide +kernel)⟩
theorem lw_p20 : lw_okq (⟨"SpellTables", "hashRules", "(J)J"⟩, 14) := ⟨⟨by decide +kernel, by decide +kernel⟩, List.mem_of_getElem? (i := 16) (by decide +kernel), List.mem_of_getElem? (i := 683) (by decide +kernel), List.mem_of_getElem? (i := 684) (by decide +kernel)⟩
theorem lw_p21 : lw_okq (⟨"SpellTables", "hashRows", "(J)J"⟩, 14) := ⟨⟨by decide +kernel, by decide +kernel⟩, List.mem_of_getElem? (i := 16) (by decide +kernel), List.mem_of_getElem? (i := 698) (by decide +kernel), List.mem_of_getElem? (i := 699) (by decide +kernel)⟩
theorem lw_p22 : lw_okq (⟨"SpellTables", "hashClashes", "(J)J"⟩, 14) := ⟨⟨by decide +kernel, by decide +kernel⟩, List.mem_of_getElem? (i := 16) (by decide +kernel), List.mem_of_getElem? (i := 702) (by decide +kernel), List.mem_of_getElem? (i := 703) (by decide +kernel)⟩
theorem lw_p23 : lw_okq (⟨"SpellTablesModel", "read", "()I"⟩, 38) := ⟨⟨by decide +kernel, by decide +kernel⟩, List.mem_of_getElem? (i := 707) (by decide +kernel), List.mem_of_getElem? (i := 844) (by decide +kernel), List.mem_of_getElem? (i := 845) (by decide +kernel)⟩
theorem lw_p24 : lw_okq (⟨"SpellTablesModel", "takes", "(I)Z"⟩, 38) := ⟨⟨by decide +kernel, by decide +kernel⟩, List.mem_of_getElem? (i := 707) (by decide +kernel), List.mem_of_getElem? (i := 848) (by decide +kernel), List.mem_of_getElem? (i := 849) (by decide +kernel)⟩
theorem lw_p25 : lw_okq (⟨"SpellTablesModel", "takesComma", "()Z"⟩, 38) := ⟨⟨by decide +kernel, by decide +kernel⟩, List.mem_of_getElem? (i := 707) (by decide +kernel), List.mem_of_getElem? (i := 852) (by decide +kernel), List.mem_of_getElem? (i := 853) (by decide +kernel)⟩
theorem lw_p26 : lw_okq (⟨"SpellTablesModel", "takesLeft", "(I)Z"⟩, 38) := ⟨⟨by decide +kernel, by decide +kernel⟩, List.mem_of_getElem? (i := 707) (by decide +kernel), List.mem_of_getElem? (i := 859) (by decide +kernel), List.mem_of_getElem? (i := 860) (by decide +kernel)⟩
theorem lw_p27 : lw_okq (⟨"SpellTablesModel", "takesRight", "(I)Z"⟩, 38) := ⟨⟨by decide +kernel, by decide +kernel⟩, List.mem_of_getElem? (i := 707) (by decide +kernel), List.mem_of_getElem? (i := 866) (by decide +kernel), List.mem_of_getElem? (i := 867) (by decide +kernel)⟩
theorem lw_p28 : lw_okq (⟨"SpellTablesModel", "isTwice", "()Z"⟩, 38) := ⟨⟨by decide +kernel, by decide +kernel⟩, List.mem_of_getElem? (i := 707) (by decide +kernel), List.mem_of_getElem? (i := 870) (by decide +kernel), List.mem_of_getElem? (i := 871) (by decide +kernel)⟩
theorem lw_p29 : lw_okq (⟨"SpellTablesModel", "isSmallPage", "()Z"⟩, 38) := ⟨⟨by decide +kernel, by decide +kernel⟩, List.mem_of_getElem? (i := 707) (by decide +kernel), List.mem_of_getElem? (i := 882) (by decide +kernel), List.mem_of_getElem? (i := 883) (by decide +kernel)⟩
theorem lw_p30 : lw_okq (⟨"SpellTablesModel", "turnRow", "()I"⟩, 38) := ⟨⟨by decide +kernel, by decide +kernel⟩, List.mem_of_getElem? (i := 707) (by decide +kernel), List.mem_of_getElem? (i := 886) (by decide +kernel), List.mem_of_getElem? (i := 887) (by decide +kernel)⟩
theorem lw_p31 : lw_okq (⟨"SpellTablesModel", "longestLeft", "(I)I"⟩, 38) := ⟨⟨by decide +kernel, by decide +kernel⟩, List.mem_of_getElem? (i := 707) (by decide +kernel), List.mem_of_getElem? (i := 890) (by decide +kernel), List.mem_of_getElem? (i := 891) (by decide +kernel)⟩
def lw_privs_2 : List (MethodName × Nat) := [(⟨"SpellTables", "knowPartings", "()V"⟩, 14), (⟨"SpellTables$Trials", "drawRow", "(I)V"⟩, 8), (⟨"SpellTables$Trials", "draw", "(I)I"⟩, 8), (⟨"SpellTables$Trials", "tryRow", "(LSpellTables$Rules;)V"⟩, 8), (⟨"SpellTables", "hashRules", "(J)J"⟩, 14), (⟨"SpellTables", "hashRows", "(J)J"⟩, 14), (⟨"SpellTables", "hashClashes", "(J)J"⟩, 14), (⟨"SpellTablesModel", "read", "()I"⟩, 38), (⟨"SpellTablesModel", "takes", "(I)Z"⟩, 38), (⟨"SpellTablesModel", "takesComma", "()Z"⟩, 38), (⟨"SpellTablesModel", "takesLeft", "(I)Z"⟩, 38), (⟨"SpellTablesModel", "takesRight", "(I)Z"⟩, 38), (⟨"SpellTablesModel", "isTwice", "()Z"⟩, 38), (⟨"SpellTablesModel", "isSmallPage", "()Z"⟩, 38), (⟨"SpellTablesModel", "turnRow", "()I"⟩, 38), (⟨"SpellTablesModel", "longestLeft", "(I)I"⟩, 38)]
theorem lw_r2 : ∀ q ∈ lw_privs_2, lw_okq q := List.forall_mem_cons.mpr ⟨lw_p16, List.forall_mem_cons.mpr ⟨lw_p17, List.forall_mem_cons.mpr ⟨lw_p18, List.forall_mem_cons.mpr ⟨lw_p19, List.forall_mem_cons.mpr ⟨lw_p20, List.forall_mem_cons.mpr ⟨lw_p21, List.forall_mem_cons.mpr ⟨lw_p22, List.forall_mem_cons.mpr ⟨lw_p23, List.forall_mem_cons.mpr ⟨lw_p24, List.forall_mem_cons.mpr ⟨lw_p25, List.forall_mem_cons.mpr ⟨lw_p26, List.forall_mem_cons.mpr ⟨lw_p27, List.forall_mem_cons.mpr ⟨lw_p28, List.forall_mem_cons.mpr ⟨lw_p29, List.forall_mem_cons.mpr ⟨lw_p30, List.forall_mem_cons.mpr ⟨lw_p31, fun _ h => absurd h List.not_mem_nil⟩⟩⟩⟩⟩⟩⟩⟩⟩⟩⟩⟩⟩⟩⟩⟩
theorem lw_p32 : lw_okq (⟨"SpellTablesModel", "signLength", "(I)I"⟩, 38) := ⟨⟨by decide +kernel, by decide +kernel⟩, List.mem_of_getElem? (i := 707) (by decide +kernel), List.mem_of_getElem? (i := 894) (by decide +kernel), List.mem_of_getElem? (i := 895) (by decide +kernel)⟩
theorem lw_p33 : lw_okq (⟨"SpellTablesModel", "signAt", "(II)I"⟩, 38) := ⟨⟨by decide +kernel, by decide +kernel⟩, List.mem_of_getElem? (i := 707) (by decide +kernel), List.mem_of_getElem? (i := 898) (by decide +kernel), List.mem_of_getElem? (i := 899) (by decide +kernel)⟩
theorem lw_p34 : lw_okq (⟨"SpellTablesModel", "isRule", "(I)Z"⟩, 38) := ⟨⟨by decide +kernel, by decide +kernel⟩, List.mem_of_getElem? (i := 707) (by decide +kernel), List.mem_of_getElem? (i := 910) (by decide +kernel), List.mem_of_getElem? (i := 911) (by decide +kernel)⟩
theorem lw_p35 : lw_okq (⟨"SpellTablesModel", "ruleNow", "(II)I"⟩, 38) := ⟨⟨by decide +kernel, by decide +kernel⟩, List.mem_of_getElem? (i := 707) (by decide +kernel), List.mem_of_getElem? (i := 922) (by decide +kernel), List.mem_of_getElem? (i := 923) (by decide +kernel)⟩
theorem lw_p36 : lw_okq (⟨"SpellTablesModel", "begunBy", "(IZ)I"⟩, 38) := ⟨⟨by decide +kernel, by decide +kernel⟩, List.mem_of_getElem? (i := 707) (by decide +kernel), List.mem_of_getElem? (i := 926) (by decide +kernel), List.mem_of_getElem? (i := 927) (by decide +kernel)⟩
theorem lw_p37 : lw_okq (⟨"SpellTablesModel", "leftBegins", "(II)Z"⟩, 38) := ⟨⟨by decide +kernel, by decide +kernel⟩, List.mem_of_getElem? (i := 707) (by decide +kernel), List.mem_of_getElem? (i := 930) (by decide +kernel), List.mem_of_getElem? (i := 931) (by decide +kernel)⟩
theorem lw_p38 : lw_okq (⟨"SpellTablesModel", "begins", "(II)Z"⟩, 38) := ⟨⟨by decide +kernel, by decide +kernel⟩, List.mem_of_getElem? (i := 707) (by decide +kernel), List.mem_of_getElem? (i := 934) (by decide +kernel), List.mem_of_getElem? (i := 935) (by decide +kernel)⟩
theorem lw_p39 : lw_okq (⟨"SpellTablesModel", "backNow", "(I)I"⟩, 38) := ⟨⟨by decide +kernel, by decide +kernel⟩, List.mem_of_getElem? (i := 707) (by decide +kernel), List.mem_of_getElem? (i := 950) (by decide +kernel), List.mem_of_getElem? (i := 951) (by decide +kernel)⟩
theorem lw_p40 : lw_okq (⟨"SpellTablesModel", "workText", "()V"⟩, 38) := ⟨⟨by decide +kernel, by decide +kernel⟩, List.mem_of_getElem? (i := 707) (by decide +kernel), List.mem_of_getElem? (i := 954) (by decide +kernel), List.mem_of_getElem? (i := 955) (by decide +kernel)⟩
theorem lw_p41 : lw_okq (⟨"SpellTablesModel", "layBack", "()V"⟩, 38) := ⟨⟨by decide +kernel, by decide +kernel⟩, List.mem_of_getElem? (i := 707) (by decide +kernel), List.mem_of_getElem? (i := 958) (by decide +kernel), List.mem_of_getElem? (i := 959) (by decide +kernel)⟩
theorem lw_p42 : lw_okq (⟨"SpellTablesModel", "longestSign", "(I)I"⟩, 38) := ⟨⟨by decide +kernel, by decide +kernel⟩, List.mem_of_getElem? (i := 707) (by decide +kernel), List.mem_of_getElem? (i := 962) (by decide +kernel), List.mem_of_getElem? (i := 963) (by decide +kernel)⟩
theorem lw_p43 : lw_okq (⟨"SpellTablesModel", "lies", "(II)Z"⟩, 38) := ⟨⟨by decide +kernel, by decide +kernel⟩, List.mem_of_getElem? (i := 707) (by decide +kernel), List.mem_of_getElem? (i := 966) (by decide +kernel), List.mem_of_getElem? (i := 967) (by decide +kernel)⟩
theorem lw_p44 : lw_okq (⟨"SpellTablesModel", "backAtNow", "(I)I"⟩, 38) := ⟨⟨by decide +kernel, by decide +kernel⟩, List.mem_of_getElem? (i := 707) (by decide +kernel), List.mem_of_getElem? (i := 974) (by decide +kernel), List.mem_of_getElem? (i := 975) (by decide +kernel)⟩
theorem lw_p45 : lw_okq (⟨"SpellTablesModel", "waysNow", "()I"⟩, 38) := ⟨⟨by decide +kernel, by decide +kernel⟩, List.mem_of_getElem? (i := 707) (by decide +kernel), List.mem_of_getElem? (i := 982) (by decide +kernel), List.mem_of_getElem? (i := 983) (by decide +kernel)⟩
theorem lw_p46 : lw_okq (⟨"SpellTablesModel", "layWays", "()V"⟩, 38) := ⟨⟨by decide +kernel, by decide +kernel⟩, List.mem_of_getElem? (i := 707) (by decide +kernel), List.mem_of_getElem? (i := 986) (by decide +kernel), List.mem_of_getElem? (i := 987) (by decide +kernel)⟩
theorem lw_p47 : lw_okq (⟨"SpellTablesModel", "firstNow", "(I)I"⟩, 38) := ⟨⟨by decide +kernel, by decide +kernel⟩, List.mem_of_getElem? (i := 707) (by decide +kernel), List.mem_of_getElem? (i := 995) (by decide +kernel), List.mem_of_getElem? (i := 996) (by decide +kernel)⟩
def lw_privs_3 : List (MethodName × Nat) := [(⟨"SpellTablesModel", "signLength", "(I)I"⟩, 38), (⟨"SpellTablesModel", "signAt", "(II)I"⟩, 38), (⟨"SpellTablesModel", "isRule", "(I)Z"⟩, 38), (⟨"SpellTablesModel", "ruleNow", "(II)I"⟩, 38), (⟨"SpellTablesModel", "begunBy", "(IZ)I"⟩, 38), (⟨"SpellTablesModel", "leftBegins", "(II)Z"⟩, 38), (⟨"SpellTablesModel", "begins", "(II)Z"⟩, 38), (⟨"SpellTablesModel", "backNow", "(I)I"⟩, 38), (⟨"SpellTablesModel", "workText", "()V"⟩, 38), (⟨"SpellTablesModel", "layBack", "()V"⟩, 38), (⟨"SpellTablesModel", "longestSign", "(I)I"⟩, 38), (⟨"SpellTablesModel", "lies", "(II)Z"⟩, 38), (⟨"SpellTablesModel", "backAtNow", "(I)I"⟩, 38), (⟨"SpellTablesModel", "waysNow", "()I"⟩, 38), (⟨"SpellTablesModel", "layWays", "()V"⟩, 38), (⟨"SpellTablesModel", "firstNow", "(I)I"⟩, 38)]
theorem lw_r3 : ∀ q ∈ lw_privs_3, lw_okq q := List.forall_mem_cons.mpr ⟨lw_p32, List.forall_mem_cons.mpr ⟨lw_p33, List.forall_mem_cons.mpr ⟨lw_p34, List.forall_mem_cons.mpr ⟨lw_p35, List.forall_mem_cons.mpr ⟨lw_p36, List.forall_mem_cons.mpr ⟨lw_p37, List.forall_mem_cons.mpr ⟨lw_p38, List.forall_mem_cons.mpr ⟨lw_p39, List.forall_mem_cons.mpr ⟨lw_p40, List.forall_mem_cons.mpr ⟨lw_p41, List.forall_mem_cons.mpr ⟨lw_p42, List.forall_mem_cons.mpr ⟨lw_p43, List.forall_mem_cons.mpr ⟨lw_p44, List.forall_mem_cons.mpr ⟨lw_p45, List.forall_mem_cons.mpr ⟨lw_p46, List.forall_mem_cons.mpr ⟨lw_p47, fun _ h => absurd h List.not_mem_nil⟩⟩⟩⟩⟩⟩⟩⟩⟩⟩⟩⟩⟩⟩⟩⟩
theorem lw_p48 : lw_okq (⟨"SpellTablesModel", "ruleIn", "(II)I"⟩, 38) := ⟨⟨by decide +kernel, by decide +kernel⟩, List.mem_of_getElem? (i := 707) (by decide +kernel), List.mem_of_getElem? (i := 999) (by decide +kernel), List.mem_of_getElem? (i := 1000) (by decide +kernel)⟩
theorem lw_p49 : lw_okq (⟨"SpellTablesModel", "layAheads", "()V"⟩, 38) := ⟨⟨by decide +kernel, by decide +kernel⟩, List.mem_of_getElem? (i := 707) (by decide +kernel), List.mem_of_getElem? (i := 1007) (by decide +kernel), List.mem_of_getElem? (i := 1008) (by decide +kernel)⟩
theorem lw_p50 : lw_okq (⟨"SpellTablesModel", "comesAhead", "(I)V"⟩, 38) := ⟨⟨by decide +kernel, by decide +kernel⟩, List.mem_of_getElem? (i := 707) (by decide +kernel), List.mem_of_getElem? (i := 1011) (by decide +kernel), List.mem_of_getElem? (i := 1012) (by decide +kernel)⟩
theorem lw_p51 : lw_okq (⟨"SpellTablesModel", "leastOf", "(I)I"⟩, 38) := ⟨⟨by decide +kernel, by decide +kernel⟩, List.mem_of_getElem? (i := 707) (by decide +kernel), List.mem_of_getElem? (i := 1015) (by decide +kernel), List.mem_of_getElem? (i := 1016) (by decide +kernel)⟩
theorem lw_p52 : lw_okq (⟨"SpellTablesModel", "isPart", "(I)Z"⟩, 38) := ⟨⟨by decide +kernel, by decide +kernel⟩, List.mem_of_getElem? (i := 707) (by decide +kernel), List.mem_of_getElem? (i := 1019) (by decide +kernel), List.mem_of_getElem? (i := 1020) (by decide +kernel)⟩
theorem lw_p53 : lw_okq (⟨"SpellTablesModel", "areAlike", "(II)Z"⟩, 38) := ⟨⟨by decide +kernel, by decide +kernel⟩, List.mem_of_getElem? (i := 707) (by decide +kernel), List.mem_of_getElem? (i := 1023) (by decide +kernel), List.mem_of_getElem? (i := 1024) (by decide +kernel)⟩
theorem lw_p54 : lw_okq (⟨"SpellTablesModel", "lengthOf", "(I)I"⟩, 38) := ⟨⟨by decide +kernel, by decide +kernel⟩, List.mem_of_getElem? (i := 707) (by decide +kernel), List.mem_of_getElem? (i := 1027) (by decide +kernel), List.mem_of_getElem? (i := 1028) (by decide +kernel)⟩
theorem lw_p55 : lw_okq (⟨"SpellTablesModel", "letterOf", "(II)I"⟩, 38) := ⟨⟨by decide +kernel, by decide +kernel⟩, List.mem_of_getElem? (i := 707) (by decide +kernel), List.mem_of_getElem? (i := 1031) (by decide +kernel), List.mem_of_getElem? (i := 1032) (by decide +kernel)⟩
theorem lw_p56 : lw_okq (⟨"SpellTablesModel", "goOnFrom", "(I)V"⟩, 38) := ⟨⟨by decide +kernel, by decide +kernel⟩, List.mem_of_getElem? (i := 707) (by decide +kernel), List.mem_of_getElem? (i := 1035) (by decide +kernel), List.mem_of_getElem? (i := 1036) (by decide +kernel)⟩
theorem lw_p57 : lw_okq (⟨"SpellTablesModel", "partBegins", "(II)Z"⟩, 38) := ⟨⟨by decide +kernel, by decide +kernel⟩, List.mem_of_getElem? (i := 707) (by decide +kernel), List.mem_of_getElem? (i := 1039) (by decide +kernel), List.mem_of_getElem? (i := 1040) (by decide +kernel)⟩
theorem lw_p58 : lw_okq (⟨"SpellTablesModel", "signBegins", "(II)Z"⟩, 38) := ⟨⟨by decide +kernel, by decide +kernel⟩, List.mem_of_getElem? (i := 707) (by decide +kernel), List.mem_of_getElem? (i := 1043) (by decide +kernel), List.mem_of_getElem? (i := 1044) (by decide +kernel)⟩
theorem lw_p59 : lw_okq (⟨"SpellTablesModel", "aheadOf", "(I)I"⟩, 38) := ⟨⟨by decide +kernel, by decide +kernel⟩, List.mem_of_getElem? (i := 707) (by decide +kernel), List.mem_of_getElem? (i := 1047) (by decide +kernel), List.mem_of_getElem? (i := 1048) (by decide +kernel)⟩
theorem lw_p60 : lw_okq (⟨"SpellTablesModel", "isBefore", "(II)Z"⟩, 38) := ⟨⟨by decide +kernel, by decide +kernel⟩, List.mem_of_getElem? (i := 707) (by decide +kernel), List.mem_of_getElem? (i := 1051) (by decide +kernel), List.mem_of_getElem? (i := 1052) (by decide +kernel)⟩
theorem lw_p61 : lw_okq (⟨"SpellTablesModel", "clashNow", "(I)I"⟩, 38) := ⟨⟨by decide +kernel, by decide +kernel⟩, List.mem_of_getElem? (i := 707) (by decide +kernel), List.mem_of_getElem? (i := 1063) (by decide +kernel), List.mem_of_getElem? (i := 1064) (by decide +kernel)⟩
theorem lw_p62 : lw_okq (⟨"SpellTablesModel", "isClean", "()Z"⟩, 38) := ⟨⟨by decide +kernel, by decide +kernel⟩, List.mem_of_getElem? (i := 707) (by decide +kernel), List.mem_of_getElem? (i := 1067) (by decide +kernel), List.mem_of_getElem? (i := 1068) (by decide +kernel)⟩
theorem lw_p63 : lw_okq (⟨"SpellTablesModel", "aheadsMany", "()I"⟩, 38) := ⟨⟨by decide +kernel, by decide +kernel⟩, List.mem_of_getElem? (i := 707) (by decide +kernel), List.mem_of_getElem? (i := 1071) (by decide +kernel), List.mem_of_getElem? (i := 1072) (by decide +kernel)⟩
def lw_privs_4 : List (MethodName × Nat) := [(⟨"SpellTablesModel", "ruleIn", "(II)I"⟩, 38), (⟨"SpellTablesModel", "layAheads", "()V"⟩, 38), (⟨"SpellTablesModel", "comesAhead", "(I)V"⟩, 38), (⟨"SpellTablesModel", "leastOf", "(I)I"⟩, 38), (⟨"SpellTablesModel", "isPart", "(I)Z"⟩, 38), (⟨"SpellTablesModel", "areAlike", "(II)Z"⟩, 38), (⟨"SpellTablesModel", "lengthOf", "(I)I"⟩, 38), (⟨"SpellTablesModel", "letterOf", "(II)I"⟩, 38), (⟨"SpellTablesModel", "goOnFrom", "(I)V"⟩, 38), (⟨"SpellTablesModel", "partBegins", "(II)Z"⟩, 38), (⟨"SpellTablesModel", "signBegins", "(II)Z"⟩, 38), (⟨"SpellTablesModel", "aheadOf", "(I)I"⟩, 38), (⟨"SpellTablesModel", "isBefore", "(II)Z"⟩, 38), (⟨"SpellTablesModel", "clashNow", "(I)I"⟩, 38), (⟨"SpellTablesModel", "isClean", "()Z"⟩, 38), (⟨"SpellTablesModel", "aheadsMany", "()I"⟩, 38)]
theorem lw_r4 : ∀ q ∈ lw_privs_4, lw_okq q := List.forall_mem_cons.mpr ⟨lw_p48, List.forall_mem_cons.mpr ⟨lw_p49, List.forall_mem_cons.mpr ⟨lw_p50, List.forall_mem_cons.mpr ⟨lw_p51, List.forall_mem_cons.mpr ⟨lw_p52, List.forall_mem_cons.mpr ⟨lw_p53, List.forall_mem_cons.mpr ⟨lw_p54, List.forall_mem_cons.mpr ⟨lw_p55, List.forall_mem_cons.mpr ⟨lw_p56, List.forall_mem_cons.mpr ⟨lw_p57, List.forall_mem_cons.mpr ⟨lw_p58, List.forall_mem_cons.mpr ⟨lw_p59, List.forall_mem_cons.mpr ⟨lw_p60, List.forall_mem_cons.mpr ⟨lw_p61, List.forall_mem_cons.mpr ⟨lw_p62, List.forall_mem_cons.mpr ⟨lw_p63, fun _ h => absurd h List.not_mem_nil⟩⟩⟩⟩⟩⟩⟩⟩⟩⟩⟩⟩⟩⟩⟩⟩
theorem lw_p64 : lw_okq (⟨"SpellTablesModel", "clashTold", "(I)I"⟩, 38) := ⟨⟨by decide +kernel, by decide +kernel⟩, List.mem_of_getElem? (i := 707) (by decide +kernel), List.mem_of_getElem? (i := 1075) (by decide +kernel), List.mem_of_getElem? (i := 1076) (by decide +kernel)⟩
theorem lw_p65 : lw_okq (⟨"SpellTablesModel", "layClash", "()V"⟩, 38) := ⟨⟨by decide +kernel, by decide +kernel⟩, List.mem_of_getElem? (i := 707) (by decide +kernel), List.mem_of_getElem? (i := 1079) (by decide +kernel), List.mem_of_getElem? (i := 1080) (by decide +kernel)⟩
theorem lw_p66 : lw_okq (⟨"SpellTablesModel", "layBehind", "()V"⟩, 38) := ⟨⟨by decide +kernel, by decide +kernel⟩, List.mem_of_getElem? (i := 707) (by decide +kernel), List.mem_of_getElem? (i := 1083) (by decide +kernel), List.mem_of_getElem? (i := 1084) (by decide +kernel)⟩
theorem lw_p67 : lw_okq (⟨"SpellTablesModel", "goesOn", "(I)Z"⟩, 38) := ⟨⟨by decide +kernel, by decide +kernel⟩, List.mem_of_getElem? (i := 707) (by decide +kernel), List.mem_of_getElem? (i := 1087) (by decide +kernel), List.mem_of_getElem? (i := 1088) (by decide +kernel)⟩
theorem lw_p68 : lw_okq (⟨"SpellTablesModel", "goesOnBy", "(II)Z"⟩, 38) := ⟨⟨by decide +kernel, by decide +kernel⟩, List.mem_of_getElem? (i := 707) (by decide +kernel), List.mem_of_getElem? (i := 1091) (by decide +kernel), List.mem_of_getElem? (i := 1092) (by decide +kernel)⟩
theorem lw_p69 : lw_okq (⟨"SpellTablesModel", "tryBehind", "(I)V"⟩, 38) := ⟨⟨by decide +kernel, by decide +kernel⟩, List.mem_of_getElem? (i := 707) (by decide +kernel), List.mem_of_getElem? (i := 1095) (by decide +kernel), List.mem_of_getElem? (i := 1096) (by decide +kernel)⟩
theorem lw_p70 : lw_okq (⟨"SpellTablesModel", "tryLetter", "(I)V"⟩, 38) := ⟨⟨by decide +kernel, by decide +kernel⟩, List.mem_of_getElem? (i := 707) (by decide +kernel), List.mem_of_getElem? (i := 1099) (by decide +kernel), List.mem_of_getElem? (i := 1100) (by decide +kernel)⟩
theorem lw_p71 : lw_okq (⟨"SpellTablesModel", "takesTried", "(I)Z"⟩, 38) := ⟨⟨by decide +kernel, by decide +kernel⟩, List.mem_of_getElem? (i := 707) (by decide +kernel), List.mem_of_getElem? (i := 1103) (by decide +kernel), List.mem_of_getElem? (i := 1104) (by decide +kernel)⟩
theorem lw_p72 : lw_okq (⟨"SpellTablesModel", "isTriedLess", "(I)Z"⟩, 38) := ⟨⟨by decide +kernel, by decide +kernel⟩, List.mem_of_getElem? (i := 707) (by decide +kernel), List.mem_of_getElem? (i := 1107) (by decide +kernel), List.mem_of_getElem? (i := 1108) (by decide +kernel)⟩
theorem lw_p73 : lw_okq (⟨"SpellTablesModel", "clashOf", "(II)V"⟩, 38) := ⟨⟨by decide +kernel, by decide +kernel⟩, List.mem_of_getElem? (i := 707) (by decide +kernel), List.mem_of_getElem? (i := 1111) (by decide +kernel), List.mem_of_getElem? (i := 1112) (by decide +kernel)⟩
theorem lw_p74 : lw_okq (⟨"SpellTablesModel", "isClashLess", "()Z"⟩, 38) := ⟨⟨by decide +kernel, by decide +kernel⟩, List.mem_of_getElem? (i := 707) (by decide +kernel), List.mem_of_getElem? (i := 1115) (by decide +kernel), List.mem_of_getElem? (i := 1116) (by decide +kernel)⟩
theorem lw_p75 : lw_okq (⟨"SpellTablesModel", "rowMany", "(I)I"⟩, 38) := ⟨⟨by decide +kernel, by decide +kernel⟩, List.mem_of_getElem? (i := 707) (by decide +kernel), List.mem_of_getElem? (i := 1119) (by decide +kernel), List.mem_of_getElem? (i := 1120) (by decide +kernel)⟩
theorem lw_p76 : lw_okq (⟨"SpellTablesModel", "clashingNow", "(II)I"⟩, 38) := ⟨⟨by decide +kernel, by decide +kernel⟩, List.mem_of_getElem? (i := 707) (by decide +kernel), List.mem_of_getElem? (i := 1131) (by decide +kernel), List.mem_of_getElem? (i := 1132) (by decide +kernel)⟩
theorem lw_p77 : lw_okq (⟨"SpellTablesModel", "partingNow", "(I)I"⟩, 38) := ⟨⟨by decide +kernel, by decide +kernel⟩, List.mem_of_getElem? (i := 707) (by decide +kernel), List.mem_of_getElem? (i := 1139) (by decide +kernel), List.mem_of_getElem? (i := 1140) (by decide +kernel)⟩
theorem lw_p78 : lw_okq (⟨"SpellTablesModel", "partingSet", "()I"⟩, 38) := ⟨⟨by decide +kernel, by decide +kernel⟩, List.mem_of_getElem? (i := 707) (by decide +kernel), List.mem_of_getElem? (i := 1143) (by decide +kernel), List.mem_of_getElem? (i := 1144) (by decide +kernel)⟩
theorem lw_p79 : lw_okq (⟨"SpellTablesModel", "trialNow", "(III)I"⟩, 38) := ⟨⟨by decide +kernel, by decide +kernel⟩, List.mem_of_getElem? (i := 707) (by decide +kernel), List.mem_of_getElem? (i := 1154) (by decide +kernel), List.mem_of_getElem? (i := 1155) (by decide +kernel)⟩
def lw_privs_5 : List (MethodName × Nat) := [(⟨"SpellTablesModel", "clashTold", "(I)I"⟩, 38), (⟨"SpellTablesModel", "layClash", "()V"⟩, 38), (⟨"SpellTablesModel", "layBehind", "()V"⟩, 38), (⟨"SpellTablesModel", "goesOn", "(I)Z"⟩, 38), (⟨"SpellTablesModel", "goesOnBy", "(II)Z"⟩, 38), (⟨"SpellTablesModel", "tryBehind", "(I)V"⟩, 38), (⟨"SpellTablesModel", "tryLetter", "(I)V"⟩, 38), (⟨"SpellTablesModel", "takesTried", "(I)Z"⟩, 38), (⟨"SpellTablesModel", "isTriedLess", "(I)Z"⟩, 38), (⟨"SpellTablesModel", "clashOf", "(II)V"⟩, 38), (⟨"SpellTablesModel", "isClashLess", "()Z"⟩, 38), (⟨"SpellTablesModel", "rowMany", "(I)I"⟩, 38), (⟨"SpellTablesModel", "clashingNow", "(II)I"⟩, 38), (⟨"SpellTablesModel", "partingNow", "(I)I"⟩, 38), (⟨"SpellTablesModel", "partingSet", "()I"⟩, 38), (⟨"SpellTablesModel", "trialNow", "(III)I"⟩, 38)]
theorem lw_r5 : ∀ q ∈ lw_privs_5, lw_okq q := List.forall_mem_cons.mpr ⟨lw_p64, List.forall_mem_cons.mpr ⟨lw_p65, List.forall_mem_cons.mpr ⟨lw_p66, List.forall_mem_cons.mpr ⟨lw_p67, List.forall_mem_cons.mpr ⟨lw_p68, List.forall_mem_cons.mpr ⟨lw_p69, List.forall_mem_cons.mpr ⟨lw_p70, List.forall_mem_cons.mpr ⟨lw_p71, List.forall_mem_cons.mpr ⟨lw_p72, List.forall_mem_cons.mpr ⟨lw_p73, List.forall_mem_cons.mpr ⟨lw_p74, List.forall_mem_cons.mpr ⟨lw_p75, List.forall_mem_cons.mpr ⟨lw_p76, List.forall_mem_cons.mpr ⟨lw_p77, List.forall_mem_cons.mpr ⟨lw_p78, List.forall_mem_cons.mpr ⟨lw_p79, fun _ h => absurd h List.not_mem_nil⟩⟩⟩⟩⟩⟩⟩⟩⟩⟩⟩⟩⟩⟩⟩⟩
theorem lw_p80 : lw_okq (⟨"SpellTablesModel", "drawRow", "()V"⟩, 38) := ⟨⟨by decide +kernel, by decide +kernel⟩, List.mem_of_getElem? (i := 707) (by decide +kernel), List.mem_of_getElem? (i := 1158) (by decide +kernel), List.mem_of_getElem? (i := 1159) (by decide +kernel)⟩
theorem lw_p81 : lw_okq (⟨"SpellTablesModel", "draw", "(I)I"⟩, 38) := ⟨⟨by decide +kernel, by decide +kernel⟩, List.mem_of_getElem? (i := 707) (by decide +kernel), List.mem_of_getElem? (i := 1162) (by decide +kernel), List.mem_of_getElem? (i := 1163) (by decide +kernel)⟩
theorem lw_p82 : lw_okq (⟨"SpellTablesModel", "isSameRow", "()Z"⟩, 38) := ⟨⟨by decide +kernel, by decide +kernel⟩, List.mem_of_getElem? (i := 707) (by decide +kernel), List.mem_of_getElem? (i := 1170) (by decide +kernel), List.mem_of_getElem? (i := 1171) (by decide +kernel)⟩
theorem lw_p83 : lw_okq (⟨"SpellTablesModel", "howMany", "(I)I"⟩, 38) := ⟨⟨by decide +kernel, by decide +kernel⟩, List.mem_of_getElem? (i := 707) (by decide +kernel), List.mem_of_getElem? (i := 1178) (by decide +kernel), List.mem_of_getElem? (i := 1179) (by decide +kernel)⟩
theorem lw_p84 : lw_okq (⟨"SpellTablesModel", "mixRules", "()V"⟩, 38) := ⟨⟨by decide +kernel, by decide +kernel⟩, List.mem_of_getElem? (i := 707) (by decide +kernel), List.mem_of_getElem? (i := 1187) (by decide +kernel), List.mem_of_getElem? (i := 1188) (by decide +kernel)⟩
theorem lw_p85 : lw_okq (⟨"SpellTablesModel", "mix", "(J)V"⟩, 38) := ⟨⟨by decide +kernel, by decide +kernel⟩, List.mem_of_getElem? (i := 707) (by decide +kernel), List.mem_of_getElem? (i := 1191) (by decide +kernel), List.mem_of_getElem? (i := 1192) (by decide +kernel)⟩
theorem lw_p86 : lw_okq (⟨"SpellTablesModel", "mixText", "()V"⟩, 38) := ⟨⟨by decide +kernel, by decide +kernel⟩, List.mem_of_getElem? (i := 707) (by decide +kernel), List.mem_of_getElem? (i := 1196) (by decide +kernel), List.mem_of_getElem? (i := 1197) (by decide +kernel)⟩
theorem lw_p87 : lw_okq (⟨"SpellTablesModel", "mixClash", "()V"⟩, 38) := ⟨⟨by decide +kernel, by decide +kernel⟩, List.mem_of_getElem? (i := 707) (by decide +kernel), List.mem_of_getElem? (i := 1200) (by decide +kernel), List.mem_of_getElem? (i := 1201) (by decide +kernel)⟩
theorem lw_p88 : lw_okq (⟨"SpellTablesModel", "mixAheads", "()V"⟩, 38) := ⟨⟨by decide +kernel, by decide +kernel⟩, List.mem_of_getElem? (i := 707) (by decide +kernel), List.mem_of_getElem? (i := 1204) (by decide +kernel), List.mem_of_getElem? (i := 1205) (by decide +kernel)⟩
def lw_privs_6 : List (MethodName × Nat) := [(⟨"SpellTablesModel", "drawRow", "()V"⟩, 38), (⟨"SpellTablesModel", "draw", "(I)I"⟩, 38), (⟨"SpellTablesModel", "isSameRow", "()Z"⟩, 38), (⟨"SpellTablesModel", "howMany", "(I)I"⟩, 38), (⟨"SpellTablesModel", "mixRules", "()V"⟩, 38), (⟨"SpellTablesModel", "mix", "(J)V"⟩, 38), (⟨"SpellTablesModel", "mixText", "()V"⟩, 38), (⟨"SpellTablesModel", "mixClash", "()V"⟩, 38), (⟨"SpellTablesModel", "mixAheads", "()V"⟩, 38)]
theorem lw_r6 : ∀ q ∈ lw_privs_6, lw_okq q := List.forall_mem_cons.mpr ⟨lw_p80, List.forall_mem_cons.mpr ⟨lw_p81, List.forall_mem_cons.mpr ⟨lw_p82, List.forall_mem_cons.mpr ⟨lw_p83, List.forall_mem_cons.mpr ⟨lw_p84, List.forall_mem_cons.mpr ⟨lw_p85, List.forall_mem_cons.mpr ⟨lw_p86, List.forall_mem_cons.mpr ⟨lw_p87, List.forall_mem_cons.mpr ⟨lw_p88, fun _ h => absurd h List.not_mem_nil⟩⟩⟩⟩⟩⟩⟩⟩⟩
def lw_privs : List (MethodName × Nat) := lw_privs_1 ++ (lw_privs_2 ++ (lw_privs_3 ++ (lw_privs_4 ++ (lw_privs_5 ++ (lw_privs_6)))))
def lw_tbl : List Cond := k2_sels lw_privs ++ tables_1
theorem lw_privs_ok : ∀ q ∈ lw_privs, lw_okq q := by
  show ∀ q ∈ lw_privs_1 ++ (lw_privs_2 ++ (lw_privs_3 ++ (lw_privs_4 ++ (lw_privs_5 ++ (lw_privs_6))))), lw_okq q
  exact List.forall_mem_append.mpr ⟨lw_r1, List.forall_mem_append.mpr ⟨lw_r2, List.forall_mem_append.mpr ⟨lw_r3, List.forall_mem_append.mpr ⟨lw_r4, List.forall_mem_append.mpr ⟨lw_r5, lw_r6⟩⟩⟩⟩⟩
end
section
/-! ===== BEGIN printed: names, fields, word lists, decode rows ===== -/
def RX0 : String := "SpellTables$Clashes"
def TX0 : u_T := fun k => match k with
  | 0 => ("SpellTables$Clashes", "remainders", "LSpellTables$Remainders;", true)
  | 1 => ("SpellTables$Clashes", "least", "LSpellTables$Line;", true)
  | 2 => ("SpellTables$Clashes", "one", "LSpellTables$Line;", true)
  | 3 => ("SpellTables$Clashes", "other", "LSpellTables$Line;", true)
  | 4 => ("SpellTables$Clashes", "texts", "[LSpellTables$Line;", true)
  | 5 => ("SpellTables$Clashes", "offered", "LSpellTables$Line;", true)
  | _ => ("SpellTables$Clashes", "spellings", "LSpellTables$Spellings;", true)
def tyX0 : Nat → FieldType := fun k => match k with
  | 0 => .object "SpellTables$Remainders"
  | 1 => .object "SpellTables$Line"
  | 2 => .object "SpellTables$Line"
  | 3 => .object "SpellTables$Line"
  | 4 => .array (.object "SpellTables$Line")
  | 5 => .object "SpellTables$Line"
  | _ => .object "SpellTables$Spellings"
abbrev wsX00 : List Cond := u_ws RX0 TX0 7
theorem nmX0 : ∀ a, a < 7 → ∀ b, b < 7 → a ≠ b → (TX0 a).2.1 ≠ (TX0 b).2.1 := by decide +kernel
theorem tyX0_ok : ∀ k, k < 7 → parseFieldDescriptor (TX0 k).2.2.1 = some (tyX0 k) := by decide +kernel
abbrev cX0_init : ByteArray := prog_2_method_1_code
def yX0_init : MethodName := ⟨RX0, "<init>", "()V"⟩
abbrev cX0_value : ByteArray := prog_2_method_2_code
def yX0_value : MethodName := ⟨RX0, "value", "(I)I"⟩
abbrev cX0_find : ByteArray := prog_2_method_3_code
def yX0_find : MethodName := ⟨RX0, "find", "(LSpellTables$Line;)V"⟩
abbrev cX0_findTexts : ByteArray := prog_2_method_4_code
def yX0_findTexts : MethodName := ⟨RX0, "findTexts", "(LSpellTables$Line;)V"⟩
abbrev cX0_startTexts : ByteArray := prog_2_method_5_code
def yX0_startTexts : MethodName := ⟨RX0, "startTexts", "(LSpellTables$Line;)V"⟩
abbrev cX0_followText : ByteArray := prog_2_method_6_code
def yX0_followText : MethodName := ⟨RX0, "followText", "(LSpellTables$Line;I)Z"⟩
abbrev cX0_take : ByteArray := prog_2_method_7_code
def yX0_take : MethodName := ⟨RX0, "take", "(I)Z"⟩
def RX1 : String := "SpellTables$Line"
def TX1 : u_T := fun k => match k with
  | 0 => ("SpellTables$Line", "items", "[I", true)
  | _ => ("SpellTables$Line", "size", "I", false)
def tyX1 : Nat → FieldType := fun k => match k with
  | 0 => .array .int
  | _ => .int
abbrev wsX10 : List Cond := u_ws RX1 TX1 2
theorem nmX1 : ∀ a, a < 2 → ∀ b, b < 2 → a ≠ b → (TX1 a).2.1 ≠ (TX1 b).2.1 := by decide +kernel
theorem tyX1_ok : ∀ k, k < 2 → parseFieldDescriptor (TX1 k).2.2.1 = some (tyX1 k) := by decide +kernel
abbrev cX1_init : ByteArray := prog_3_method_1_code
def yX1_init : MethodName := ⟨RX1, "<init>", "(I)V"⟩
abbrev cX1_size : ByteArray := prog_3_method_2_code
def yX1_size : MethodName := ⟨RX1, "size", "()I"⟩
abbrev cX1_at : ByteArray := prog_3_method_3_code
def yX1_at : MethodName := ⟨RX1, "at", "(I)I"⟩
abbrev cX1_placeOf : ByteArray := prog_3_method_4_code
def yX1_placeOf : MethodName := ⟨RX1, "placeOf", "(I)I"⟩
abbrev cX1_clear : ByteArray := prog_3_method_5_code
def yX1_clear : MethodName := ⟨RX1, "clear", "()V"⟩
abbrev cX1_add : ByteArray := prog_3_method_6_code
def yX1_add : MethodName := ⟨RX1, "add", "(I)V"⟩
abbrev cX1_addWord : ByteArray := prog_3_method_7_code
def yX1_addWord : MethodName := ⟨RX1, "addWord", "(I)V"⟩
abbrev cX1_copy : ByteArray := prog_3_method_8_code
def yX1_copy : MethodName := ⟨RX1, "copy", "(LSpellTables$Line;)V"⟩
abbrev cX1_remove : ByteArray := prog_3_method_9_code
def yX1_remove : MethodName := ⟨RX1, "remove", "(I)V"⟩
abbrev cX1_sort : ByteArray := prog_3_method_10_code
def yX1_sort : MethodName := ⟨RX1, "sort", "()V"⟩
abbrev cX1_isSame : ByteArray := prog_3_method_11_code
def yX1_isSame : MethodName := ⟨RX1, "isSame", "(LSpellTables$Line;)Z"⟩
abbrev cX1_isBefore : ByteArray := prog_3_method_12_code
def yX1_isBefore : MethodName := ⟨RX1, "isBefore", "(LSpellTables$Line;)Z"⟩
def RX2 : String := "SpellTables$Match"
def TX2 : u_T := fun k => match k with
  | _ => ("", "", "", false)
def tyX2 : Nat → FieldType := fun k => match k with
  | _ => .int
abbrev wsX20 : List Cond := u_ws RX2 TX2 0
theorem nmX2 : ∀ a, a < 0 → ∀ b, b < 0 → a ≠ b → (TX2 a).2.1 ≠ (TX2 b).2.1 := by decide +kernel
theorem tyX2_ok : ∀ k, k < 0 → parseFieldDescriptor (TX2 k).2.2.1 = some (tyX2 k) := by decide +kernel
abbrev cX2_endOf : ByteArray := prog_4_method_2_code
def yX2_endOf : MethodName := ⟨RX2, "endOf", "(ILSpellTables$Line;I)I"⟩
abbrev cX2_longest : ByteArray := prog_4_method_3_code
def yX2_longest : MethodName := ⟨RX2, "longest", "(LSpellTables$Line;LSpellTables$Line;I)I"⟩
abbrev cX2_decode : ByteArray := prog_4_method_4_code
def yX2_decode : MethodName := ⟨RX2, "decode", "(LSpellTables$Line;LSpellTables$Line;LSpellTables$Line;)I"⟩
def RX3 : String := "SpellTables$Partings"
def TX3 : u_T := fun k => match k with
  | 0 => ("SpellTables$Partings", "remainders", "LSpellTables$Remainders;", true)
  | 1 => ("SpellTables$Partings", "signs", "LSpellTables$Line;", true)
  | _ => ("SpellTables$Partings", "set", "I", false)
def tyX3 : Nat → FieldType := fun k => match k with
  | 0 => .object "SpellTables$Remainders"
  | 1 => .object "SpellTables$Line"
  | _ => .int
abbrev wsX30 : List Cond := u_ws RX3 TX3 3
theorem nmX3 : ∀ a, a < 3 → ∀ b, b < 3 → a ≠ b → (TX3 a).2.1 ≠ (TX3 b).2.1 := by decide +kernel
theorem tyX3_ok : ∀ k, k < 3 → parseFieldDescriptor (TX3 k).2.2.1 = some (tyX3 k) := by decide +kernel
abbrev cX3_init : ByteArray := prog_5_method_1_code
def yX3_init : MethodName := ⟨RX3, "<init>", "()V"⟩
abbrev cX3_value : ByteArray := prog_5_method_2_code
def yX3_value : MethodName := ⟨RX3, "value", "(I)I"⟩
abbrev cX3_find : ByteArray := prog_5_method_3_code
def yX3_find : MethodName := ⟨RX3, "find", "(LSpellTables$Rules;)V"⟩
def RX4 : String := "SpellTables$Reader"
def TX4 : u_T := fun k => match k with
  | 0 => ("SpellTables$Reader", "lefts", "LSpellTables$Line;", true)
  | 1 => ("SpellTables$Reader", "rights", "LSpellTables$Line;", true)
  | 2 => ("SpellTables$Reader", "left", "I", false)
  | _ => ("SpellTables$Reader", "right", "I", false)
def tyX4 : Nat → FieldType := fun k => match k with
  | 0 => .object "SpellTables$Line"
  | 1 => .object "SpellTables$Line"
  | 2 => .int
  | _ => .int
abbrev wsX40 : List Cond := u_ws RX4 TX4 4
theorem nmX4 : ∀ a, a < 4 → ∀ b, b < 4 → a ≠ b → (TX4 a).2.1 ≠ (TX4 b).2.1 := by decide +kernel
theorem tyX4_ok : ∀ k, k < 4 → parseFieldDescriptor (TX4 k).2.2.1 = some (tyX4 k) := by decide +kernel
abbrev cX4_init : ByteArray := prog_6_method_1_code
def yX4_init : MethodName := ⟨RX4, "<init>", "()V"⟩
abbrev cX4_read : ByteArray := prog_6_method_2_code
def yX4_read : MethodName := ⟨RX4, "read", "(LSpellTables$Line;)I"⟩
abbrev cX4_readWhole : ByteArray := prog_6_method_3_code
def yX4_readWhole : MethodName := ⟨RX4, "readWhole", "(LSpellTables$Line;)Z"⟩
abbrev cX4_takes : ByteArray := prog_6_method_4_code
def yX4_takes : MethodName := ⟨RX4, "takes", "(I)Z"⟩
abbrev cX4_takesSmall : ByteArray := prog_6_method_5_code
def yX4_takesSmall : MethodName := ⟨RX4, "takesSmall", "(I)Z"⟩
abbrev cX4_takesCapital : ByteArray := prog_6_method_6_code
def yX4_takesCapital : MethodName := ⟨RX4, "takesCapital", "(I)Z"⟩
abbrev cX4_takesComma : ByteArray := prog_6_method_7_code
def yX4_takesComma : MethodName := ⟨RX4, "takesComma", "()Z"⟩
abbrev cX4_endRule : ByteArray := prog_6_method_8_code
def yX4_endRule : MethodName := ⟨RX4, "endRule", "()V"⟩
def RX5 : String := "SpellTables$Remainders"
def TX5 : u_T := fun k => match k with
  | 0 => ("SpellTables$Remainders", "words", "LSpellTables$Line;", true)
  | _ => ("SpellTables$Remainders", "emptyFound", "Z", false)
def tyX5 : Nat → FieldType := fun k => match k with
  | 0 => .object "SpellTables$Line"
  | _ => .boolean
abbrev wsX50 : List Cond := u_ws RX5 TX5 2
theorem nmX5 : ∀ a, a < 2 → ∀ b, b < 2 → a ≠ b → (TX5 a).2.1 ≠ (TX5 b).2.1 := by decide +kernel
theorem tyX5_ok : ∀ k, k < 2 → parseFieldDescriptor (TX5 k).2.2.1 = some (tyX5 k) := by decide +kernel
abbrev cX5_init : ByteArray := prog_7_method_1_code
def yX5_init : MethodName := ⟨RX5, "<init>", "()V"⟩
abbrev cX5_areClean : ByteArray := prog_7_method_2_code
def yX5_areClean : MethodName := ⟨RX5, "areClean", "()Z"⟩
abbrev cX5_gather : ByteArray := prog_7_method_3_code
def yX5_gather : MethodName := ⟨RX5, "gather", "(LSpellTables$Line;)V"⟩
abbrev cX5_wouldBeClean : ByteArray := prog_7_method_4_code
def yX5_wouldBeClean : MethodName := ⟨RX5, "wouldBeClean", "(LSpellTables$Line;)Z"⟩
abbrev cX5_start : ByteArray := prog_7_method_5_code
def yX5_start : MethodName := ⟨RX5, "start", "(LSpellTables$Line;)V"⟩
abbrev cX5_follow : ByteArray := prog_7_method_6_code
def yX5_follow : MethodName := ⟨RX5, "follow", "(ILSpellTables$Line;)V"⟩
abbrev cX5_note : ByteArray := prog_7_method_7_code
def yX5_note : MethodName := ⟨RX5, "note", "(I)V"⟩
def RX6 : String := "SpellTables$Rules"
def TX6 : u_T := fun k => match k with
  | 0 => ("SpellTables$Rules", "lefts", "LSpellTables$Line;", true)
  | 1 => ("SpellTables$Rules", "rights", "LSpellTables$Line;", true)
  | 2 => ("SpellTables$Rules", "signs", "LSpellTables$Line;", true)
  | _ => ("SpellTables$Rules", "marks", "I", false)
def tyX6 : Nat → FieldType := fun k => match k with
  | 0 => .object "SpellTables$Line"
  | 1 => .object "SpellTables$Line"
  | 2 => .object "SpellTables$Line"
  | _ => .int
abbrev wsX60 : List Cond := u_ws RX6 TX6 4
theorem nmX6 : ∀ a, a < 4 → ∀ b, b < 4 → a ≠ b → (TX6 a).2.1 ≠ (TX6 b).2.1 := by decide +kernel
theorem tyX6_ok : ∀ k, k < 4 → parseFieldDescriptor (TX6 k).2.2.1 = some (tyX6 k) := by decide +kernel
abbrev cX6_init : ByteArray := prog_8_method_1_code
def yX6_init : MethodName := ⟨RX6, "<init>", "()V"⟩
abbrev cX6_size : ByteArray := prog_8_method_2_code
def yX6_size : MethodName := ⟨RX6, "size", "()I"⟩
abbrev cX6_has : ByteArray := prog_8_method_3_code
def yX6_has : MethodName := ⟨RX6, "has", "(I)Z"⟩
abbrev cX6_isMarked : ByteArray := prog_8_method_4_code
def yX6_isMarked : MethodName := ⟨RX6, "isMarked", "(I)Z"⟩
abbrev cX6_markedRules : ByteArray := prog_8_method_5_code
def yX6_markedRules : MethodName := ⟨RX6, "markedRules", "()I"⟩
abbrev cX6_replace : ByteArray := prog_8_method_6_code
def yX6_replace : MethodName := ⟨RX6, "replace", "(LSpellTables$Line;LSpellTables$Line;)V"⟩
abbrev cX6_turnMark : ByteArray := prog_8_method_7_code
def yX6_turnMark : MethodName := ⟨RX6, "turnMark", "(I)V"⟩
abbrev cX6_remove : ByteArray := prog_8_method_8_code
def yX6_remove : MethodName := ⟨RX6, "remove", "(I)V"⟩
abbrev cX6_makeSigns : ByteArray := prog_8_method_9_code
def yX6_makeSigns : MethodName := ⟨RX6, "makeSigns", "(ILSpellTables$Line;)V"⟩
abbrev cX6_spell : ByteArray := prog_8_method_10_code
def yX6_spell : MethodName := ⟨RX6, "spell", "(LSpellTables$Line;LSpellTables$Line;)V"⟩
abbrev cX6_othersBeginning : ByteArray := prog_8_method_11_code
def yX6_othersBeginning : MethodName := ⟨RX6, "othersBeginning", "(LSpellTables$Line;I)I"⟩
def RX7 : String := "SpellTables$Spellings"
def TX7 : u_T := fun k => match k with
  | 0 => ("SpellTables$Spellings", "rows", "[I", true)
  | 1 => ("SpellTables$Spellings", "upToTwo", "[I", true)
  | _ => ("SpellTables$Spellings", "end", "I", false)
def tyX7 : Nat → FieldType := fun k => match k with
  | 0 => .array .int
  | 1 => .array .int
  | _ => .int
abbrev wsX70 : List Cond := u_ws RX7 TX7 3
theorem nmX7 : ∀ a, a < 3 → ∀ b, b < 3 → a ≠ b → (TX7 a).2.1 ≠ (TX7 b).2.1 := by decide +kernel
theorem tyX7_ok : ∀ k, k < 3 → parseFieldDescriptor (TX7 k).2.2.1 = some (tyX7 k) := by decide +kernel
abbrev cX7_init : ByteArray := prog_9_method_1_code
def yX7_init : MethodName := ⟨RX7, "<init>", "()V"⟩
abbrev cX7_weigh : ByteArray := prog_9_method_2_code
def yX7_weigh : MethodName := ⟨RX7, "weigh", "(LSpellTables$Line;LSpellTables$Line;)V"⟩
abbrev cX7_weighPlace : ByteArray := prog_9_method_3_code
def yX7_weighPlace : MethodName := ⟨RX7, "weighPlace", "(LSpellTables$Line;LSpellTables$Line;I)V"⟩
abbrev cX7_total : ByteArray := prog_9_method_4_code
def yX7_total : MethodName := ⟨RX7, "total", "()I"⟩
abbrev cX7_pick : ByteArray := prog_9_method_5_code
def yX7_pick : MethodName := ⟨RX7, "pick", "(LSpellTables$Line;LSpellTables$Line;ILSpellTables$Line;)V"⟩
def RX8 : String := "SpellTables$Trials"
def TX8 : u_T := fun k => match k with
  | 0 => ("SpellTables$Trials", "row", "LSpellTables$Line;", true)
  | 1 => ("SpellTables$Trials", "spelled", "LSpellTables$Line;", true)
  | 2 => ("SpellTables$Trials", "decoded", "LSpellTables$Line;", true)
  | 3 => ("SpellTables$Trials", "drawn", "J", false)
  | 4 => ("SpellTables$Trials", "same", "I", false)
  | 5 => ("SpellTables$Trials", "another", "I", false)
  | 6 => ("SpellTables$Trials", "stuck", "I", false)
  | _ => ("SpellTables$Trials", "characters", "I", false)
def tyX8 : Nat → FieldType := fun k => match k with
  | 0 => .object "SpellTables$Line"
  | 1 => .object "SpellTables$Line"
  | 2 => .object "SpellTables$Line"
  | 3 => .long
  | 4 => .int
  | 5 => .int
  | 6 => .int
  | _ => .int
abbrev wsX80 : List Cond := u_ws RX8 TX8 8
theorem nmX8 : ∀ a, a < 8 → ∀ b, b < 8 → a ≠ b → (TX8 a).2.1 ≠ (TX8 b).2.1 := by decide +kernel
theorem tyX8_ok : ∀ k, k < 8 → parseFieldDescriptor (TX8 k).2.2.1 = some (tyX8 k) := by decide +kernel
abbrev cX8_init : ByteArray := prog_10_method_1_code
def yX8_init : MethodName := ⟨RX8, "<init>", "()V"⟩
abbrev cX8_value : ByteArray := prog_10_method_2_code
def yX8_value : MethodName := ⟨RX8, "value", "(I)I"⟩
abbrev cX8_run : ByteArray := prog_10_method_3_code
def yX8_run : MethodName := ⟨RX8, "run", "(LSpellTables$Rules;II)V"⟩
abbrev cX8_drawRow : ByteArray := prog_10_method_4_code
def yX8_drawRow : MethodName := ⟨RX8, "drawRow", "(I)V"⟩
abbrev cX8_tryRow : ByteArray := prog_10_method_5_code
def yX8_tryRow : MethodName := ⟨RX8, "tryRow", "(LSpellTables$Rules;)V"⟩
abbrev cX8_draw : ByteArray := prog_10_method_6_code
def yX8_draw : MethodName := ⟨RX8, "draw", "(I)I"⟩
def RX9 : String := "SpellTables$Word"
def TX9 : u_T := fun k => match k with
  | _ => ("", "", "", false)
def tyX9 : Nat → FieldType := fun k => match k with
  | _ => .int
abbrev wsX90 : List Cond := u_ws RX9 TX9 0
theorem nmX9 : ∀ a, a < 0 → ∀ b, b < 0 → a ≠ b → (TX9 a).2.1 ≠ (TX9 b).2.1 := by decide +kernel
theorem tyX9_ok : ∀ k, k < 0 → parseFieldDescriptor (TX9 k).2.2.1 = some (tyX9 k) := by decide +kernel
abbrev cX9_size : ByteArray := prog_11_method_2_code
def yX9_size : MethodName := ⟨RX9, "size", "(I)I"⟩
abbrev cX9_append : ByteArray := prog_11_method_3_code
def yX9_append : MethodName := ⟨RX9, "append", "(II)I"⟩
abbrev cX9_character : ByteArray := prog_11_method_4_code
def yX9_character : MethodName := ⟨RX9, "character", "(II)I"⟩
abbrev cX9_fromEnd : ByteArray := prog_11_method_5_code
def yX9_fromEnd : MethodName := ⟨RX9, "fromEnd", "(II)I"⟩
abbrev cX9_begins : ByteArray := prog_11_method_6_code
def yX9_begins : MethodName := ⟨RX9, "begins", "(II)Z"⟩
abbrev cX9_behind : ByteArray := prog_11_method_7_code
def yX9_behind : MethodName := ⟨RX9, "behind", "(II)I"⟩
def RX10 : String := "SpellTables"
def TX10 : u_T := fun k => match k with
  | 0 => ("SpellTables", "rules", "LSpellTables$Rules;", true)
  | 1 => ("SpellTables", "page", "LSpellTables$Line;", true)
  | 2 => ("SpellTables", "inked", "LSpellTables$Line;", true)
  | 3 => ("SpellTables", "row", "LSpellTables$Line;", true)
  | 4 => ("SpellTables", "reader", "LSpellTables$Reader;", true)
  | 5 => ("SpellTables", "spellings", "LSpellTables$Spellings;", true)
  | 6 => ("SpellTables", "clashes", "LSpellTables$Clashes;", true)
  | 7 => ("SpellTables", "partings", "LSpellTables$Partings;", true)
  | 8 => ("SpellTables", "trials", "LSpellTables$Trials;", true)
  | 9 => ("SpellTables", "clashesKnown", "Z", false)
  | 10 => ("SpellTables", "partingsKnown", "Z", false)
  | 11 => ("SpellTables", "tablesRead", "I", false)
  | 12 => ("SpellTables", "pagesTurned", "I", false)
  | _ => ("SpellTables", "textsTaken", "I", false)
def tyX10 : Nat → FieldType := fun k => match k with
  | 0 => .object "SpellTables$Rules"
  | 1 => .object "SpellTables$Line"
  | 2 => .object "SpellTables$Line"
  | 3 => .object "SpellTables$Line"
  | 4 => .object "SpellTables$Reader"
  | 5 => .object "SpellTables$Spellings"
  | 6 => .object "SpellTables$Clashes"
  | 7 => .object "SpellTables$Partings"
  | 8 => .object "SpellTables$Trials"
  | 9 => .boolean
  | 10 => .boolean
  | 11 => .int
  | 12 => .int
  | _ => .int
abbrev wsX100 : List Cond := u_ws RX10 TX10 14
theorem nmX10 : ∀ a, a < 14 → ∀ b, b < 14 → a ≠ b → (TX10 a).2.1 ≠ (TX10 b).2.1 := by decide +kernel
theorem tyX10_ok : ∀ k, k < 14 → parseFieldDescriptor (TX10 k).2.2.1 = some (tyX10 k) := by decide +kernel
abbrev cX10_init : ByteArray := prog_1_method_1_code
def yX10_init : MethodName := ⟨RX10, "<init>", "()V"⟩
abbrev cX10_letter : ByteArray := prog_1_method_2_code
def yX10_letter : MethodName := ⟨RX10, "letter", "(I)I"⟩
abbrev cX10_blank : ByteArray := prog_1_method_3_code
def yX10_blank : MethodName := ⟨RX10, "blank", "()I"⟩
abbrev cX10_fault : ByteArray := prog_1_method_4_code
def yX10_fault : MethodName := ⟨RX10, "fault", "()I"⟩
abbrev cX10_table : ByteArray := prog_1_method_5_code
def yX10_table : MethodName := ⟨RX10, "table", "()I"⟩
abbrev cX10_turn : ByteArray := prog_1_method_6_code
def yX10_turn : MethodName := ⟨RX10, "turn", "()I"⟩
abbrev cX10_text : ByteArray := prog_1_method_7_code
def yX10_text : MethodName := ⟨RX10, "text", "()I"⟩
abbrev cX10_mark : ByteArray := prog_1_method_8_code
def yX10_mark : MethodName := ⟨RX10, "mark", "(I)I"⟩
abbrev cX10_drop : ByteArray := prog_1_method_9_code
def yX10_drop : MethodName := ⟨RX10, "drop", "(I)I"⟩
abbrev cX10_rule : ByteArray := prog_1_method_10_code
def yX10_rule : MethodName := ⟨RX10, "rule", "(II)I"⟩
abbrev cX10_sign : ByteArray := prog_1_method_11_code
def yX10_sign : MethodName := ⟨RX10, "sign", "(III)I"⟩
abbrev cX10_ink : ByteArray := prog_1_method_12_code
def yX10_ink : MethodName := ⟨RX10, "ink", "(I)I"⟩
abbrev cX10_back : ByteArray := prog_1_method_13_code
def yX10_back : MethodName := ⟨RX10, "back", "(I)I"⟩
abbrev cX10_backAt : ByteArray := prog_1_method_14_code
def yX10_backAt : MethodName := ⟨RX10, "backAt", "(I)I"⟩
abbrev cX10_ways : ByteArray := prog_1_method_15_code
def yX10_ways : MethodName := ⟨RX10, "ways", "()I"⟩
abbrev cX10_first : ByteArray := prog_1_method_16_code
def yX10_first : MethodName := ⟨RX10, "first", "(I)I"⟩
abbrev cX10_clash : ByteArray := prog_1_method_17_code
def yX10_clash : MethodName := ⟨RX10, "clash", "(I)I"⟩
abbrev cX10_clashAt : ByteArray := prog_1_method_18_code
def yX10_clashAt : MethodName := ⟨RX10, "clashAt", "(I)I"⟩
abbrev cX10_clashing : ByteArray := prog_1_method_19_code
def yX10_clashing : MethodName := ⟨RX10, "clashing", "(II)I"⟩
abbrev cX10_ahead : ByteArray := prog_1_method_20_code
def yX10_ahead : MethodName := ⟨RX10, "ahead", "(I)I"⟩
abbrev cX10_aheadAt : ByteArray := prog_1_method_21_code
def yX10_aheadAt : MethodName := ⟨RX10, "aheadAt", "(II)I"⟩
abbrev cX10_parting : ByteArray := prog_1_method_22_code
def yX10_parting : MethodName := ⟨RX10, "parting", "(I)I"⟩
abbrev cX10_trial : ByteArray := prog_1_method_23_code
def yX10_trial : MethodName := ⟨RX10, "trial", "(III)I"⟩
abbrev cX10_count : ByteArray := prog_1_method_24_code
def yX10_count : MethodName := ⟨RX10, "count", "(I)I"⟩
abbrev cX10_digest : ByteArray := prog_1_method_25_code
def yX10_digest : MethodName := ⟨RX10, "digest", "()J"⟩
abbrev cX10_hashRules : ByteArray := prog_1_method_26_code
def yX10_hashRules : MethodName := ⟨RX10, "hashRules", "(J)J"⟩
abbrev cX10_hashRows : ByteArray := prog_1_method_27_code
def yX10_hashRows : MethodName := ⟨RX10, "hashRows", "(J)J"⟩
abbrev cX10_hashClashes : ByteArray := prog_1_method_28_code
def yX10_hashClashes : MethodName := ⟨RX10, "hashClashes", "(J)J"⟩
abbrev cX10_stuckPlace : ByteArray := prog_1_method_29_code
def yX10_stuckPlace : MethodName := ⟨RX10, "stuckPlace", "(I)I"⟩
abbrev cX10_hashNumber : ByteArray := prog_1_method_30_code
def yX10_hashNumber : MethodName := ⟨RX10, "hashNumber", "(JI)J"⟩
abbrev cX10_hashLine : ByteArray := prog_1_method_31_code
def yX10_hashLine : MethodName := ⟨RX10, "hashLine", "(JLSpellTables$Line;)J"⟩
abbrev cX10_hashWord : ByteArray := prog_1_method_32_code
def yX10_hashWord : MethodName := ⟨RX10, "hashWord", "(JI)J"⟩
abbrev cX10_forgetTable : ByteArray := prog_1_method_33_code
def yX10_forgetTable : MethodName := ⟨RX10, "forgetTable", "()V"⟩
abbrev cX10_knowClashes : ByteArray := prog_1_method_34_code
def yX10_knowClashes : MethodName := ⟨RX10, "knowClashes", "()V"⟩
abbrev cX10_knowPartings : ByteArray := prog_1_method_35_code
def yX10_knowPartings : MethodName := ⟨RX10, "knowPartings", "()V"⟩
abbrev cX10_isSmall : ByteArray := prog_1_method_36_code
def yX10_isSmall : MethodName := ⟨RX10, "isSmall", "(I)Z"⟩
abbrev cX10_isCapital : ByteArray := prog_1_method_37_code
def yX10_isCapital : MethodName := ⟨RX10, "isCapital", "(I)Z"⟩
abbrev cX10_onlySmall : ByteArray := prog_1_method_38_code
def yX10_onlySmall : MethodName := ⟨RX10, "onlySmall", "(LSpellTables$Line;)Z"⟩
abbrev cX10_onlyInk : ByteArray := prog_1_method_39_code
def yX10_onlyInk : MethodName := ⟨RX10, "onlyInk", "(LSpellTables$Line;)Z"⟩
def RX11 : String := "SpellTablesModel"
def TX11 : u_T := fun k => match k with
  | 0 => ("SpellTablesModel", "rules", "I", false)
  | 1 => ("SpellTablesModel", "leftLength", "[I", true)
  | 2 => ("SpellTablesModel", "rightLength", "[I", true)
  | 3 => ("SpellTablesModel", "lefts", "[I", true)
  | 4 => ("SpellTablesModel", "rights", "[I", true)
  | 5 => ("SpellTablesModel", "marked", "I", false)
  | 6 => ("SpellTablesModel", "marks", "I", false)
  | 7 => ("SpellTablesModel", "textLength", "I", false)
  | 8 => ("SpellTablesModel", "text", "[I", true)
  | 9 => ("SpellTablesModel", "pageLength", "I", false)
  | 10 => ("SpellTablesModel", "page", "[I", true)
  | 11 => ("SpellTablesModel", "tables", "I", false)
  | 12 => ("SpellTablesModel", "turns", "I", false)
  | 13 => ("SpellTablesModel", "textsTold", "I", false)
  | 14 => ("SpellTablesModel", "newRules", "I", false)
  | 15 => ("SpellTablesModel", "newLeft", "[I", true)
  | 16 => ("SpellTablesModel", "newRight", "[I", true)
  | 17 => ("SpellTablesModel", "newLefts", "[I", true)
  | 18 => ("SpellTablesModel", "newRights", "[I", true)
  | 19 => ("SpellTablesModel", "rowLength", "I", false)
  | 20 => ("SpellTablesModel", "row", "[I", true)
  | 21 => ("SpellTablesModel", "workLength", "I", false)
  | 22 => ("SpellTablesModel", "work", "[I", true)
  | 23 => ("SpellTablesModel", "waysFrom", "[I", true)
  | 24 => ("SpellTablesModel", "upToTwo", "[I", true)
  | 25 => ("SpellTablesModel", "backMany", "I", false)
  | 26 => ("SpellTablesModel", "backStuck", "I", false)
  | 27 => ("SpellTablesModel", "backRow", "[I", true)
  | 28 => ("SpellTablesModel", "isAhead", "[Z", true)
  | 29 => ("SpellTablesModel", "isMoreAhead", "Z", false)
  | 30 => ("SpellTablesModel", "behindMany", "[I", true)
  | 31 => ("SpellTablesModel", "behind", "[I", true)
  | 32 => ("SpellTablesModel", "triedMany", "I", false)
  | 33 => ("SpellTablesModel", "tried", "[I", true)
  | 34 => ("SpellTablesModel", "clashMany", "I", false)
  | 35 => ("SpellTablesModel", "clashText", "[I", true)
  | 36 => ("SpellTablesModel", "drawSeed", "J", false)
  | _ => ("SpellTablesModel", "h", "J", false)
def tyX11 : Nat → FieldType := fun k => match k with
  | 0 => .int
  | 1 => .array .int
  | 2 => .array .int
  | 3 => .array .int
  | 4 => .array .int
  | 5 => .int
  | 6 => .int
  | 7 => .int
  | 8 => .array .int
  | 9 => .int
  | 10 => .array .int
  | 11 => .int
  | 12 => .int
  | 13 => .int
  | 14 => .int
  | 15 => .array .int
  | 16 => .array .int
  | 17 => .array .int
  | 18 => .array .int
  | 19 => .int
  | 20 => .array .int
  | 21 => .int
  | 22 => .array .int
  | 23 => .array .int
  | 24 => .array .int
  | 25 => .int
  | 26 => .int
  | 27 => .array .int
  | 28 => .array .boolean
  | 29 => .boolean
  | 30 => .array .int
  | 31 => .array .int
  | 32 => .int
  | 33 => .array .int
  | 34 => .int
  | 35 => .array .int
  | 36 => .long
  | _ => .long
abbrev wsX110 : List Cond := u_ws RX11 TX11 38
theorem nmX11 : ∀ a, a < 38 → ∀ b, b < 38 → a ≠ b → (TX11 a).2.1 ≠ (TX11 b).2.1 := by decide +kernel
theorem tyX11_ok : ∀ k, k < 38 → parseFieldDescriptor (TX11 k).2.2.1 = some (tyX11 k) := by decide +kernel
abbrev cX11_init : ByteArray := prog_13_method_1_code
def yX11_init : MethodName := ⟨RX11, "<init>", "()V"⟩
abbrev cX11_within : ByteArray := prog_13_method_3_code
def yX11_within : MethodName := ⟨RX11, "within", "(III)Z"⟩
abbrev cX11_isSmall : ByteArray := prog_13_method_4_code
def yX11_isSmall : MethodName := ⟨RX11, "isSmall", "(I)Z"⟩
abbrev cX11_isGreat : ByteArray := prog_13_method_5_code
def yX11_isGreat : MethodName := ⟨RX11, "isGreat", "(I)Z"⟩
abbrev cX11_letter : ByteArray := prog_13_method_6_code
def yX11_letter : MethodName := ⟨RX11, "letter", "(I)I"⟩
abbrev cX11_blank : ByteArray := prog_13_method_7_code
def yX11_blank : MethodName := ⟨RX11, "blank", "()I"⟩
abbrev cX11_isTwice : ByteArray := prog_13_method_8_code
def yX11_isTwice : MethodName := ⟨RX11, "isTwice", "()Z"⟩
abbrev cX11_takesLeft : ByteArray := prog_13_method_9_code
def yX11_takesLeft : MethodName := ⟨RX11, "takesLeft", "(I)Z"⟩
abbrev cX11_takesRight : ByteArray := prog_13_method_10_code
def yX11_takesRight : MethodName := ⟨RX11, "takesRight", "(I)Z"⟩
abbrev cX11_takesComma : ByteArray := prog_13_method_11_code
def yX11_takesComma : MethodName := ⟨RX11, "takesComma", "()Z"⟩
abbrev cX11_takes : ByteArray := prog_13_method_12_code
def yX11_takes : MethodName := ⟨RX11, "takes", "(I)Z"⟩
abbrev cX11_read : ByteArray := prog_13_method_13_code
def yX11_read : MethodName := ⟨RX11, "read", "()I"⟩
abbrev cX11_fault : ByteArray := prog_13_method_14_code
def yX11_fault : MethodName := ⟨RX11, "fault", "()I"⟩
abbrev cX11_table : ByteArray := prog_13_method_15_code
def yX11_table : MethodName := ⟨RX11, "table", "()I"⟩
abbrev cX11_signLength : ByteArray := prog_13_method_16_code
def yX11_signLength : MethodName := ⟨RX11, "signLength", "(I)I"⟩
abbrev cX11_signAt : ByteArray := prog_13_method_17_code
def yX11_signAt : MethodName := ⟨RX11, "signAt", "(II)I"⟩
abbrev cX11_longestLeft : ByteArray := prog_13_method_18_code
def yX11_longestLeft : MethodName := ⟨RX11, "longestLeft", "(I)I"⟩
abbrev cX11_turnRow : ByteArray := prog_13_method_19_code
def yX11_turnRow : MethodName := ⟨RX11, "turnRow", "()I"⟩
abbrev cX11_isSmallPage : ByteArray := prog_13_method_20_code
def yX11_isSmallPage : MethodName := ⟨RX11, "isSmallPage", "()Z"⟩
abbrev cX11_turn : ByteArray := prog_13_method_21_code
def yX11_turn : MethodName := ⟨RX11, "turn", "()I"⟩
abbrev cX11_text : ByteArray := prog_13_method_22_code
def yX11_text : MethodName := ⟨RX11, "text", "()I"⟩
abbrev cX11_isRule : ByteArray := prog_13_method_23_code
def yX11_isRule : MethodName := ⟨RX11, "isRule", "(I)Z"⟩
abbrev cX11_mark : ByteArray := prog_13_method_24_code
def yX11_mark : MethodName := ⟨RX11, "mark", "(I)I"⟩
abbrev cX11_drop : ByteArray := prog_13_method_25_code
def yX11_drop : MethodName := ⟨RX11, "drop", "(I)I"⟩
abbrev cX11_begins : ByteArray := prog_13_method_26_code
def yX11_begins : MethodName := ⟨RX11, "begins", "(II)Z"⟩
abbrev cX11_leftBegins : ByteArray := prog_13_method_27_code
def yX11_leftBegins : MethodName := ⟨RX11, "leftBegins", "(II)Z"⟩
abbrev cX11_begunBy : ByteArray := prog_13_method_28_code
def yX11_begunBy : MethodName := ⟨RX11, "begunBy", "(IZ)I"⟩
abbrev cX11_ruleNow : ByteArray := prog_13_method_29_code
def yX11_ruleNow : MethodName := ⟨RX11, "ruleNow", "(II)I"⟩
abbrev cX11_rule : ByteArray := prog_13_method_30_code
def yX11_rule : MethodName := ⟨RX11, "rule", "(II)I"⟩
abbrev cX11_sign : ByteArray := prog_13_method_31_code
def yX11_sign : MethodName := ⟨RX11, "sign", "(III)I"⟩
abbrev cX11_lies : ByteArray := prog_13_method_32_code
def yX11_lies : MethodName := ⟨RX11, "lies", "(II)Z"⟩
abbrev cX11_longestSign : ByteArray := prog_13_method_33_code
def yX11_longestSign : MethodName := ⟨RX11, "longestSign", "(I)I"⟩
abbrev cX11_workText : ByteArray := prog_13_method_34_code
def yX11_workText : MethodName := ⟨RX11, "workText", "()V"⟩
abbrev cX11_layWays : ByteArray := prog_13_method_35_code
def yX11_layWays : MethodName := ⟨RX11, "layWays", "()V"⟩
abbrev cX11_ink : ByteArray := prog_13_method_36_code
def yX11_ink : MethodName := ⟨RX11, "ink", "(I)I"⟩
abbrev cX11_layBack : ByteArray := prog_13_method_37_code
def yX11_layBack : MethodName := ⟨RX11, "layBack", "()V"⟩
abbrev cX11_backNow : ByteArray := prog_13_method_38_code
def yX11_backNow : MethodName := ⟨RX11, "backNow", "(I)I"⟩
abbrev cX11_back : ByteArray := prog_13_method_39_code
def yX11_back : MethodName := ⟨RX11, "back", "(I)I"⟩
abbrev cX11_backAtNow : ByteArray := prog_13_method_40_code
def yX11_backAtNow : MethodName := ⟨RX11, "backAtNow", "(I)I"⟩
abbrev cX11_backAt : ByteArray := prog_13_method_41_code
def yX11_backAt : MethodName := ⟨RX11, "backAt", "(I)I"⟩
abbrev cX11_waysNow : ByteArray := prog_13_method_42_code
def yX11_waysNow : MethodName := ⟨RX11, "waysNow", "()I"⟩
abbrev cX11_ways : ByteArray := prog_13_method_43_code
def yX11_ways : MethodName := ⟨RX11, "ways", "()I"⟩
abbrev cX11_ruleIn : ByteArray := prog_13_method_44_code
def yX11_ruleIn : MethodName := ⟨RX11, "ruleIn", "(II)I"⟩
abbrev cX11_firstNow : ByteArray := prog_13_method_45_code
def yX11_firstNow : MethodName := ⟨RX11, "firstNow", "(I)I"⟩
abbrev cX11_first : ByteArray := prog_13_method_46_code
def yX11_first : MethodName := ⟨RX11, "first", "(I)I"⟩
abbrev cX11_lengthOf : ByteArray := prog_13_method_47_code
def yX11_lengthOf : MethodName := ⟨RX11, "lengthOf", "(I)I"⟩
abbrev cX11_letterOf : ByteArray := prog_13_method_48_code
def yX11_letterOf : MethodName := ⟨RX11, "letterOf", "(II)I"⟩
abbrev cX11_isPart : ByteArray := prog_13_method_49_code
def yX11_isPart : MethodName := ⟨RX11, "isPart", "(I)Z"⟩
abbrev cX11_areAlike : ByteArray := prog_13_method_50_code
def yX11_areAlike : MethodName := ⟨RX11, "areAlike", "(II)Z"⟩
abbrev cX11_leastOf : ByteArray := prog_13_method_51_code
def yX11_leastOf : MethodName := ⟨RX11, "leastOf", "(I)I"⟩
abbrev cX11_partBegins : ByteArray := prog_13_method_52_code
def yX11_partBegins : MethodName := ⟨RX11, "partBegins", "(II)Z"⟩
abbrev cX11_signBegins : ByteArray := prog_13_method_53_code
def yX11_signBegins : MethodName := ⟨RX11, "signBegins", "(II)Z"⟩
abbrev cX11_comesAhead : ByteArray := prog_13_method_54_code
def yX11_comesAhead : MethodName := ⟨RX11, "comesAhead", "(I)V"⟩
abbrev cX11_goOnFrom : ByteArray := prog_13_method_55_code
def yX11_goOnFrom : MethodName := ⟨RX11, "goOnFrom", "(I)V"⟩
abbrev cX11_layAheads : ByteArray := prog_13_method_56_code
def yX11_layAheads : MethodName := ⟨RX11, "layAheads", "()V"⟩
abbrev cX11_isClean : ByteArray := prog_13_method_57_code
def yX11_isClean : MethodName := ⟨RX11, "isClean", "()Z"⟩
abbrev cX11_aheadsMany : ByteArray := prog_13_method_58_code
def yX11_aheadsMany : MethodName := ⟨RX11, "aheadsMany", "()I"⟩
abbrev cX11_isBefore : ByteArray := prog_13_method_59_code
def yX11_isBefore : MethodName := ⟨RX11, "isBefore", "(II)Z"⟩
abbrev cX11_aheadOf : ByteArray := prog_13_method_60_code
def yX11_aheadOf : MethodName := ⟨RX11, "aheadOf", "(I)I"⟩
abbrev cX11_ahead : ByteArray := prog_13_method_61_code
def yX11_ahead : MethodName := ⟨RX11, "ahead", "(I)I"⟩
abbrev cX11_aheadAt : ByteArray := prog_13_method_62_code
def yX11_aheadAt : MethodName := ⟨RX11, "aheadAt", "(II)I"⟩
abbrev cX11_tryLetter : ByteArray := prog_13_method_63_code
def yX11_tryLetter : MethodName := ⟨RX11, "tryLetter", "(I)V"⟩
abbrev cX11_tryBehind : ByteArray := prog_13_method_64_code
def yX11_tryBehind : MethodName := ⟨RX11, "tryBehind", "(I)V"⟩
abbrev cX11_isTriedLess : ByteArray := prog_13_method_65_code
def yX11_isTriedLess : MethodName := ⟨RX11, "isTriedLess", "(I)Z"⟩
abbrev cX11_takesTried : ByteArray := prog_13_method_66_code
def yX11_takesTried : MethodName := ⟨RX11, "takesTried", "(I)Z"⟩
abbrev cX11_goesOnBy : ByteArray := prog_13_method_67_code
def yX11_goesOnBy : MethodName := ⟨RX11, "goesOnBy", "(II)Z"⟩
abbrev cX11_goesOn : ByteArray := prog_13_method_68_code
def yX11_goesOn : MethodName := ⟨RX11, "goesOn", "(I)Z"⟩
abbrev cX11_layBehind : ByteArray := prog_13_method_69_code
def yX11_layBehind : MethodName := ⟨RX11, "layBehind", "()V"⟩
abbrev cX11_isClashLess : ByteArray := prog_13_method_70_code
def yX11_isClashLess : MethodName := ⟨RX11, "isClashLess", "()Z"⟩
abbrev cX11_clashOf : ByteArray := prog_13_method_71_code
def yX11_clashOf : MethodName := ⟨RX11, "clashOf", "(II)V"⟩
abbrev cX11_layClash : ByteArray := prog_13_method_72_code
def yX11_layClash : MethodName := ⟨RX11, "layClash", "()V"⟩
abbrev cX11_rowMany : ByteArray := prog_13_method_73_code
def yX11_rowMany : MethodName := ⟨RX11, "rowMany", "(I)I"⟩
abbrev cX11_clashTold : ByteArray := prog_13_method_74_code
def yX11_clashTold : MethodName := ⟨RX11, "clashTold", "(I)I"⟩
abbrev cX11_clashNow : ByteArray := prog_13_method_75_code
def yX11_clashNow : MethodName := ⟨RX11, "clashNow", "(I)I"⟩
abbrev cX11_clash : ByteArray := prog_13_method_76_code
def yX11_clash : MethodName := ⟨RX11, "clash", "(I)I"⟩
abbrev cX11_clashAt : ByteArray := prog_13_method_77_code
def yX11_clashAt : MethodName := ⟨RX11, "clashAt", "(I)I"⟩
abbrev cX11_clashingNow : ByteArray := prog_13_method_78_code
def yX11_clashingNow : MethodName := ⟨RX11, "clashingNow", "(II)I"⟩
abbrev cX11_clashing : ByteArray := prog_13_method_79_code
def yX11_clashing : MethodName := ⟨RX11, "clashing", "(II)I"⟩
abbrev cX11_bits : ByteArray := prog_13_method_80_code
def yX11_bits : MethodName := ⟨RX11, "bits", "(I)I"⟩
abbrev cX11_partingSet : ByteArray := prog_13_method_81_code
def yX11_partingSet : MethodName := ⟨RX11, "partingSet", "()I"⟩
abbrev cX11_partingNow : ByteArray := prog_13_method_82_code
def yX11_partingNow : MethodName := ⟨RX11, "partingNow", "(I)I"⟩
abbrev cX11_parting : ByteArray := prog_13_method_83_code
def yX11_parting : MethodName := ⟨RX11, "parting", "(I)I"⟩
abbrev cX11_draw : ByteArray := prog_13_method_84_code
def yX11_draw : MethodName := ⟨RX11, "draw", "(I)I"⟩
abbrev cX11_drawRow : ByteArray := prog_13_method_85_code
def yX11_drawRow : MethodName := ⟨RX11, "drawRow", "()V"⟩
abbrev cX11_isSameRow : ByteArray := prog_13_method_86_code
def yX11_isSameRow : MethodName := ⟨RX11, "isSameRow", "()Z"⟩
abbrev cX11_trialNow : ByteArray := prog_13_method_87_code
def yX11_trialNow : MethodName := ⟨RX11, "trialNow", "(III)I"⟩
abbrev cX11_trial : ByteArray := prog_13_method_88_code
def yX11_trial : MethodName := ⟨RX11, "trial", "(III)I"⟩
abbrev cX11_howMany : ByteArray := prog_13_method_89_code
def yX11_howMany : MethodName := ⟨RX11, "howMany", "(I)I"⟩
abbrev cX11_count : ByteArray := prog_13_method_90_code
def yX11_count : MethodName := ⟨RX11, "count", "(I)I"⟩
abbrev cX11_mix : ByteArray := prog_13_method_91_code
def yX11_mix : MethodName := ⟨RX11, "mix", "(J)V"⟩
abbrev cX11_mixRules : ByteArray := prog_13_method_92_code
def yX11_mixRules : MethodName := ⟨RX11, "mixRules", "()V"⟩
abbrev cX11_mixText : ByteArray := prog_13_method_93_code
def yX11_mixText : MethodName := ⟨RX11, "mixText", "()V"⟩
abbrev cX11_mixClash : ByteArray := prog_13_method_94_code
def yX11_mixClash : MethodName := ⟨RX11, "mixClash", "()V"⟩
abbrev cX11_mixAheads : ByteArray := prog_13_method_95_code
def yX11_mixAheads : MethodName := ⟨RX11, "mixAheads", "()V"⟩
abbrev cX11_digest : ByteArray := prog_13_method_96_code
def yX11_digest : MethodName := ⟨RX11, "digest", "()J"⟩
def RJ6 : String := "java/lang/Integer"
def TJ6 : u_T := fun k => match k with
  | _ => ("", "", "", false)
def tyJ6 : Nat → FieldType := fun k => match k with
  | _ => .int
abbrev wsJ60 : List Cond := u_ws RJ6 TJ6 0
theorem nmJ6 : ∀ a, a < 0 → ∀ b, b < 0 → a ≠ b → (TJ6 a).2.1 ≠ (TJ6 b).2.1 := by decide +kernel
theorem tyJ6_ok : ∀ k, k < 0 → parseFieldDescriptor (TJ6 k).2.2.1 = some (tyJ6 k) := by decide +kernel
abbrev cJ6_bitCount_0f7a4 : ByteArray := prog_14_method_49_code
def yJ6_bitCount_0f7a4 : MethodName := ⟨RJ6, "bitCount", "(I)I"⟩
def RJ9 : String := "java/lang/Math"
def TJ9 : u_T := fun k => match k with
  | _ => ("", "", "", false)
def tyJ9 : Nat → FieldType := fun k => match k with
  | _ => .int
abbrev wsJ90 : List Cond := u_ws RJ9 TJ9 0
theorem nmJ9 : ∀ a, a < 0 → ∀ b, b < 0 → a ≠ b → (TJ9 a).2.1 ≠ (TJ9 b).2.1 := by decide +kernel
theorem tyJ9_ok : ∀ k, k < 0 → parseFieldDescriptor (TJ9 k).2.2.1 = some (tyJ9 k) := by decide +kernel
abbrev cJ9_max_7cf53 : ByteArray := prog_15_method_65_code
def yJ9_max_7cf53 : MethodName := ⟨RJ9, "max", "(II)I"⟩
abbrev cJ9_min_7cf53 : ByteArray := prog_15_method_69_code
def yJ9_min_7cf53 : MethodName := ⟨RJ9, "min", "(II)I"⟩
def RL : String := "SpellTablesLaw"
abbrev cL_law : ByteArray := code
def yL_law : MethodName := ⟨RL, "law", "([I)Z"⟩
end
section
theorem dX0_init_0 : decode cX0_init 0 = .ok (.aload_n 0, 1) := by decide +kernel
theorem dX0_init_1 : decode cX0_init 1 = .ok (.invokespecial 3, 3) := by decide +kernel
theorem dX0_init_4 : decode cX0_init 4 = .ok (.aload_n 0, 1) := by decide +kernel
theorem dX0_init_5 : decode cX0_init 5 = .ok (.new 9, 3) := by decide +kernel
theorem dX0_init_8 : decode cX0_init 8 = .ok (.dup, 1) := by decide +kernel
theorem dX0_init_9 : decode cX0_init 9 = .ok (.invokespecial 11, 3) := by decide +kernel
theorem dX0_init_12 : decode cX0_init 12 = .ok (.putfield 12, 3) := by decide +kernel
theorem dX0_init_15 : decode cX0_init 15 = .ok (.aload_n 0, 1) := by decide +kernel
theorem dX0_init_16 : decode cX0_init 16 = .ok (.new 18, 3) := by decide +kernel
theorem dX0_init_19 : decode cX0_init 19 = .ok (.dup, 1) := by decide +kernel
theorem dX0_init_20 : decode cX0_init 20 = .ok (.bipush 56, 2) := by decide +kernel
theorem dX0_init_22 : decode cX0_init 22 = .ok (.invokespecial 20, 3) := by decide +kernel
theorem dX0_init_25 : decode cX0_init 25 = .ok (.putfield 23, 3) := by decide +kernel
theorem dX0_init_28 : decode cX0_init 28 = .ok (.aload_n 0, 1) := by decide +kernel
theorem dX0_init_29 : decode cX0_init 29 = .ok (.new 18, 3) := by decide +kernel
theorem dX0_init_32 : decode cX0_init 32 = .ok (.dup, 1) := by decide +kernel
theorem dX0_init_33 : decode cX0_init 33 = .ok (.bipush 56, 2) := by decide +kernel
theorem dX0_init_35 : decode cX0_init 35 = .ok (.invokespecial 20, 3) := by decide +kernel
theorem dX0_init_38 : decode cX0_init 38 = .ok (.putfield 27, 3) := by decide +kernel
theorem dX0_init_41 : decode cX0_init 41 = .ok (.aload_n 0, 1) := by decide +kernel
theorem dX0_init_42 : decode cX0_init 42 = .ok (.new 18, 3) := by decide +kernel
theorem dX0_init_45 : decode cX0_init 45 = .ok (.dup, 1) := by decide +kernel
theorem dX0_init_46 : decode cX0_init 46 = .ok (.bipush 56, 2) := by decide +kernel
theorem dX0_init_48 : decode cX0_init 48 = .ok (.invokespecial 20, 3) := by decide +kernel
theorem dX0_init_51 : decode cX0_init 51 = .ok (.putfield 30, 3) := by decide +kernel
theorem dX0_init_54 : decode cX0_init 54 = .ok (.aload_n 0, 1) := by decide +kernel
theorem dX0_init_55 : decode cX0_init 55 = .ok (.bipush 25, 2) := by decide +kernel
theorem dX0_init_57 : decode cX0_init 57 = .ok (.anewarray 18, 3) := by decide +kernel
theorem dX0_init_60 : decode cX0_init 60 = .ok (.putfield 33, 3) := by decide +kernel
theorem dX0_init_63 : decode cX0_init 63 = .ok (.iconst 0, 1) := by decide +kernel
theorem dX0_init_64 : decode cX0_init 64 = .ok (.istore_n 1, 1) := by decide +kernel
theorem dX0_init_65 : decode cX0_init 65 = .ok (.iload_n 1, 1) := by decide +kernel
theorem dX0_init_66 : decode cX0_init 66 = .ok (.bipush 25, 2) := by decide +kernel
theorem dX0_init_68 : decode cX0_init 68 = .ok (.if_icmp .ge 24, 3) := by decide +kernel
theorem dX0_init_71 : decode cX0_init 71 = .ok (.aload_n 0, 1) := by decide +kernel
theorem dX0_init_72 : decode cX0_init 72 = .ok (.getfield 33, 3) := by decide +kernel
theorem dX0_init_75 : decode cX0_init 75 = .ok (.iload_n 1, 1) := by decide +kernel
theorem dX0_init_76 : decode cX0_init 76 = .ok (.new 18, 3) := by decide +kernel
theorem dX0_init_79 : decode cX0_init 79 = .ok (.dup, 1) := by decide +kernel
theorem dX0_init_80 : decode cX0_init 80 = .ok (.bipush 56, 2) := by decide +kernel
theorem dX0_init_82 : decode cX0_init 82 = .ok (.invokespecial 20, 3) := by decide +kernel
theorem dX0_init_85 : decode cX0_init 85 = .ok (.aastore, 1) := by decide +kernel
theorem dX0_init_86 : decode cX0_init 86 = .ok (.iinc 1 1, 3) := by decide +kernel
theorem dX0_init_89 : decode cX0_init 89 = .ok (.goto (-24), 3) := by decide +kernel
theorem dX0_init_92 : decode cX0_init 92 = .ok (.aload_n 0, 1) := by decide +kernel
theorem dX0_init_93 : decode cX0_init 93 = .ok (.new 18, 3) := by decide +kernel
theorem dX0_init_96 : decode cX0_init 96 = .ok (.dup, 1) := by decide +kernel
theorem dX0_init_97 : decode cX0_init 97 = .ok (.bipush 56, 2) := by decide +kernel
theorem dX0_init_99 : decode cX0_init 99 = .ok (.invokespecial 20, 3) := by decide +kernel
theorem dX0_init_102 : decode cX0_init 102 = .ok (.putfield 37, 3) := by decide +kernel
theorem dX0_init_105 : decode cX0_init 105 = .ok (.aload_n 0, 1) := by decide +kernel
theorem dX0_init_106 : decode cX0_init 106 = .ok (.new 40, 3) := by decide +kernel
theorem dX0_init_109 : decode cX0_init 109 = .ok (.dup, 1) := by decide +kernel
theorem dX0_init_110 : decode cX0_init 110 = .ok (.invokespecial 42, 3) := by decide +kernel
theorem dX0_init_113 : decode cX0_init 113 = .ok (.putfield 43, 3) := by decide +kernel
theorem dX0_init_116 : decode cX0_init 116 = .ok (.return_, 1) := by decide +kernel
theorem dX0_value_0 : decode cX0_value 0 = .ok (.iload_n 1, 1) := by decide +kernel
theorem dX0_value_1 : decode cX0_value 1 = .ok (.iconst 5, 1) := by decide +kernel
theorem dX0_value_2 : decode cX0_value 2 = .ok (.if_icmp .ne 14, 3) := by decide +kernel
theorem dX0_value_5 : decode cX0_value 5 = .ok (.aload_n 0, 1) := by decide +kernel
theorem dX0_value_6 : decode cX0_value 6 = .ok (.getfield 12, 3) := by decide +kernel
theorem dX0_value_9 : decode cX0_value 9 = .ok (.getfield 47, 3) := by decide +kernel
theorem dX0_value_12 : decode cX0_value 12 = .ok (.invokevirtual 50, 3) := by decide +kernel
theorem dX0_value_15 : decode cX0_value 15 = .ok (.ireturn, 1) := by decide +kernel
theorem dX0_value_16 : decode cX0_value 16 = .ok (.iload_n 1, 1) := by decide +kernel
theorem dX0_value_17 : decode cX0_value 17 = .ok (.ifCond .ne 19, 3) := by decide +kernel
theorem dX0_value_20 : decode cX0_value 20 = .ok (.aload_n 0, 1) := by decide +kernel
theorem dX0_value_21 : decode cX0_value 21 = .ok (.getfield 12, 3) := by decide +kernel
theorem dX0_value_24 : decode cX0_value 24 = .ok (.invokevirtual 54, 3) := by decide +kernel
theorem dX0_value_27 : decode cX0_value 27 = .ok (.ifCond .eq 7, 3) := by decide +kernel
theorem dX0_value_30 : decode cX0_value 30 = .ok (.iconst 1, 1) := by decide +kernel
theorem dX0_value_31 : decode cX0_value 31 = .ok (.goto 4, 3) := by decide +kernel
theorem dX0_value_34 : decode cX0_value 34 = .ok (.iconst 0, 1) := by decide +kernel
theorem dX0_value_35 : decode cX0_value 35 = .ok (.ireturn, 1) := by decide +kernel
theorem dX0_value_36 : decode cX0_value 36 = .ok (.aload_n 0, 1) := by decide +kernel
theorem dX0_value_37 : decode cX0_value 37 = .ok (.getfield 12, 3) := by decide +kernel
theorem dX0_value_40 : decode cX0_value 40 = .ok (.invokevirtual 54, 3) := by decide +kernel
theorem dX0_value_43 : decode cX0_value 43 = .ok (.ifCond .eq 5, 3) := by decide +kernel
theorem dX0_value_46 : decode cX0_value 46 = .ok (.iconst (-1), 1) := by decide +kernel
theorem dX0_value_47 : decode cX0_value 47 = .ok (.ireturn, 1) := by decide +kernel
theorem dX0_value_48 : decode cX0_value 48 = .ok (.iload_n 1, 1) := by decide +kernel
theorem dX0_value_49 : decode cX0_value 49 = .ok (.tableswitch 51 1 3 #[27, 35, 43], 27) := by decide +kernel
theorem dX0_value_76 : decode cX0_value 76 = .ok (.aload_n 0, 1) := by decide +kernel
theorem dX0_value_77 : decode cX0_value 77 = .ok (.getfield 23, 3) := by decide +kernel
theorem dX0_value_80 : decode cX0_value 80 = .ok (.invokevirtual 50, 3) := by decide +kernel
theorem dX0_value_83 : decode cX0_value 83 = .ok (.ireturn, 1) := by decide +kernel
theorem dX0_value_84 : decode cX0_value 84 = .ok (.aload_n 0, 1) := by decide +kernel
theorem dX0_value_85 : decode cX0_value 85 = .ok (.getfield 27, 3) := by decide +kernel
theorem dX0_value_88 : decode cX0_value 88 = .ok (.invokevirtual 50, 3) := by decide +kernel
theorem dX0_value_91 : decode cX0_value 91 = .ok (.ireturn, 1) := by decide +kernel
theorem dX0_value_92 : decode cX0_value 92 = .ok (.aload_n 0, 1) := by decide +kernel
theorem dX0_value_93 : decode cX0_value 93 = .ok (.getfield 30, 3) := by decide +kernel
theorem dX0_value_96 : decode cX0_value 96 = .ok (.invokevirtual 50, 3) := by decide +kernel
theorem dX0_value_99 : decode cX0_value 99 = .ok (.ireturn, 1) := by decide +kernel
theorem dX0_value_100 : decode cX0_value 100 = .ok (.aload_n 0, 1) := by decide +kernel
theorem dX0_value_101 : decode cX0_value 101 = .ok (.getfield 43, 3) := by decide +kernel
theorem dX0_value_104 : decode cX0_value 104 = .ok (.invokevirtual 58, 3) := by decide +kernel
theorem dX0_value_107 : decode cX0_value 107 = .ok (.ireturn, 1) := by decide +kernel
theorem dX0_find_0 : decode cX0_find 0 = .ok (.aload_n 0, 1) := by decide +kernel
theorem dX0_find_1 : decode cX0_find 1 = .ok (.getfield 12, 3) := by decide +kernel
theorem dX0_find_4 : decode cX0_find 4 = .ok (.aload_n 1, 1) := by decide +kernel
theorem dX0_find_5 : decode cX0_find 5 = .ok (.invokevirtual 61, 3) := by decide +kernel
theorem dX0_find_8 : decode cX0_find 8 = .ok (.aload_n 0, 1) := by decide +kernel
theorem dX0_find_9 : decode cX0_find 9 = .ok (.getfield 23, 3) := by decide +kernel
theorem dX0_find_12 : decode cX0_find 12 = .ok (.invokevirtual 65, 3) := by decide +kernel
theorem dX0_find_15 : decode cX0_find 15 = .ok (.aload_n 0, 1) := by decide +kernel
theorem dX0_find_16 : decode cX0_find 16 = .ok (.getfield 27, 3) := by decide +kernel
theorem dX0_find_19 : decode cX0_find 19 = .ok (.invokevirtual 65, 3) := by decide +kernel
theorem dX0_find_22 : decode cX0_find 22 = .ok (.aload_n 0, 1) := by decide +kernel
theorem dX0_find_23 : decode cX0_find 23 = .ok (.getfield 30, 3) := by decide +kernel
theorem dX0_find_26 : decode cX0_find 26 = .ok (.invokevirtual 65, 3) := by decide +kernel
theorem dX0_find_29 : decode cX0_find 29 = .ok (.aload_n 0, 1) := by decide +kernel
theorem dX0_find_30 : decode cX0_find 30 = .ok (.getfield 12, 3) := by decide +kernel
theorem dX0_find_33 : decode cX0_find 33 = .ok (.invokevirtual 54, 3) := by decide +kernel
theorem dX0_find_36 : decode cX0_find 36 = .ok (.ifCond .eq 4, 3) := by decide +kernel
theorem dX0_find_39 : decode cX0_find 39 = .ok (.return_, 1) := by decide +kernel
theorem dX0_find_40 : decode cX0_find 40 = .ok (.aload_n 0, 1) := by decide +kernel
theorem dX0_find_41 : decode cX0_find 41 = .ok (.aload_n 1, 1) := by decide +kernel
theorem dX0_find_42 : decode cX0_find 42 = .ok (.invokevirtual 68, 3) := by decide +kernel
theorem dX0_find_45 : decode cX0_find 45 = .ok (.aload_n 0, 1) := by decide +kernel
theorem dX0_find_46 : decode cX0_find 46 = .ok (.getfield 23, 3) := by decide +kernel
theorem dX0_find_49 : decode cX0_find 49 = .ok (.aload_n 0, 1) := by decide +kernel
theorem dX0_find_50 : decode cX0_find 50 = .ok (.getfield 33, 3) := by decide +kernel
theorem dX0_find_53 : decode cX0_find 53 = .ok (.iconst 0, 1) := by decide +kernel
theorem dX0_find_54 : decode cX0_find 54 = .ok (.aaload, 1) := by decide +kernel
theorem dX0_find_55 : decode cX0_find 55 = .ok (.invokevirtual 71, 3) := by decide +kernel
theorem dX0_find_58 : decode cX0_find 58 = .ok (.aload_n 0, 1) := by decide +kernel
theorem dX0_find_59 : decode cX0_find 59 = .ok (.getfield 43, 3) := by decide +kernel
theorem dX0_find_62 : decode cX0_find 62 = .ok (.aload_n 1, 1) := by decide +kernel
theorem dX0_find_63 : decode cX0_find 63 = .ok (.aload_n 0, 1) := by decide +kernel
theorem dX0_find_64 : decode cX0_find 64 = .ok (.getfield 23, 3) := by decide +kernel
theorem dX0_find_67 : decode cX0_find 67 = .ok (.invokevirtual 74, 3) := by decide +kernel
theorem dX0_find_70 : decode cX0_find 70 = .ok (.aload_n 0, 1) := by decide +kernel
theorem dX0_find_71 : decode cX0_find 71 = .ok (.getfield 43, 3) := by decide +kernel
theorem dX0_find_74 : decode cX0_find 74 = .ok (.aload_n 1, 1) := by decide +kernel
theorem dX0_find_75 : decode cX0_find 75 = .ok (.aload_n 0, 1) := by decide +kernel
theorem dX0_find_76 : decode cX0_find 76 = .ok (.getfield 23, 3) := by decide +kernel
theorem dX0_find_79 : decode cX0_find 79 = .ok (.iconst 0, 1) := by decide +kernel
theorem dX0_find_80 : decode cX0_find 80 = .ok (.aload_n 0, 1) := by decide +kernel
theorem dX0_find_81 : decode cX0_find 81 = .ok (.getfield 27, 3) := by decide +kernel
theorem dX0_find_84 : decode cX0_find 84 = .ok (.invokevirtual 78, 3) := by decide +kernel
theorem dX0_find_87 : decode cX0_find 87 = .ok (.aload_n 0, 1) := by decide +kernel
theorem dX0_find_88 : decode cX0_find 88 = .ok (.getfield 43, 3) := by decide +kernel
theorem dX0_find_91 : decode cX0_find 91 = .ok (.aload_n 1, 1) := by decide +kernel
theorem dX0_find_92 : decode cX0_find 92 = .ok (.aload_n 0, 1) := by decide +kernel
theorem dX0_find_93 : decode cX0_find 93 = .ok (.getfield 23, 3) := by decide +kernel
theorem dX0_find_96 : decode cX0_find 96 = .ok (.iconst 1, 1) := by decide +kernel
theorem dX0_find_97 : decode cX0_find 97 = .ok (.aload_n 0, 1) := by decide +kernel
theorem dX0_find_98 : decode cX0_find 98 = .ok (.getfield 30, 3) := by decide +kernel
theorem dX0_find_101 : decode cX0_find 101 = .ok (.invokevirtual 78, 3) := by decide +kernel
theorem dX0_find_104 : decode cX0_find 104 = .ok (.return_, 1) := by decide +kernel
theorem dX0_findTexts_0 : decode cX0_findTexts 0 = .ok (.iconst 0, 1) := by decide +kernel
theorem dX0_findTexts_1 : decode cX0_findTexts 1 = .ok (.istore_n 2, 1) := by decide +kernel
theorem dX0_findTexts_2 : decode cX0_findTexts 2 = .ok (.iload_n 2, 1) := by decide +kernel
theorem dX0_findTexts_3 : decode cX0_findTexts 3 = .ok (.bipush 25, 2) := by decide +kernel
theorem dX0_findTexts_5 : decode cX0_findTexts 5 = .ok (.if_icmp .ge 18, 3) := by decide +kernel
theorem dX0_findTexts_8 : decode cX0_findTexts 8 = .ok (.aload_n 0, 1) := by decide +kernel
theorem dX0_findTexts_9 : decode cX0_findTexts 9 = .ok (.getfield 33, 3) := by decide +kernel
theorem dX0_findTexts_12 : decode cX0_findTexts 12 = .ok (.iload_n 2, 1) := by decide +kernel
theorem dX0_findTexts_13 : decode cX0_findTexts 13 = .ok (.aaload, 1) := by decide +kernel
theorem dX0_findTexts_14 : decode cX0_findTexts 14 = .ok (.invokevirtual 65, 3) := by decide +kernel
theorem dX0_findTexts_17 : decode cX0_findTexts 17 = .ok (.iinc 2 1, 3) := by decide +kernel
theorem dX0_findTexts_20 : decode cX0_findTexts 20 = .ok (.goto (-18), 3) := by decide +kernel
theorem dX0_findTexts_23 : decode cX0_findTexts 23 = .ok (.aload_n 0, 1) := by decide +kernel
theorem dX0_findTexts_24 : decode cX0_findTexts 24 = .ok (.aload_n 1, 1) := by decide +kernel
theorem dX0_findTexts_25 : decode cX0_findTexts 25 = .ok (.invokevirtual 82, 3) := by decide +kernel
theorem dX0_findTexts_28 : decode cX0_findTexts 28 = .ok (.iconst 1, 1) := by decide +kernel
theorem dX0_findTexts_29 : decode cX0_findTexts 29 = .ok (.istore_n 2, 1) := by decide +kernel
theorem dX0_findTexts_30 : decode cX0_findTexts 30 = .ok (.iconst 0, 1) := by decide +kernel
theorem dX0_findTexts_31 : decode cX0_findTexts 31 = .ok (.istore_n 3, 1) := by decide +kernel
theorem dX0_findTexts_32 : decode cX0_findTexts 32 = .ok (.iload_n 3, 1) := by decide +kernel
theorem dX0_findTexts_33 : decode cX0_findTexts 33 = .ok (.bipush 25, 2) := by decide +kernel
theorem dX0_findTexts_35 : decode cX0_findTexts 35 = .ok (.if_icmp .ge 49, 3) := by decide +kernel
theorem dX0_findTexts_38 : decode cX0_findTexts 38 = .ok (.iload_n 2, 1) := by decide +kernel
theorem dX0_findTexts_39 : decode cX0_findTexts 39 = .ok (.ifCond .eq 45, 3) := by decide +kernel
theorem dX0_findTexts_42 : decode cX0_findTexts 42 = .ok (.iconst 0, 1) := by decide +kernel
theorem dX0_findTexts_43 : decode cX0_findTexts 43 = .ok (.istore_n 2, 1) := by decide +kernel
theorem dX0_findTexts_44 : decode cX0_findTexts 44 = .ok (.iconst 0, 1) := by decide +kernel
theorem dX0_findTexts_45 : decode cX0_findTexts 45 = .ok (.istore 4, 2) := by decide +kernel
theorem dX0_findTexts_47 : decode cX0_findTexts 47 = .ok (.iload 4, 2) := by decide +kernel
theorem dX0_findTexts_49 : decode cX0_findTexts 49 = .ok (.aload_n 0, 1) := by decide +kernel
theorem dX0_findTexts_50 : decode cX0_findTexts 50 = .ok (.getfield 12, 3) := by decide +kernel
theorem dX0_findTexts_53 : decode cX0_findTexts 53 = .ok (.getfield 47, 3) := by decide +kernel
theorem dX0_findTexts_56 : decode cX0_findTexts 56 = .ok (.invokevirtual 50, 3) := by decide +kernel
theorem dX0_findTexts_59 : decode cX0_findTexts 59 = .ok (.if_icmp .ge 19, 3) := by decide +kernel
theorem dX0_findTexts_62 : decode cX0_findTexts 62 = .ok (.iload_n 2, 1) := by decide +kernel
theorem dX0_findTexts_63 : decode cX0_findTexts 63 = .ok (.aload_n 0, 1) := by decide +kernel
theorem dX0_findTexts_64 : decode cX0_findTexts 64 = .ok (.aload_n 1, 1) := by decide +kernel
theorem dX0_findTexts_65 : decode cX0_findTexts 65 = .ok (.iload 4, 2) := by decide +kernel
theorem dX0_findTexts_67 : decode cX0_findTexts 67 = .ok (.invokevirtual 85, 3) := by decide +kernel
theorem dX0_findTexts_70 : decode cX0_findTexts 70 = .ok (.ior, 1) := by decide +kernel
theorem dX0_findTexts_71 : decode cX0_findTexts 71 = .ok (.istore_n 2, 1) := by decide +kernel
theorem dX0_findTexts_72 : decode cX0_findTexts 72 = .ok (.iinc 4 1, 3) := by decide +kernel
theorem dX0_findTexts_75 : decode cX0_findTexts 75 = .ok (.goto (-28), 3) := by decide +kernel
theorem dX0_findTexts_78 : decode cX0_findTexts 78 = .ok (.iinc 3 1, 3) := by decide +kernel
theorem dX0_findTexts_81 : decode cX0_findTexts 81 = .ok (.goto (-49), 3) := by decide +kernel
theorem dX0_findTexts_84 : decode cX0_findTexts 84 = .ok (.return_, 1) := by decide +kernel
theorem dX0_startTexts_0 : decode cX0_startTexts 0 = .ok (.iconst 0, 1) := by decide +kernel
theorem dX0_startTexts_1 : decode cX0_startTexts 1 = .ok (.istore_n 2, 1) := by decide +kernel
theorem dX0_startTexts_2 : decode cX0_startTexts 2 = .ok (.iload_n 2, 1) := by decide +kernel
theorem dX0_startTexts_3 : decode cX0_startTexts 3 = .ok (.aload_n 1, 1) := by decide +kernel
theorem dX0_startTexts_4 : decode cX0_startTexts 4 = .ok (.invokevirtual 50, 3) := by decide +kernel
theorem dX0_startTexts_7 : decode cX0_startTexts 7 = .ok (.if_icmp .ge 83, 3) := by decide +kernel
theorem dX0_startTexts_10 : decode cX0_startTexts 10 = .ok (.aload_n 1, 1) := by decide +kernel
theorem dX0_startTexts_11 : decode cX0_startTexts 11 = .ok (.iload_n 2, 1) := by decide +kernel
theorem dX0_startTexts_12 : decode cX0_startTexts 12 = .ok (.invokevirtual 89, 3) := by decide +kernel
theorem dX0_startTexts_15 : decode cX0_startTexts 15 = .ok (.istore_n 3, 1) := by decide +kernel
theorem dX0_startTexts_16 : decode cX0_startTexts 16 = .ok (.iconst 0, 1) := by decide +kernel
theorem dX0_startTexts_17 : decode cX0_startTexts 17 = .ok (.istore 4, 2) := by decide +kernel
theorem dX0_startTexts_19 : decode cX0_startTexts 19 = .ok (.iload 4, 2) := by decide +kernel
theorem dX0_startTexts_21 : decode cX0_startTexts 21 = .ok (.aload_n 1, 1) := by decide +kernel
theorem dX0_startTexts_22 : decode cX0_startTexts 22 = .ok (.invokevirtual 50, 3) := by decide +kernel
theorem dX0_startTexts_25 : decode cX0_startTexts 25 = .ok (.if_icmp .ge 59, 3) := by decide +kernel
theorem dX0_startTexts_28 : decode cX0_startTexts 28 = .ok (.aload_n 1, 1) := by decide +kernel
theorem dX0_startTexts_29 : decode cX0_startTexts 29 = .ok (.iload 4, 2) := by decide +kernel
theorem dX0_startTexts_31 : decode cX0_startTexts 31 = .ok (.invokevirtual 89, 3) := by decide +kernel
theorem dX0_startTexts_34 : decode cX0_startTexts 34 = .ok (.istore 5, 2) := by decide +kernel
theorem dX0_startTexts_36 : decode cX0_startTexts 36 = .ok (.iload_n 2, 1) := by decide +kernel
theorem dX0_startTexts_37 : decode cX0_startTexts 37 = .ok (.iload 4, 2) := by decide +kernel
theorem dX0_startTexts_39 : decode cX0_startTexts 39 = .ok (.if_icmp .eq 39, 3) := by decide +kernel
theorem dX0_startTexts_42 : decode cX0_startTexts 42 = .ok (.iload 5, 2) := by decide +kernel
theorem dX0_startTexts_44 : decode cX0_startTexts 44 = .ok (.iload_n 3, 1) := by decide +kernel
theorem dX0_startTexts_45 : decode cX0_startTexts 45 = .ok (.invokestatic 93, 3) := by decide +kernel
theorem dX0_startTexts_48 : decode cX0_startTexts 48 = .ok (.ifCond .eq 30, 3) := by decide +kernel
theorem dX0_startTexts_51 : decode cX0_startTexts 51 = .ok (.aload_n 0, 1) := by decide +kernel
theorem dX0_startTexts_52 : decode cX0_startTexts 52 = .ok (.getfield 37, 3) := by decide +kernel
theorem dX0_startTexts_55 : decode cX0_startTexts 55 = .ok (.invokevirtual 65, 3) := by decide +kernel
theorem dX0_startTexts_58 : decode cX0_startTexts 58 = .ok (.aload_n 0, 1) := by decide +kernel
theorem dX0_startTexts_59 : decode cX0_startTexts 59 = .ok (.getfield 37, 3) := by decide +kernel
theorem dX0_startTexts_62 : decode cX0_startTexts 62 = .ok (.iload 5, 2) := by decide +kernel
theorem dX0_startTexts_64 : decode cX0_startTexts 64 = .ok (.invokevirtual 99, 3) := by decide +kernel
theorem dX0_startTexts_67 : decode cX0_startTexts 67 = .ok (.aload_n 0, 1) := by decide +kernel
theorem dX0_startTexts_68 : decode cX0_startTexts 68 = .ok (.iload 5, 2) := by decide +kernel
theorem dX0_startTexts_70 : decode cX0_startTexts 70 = .ok (.iload_n 3, 1) := by decide +kernel
theorem dX0_startTexts_71 : decode cX0_startTexts 71 = .ok (.invokestatic 102, 3) := by decide +kernel
theorem dX0_startTexts_74 : decode cX0_startTexts 74 = .ok (.invokevirtual 106, 3) := by decide +kernel
theorem dX0_startTexts_77 : decode cX0_startTexts 77 = .ok (.pop, 1) := by decide +kernel
theorem dX0_startTexts_78 : decode cX0_startTexts 78 = .ok (.iinc 4 1, 3) := by decide +kernel
theorem dX0_startTexts_81 : decode cX0_startTexts 81 = .ok (.goto (-62), 3) := by decide +kernel
theorem dX0_startTexts_84 : decode cX0_startTexts 84 = .ok (.iinc 2 1, 3) := by decide +kernel
theorem dX0_startTexts_87 : decode cX0_startTexts 87 = .ok (.goto (-85), 3) := by decide +kernel
theorem dX0_startTexts_90 : decode cX0_startTexts 90 = .ok (.return_, 1) := by decide +kernel
theorem dX0_followText_0 : decode cX0_followText 0 = .ok (.aload_n 0, 1) := by decide +kernel
theorem dX0_followText_1 : decode cX0_followText 1 = .ok (.getfield 12, 3) := by decide +kernel
theorem dX0_followText_4 : decode cX0_followText 4 = .ok (.getfield 47, 3) := by decide +kernel
theorem dX0_followText_7 : decode cX0_followText 7 = .ok (.iload_n 2, 1) := by decide +kernel
theorem dX0_followText_8 : decode cX0_followText 8 = .ok (.invokevirtual 89, 3) := by decide +kernel
theorem dX0_followText_11 : decode cX0_followText 11 = .ok (.istore_n 3, 1) := by decide +kernel
theorem dX0_followText_12 : decode cX0_followText 12 = .ok (.iload_n 2, 1) := by decide +kernel
theorem dX0_followText_13 : decode cX0_followText 13 = .ok (.ifCond .lt 26, 3) := by decide +kernel
theorem dX0_followText_16 : decode cX0_followText 16 = .ok (.iload_n 2, 1) := by decide +kernel
theorem dX0_followText_17 : decode cX0_followText 17 = .ok (.bipush 25, 2) := by decide +kernel
theorem dX0_followText_19 : decode cX0_followText 19 = .ok (.if_icmp .ge 20, 3) := by decide +kernel
theorem dX0_followText_22 : decode cX0_followText 22 = .ok (.iload_n 3, 1) := by decide +kernel
theorem dX0_followText_23 : decode cX0_followText 23 = .ok (.iconst 1, 1) := by decide +kernel
theorem dX0_followText_24 : decode cX0_followText 24 = .ok (.if_icmp .eq 15, 3) := by decide +kernel
theorem dX0_followText_27 : decode cX0_followText 27 = .ok (.aload_n 0, 1) := by decide +kernel
theorem dX0_followText_28 : decode cX0_followText 28 = .ok (.getfield 33, 3) := by decide +kernel
theorem dX0_followText_31 : decode cX0_followText 31 = .ok (.iload_n 2, 1) := by decide +kernel
theorem dX0_followText_32 : decode cX0_followText 32 = .ok (.aaload, 1) := by decide +kernel
theorem dX0_followText_33 : decode cX0_followText 33 = .ok (.invokevirtual 50, 3) := by decide +kernel
theorem dX0_followText_36 : decode cX0_followText 36 = .ok (.ifCond .ne 5, 3) := by decide +kernel
theorem dX0_followText_39 : decode cX0_followText 39 = .ok (.iconst 0, 1) := by decide +kernel
theorem dX0_followText_40 : decode cX0_followText 40 = .ok (.ireturn, 1) := by decide +kernel
theorem dX0_followText_41 : decode cX0_followText 41 = .ok (.iconst 0, 1) := by decide +kernel
theorem dX0_followText_42 : decode cX0_followText 42 = .ok (.istore 4, 2) := by decide +kernel
theorem dX0_followText_44 : decode cX0_followText 44 = .ok (.iconst 0, 1) := by decide +kernel
theorem dX0_followText_45 : decode cX0_followText 45 = .ok (.istore 5, 2) := by decide +kernel
theorem dX0_followText_47 : decode cX0_followText 47 = .ok (.iload 5, 2) := by decide +kernel
theorem dX0_followText_49 : decode cX0_followText 49 = .ok (.aload_n 1, 1) := by decide +kernel
theorem dX0_followText_50 : decode cX0_followText 50 = .ok (.invokevirtual 50, 3) := by decide +kernel
theorem dX0_followText_53 : decode cX0_followText 53 = .ok (.if_icmp .ge 94, 3) := by decide +kernel
theorem dX0_followText_56 : decode cX0_followText 56 = .ok (.aload_n 1, 1) := by decide +kernel
theorem dX0_followText_57 : decode cX0_followText 57 = .ok (.iload 5, 2) := by decide +kernel
theorem dX0_followText_59 : decode cX0_followText 59 = .ok (.invokevirtual 89, 3) := by decide +kernel
theorem dX0_followText_62 : decode cX0_followText 62 = .ok (.istore 6, 2) := by decide +kernel
theorem dX0_followText_64 : decode cX0_followText 64 = .ok (.aload_n 0, 1) := by decide +kernel
theorem dX0_followText_65 : decode cX0_followText 65 = .ok (.getfield 37, 3) := by decide +kernel
theorem dX0_followText_68 : decode cX0_followText 68 = .ok (.aload_n 0, 1) := by decide +kernel
theorem dX0_followText_69 : decode cX0_followText 69 = .ok (.getfield 33, 3) := by decide +kernel
theorem dX0_followText_72 : decode cX0_followText 72 = .ok (.iload_n 2, 1) := by decide +kernel
theorem dX0_followText_73 : decode cX0_followText 73 = .ok (.aaload, 1) := by decide +kernel
theorem dX0_followText_74 : decode cX0_followText 74 = .ok (.invokevirtual 71, 3) := by decide +kernel
theorem dX0_followText_77 : decode cX0_followText 77 = .ok (.iload 6, 2) := by decide +kernel
theorem dX0_followText_79 : decode cX0_followText 79 = .ok (.iload_n 3, 1) := by decide +kernel
theorem dX0_followText_80 : decode cX0_followText 80 = .ok (.invokestatic 93, 3) := by decide +kernel
theorem dX0_followText_83 : decode cX0_followText 83 = .ok (.ifCond .eq 34, 3) := by decide +kernel
theorem dX0_followText_86 : decode cX0_followText 86 = .ok (.iload 6, 2) := by decide +kernel
theorem dX0_followText_88 : decode cX0_followText 88 = .ok (.iload_n 3, 1) := by decide +kernel
theorem dX0_followText_89 : decode cX0_followText 89 = .ok (.invokestatic 102, 3) := by decide +kernel
theorem dX0_followText_92 : decode cX0_followText 92 = .ok (.istore 7, 2) := by decide +kernel
theorem dX0_followText_94 : decode cX0_followText 94 = .ok (.aload_n 0, 1) := by decide +kernel
theorem dX0_followText_95 : decode cX0_followText 95 = .ok (.getfield 37, 3) := by decide +kernel
theorem dX0_followText_98 : decode cX0_followText 98 = .ok (.iload 7, 2) := by decide +kernel
theorem dX0_followText_100 : decode cX0_followText 100 = .ok (.invokevirtual 99, 3) := by decide +kernel
theorem dX0_followText_103 : decode cX0_followText 103 = .ok (.iload 4, 2) := by decide +kernel
theorem dX0_followText_105 : decode cX0_followText 105 = .ok (.aload_n 0, 1) := by decide +kernel
theorem dX0_followText_106 : decode cX0_followText 106 = .ok (.iload 7, 2) := by decide +kernel
theorem dX0_followText_108 : decode cX0_followText 108 = .ok (.invokevirtual 106, 3) := by decide +kernel
theorem dX0_followText_111 : decode cX0_followText 111 = .ok (.ior, 1) := by decide +kernel
theorem dX0_followText_112 : decode cX0_followText 112 = .ok (.istore 4, 2) := by decide +kernel
theorem dX0_followText_114 : decode cX0_followText 114 = .ok (.goto 27, 3) := by decide +kernel
theorem dX0_followText_117 : decode cX0_followText 117 = .ok (.iload_n 3, 1) := by decide +kernel
theorem dX0_followText_118 : decode cX0_followText 118 = .ok (.iload 6, 2) := by decide +kernel
theorem dX0_followText_120 : decode cX0_followText 120 = .ok (.invokestatic 93, 3) := by decide +kernel
theorem dX0_followText_123 : decode cX0_followText 123 = .ok (.ifCond .eq 18, 3) := by decide +kernel
theorem dX0_followText_126 : decode cX0_followText 126 = .ok (.iload 4, 2) := by decide +kernel
theorem dX0_followText_128 : decode cX0_followText 128 = .ok (.aload_n 0, 1) := by decide +kernel
theorem dX0_followText_129 : decode cX0_followText 129 = .ok (.iload_n 3, 1) := by decide +kernel
theorem dX0_followText_130 : decode cX0_followText 130 = .ok (.iload 6, 2) := by decide +kernel
theorem dX0_followText_132 : decode cX0_followText 132 = .ok (.invokestatic 102, 3) := by decide +kernel
theorem dX0_followText_135 : decode cX0_followText 135 = .ok (.invokevirtual 106, 3) := by decide +kernel
theorem dX0_followText_138 : decode cX0_followText 138 = .ok (.ior, 1) := by decide +kernel
theorem dX0_followText_139 : decode cX0_followText 139 = .ok (.istore 4, 2) := by decide +kernel
theorem dX0_followText_141 : decode cX0_followText 141 = .ok (.iinc 5 1, 3) := by decide +kernel
theorem dX0_followText_144 : decode cX0_followText 144 = .ok (.goto (-97), 3) := by decide +kernel
theorem dX0_followText_147 : decode cX0_followText 147 = .ok (.iload 4, 2) := by decide +kernel
theorem dX0_followText_149 : decode cX0_followText 149 = .ok (.ireturn, 1) := by decide +kernel
theorem dX0_take_0 : decode cX0_take 0 = .ok (.aload_n 0, 1) := by decide +kernel
theorem dX0_take_1 : decode cX0_take 1 = .ok (.getfield 12, 3) := by decide +kernel
theorem dX0_take_4 : decode cX0_take 4 = .ok (.getfield 47, 3) := by decide +kernel
theorem dX0_take_7 : decode cX0_take 7 = .ok (.iload_n 1, 1) := by decide +kernel
theorem dX0_take_8 : decode cX0_take 8 = .ok (.invokevirtual 110, 3) := by decide +kernel
theorem dX0_take_11 : decode cX0_take 11 = .ok (.istore_n 2, 1) := by decide +kernel
theorem dX0_take_12 : decode cX0_take 12 = .ok (.iload_n 2, 1) := by decide +kernel
theorem dX0_take_13 : decode cX0_take 13 = .ok (.ifCond .lt 9, 3) := by decide +kernel
theorem dX0_take_16 : decode cX0_take 16 = .ok (.iload_n 2, 1) := by decide +kernel
theorem dX0_take_17 : decode cX0_take 17 = .ok (.bipush 25, 2) := by decide +kernel
theorem dX0_take_19 : decode cX0_take 19 = .ok (.if_icmp .lt 5, 3) := by decide +kernel
theorem dX0_take_22 : decode cX0_take 22 = .ok (.iconst 0, 1) := by decide +kernel
theorem dX0_take_23 : decode cX0_take 23 = .ok (.ireturn, 1) := by decide +kernel
theorem dX0_take_24 : decode cX0_take 24 = .ok (.aload_n 0, 1) := by decide +kernel
theorem dX0_take_25 : decode cX0_take 25 = .ok (.getfield 33, 3) := by decide +kernel
theorem dX0_take_28 : decode cX0_take 28 = .ok (.iload_n 2, 1) := by decide +kernel
theorem dX0_take_29 : decode cX0_take 29 = .ok (.aaload, 1) := by decide +kernel
theorem dX0_take_30 : decode cX0_take 30 = .ok (.astore_n 3, 1) := by decide +kernel
theorem dX0_take_31 : decode cX0_take 31 = .ok (.aload_n 3, 1) := by decide +kernel
theorem dX0_take_32 : decode cX0_take 32 = .ok (.invokevirtual 50, 3) := by decide +kernel
theorem dX0_take_35 : decode cX0_take 35 = .ok (.ifCond .le 16, 3) := by decide +kernel
theorem dX0_take_38 : decode cX0_take 38 = .ok (.aload_n 0, 1) := by decide +kernel
theorem dX0_take_39 : decode cX0_take 39 = .ok (.getfield 37, 3) := by decide +kernel
theorem dX0_take_42 : decode cX0_take 42 = .ok (.aload_n 3, 1) := by decide +kernel
theorem dX0_take_43 : decode cX0_take 43 = .ok (.invokevirtual 113, 3) := by decide +kernel
theorem dX0_take_46 : decode cX0_take 46 = .ok (.ifCond .ne 5, 3) := by decide +kernel
theorem dX0_take_49 : decode cX0_take 49 = .ok (.iconst 0, 1) := by decide +kernel
theorem dX0_take_50 : decode cX0_take 50 = .ok (.ireturn, 1) := by decide +kernel
theorem dX0_take_51 : decode cX0_take 51 = .ok (.aload_n 3, 1) := by decide +kernel
theorem dX0_take_52 : decode cX0_take 52 = .ok (.aload_n 0, 1) := by decide +kernel
theorem dX0_take_53 : decode cX0_take 53 = .ok (.getfield 37, 3) := by decide +kernel
theorem dX0_take_56 : decode cX0_take 56 = .ok (.invokevirtual 71, 3) := by decide +kernel
theorem dX0_take_59 : decode cX0_take 59 = .ok (.iconst 1, 1) := by decide +kernel
theorem dX0_take_60 : decode cX0_take 60 = .ok (.ireturn, 1) := by decide +kernel
theorem dX1_init_0 : decode cX1_init 0 = .ok (.aload_n 0, 1) := by decide +kernel
theorem dX1_init_1 : decode cX1_init 1 = .ok (.invokespecial 3, 3) := by decide +kernel
theorem dX1_init_4 : decode cX1_init 4 = .ok (.aload_n 0, 1) := by decide +kernel
theorem dX1_init_5 : decode cX1_init 5 = .ok (.iconst 0, 1) := by decide +kernel
theorem dX1_init_6 : decode cX1_init 6 = .ok (.iload_n 1, 1) := by decide +kernel
theorem dX1_init_7 : decode cX1_init 7 = .ok (.invokestatic 9, 3) := by decide +kernel
theorem dX1_init_10 : decode cX1_init 10 = .ok (.newarray .int, 2) := by decide +kernel
theorem dX1_init_12 : decode cX1_init 12 = .ok (.putfield 15, 3) := by decide +kernel
theorem dX1_init_15 : decode cX1_init 15 = .ok (.aload_n 0, 1) := by decide +kernel
theorem dX1_init_16 : decode cX1_init 16 = .ok (.iconst 0, 1) := by decide +kernel
theorem dX1_init_17 : decode cX1_init 17 = .ok (.putfield 21, 3) := by decide +kernel
theorem dX1_init_20 : decode cX1_init 20 = .ok (.return_, 1) := by decide +kernel
theorem dX1_size_0 : decode cX1_size 0 = .ok (.aload_n 0, 1) := by decide +kernel
theorem dX1_size_1 : decode cX1_size 1 = .ok (.getfield 21, 3) := by decide +kernel
theorem dX1_size_4 : decode cX1_size 4 = .ok (.ireturn, 1) := by decide +kernel
theorem dX1_at_0 : decode cX1_at 0 = .ok (.iload_n 1, 1) := by decide +kernel
theorem dX1_at_1 : decode cX1_at 1 = .ok (.ifCond .lt 11, 3) := by decide +kernel
theorem dX1_at_4 : decode cX1_at 4 = .ok (.iload_n 1, 1) := by decide +kernel
theorem dX1_at_5 : decode cX1_at 5 = .ok (.aload_n 0, 1) := by decide +kernel
theorem dX1_at_6 : decode cX1_at 6 = .ok (.getfield 21, 3) := by decide +kernel
theorem dX1_at_9 : decode cX1_at 9 = .ok (.if_icmp .lt 8, 3) := by decide +kernel
theorem dX1_at_12 : decode cX1_at 12 = .ok (.bipush (-101), 2) := by decide +kernel
theorem dX1_at_14 : decode cX1_at 14 = .ok (.goto 9, 3) := by decide +kernel
theorem dX1_at_17 : decode cX1_at 17 = .ok (.aload_n 0, 1) := by decide +kernel
theorem dX1_at_18 : decode cX1_at 18 = .ok (.getfield 15, 3) := by decide +kernel
theorem dX1_at_21 : decode cX1_at 21 = .ok (.iload_n 1, 1) := by decide +kernel
theorem dX1_at_22 : decode cX1_at 22 = .ok (.iaload, 1) := by decide +kernel
theorem dX1_at_23 : decode cX1_at 23 = .ok (.ireturn, 1) := by decide +kernel
theorem dX1_placeOf_0 : decode cX1_placeOf 0 = .ok (.iconst 0, 1) := by decide +kernel
theorem dX1_placeOf_1 : decode cX1_placeOf 1 = .ok (.istore_n 2, 1) := by decide +kernel
theorem dX1_placeOf_2 : decode cX1_placeOf 2 = .ok (.iload_n 2, 1) := by decide +kernel
theorem dX1_placeOf_3 : decode cX1_placeOf 3 = .ok (.aload_n 0, 1) := by decide +kernel
theorem dX1_placeOf_4 : decode cX1_placeOf 4 = .ok (.getfield 21, 3) := by decide +kernel
theorem dX1_placeOf_7 : decode cX1_placeOf 7 = .ok (.if_icmp .ge 21, 3) := by decide +kernel
theorem dX1_placeOf_10 : decode cX1_placeOf 10 = .ok (.aload_n 0, 1) := by decide +kernel
theorem dX1_placeOf_11 : decode cX1_placeOf 11 = .ok (.getfield 15, 3) := by decide +kernel
theorem dX1_placeOf_14 : decode cX1_placeOf 14 = .ok (.iload_n 2, 1) := by decide +kernel
theorem dX1_placeOf_15 : decode cX1_placeOf 15 = .ok (.iaload, 1) := by decide +kernel
theorem dX1_placeOf_16 : decode cX1_placeOf 16 = .ok (.iload_n 1, 1) := by decide +kernel
theorem dX1_placeOf_17 : decode cX1_placeOf 17 = .ok (.if_icmp .ne 5, 3) := by decide +kernel
theorem dX1_placeOf_20 : decode cX1_placeOf 20 = .ok (.iload_n 2, 1) := by decide +kernel
theorem dX1_placeOf_21 : decode cX1_placeOf 21 = .ok (.ireturn, 1) := by decide +kernel
theorem dX1_placeOf_22 : decode cX1_placeOf 22 = .ok (.iinc 2 1, 3) := by decide +kernel
theorem dX1_placeOf_25 : decode cX1_placeOf 25 = .ok (.goto (-23), 3) := by decide +kernel
theorem dX1_placeOf_28 : decode cX1_placeOf 28 = .ok (.iconst (-1), 1) := by decide +kernel
theorem dX1_placeOf_29 : decode cX1_placeOf 29 = .ok (.ireturn, 1) := by decide +kernel
theorem dX1_clear_0 : decode cX1_clear 0 = .ok (.aload_n 0, 1) := by decide +kernel
theorem dX1_clear_1 : decode cX1_clear 1 = .ok (.iconst 0, 1) := by decide +kernel
theorem dX1_clear_2 : decode cX1_clear 2 = .ok (.putfield 21, 3) := by decide +kernel
theorem dX1_clear_5 : decode cX1_clear 5 = .ok (.return_, 1) := by decide +kernel
theorem dX1_add_0 : decode cX1_add 0 = .ok (.aload_n 0, 1) := by decide +kernel
theorem dX1_add_1 : decode cX1_add 1 = .ok (.getfield 21, 3) := by decide +kernel
theorem dX1_add_4 : decode cX1_add 4 = .ok (.aload_n 0, 1) := by decide +kernel
theorem dX1_add_5 : decode cX1_add 5 = .ok (.getfield 15, 3) := by decide +kernel
theorem dX1_add_8 : decode cX1_add 8 = .ok (.arraylength, 1) := by decide +kernel
theorem dX1_add_9 : decode cX1_add 9 = .ok (.if_icmp .ge 23, 3) := by decide +kernel
theorem dX1_add_12 : decode cX1_add 12 = .ok (.aload_n 0, 1) := by decide +kernel
theorem dX1_add_13 : decode cX1_add 13 = .ok (.getfield 15, 3) := by decide +kernel
theorem dX1_add_16 : decode cX1_add 16 = .ok (.aload_n 0, 1) := by decide +kernel
theorem dX1_add_17 : decode cX1_add 17 = .ok (.getfield 21, 3) := by decide +kernel
theorem dX1_add_20 : decode cX1_add 20 = .ok (.iload_n 1, 1) := by decide +kernel
theorem dX1_add_21 : decode cX1_add 21 = .ok (.iastore, 1) := by decide +kernel
theorem dX1_add_22 : decode cX1_add 22 = .ok (.aload_n 0, 1) := by decide +kernel
theorem dX1_add_23 : decode cX1_add 23 = .ok (.dup, 1) := by decide +kernel
theorem dX1_add_24 : decode cX1_add 24 = .ok (.getfield 21, 3) := by decide +kernel
theorem dX1_add_27 : decode cX1_add 27 = .ok (.iconst 1, 1) := by decide +kernel
theorem dX1_add_28 : decode cX1_add 28 = .ok (.iadd, 1) := by decide +kernel
theorem dX1_add_29 : decode cX1_add 29 = .ok (.putfield 21, 3) := by decide +kernel
theorem dX1_add_32 : decode cX1_add 32 = .ok (.return_, 1) := by decide +kernel
theorem dX1_addWord_0 : decode cX1_addWord 0 = .ok (.iload_n 1, 1) := by decide +kernel
theorem dX1_addWord_1 : decode cX1_addWord 1 = .ok (.invokestatic 25, 3) := by decide +kernel
theorem dX1_addWord_4 : decode cX1_addWord 4 = .ok (.iconst 1, 1) := by decide +kernel
theorem dX1_addWord_5 : decode cX1_addWord 5 = .ok (.isub, 1) := by decide +kernel
theorem dX1_addWord_6 : decode cX1_addWord 6 = .ok (.istore_n 2, 1) := by decide +kernel
theorem dX1_addWord_7 : decode cX1_addWord 7 = .ok (.iload_n 2, 1) := by decide +kernel
theorem dX1_addWord_8 : decode cX1_addWord 8 = .ok (.ifCond .lt 18, 3) := by decide +kernel
theorem dX1_addWord_11 : decode cX1_addWord 11 = .ok (.aload_n 0, 1) := by decide +kernel
theorem dX1_addWord_12 : decode cX1_addWord 12 = .ok (.iload_n 1, 1) := by decide +kernel
theorem dX1_addWord_13 : decode cX1_addWord 13 = .ok (.iload_n 2, 1) := by decide +kernel
theorem dX1_addWord_14 : decode cX1_addWord 14 = .ok (.invokestatic 30, 3) := by decide +kernel
theorem dX1_addWord_17 : decode cX1_addWord 17 = .ok (.invokevirtual 33, 3) := by decide +kernel
theorem dX1_addWord_20 : decode cX1_addWord 20 = .ok (.iinc 2 (-1), 3) := by decide +kernel
theorem dX1_addWord_23 : decode cX1_addWord 23 = .ok (.goto (-16), 3) := by decide +kernel
theorem dX1_addWord_26 : decode cX1_addWord 26 = .ok (.return_, 1) := by decide +kernel
theorem dX1_copy_0 : decode cX1_copy 0 = .ok (.aload_n 0, 1) := by decide +kernel
theorem dX1_copy_1 : decode cX1_copy 1 = .ok (.aload_n 1, 1) := by decide +kernel
theorem dX1_copy_2 : decode cX1_copy 2 = .ok (.getfield 21, 3) := by decide +kernel
theorem dX1_copy_5 : decode cX1_copy 5 = .ok (.aload_n 0, 1) := by decide +kernel
theorem dX1_copy_6 : decode cX1_copy 6 = .ok (.getfield 15, 3) := by decide +kernel
theorem dX1_copy_9 : decode cX1_copy 9 = .ok (.arraylength, 1) := by decide +kernel
theorem dX1_copy_10 : decode cX1_copy 10 = .ok (.if_icmp .ge 10, 3) := by decide +kernel
theorem dX1_copy_13 : decode cX1_copy 13 = .ok (.aload_n 1, 1) := by decide +kernel
theorem dX1_copy_14 : decode cX1_copy 14 = .ok (.getfield 21, 3) := by decide +kernel
theorem dX1_copy_17 : decode cX1_copy 17 = .ok (.goto 8, 3) := by decide +kernel
theorem dX1_copy_20 : decode cX1_copy 20 = .ok (.aload_n 0, 1) := by decide +kernel
theorem dX1_copy_21 : decode cX1_copy 21 = .ok (.getfield 15, 3) := by decide +kernel
theorem dX1_copy_24 : decode cX1_copy 24 = .ok (.arraylength, 1) := by decide +kernel
theorem dX1_copy_25 : decode cX1_copy 25 = .ok (.putfield 21, 3) := by decide +kernel
theorem dX1_copy_28 : decode cX1_copy 28 = .ok (.iconst 0, 1) := by decide +kernel
theorem dX1_copy_29 : decode cX1_copy 29 = .ok (.istore_n 2, 1) := by decide +kernel
theorem dX1_copy_30 : decode cX1_copy 30 = .ok (.iload_n 2, 1) := by decide +kernel
theorem dX1_copy_31 : decode cX1_copy 31 = .ok (.aload_n 0, 1) := by decide +kernel
theorem dX1_copy_32 : decode cX1_copy 32 = .ok (.getfield 21, 3) := by decide +kernel
theorem dX1_copy_35 : decode cX1_copy 35 = .ok (.if_icmp .ge 21, 3) := by decide +kernel
theorem dX1_copy_38 : decode cX1_copy 38 = .ok (.aload_n 0, 1) := by decide +kernel
theorem dX1_copy_39 : decode cX1_copy 39 = .ok (.getfield 15, 3) := by decide +kernel
theorem dX1_copy_42 : decode cX1_copy 42 = .ok (.iload_n 2, 1) := by decide +kernel
theorem dX1_copy_43 : decode cX1_copy 43 = .ok (.aload_n 1, 1) := by decide +kernel
theorem dX1_copy_44 : decode cX1_copy 44 = .ok (.getfield 15, 3) := by decide +kernel
theorem dX1_copy_47 : decode cX1_copy 47 = .ok (.iload_n 2, 1) := by decide +kernel
theorem dX1_copy_48 : decode cX1_copy 48 = .ok (.iaload, 1) := by decide +kernel
theorem dX1_copy_49 : decode cX1_copy 49 = .ok (.iastore, 1) := by decide +kernel
theorem dX1_copy_50 : decode cX1_copy 50 = .ok (.iinc 2 1, 3) := by decide +kernel
theorem dX1_copy_53 : decode cX1_copy 53 = .ok (.goto (-23), 3) := by decide +kernel
theorem dX1_copy_56 : decode cX1_copy 56 = .ok (.return_, 1) := by decide +kernel
theorem dX1_remove_0 : decode cX1_remove 0 = .ok (.iload_n 1, 1) := by decide +kernel
theorem dX1_remove_1 : decode cX1_remove 1 = .ok (.ifCond .lt 11, 3) := by decide +kernel
theorem dX1_remove_4 : decode cX1_remove 4 = .ok (.iload_n 1, 1) := by decide +kernel
theorem dX1_remove_5 : decode cX1_remove 5 = .ok (.aload_n 0, 1) := by decide +kernel
theorem dX1_remove_6 : decode cX1_remove 6 = .ok (.getfield 21, 3) := by decide +kernel
theorem dX1_remove_9 : decode cX1_remove 9 = .ok (.if_icmp .lt 4, 3) := by decide +kernel
theorem dX1_remove_12 : decode cX1_remove 12 = .ok (.return_, 1) := by decide +kernel
theorem dX1_remove_13 : decode cX1_remove 13 = .ok (.iload_n 1, 1) := by decide +kernel
theorem dX1_remove_14 : decode cX1_remove 14 = .ok (.iconst 1, 1) := by decide +kernel
theorem dX1_remove_15 : decode cX1_remove 15 = .ok (.iadd, 1) := by decide +kernel
theorem dX1_remove_16 : decode cX1_remove 16 = .ok (.istore_n 2, 1) := by decide +kernel
theorem dX1_remove_17 : decode cX1_remove 17 = .ok (.iload_n 2, 1) := by decide +kernel
theorem dX1_remove_18 : decode cX1_remove 18 = .ok (.aload_n 0, 1) := by decide +kernel
theorem dX1_remove_19 : decode cX1_remove 19 = .ok (.getfield 21, 3) := by decide +kernel
theorem dX1_remove_22 : decode cX1_remove 22 = .ok (.if_icmp .ge 23, 3) := by decide +kernel
theorem dX1_remove_25 : decode cX1_remove 25 = .ok (.aload_n 0, 1) := by decide +kernel
theorem dX1_remove_26 : decode cX1_remove 26 = .ok (.getfield 15, 3) := by decide +kernel
theorem dX1_remove_29 : decode cX1_remove 29 = .ok (.iload_n 2, 1) := by decide +kernel
theorem dX1_remove_30 : decode cX1_remove 30 = .ok (.iconst 1, 1) := by decide +kernel
theorem dX1_remove_31 : decode cX1_remove 31 = .ok (.isub, 1) := by decide +kernel
theorem dX1_remove_32 : decode cX1_remove 32 = .ok (.aload_n 0, 1) := by decide +kernel
theorem dX1_remove_33 : decode cX1_remove 33 = .ok (.getfield 15, 3) := by decide +kernel
theorem dX1_remove_36 : decode cX1_remove 36 = .ok (.iload_n 2, 1) := by decide +kernel
theorem dX1_remove_37 : decode cX1_remove 37 = .ok (.iaload, 1) := by decide +kernel
theorem dX1_remove_38 : decode cX1_remove 38 = .ok (.iastore, 1) := by decide +kernel
theorem dX1_remove_39 : decode cX1_remove 39 = .ok (.iinc 2 1, 3) := by decide +kernel
theorem dX1_remove_42 : decode cX1_remove 42 = .ok (.goto (-25), 3) := by decide +kernel
theorem dX1_remove_45 : decode cX1_remove 45 = .ok (.aload_n 0, 1) := by decide +kernel
theorem dX1_remove_46 : decode cX1_remove 46 = .ok (.dup, 1) := by decide +kernel
theorem dX1_remove_47 : decode cX1_remove 47 = .ok (.getfield 21, 3) := by decide +kernel
theorem dX1_remove_50 : decode cX1_remove 50 = .ok (.iconst 1, 1) := by decide +kernel
theorem dX1_remove_51 : decode cX1_remove 51 = .ok (.isub, 1) := by decide +kernel
theorem dX1_remove_52 : decode cX1_remove 52 = .ok (.putfield 21, 3) := by decide +kernel
theorem dX1_remove_55 : decode cX1_remove 55 = .ok (.return_, 1) := by decide +kernel
theorem dX1_sort_0 : decode cX1_sort 0 = .ok (.iconst 1, 1) := by decide +kernel
theorem dX1_sort_1 : decode cX1_sort 1 = .ok (.istore_n 1, 1) := by decide +kernel
theorem dX1_sort_2 : decode cX1_sort 2 = .ok (.iload_n 1, 1) := by decide +kernel
theorem dX1_sort_3 : decode cX1_sort 3 = .ok (.aload_n 0, 1) := by decide +kernel
theorem dX1_sort_4 : decode cX1_sort 4 = .ok (.getfield 21, 3) := by decide +kernel
theorem dX1_sort_7 : decode cX1_sort 7 = .ok (.if_icmp .ge 61, 3) := by decide +kernel
theorem dX1_sort_10 : decode cX1_sort 10 = .ok (.aload_n 0, 1) := by decide +kernel
theorem dX1_sort_11 : decode cX1_sort 11 = .ok (.getfield 15, 3) := by decide +kernel
theorem dX1_sort_14 : decode cX1_sort 14 = .ok (.iload_n 1, 1) := by decide +kernel
theorem dX1_sort_15 : decode cX1_sort 15 = .ok (.iaload, 1) := by decide +kernel
theorem dX1_sort_16 : decode cX1_sort 16 = .ok (.istore_n 2, 1) := by decide +kernel
theorem dX1_sort_17 : decode cX1_sort 17 = .ok (.iload_n 1, 1) := by decide +kernel
theorem dX1_sort_18 : decode cX1_sort 18 = .ok (.istore_n 3, 1) := by decide +kernel
theorem dX1_sort_19 : decode cX1_sort 19 = .ok (.iload_n 3, 1) := by decide +kernel
theorem dX1_sort_20 : decode cX1_sort 20 = .ok (.ifCond .le 35, 3) := by decide +kernel
theorem dX1_sort_23 : decode cX1_sort 23 = .ok (.aload_n 0, 1) := by decide +kernel
theorem dX1_sort_24 : decode cX1_sort 24 = .ok (.getfield 15, 3) := by decide +kernel
theorem dX1_sort_27 : decode cX1_sort 27 = .ok (.iload_n 3, 1) := by decide +kernel
theorem dX1_sort_28 : decode cX1_sort 28 = .ok (.iconst 1, 1) := by decide +kernel
theorem dX1_sort_29 : decode cX1_sort 29 = .ok (.isub, 1) := by decide +kernel
theorem dX1_sort_30 : decode cX1_sort 30 = .ok (.iaload, 1) := by decide +kernel
theorem dX1_sort_31 : decode cX1_sort 31 = .ok (.iload_n 2, 1) := by decide +kernel
theorem dX1_sort_32 : decode cX1_sort 32 = .ok (.if_icmp .le 23, 3) := by decide +kernel
theorem dX1_sort_35 : decode cX1_sort 35 = .ok (.aload_n 0, 1) := by decide +kernel
theorem dX1_sort_36 : decode cX1_sort 36 = .ok (.getfield 15, 3) := by decide +kernel
theorem dX1_sort_39 : decode cX1_sort 39 = .ok (.iload_n 3, 1) := by decide +kernel
theorem dX1_sort_40 : decode cX1_sort 40 = .ok (.aload_n 0, 1) := by decide +kernel
theorem dX1_sort_41 : decode cX1_sort 41 = .ok (.getfield 15, 3) := by decide +kernel
theorem dX1_sort_44 : decode cX1_sort 44 = .ok (.iload_n 3, 1) := by decide +kernel
theorem dX1_sort_45 : decode cX1_sort 45 = .ok (.iconst 1, 1) := by decide +kernel
theorem dX1_sort_46 : decode cX1_sort 46 = .ok (.isub, 1) := by decide +kernel
theorem dX1_sort_47 : decode cX1_sort 47 = .ok (.iaload, 1) := by decide +kernel
theorem dX1_sort_48 : decode cX1_sort 48 = .ok (.iastore, 1) := by decide +kernel
theorem dX1_sort_49 : decode cX1_sort 49 = .ok (.iinc 3 (-1), 3) := by decide +kernel
theorem dX1_sort_52 : decode cX1_sort 52 = .ok (.goto (-33), 3) := by decide +kernel
theorem dX1_sort_55 : decode cX1_sort 55 = .ok (.aload_n 0, 1) := by decide +kernel
theorem dX1_sort_56 : decode cX1_sort 56 = .ok (.getfield 15, 3) := by decide +kernel
theorem dX1_sort_59 : decode cX1_sort 59 = .ok (.iload_n 3, 1) := by decide +kernel
theorem dX1_sort_60 : decode cX1_sort 60 = .ok (.iload_n 2, 1) := by decide +kernel
theorem dX1_sort_61 : decode cX1_sort 61 = .ok (.iastore, 1) := by decide +kernel
theorem dX1_sort_62 : decode cX1_sort 62 = .ok (.iinc 1 1, 3) := by decide +kernel
theorem dX1_sort_65 : decode cX1_sort 65 = .ok (.goto (-63), 3) := by decide +kernel
theorem dX1_sort_68 : decode cX1_sort 68 = .ok (.return_, 1) := by decide +kernel
theorem dX1_isSame_0 : decode cX1_isSame 0 = .ok (.aload_n 0, 1) := by decide +kernel
theorem dX1_isSame_1 : decode cX1_isSame 1 = .ok (.getfield 21, 3) := by decide +kernel
theorem dX1_isSame_4 : decode cX1_isSame 4 = .ok (.aload_n 1, 1) := by decide +kernel
theorem dX1_isSame_5 : decode cX1_isSame 5 = .ok (.getfield 21, 3) := by decide +kernel
theorem dX1_isSame_8 : decode cX1_isSame 8 = .ok (.if_icmp .eq 5, 3) := by decide +kernel
theorem dX1_isSame_11 : decode cX1_isSame 11 = .ok (.iconst 0, 1) := by decide +kernel
theorem dX1_isSame_12 : decode cX1_isSame 12 = .ok (.ireturn, 1) := by decide +kernel
theorem dX1_isSame_13 : decode cX1_isSame 13 = .ok (.iconst 0, 1) := by decide +kernel
theorem dX1_isSame_14 : decode cX1_isSame 14 = .ok (.istore_n 2, 1) := by decide +kernel
theorem dX1_isSame_15 : decode cX1_isSame 15 = .ok (.iload_n 2, 1) := by decide +kernel
theorem dX1_isSame_16 : decode cX1_isSame 16 = .ok (.aload_n 0, 1) := by decide +kernel
theorem dX1_isSame_17 : decode cX1_isSame 17 = .ok (.getfield 21, 3) := by decide +kernel
theorem dX1_isSame_20 : decode cX1_isSame 20 = .ok (.if_icmp .ge 26, 3) := by decide +kernel
theorem dX1_isSame_23 : decode cX1_isSame 23 = .ok (.aload_n 0, 1) := by decide +kernel
theorem dX1_isSame_24 : decode cX1_isSame 24 = .ok (.getfield 15, 3) := by decide +kernel
theorem dX1_isSame_27 : decode cX1_isSame 27 = .ok (.iload_n 2, 1) := by decide +kernel
theorem dX1_isSame_28 : decode cX1_isSame 28 = .ok (.iaload, 1) := by decide +kernel
theorem dX1_isSame_29 : decode cX1_isSame 29 = .ok (.aload_n 1, 1) := by decide +kernel
theorem dX1_isSame_30 : decode cX1_isSame 30 = .ok (.getfield 15, 3) := by decide +kernel
theorem dX1_isSame_33 : decode cX1_isSame 33 = .ok (.iload_n 2, 1) := by decide +kernel
theorem dX1_isSame_34 : decode cX1_isSame 34 = .ok (.iaload, 1) := by decide +kernel
theorem dX1_isSame_35 : decode cX1_isSame 35 = .ok (.if_icmp .eq 5, 3) := by decide +kernel
theorem dX1_isSame_38 : decode cX1_isSame 38 = .ok (.iconst 0, 1) := by decide +kernel
theorem dX1_isSame_39 : decode cX1_isSame 39 = .ok (.ireturn, 1) := by decide +kernel
theorem dX1_isSame_40 : decode cX1_isSame 40 = .ok (.iinc 2 1, 3) := by decide +kernel
theorem dX1_isSame_43 : decode cX1_isSame 43 = .ok (.goto (-28), 3) := by decide +kernel
theorem dX1_isSame_46 : decode cX1_isSame 46 = .ok (.iconst 1, 1) := by decide +kernel
theorem dX1_isSame_47 : decode cX1_isSame 47 = .ok (.ireturn, 1) := by decide +kernel
theorem dX1_isBefore_0 : decode cX1_isBefore 0 = .ok (.aload_n 0, 1) := by decide +kernel
theorem dX1_isBefore_1 : decode cX1_isBefore 1 = .ok (.getfield 21, 3) := by decide +kernel
theorem dX1_isBefore_4 : decode cX1_isBefore 4 = .ok (.aload_n 1, 1) := by decide +kernel
theorem dX1_isBefore_5 : decode cX1_isBefore 5 = .ok (.getfield 21, 3) := by decide +kernel
theorem dX1_isBefore_8 : decode cX1_isBefore 8 = .ok (.if_icmp .eq 20, 3) := by decide +kernel
theorem dX1_isBefore_11 : decode cX1_isBefore 11 = .ok (.aload_n 0, 1) := by decide +kernel
theorem dX1_isBefore_12 : decode cX1_isBefore 12 = .ok (.getfield 21, 3) := by decide +kernel
theorem dX1_isBefore_15 : decode cX1_isBefore 15 = .ok (.aload_n 1, 1) := by decide +kernel
theorem dX1_isBefore_16 : decode cX1_isBefore 16 = .ok (.getfield 21, 3) := by decide +kernel
theorem dX1_isBefore_19 : decode cX1_isBefore 19 = .ok (.if_icmp .ge 7, 3) := by decide +kernel
theorem dX1_isBefore_22 : decode cX1_isBefore 22 = .ok (.iconst 1, 1) := by decide +kernel
theorem dX1_isBefore_23 : decode cX1_isBefore 23 = .ok (.goto 4, 3) := by decide +kernel
theorem dX1_isBefore_26 : decode cX1_isBefore 26 = .ok (.iconst 0, 1) := by decide +kernel
theorem dX1_isBefore_27 : decode cX1_isBefore 27 = .ok (.ireturn, 1) := by decide +kernel
theorem dX1_isBefore_28 : decode cX1_isBefore 28 = .ok (.iconst 0, 1) := by decide +kernel
theorem dX1_isBefore_29 : decode cX1_isBefore 29 = .ok (.istore_n 2, 1) := by decide +kernel
theorem dX1_isBefore_30 : decode cX1_isBefore 30 = .ok (.iload_n 2, 1) := by decide +kernel
theorem dX1_isBefore_31 : decode cX1_isBefore 31 = .ok (.aload_n 0, 1) := by decide +kernel
theorem dX1_isBefore_32 : decode cX1_isBefore 32 = .ok (.getfield 21, 3) := by decide +kernel
theorem dX1_isBefore_35 : decode cX1_isBefore 35 = .ok (.if_icmp .ge 45, 3) := by decide +kernel
theorem dX1_isBefore_38 : decode cX1_isBefore 38 = .ok (.aload_n 0, 1) := by decide +kernel
theorem dX1_isBefore_39 : decode cX1_isBefore 39 = .ok (.getfield 15, 3) := by decide +kernel
theorem dX1_isBefore_42 : decode cX1_isBefore 42 = .ok (.iload_n 2, 1) := by decide +kernel
theorem dX1_isBefore_43 : decode cX1_isBefore 43 = .ok (.iaload, 1) := by decide +kernel
theorem dX1_isBefore_44 : decode cX1_isBefore 44 = .ok (.aload_n 1, 1) := by decide +kernel
theorem dX1_isBefore_45 : decode cX1_isBefore 45 = .ok (.getfield 15, 3) := by decide +kernel
theorem dX1_isBefore_48 : decode cX1_isBefore 48 = .ok (.iload_n 2, 1) := by decide +kernel
theorem dX1_isBefore_49 : decode cX1_isBefore 49 = .ok (.iaload, 1) := by decide +kernel
theorem dX1_isBefore_50 : decode cX1_isBefore 50 = .ok (.if_icmp .eq 24, 3) := by decide +kernel
theorem dX1_isBefore_53 : decode cX1_isBefore 53 = .ok (.aload_n 0, 1) := by decide +kernel
theorem dX1_isBefore_54 : decode cX1_isBefore 54 = .ok (.getfield 15, 3) := by decide +kernel
theorem dX1_isBefore_57 : decode cX1_isBefore 57 = .ok (.iload_n 2, 1) := by decide +kernel
theorem dX1_isBefore_58 : decode cX1_isBefore 58 = .ok (.iaload, 1) := by decide +kernel
theorem dX1_isBefore_59 : decode cX1_isBefore 59 = .ok (.aload_n 1, 1) := by decide +kernel
theorem dX1_isBefore_60 : decode cX1_isBefore 60 = .ok (.getfield 15, 3) := by decide +kernel
theorem dX1_isBefore_63 : decode cX1_isBefore 63 = .ok (.iload_n 2, 1) := by decide +kernel
theorem dX1_isBefore_64 : decode cX1_isBefore 64 = .ok (.iaload, 1) := by decide +kernel
theorem dX1_isBefore_65 : decode cX1_isBefore 65 = .ok (.if_icmp .ge 7, 3) := by decide +kernel
theorem dX1_isBefore_68 : decode cX1_isBefore 68 = .ok (.iconst 1, 1) := by decide +kernel
theorem dX1_isBefore_69 : decode cX1_isBefore 69 = .ok (.goto 4, 3) := by decide +kernel
theorem dX1_isBefore_72 : decode cX1_isBefore 72 = .ok (.iconst 0, 1) := by decide +kernel
theorem dX1_isBefore_73 : decode cX1_isBefore 73 = .ok (.ireturn, 1) := by decide +kernel
theorem dX1_isBefore_74 : decode cX1_isBefore 74 = .ok (.iinc 2 1, 3) := by decide +kernel
theorem dX1_isBefore_77 : decode cX1_isBefore 77 = .ok (.goto (-47), 3) := by decide +kernel
theorem dX1_isBefore_80 : decode cX1_isBefore 80 = .ok (.iconst 0, 1) := by decide +kernel
theorem dX1_isBefore_81 : decode cX1_isBefore 81 = .ok (.ireturn, 1) := by decide +kernel
theorem dX2_endOf_0 : decode cX2_endOf 0 = .ok (.iload_n 2, 1) := by decide +kernel
theorem dX2_endOf_1 : decode cX2_endOf 1 = .ok (.iload_n 0, 1) := by decide +kernel
theorem dX2_endOf_2 : decode cX2_endOf 2 = .ok (.invokestatic 9, 3) := by decide +kernel
theorem dX2_endOf_5 : decode cX2_endOf 5 = .ok (.iadd, 1) := by decide +kernel
theorem dX2_endOf_6 : decode cX2_endOf 6 = .ok (.istore_n 3, 1) := by decide +kernel
theorem dX2_endOf_7 : decode cX2_endOf 7 = .ok (.iload_n 2, 1) := by decide +kernel
theorem dX2_endOf_8 : decode cX2_endOf 8 = .ok (.istore 4, 2) := by decide +kernel
theorem dX2_endOf_10 : decode cX2_endOf 10 = .ok (.iload 4, 2) := by decide +kernel
theorem dX2_endOf_12 : decode cX2_endOf 12 = .ok (.iload_n 3, 1) := by decide +kernel
theorem dX2_endOf_13 : decode cX2_endOf 13 = .ok (.if_icmp .ge 30, 3) := by decide +kernel
theorem dX2_endOf_16 : decode cX2_endOf 16 = .ok (.aload_n 1, 1) := by decide +kernel
theorem dX2_endOf_17 : decode cX2_endOf 17 = .ok (.iload 4, 2) := by decide +kernel
theorem dX2_endOf_19 : decode cX2_endOf 19 = .ok (.invokevirtual 15, 3) := by decide +kernel
theorem dX2_endOf_22 : decode cX2_endOf 22 = .ok (.iload_n 0, 1) := by decide +kernel
theorem dX2_endOf_23 : decode cX2_endOf 23 = .ok (.iload_n 3, 1) := by decide +kernel
theorem dX2_endOf_24 : decode cX2_endOf 24 = .ok (.iconst 1, 1) := by decide +kernel
theorem dX2_endOf_25 : decode cX2_endOf 25 = .ok (.isub, 1) := by decide +kernel
theorem dX2_endOf_26 : decode cX2_endOf 26 = .ok (.iload 4, 2) := by decide +kernel
theorem dX2_endOf_28 : decode cX2_endOf 28 = .ok (.isub, 1) := by decide +kernel
theorem dX2_endOf_29 : decode cX2_endOf 29 = .ok (.invokestatic 20, 3) := by decide +kernel
theorem dX2_endOf_32 : decode cX2_endOf 32 = .ok (.if_icmp .eq 5, 3) := by decide +kernel
theorem dX2_endOf_35 : decode cX2_endOf 35 = .ok (.iconst (-1), 1) := by decide +kernel
theorem dX2_endOf_36 : decode cX2_endOf 36 = .ok (.ireturn, 1) := by decide +kernel
theorem dX2_endOf_37 : decode cX2_endOf 37 = .ok (.iinc 4 1, 3) := by decide +kernel
theorem dX2_endOf_40 : decode cX2_endOf 40 = .ok (.goto (-30), 3) := by decide +kernel
theorem dX2_endOf_43 : decode cX2_endOf 43 = .ok (.iload_n 3, 1) := by decide +kernel
theorem dX2_endOf_44 : decode cX2_endOf 44 = .ok (.ireturn, 1) := by decide +kernel
theorem dX2_longest_0 : decode cX2_longest 0 = .ok (.iconst (-1), 1) := by decide +kernel
theorem dX2_longest_1 : decode cX2_longest 1 = .ok (.istore_n 3, 1) := by decide +kernel
theorem dX2_longest_2 : decode cX2_longest 2 = .ok (.iload_n 2, 1) := by decide +kernel
theorem dX2_longest_3 : decode cX2_longest 3 = .ok (.istore 4, 2) := by decide +kernel
theorem dX2_longest_5 : decode cX2_longest 5 = .ok (.iconst 0, 1) := by decide +kernel
theorem dX2_longest_6 : decode cX2_longest 6 = .ok (.istore 5, 2) := by decide +kernel
theorem dX2_longest_8 : decode cX2_longest 8 = .ok (.iload 5, 2) := by decide +kernel
theorem dX2_longest_10 : decode cX2_longest 10 = .ok (.aload_n 0, 1) := by decide +kernel
theorem dX2_longest_11 : decode cX2_longest 11 = .ok (.invokevirtual 24, 3) := by decide +kernel
theorem dX2_longest_14 : decode cX2_longest 14 = .ok (.if_icmp .ge 36, 3) := by decide +kernel
theorem dX2_longest_17 : decode cX2_longest 17 = .ok (.aload_n 0, 1) := by decide +kernel
theorem dX2_longest_18 : decode cX2_longest 18 = .ok (.iload 5, 2) := by decide +kernel
theorem dX2_longest_20 : decode cX2_longest 20 = .ok (.invokevirtual 15, 3) := by decide +kernel
theorem dX2_longest_23 : decode cX2_longest 23 = .ok (.aload_n 1, 1) := by decide +kernel
theorem dX2_longest_24 : decode cX2_longest 24 = .ok (.iload_n 2, 1) := by decide +kernel
theorem dX2_longest_25 : decode cX2_longest 25 = .ok (.invokestatic 27, 3) := by decide +kernel
theorem dX2_longest_28 : decode cX2_longest 28 = .ok (.istore 6, 2) := by decide +kernel
theorem dX2_longest_30 : decode cX2_longest 30 = .ok (.iload 6, 2) := by decide +kernel
theorem dX2_longest_32 : decode cX2_longest 32 = .ok (.iload 4, 2) := by decide +kernel
theorem dX2_longest_34 : decode cX2_longest 34 = .ok (.if_icmp .le 10, 3) := by decide +kernel
theorem dX2_longest_37 : decode cX2_longest 37 = .ok (.iload 5, 2) := by decide +kernel
theorem dX2_longest_39 : decode cX2_longest 39 = .ok (.istore_n 3, 1) := by decide +kernel
theorem dX2_longest_40 : decode cX2_longest 40 = .ok (.iload 6, 2) := by decide +kernel
theorem dX2_longest_42 : decode cX2_longest 42 = .ok (.istore 4, 2) := by decide +kernel
theorem dX2_longest_44 : decode cX2_longest 44 = .ok (.iinc 5 1, 3) := by decide +kernel
theorem dX2_longest_47 : decode cX2_longest 47 = .ok (.goto (-39), 3) := by decide +kernel
theorem dX2_longest_50 : decode cX2_longest 50 = .ok (.iload_n 3, 1) := by decide +kernel
theorem dX2_longest_51 : decode cX2_longest 51 = .ok (.ireturn, 1) := by decide +kernel
theorem dX2_decode_0 : decode cX2_decode 0 = .ok (.aload_n 2, 1) := by decide +kernel
theorem dX2_decode_1 : decode cX2_decode 1 = .ok (.invokevirtual 33, 3) := by decide +kernel
theorem dX2_decode_4 : decode cX2_decode 4 = .ok (.iconst 0, 1) := by decide +kernel
theorem dX2_decode_5 : decode cX2_decode 5 = .ok (.istore_n 3, 1) := by decide +kernel
theorem dX2_decode_6 : decode cX2_decode 6 = .ok (.iconst 0, 1) := by decide +kernel
theorem dX2_decode_7 : decode cX2_decode 7 = .ok (.istore 4, 2) := by decide +kernel
theorem dX2_decode_9 : decode cX2_decode 9 = .ok (.iload 4, 2) := by decide +kernel
theorem dX2_decode_11 : decode cX2_decode 11 = .ok (.aload_n 1, 1) := by decide +kernel
theorem dX2_decode_12 : decode cX2_decode 12 = .ok (.invokevirtual 24, 3) := by decide +kernel
theorem dX2_decode_15 : decode cX2_decode 15 = .ok (.if_icmp .ge 51, 3) := by decide +kernel
theorem dX2_decode_18 : decode cX2_decode 18 = .ok (.iload_n 3, 1) := by decide +kernel
theorem dX2_decode_19 : decode cX2_decode 19 = .ok (.aload_n 1, 1) := by decide +kernel
theorem dX2_decode_20 : decode cX2_decode 20 = .ok (.invokevirtual 24, 3) := by decide +kernel
theorem dX2_decode_23 : decode cX2_decode 23 = .ok (.if_icmp .ge 43, 3) := by decide +kernel
theorem dX2_decode_26 : decode cX2_decode 26 = .ok (.aload_n 0, 1) := by decide +kernel
theorem dX2_decode_27 : decode cX2_decode 27 = .ok (.aload_n 1, 1) := by decide +kernel
theorem dX2_decode_28 : decode cX2_decode 28 = .ok (.iload_n 3, 1) := by decide +kernel
theorem dX2_decode_29 : decode cX2_decode 29 = .ok (.invokestatic 36, 3) := by decide +kernel
theorem dX2_decode_32 : decode cX2_decode 32 = .ok (.istore 5, 2) := by decide +kernel
theorem dX2_decode_34 : decode cX2_decode 34 = .ok (.iload 5, 2) := by decide +kernel
theorem dX2_decode_36 : decode cX2_decode 36 = .ok (.iconst (-1), 1) := by decide +kernel
theorem dX2_decode_37 : decode cX2_decode 37 = .ok (.if_icmp .ne 5, 3) := by decide +kernel
theorem dX2_decode_40 : decode cX2_decode 40 = .ok (.iload_n 3, 1) := by decide +kernel
theorem dX2_decode_41 : decode cX2_decode 41 = .ok (.ireturn, 1) := by decide +kernel
theorem dX2_decode_42 : decode cX2_decode 42 = .ok (.aload_n 2, 1) := by decide +kernel
theorem dX2_decode_43 : decode cX2_decode 43 = .ok (.iload 5, 2) := by decide +kernel
theorem dX2_decode_45 : decode cX2_decode 45 = .ok (.invokevirtual 40, 3) := by decide +kernel
theorem dX2_decode_48 : decode cX2_decode 48 = .ok (.iload_n 3, 1) := by decide +kernel
theorem dX2_decode_49 : decode cX2_decode 49 = .ok (.aload_n 0, 1) := by decide +kernel
theorem dX2_decode_50 : decode cX2_decode 50 = .ok (.iload 5, 2) := by decide +kernel
theorem dX2_decode_52 : decode cX2_decode 52 = .ok (.invokevirtual 15, 3) := by decide +kernel
theorem dX2_decode_55 : decode cX2_decode 55 = .ok (.invokestatic 9, 3) := by decide +kernel
theorem dX2_decode_58 : decode cX2_decode 58 = .ok (.iadd, 1) := by decide +kernel
theorem dX2_decode_59 : decode cX2_decode 59 = .ok (.istore_n 3, 1) := by decide +kernel
theorem dX2_decode_60 : decode cX2_decode 60 = .ok (.iinc 4 1, 3) := by decide +kernel
theorem dX2_decode_63 : decode cX2_decode 63 = .ok (.goto (-54), 3) := by decide +kernel
theorem dX2_decode_66 : decode cX2_decode 66 = .ok (.iload_n 3, 1) := by decide +kernel
theorem dX2_decode_67 : decode cX2_decode 67 = .ok (.ireturn, 1) := by decide +kernel
theorem dX3_init_0 : decode cX3_init 0 = .ok (.aload_n 0, 1) := by decide +kernel
theorem dX3_init_1 : decode cX3_init 1 = .ok (.invokespecial 3, 3) := by decide +kernel
theorem dX3_init_4 : decode cX3_init 4 = .ok (.aload_n 0, 1) := by decide +kernel
theorem dX3_init_5 : decode cX3_init 5 = .ok (.new 9, 3) := by decide +kernel
theorem dX3_init_8 : decode cX3_init 8 = .ok (.dup, 1) := by decide +kernel
theorem dX3_init_9 : decode cX3_init 9 = .ok (.invokespecial 11, 3) := by decide +kernel
theorem dX3_init_12 : decode cX3_init 12 = .ok (.putfield 12, 3) := by decide +kernel
theorem dX3_init_15 : decode cX3_init 15 = .ok (.aload_n 0, 1) := by decide +kernel
theorem dX3_init_16 : decode cX3_init 16 = .ok (.new 18, 3) := by decide +kernel
theorem dX3_init_19 : decode cX3_init 19 = .ok (.dup, 1) := by decide +kernel
theorem dX3_init_20 : decode cX3_init 20 = .ok (.bipush 8, 2) := by decide +kernel
theorem dX3_init_22 : decode cX3_init 22 = .ok (.invokespecial 20, 3) := by decide +kernel
theorem dX3_init_25 : decode cX3_init 25 = .ok (.putfield 23, 3) := by decide +kernel
theorem dX3_init_28 : decode cX3_init 28 = .ok (.aload_n 0, 1) := by decide +kernel
theorem dX3_init_29 : decode cX3_init 29 = .ok (.iconst 0, 1) := by decide +kernel
theorem dX3_init_30 : decode cX3_init 30 = .ok (.putfield 27, 3) := by decide +kernel
theorem dX3_init_33 : decode cX3_init 33 = .ok (.return_, 1) := by decide +kernel
theorem dX3_value_0 : decode cX3_value 0 = .ok (.aload_n 0, 1) := by decide +kernel
theorem dX3_value_1 : decode cX3_value 1 = .ok (.getfield 27, 3) := by decide +kernel
theorem dX3_value_4 : decode cX3_value 4 = .ok (.iconst (-1), 1) := by decide +kernel
theorem dX3_value_5 : decode cX3_value 5 = .ok (.if_icmp .ne 5, 3) := by decide +kernel
theorem dX3_value_8 : decode cX3_value 8 = .ok (.iconst (-1), 1) := by decide +kernel
theorem dX3_value_9 : decode cX3_value 9 = .ok (.ireturn, 1) := by decide +kernel
theorem dX3_value_10 : decode cX3_value 10 = .ok (.iload_n 1, 1) := by decide +kernel
theorem dX3_value_11 : decode cX3_value 11 = .ok (.ifCond .ne 13, 3) := by decide +kernel
theorem dX3_value_14 : decode cX3_value 14 = .ok (.aload_n 0, 1) := by decide +kernel
theorem dX3_value_15 : decode cX3_value 15 = .ok (.getfield 27, 3) := by decide +kernel
theorem dX3_value_18 : decode cX3_value 18 = .ok (.invokestatic 31, 3) := by decide +kernel
theorem dX3_value_21 : decode cX3_value 21 = .ok (.goto 7, 3) := by decide +kernel
theorem dX3_value_24 : decode cX3_value 24 = .ok (.aload_n 0, 1) := by decide +kernel
theorem dX3_value_25 : decode cX3_value 25 = .ok (.getfield 27, 3) := by decide +kernel
theorem dX3_value_28 : decode cX3_value 28 = .ok (.ireturn, 1) := by decide +kernel
theorem dX3_find_0 : decode cX3_find 0 = .ok (.aload_n 0, 1) := by decide +kernel
theorem dX3_find_1 : decode cX3_find 1 = .ok (.iconst (-1), 1) := by decide +kernel
theorem dX3_find_2 : decode cX3_find 2 = .ok (.putfield 27, 3) := by decide +kernel
theorem dX3_find_5 : decode cX3_find 5 = .ok (.iconst 1, 1) := by decide +kernel
theorem dX3_find_6 : decode cX3_find 6 = .ok (.aload_n 1, 1) := by decide +kernel
theorem dX3_find_7 : decode cX3_find 7 = .ok (.invokevirtual 37, 3) := by decide +kernel
theorem dX3_find_10 : decode cX3_find 10 = .ok (.ishl, 1) := by decide +kernel
theorem dX3_find_11 : decode cX3_find 11 = .ok (.istore_n 2, 1) := by decide +kernel
theorem dX3_find_12 : decode cX3_find 12 = .ok (.iconst 0, 1) := by decide +kernel
theorem dX3_find_13 : decode cX3_find 13 = .ok (.istore_n 3, 1) := by decide +kernel
theorem dX3_find_14 : decode cX3_find 14 = .ok (.iload_n 3, 1) := by decide +kernel
theorem dX3_find_15 : decode cX3_find 15 = .ok (.aload_n 1, 1) := by decide +kernel
theorem dX3_find_16 : decode cX3_find 16 = .ok (.invokevirtual 37, 3) := by decide +kernel
theorem dX3_find_19 : decode cX3_find 19 = .ok (.if_icmp .gt 64, 3) := by decide +kernel
theorem dX3_find_22 : decode cX3_find 22 = .ok (.iconst 0, 1) := by decide +kernel
theorem dX3_find_23 : decode cX3_find 23 = .ok (.istore 4, 2) := by decide +kernel
theorem dX3_find_25 : decode cX3_find 25 = .ok (.iload 4, 2) := by decide +kernel
theorem dX3_find_27 : decode cX3_find 27 = .ok (.iload_n 2, 1) := by decide +kernel
theorem dX3_find_28 : decode cX3_find 28 = .ok (.if_icmp .ge 49, 3) := by decide +kernel
theorem dX3_find_31 : decode cX3_find 31 = .ok (.iload 4, 2) := by decide +kernel
theorem dX3_find_33 : decode cX3_find 33 = .ok (.invokestatic 31, 3) := by decide +kernel
theorem dX3_find_36 : decode cX3_find 36 = .ok (.iload_n 3, 1) := by decide +kernel
theorem dX3_find_37 : decode cX3_find 37 = .ok (.if_icmp .ne 34, 3) := by decide +kernel
theorem dX3_find_40 : decode cX3_find 40 = .ok (.aload_n 1, 1) := by decide +kernel
theorem dX3_find_41 : decode cX3_find 41 = .ok (.iload 4, 2) := by decide +kernel
theorem dX3_find_43 : decode cX3_find 43 = .ok (.aload_n 0, 1) := by decide +kernel
theorem dX3_find_44 : decode cX3_find 44 = .ok (.getfield 23, 3) := by decide +kernel
theorem dX3_find_47 : decode cX3_find 47 = .ok (.invokevirtual 43, 3) := by decide +kernel
theorem dX3_find_50 : decode cX3_find 50 = .ok (.aload_n 0, 1) := by decide +kernel
theorem dX3_find_51 : decode cX3_find 51 = .ok (.getfield 12, 3) := by decide +kernel
theorem dX3_find_54 : decode cX3_find 54 = .ok (.aload_n 0, 1) := by decide +kernel
theorem dX3_find_55 : decode cX3_find 55 = .ok (.getfield 23, 3) := by decide +kernel
theorem dX3_find_58 : decode cX3_find 58 = .ok (.invokevirtual 47, 3) := by decide +kernel
theorem dX3_find_61 : decode cX3_find 61 = .ok (.ifCond .eq 10, 3) := by decide +kernel
theorem dX3_find_64 : decode cX3_find 64 = .ok (.aload_n 0, 1) := by decide +kernel
theorem dX3_find_65 : decode cX3_find 65 = .ok (.iload 4, 2) := by decide +kernel
theorem dX3_find_67 : decode cX3_find 67 = .ok (.putfield 27, 3) := by decide +kernel
theorem dX3_find_70 : decode cX3_find 70 = .ok (.return_, 1) := by decide +kernel
theorem dX3_find_71 : decode cX3_find 71 = .ok (.iinc 4 1, 3) := by decide +kernel
theorem dX3_find_74 : decode cX3_find 74 = .ok (.goto (-49), 3) := by decide +kernel
theorem dX3_find_77 : decode cX3_find 77 = .ok (.iinc 3 1, 3) := by decide +kernel
theorem dX3_find_80 : decode cX3_find 80 = .ok (.goto (-66), 3) := by decide +kernel
theorem dX3_find_83 : decode cX3_find 83 = .ok (.return_, 1) := by decide +kernel
theorem dX4_init_0 : decode cX4_init 0 = .ok (.aload_n 0, 1) := by decide +kernel
theorem dX4_init_1 : decode cX4_init 1 = .ok (.invokespecial 3, 3) := by decide +kernel
theorem dX4_init_4 : decode cX4_init 4 = .ok (.aload_n 0, 1) := by decide +kernel
theorem dX4_init_5 : decode cX4_init 5 = .ok (.new 9, 3) := by decide +kernel
theorem dX4_init_8 : decode cX4_init 8 = .ok (.dup, 1) := by decide +kernel
theorem dX4_init_9 : decode cX4_init 9 = .ok (.bipush 8, 2) := by decide +kernel
theorem dX4_init_11 : decode cX4_init 11 = .ok (.invokespecial 11, 3) := by decide +kernel
theorem dX4_init_14 : decode cX4_init 14 = .ok (.putfield 14, 3) := by decide +kernel
theorem dX4_init_17 : decode cX4_init 17 = .ok (.aload_n 0, 1) := by decide +kernel
theorem dX4_init_18 : decode cX4_init 18 = .ok (.new 9, 3) := by decide +kernel
theorem dX4_init_21 : decode cX4_init 21 = .ok (.dup, 1) := by decide +kernel
theorem dX4_init_22 : decode cX4_init 22 = .ok (.bipush 8, 2) := by decide +kernel
theorem dX4_init_24 : decode cX4_init 24 = .ok (.invokespecial 11, 3) := by decide +kernel
theorem dX4_init_27 : decode cX4_init 27 = .ok (.putfield 20, 3) := by decide +kernel
theorem dX4_init_30 : decode cX4_init 30 = .ok (.aload_n 0, 1) := by decide +kernel
theorem dX4_init_31 : decode cX4_init 31 = .ok (.iconst 1, 1) := by decide +kernel
theorem dX4_init_32 : decode cX4_init 32 = .ok (.putfield 25, 3) := by decide +kernel
theorem dX4_init_35 : decode cX4_init 35 = .ok (.aload_n 0, 1) := by decide +kernel
theorem dX4_init_36 : decode cX4_init 36 = .ok (.iconst 1, 1) := by decide +kernel
theorem dX4_init_37 : decode cX4_init 37 = .ok (.putfield 29, 3) := by decide +kernel
theorem dX4_init_40 : decode cX4_init 40 = .ok (.return_, 1) := by decide +kernel
theorem dX4_read_0 : decode cX4_read 0 = .ok (.aload_n 0, 1) := by decide +kernel
theorem dX4_read_1 : decode cX4_read 1 = .ok (.getfield 14, 3) := by decide +kernel
theorem dX4_read_4 : decode cX4_read 4 = .ok (.invokevirtual 32, 3) := by decide +kernel
theorem dX4_read_7 : decode cX4_read 7 = .ok (.aload_n 0, 1) := by decide +kernel
theorem dX4_read_8 : decode cX4_read 8 = .ok (.getfield 20, 3) := by decide +kernel
theorem dX4_read_11 : decode cX4_read 11 = .ok (.invokevirtual 32, 3) := by decide +kernel
theorem dX4_read_14 : decode cX4_read 14 = .ok (.aload_n 0, 1) := by decide +kernel
theorem dX4_read_15 : decode cX4_read 15 = .ok (.iconst 1, 1) := by decide +kernel
theorem dX4_read_16 : decode cX4_read 16 = .ok (.putfield 25, 3) := by decide +kernel
theorem dX4_read_19 : decode cX4_read 19 = .ok (.aload_n 0, 1) := by decide +kernel
theorem dX4_read_20 : decode cX4_read 20 = .ok (.iconst 1, 1) := by decide +kernel
theorem dX4_read_21 : decode cX4_read 21 = .ok (.putfield 29, 3) := by decide +kernel
theorem dX4_read_24 : decode cX4_read 24 = .ok (.iconst 0, 1) := by decide +kernel
theorem dX4_read_25 : decode cX4_read 25 = .ok (.istore_n 2, 1) := by decide +kernel
theorem dX4_read_26 : decode cX4_read 26 = .ok (.iload_n 2, 1) := by decide +kernel
theorem dX4_read_27 : decode cX4_read 27 = .ok (.aload_n 1, 1) := by decide +kernel
theorem dX4_read_28 : decode cX4_read 28 = .ok (.invokevirtual 35, 3) := by decide +kernel
theorem dX4_read_31 : decode cX4_read 31 = .ok (.if_icmp .ge 23, 3) := by decide +kernel
theorem dX4_read_34 : decode cX4_read 34 = .ok (.aload_n 0, 1) := by decide +kernel
theorem dX4_read_35 : decode cX4_read 35 = .ok (.aload_n 1, 1) := by decide +kernel
theorem dX4_read_36 : decode cX4_read 36 = .ok (.iload_n 2, 1) := by decide +kernel
theorem dX4_read_37 : decode cX4_read 37 = .ok (.invokevirtual 39, 3) := by decide +kernel
theorem dX4_read_40 : decode cX4_read 40 = .ok (.invokevirtual 43, 3) := by decide +kernel
theorem dX4_read_43 : decode cX4_read 43 = .ok (.ifCond .ne 5, 3) := by decide +kernel
theorem dX4_read_46 : decode cX4_read 46 = .ok (.iload_n 2, 1) := by decide +kernel
theorem dX4_read_47 : decode cX4_read 47 = .ok (.ireturn, 1) := by decide +kernel
theorem dX4_read_48 : decode cX4_read 48 = .ok (.iinc 2 1, 3) := by decide +kernel
theorem dX4_read_51 : decode cX4_read 51 = .ok (.goto (-25), 3) := by decide +kernel
theorem dX4_read_54 : decode cX4_read 54 = .ok (.aload_n 1, 1) := by decide +kernel
theorem dX4_read_55 : decode cX4_read 55 = .ok (.invokevirtual 35, 3) := by decide +kernel
theorem dX4_read_58 : decode cX4_read 58 = .ok (.ireturn, 1) := by decide +kernel
theorem dX4_readWhole_0 : decode cX4_readWhole 0 = .ok (.aload_n 0, 1) := by decide +kernel
theorem dX4_readWhole_1 : decode cX4_readWhole 1 = .ok (.aload_n 1, 1) := by decide +kernel
theorem dX4_readWhole_2 : decode cX4_readWhole 2 = .ok (.invokevirtual 47, 3) := by decide +kernel
theorem dX4_readWhole_5 : decode cX4_readWhole 5 = .ok (.aload_n 1, 1) := by decide +kernel
theorem dX4_readWhole_6 : decode cX4_readWhole 6 = .ok (.invokevirtual 35, 3) := by decide +kernel
theorem dX4_readWhole_9 : decode cX4_readWhole 9 = .ok (.if_icmp .lt 11, 3) := by decide +kernel
theorem dX4_readWhole_12 : decode cX4_readWhole 12 = .ok (.aload_n 0, 1) := by decide +kernel
theorem dX4_readWhole_13 : decode cX4_readWhole 13 = .ok (.getfield 29, 3) := by decide +kernel
theorem dX4_readWhole_16 : decode cX4_readWhole 16 = .ok (.iconst 1, 1) := by decide +kernel
theorem dX4_readWhole_17 : decode cX4_readWhole 17 = .ok (.if_icmp .ne 5, 3) := by decide +kernel
theorem dX4_readWhole_20 : decode cX4_readWhole 20 = .ok (.iconst 0, 1) := by decide +kernel
theorem dX4_readWhole_21 : decode cX4_readWhole 21 = .ok (.ireturn, 1) := by decide +kernel
theorem dX4_readWhole_22 : decode cX4_readWhole 22 = .ok (.aload_n 0, 1) := by decide +kernel
theorem dX4_readWhole_23 : decode cX4_readWhole 23 = .ok (.invokevirtual 51, 3) := by decide +kernel
theorem dX4_readWhole_26 : decode cX4_readWhole 26 = .ok (.iconst 1, 1) := by decide +kernel
theorem dX4_readWhole_27 : decode cX4_readWhole 27 = .ok (.ireturn, 1) := by decide +kernel
theorem dX4_takes_0 : decode cX4_takes 0 = .ok (.iload_n 1, 1) := by decide +kernel
theorem dX4_takes_1 : decode cX4_takes 1 = .ok (.invokestatic 54, 3) := by decide +kernel
theorem dX4_takes_4 : decode cX4_takes 4 = .ok (.ifCond .eq 9, 3) := by decide +kernel
theorem dX4_takes_7 : decode cX4_takes 7 = .ok (.aload_n 0, 1) := by decide +kernel
theorem dX4_takes_8 : decode cX4_takes 8 = .ok (.iload_n 1, 1) := by decide +kernel
theorem dX4_takes_9 : decode cX4_takes 9 = .ok (.invokevirtual 57, 3) := by decide +kernel
theorem dX4_takes_12 : decode cX4_takes 12 = .ok (.ireturn, 1) := by decide +kernel
theorem dX4_takes_13 : decode cX4_takes 13 = .ok (.iload_n 1, 1) := by decide +kernel
theorem dX4_takes_14 : decode cX4_takes 14 = .ok (.invokestatic 60, 3) := by decide +kernel
theorem dX4_takes_17 : decode cX4_takes 17 = .ok (.ifCond .eq 9, 3) := by decide +kernel
theorem dX4_takes_20 : decode cX4_takes 20 = .ok (.aload_n 0, 1) := by decide +kernel
theorem dX4_takes_21 : decode cX4_takes 21 = .ok (.iload_n 1, 1) := by decide +kernel
theorem dX4_takes_22 : decode cX4_takes 22 = .ok (.invokevirtual 63, 3) := by decide +kernel
theorem dX4_takes_25 : decode cX4_takes 25 = .ok (.ireturn, 1) := by decide +kernel
theorem dX4_takes_26 : decode cX4_takes 26 = .ok (.iload_n 1, 1) := by decide +kernel
theorem dX4_takes_27 : decode cX4_takes 27 = .ok (.bipush 44, 2) := by decide +kernel
theorem dX4_takes_29 : decode cX4_takes 29 = .ok (.if_icmp .ne 14, 3) := by decide +kernel
theorem dX4_takes_32 : decode cX4_takes 32 = .ok (.aload_n 0, 1) := by decide +kernel
theorem dX4_takes_33 : decode cX4_takes 33 = .ok (.invokevirtual 66, 3) := by decide +kernel
theorem dX4_takes_36 : decode cX4_takes 36 = .ok (.ifCond .eq 7, 3) := by decide +kernel
theorem dX4_takes_39 : decode cX4_takes 39 = .ok (.iconst 1, 1) := by decide +kernel
theorem dX4_takes_40 : decode cX4_takes 40 = .ok (.goto 4, 3) := by decide +kernel
theorem dX4_takes_43 : decode cX4_takes 43 = .ok (.iconst 0, 1) := by decide +kernel
theorem dX4_takes_44 : decode cX4_takes 44 = .ok (.ireturn, 1) := by decide +kernel
theorem dX4_takesSmall_0 : decode cX4_takesSmall 0 = .ok (.aload_n 0, 1) := by decide +kernel
theorem dX4_takesSmall_1 : decode cX4_takesSmall 1 = .ok (.getfield 29, 3) := by decide +kernel
theorem dX4_takesSmall_4 : decode cX4_takesSmall 4 = .ok (.iconst 1, 1) := by decide +kernel
theorem dX4_takesSmall_5 : decode cX4_takesSmall 5 = .ok (.if_icmp .ne 14, 3) := by decide +kernel
theorem dX4_takesSmall_8 : decode cX4_takesSmall 8 = .ok (.aload_n 0, 1) := by decide +kernel
theorem dX4_takesSmall_9 : decode cX4_takesSmall 9 = .ok (.getfield 25, 3) := by decide +kernel
theorem dX4_takesSmall_12 : decode cX4_takesSmall 12 = .ok (.invokestatic 70, 3) := by decide +kernel
theorem dX4_takesSmall_15 : decode cX4_takesSmall 15 = .ok (.iconst 3, 1) := by decide +kernel
theorem dX4_takesSmall_16 : decode cX4_takesSmall 16 = .ok (.if_icmp .lt 5, 3) := by decide +kernel
theorem dX4_takesSmall_19 : decode cX4_takesSmall 19 = .ok (.iconst 0, 1) := by decide +kernel
theorem dX4_takesSmall_20 : decode cX4_takesSmall 20 = .ok (.ireturn, 1) := by decide +kernel
theorem dX4_takesSmall_21 : decode cX4_takesSmall 21 = .ok (.aload_n 0, 1) := by decide +kernel
theorem dX4_takesSmall_22 : decode cX4_takesSmall 22 = .ok (.aload_n 0, 1) := by decide +kernel
theorem dX4_takesSmall_23 : decode cX4_takesSmall 23 = .ok (.getfield 25, 3) := by decide +kernel
theorem dX4_takesSmall_26 : decode cX4_takesSmall 26 = .ok (.iload_n 1, 1) := by decide +kernel
theorem dX4_takesSmall_27 : decode cX4_takesSmall 27 = .ok (.invokestatic 72, 3) := by decide +kernel
theorem dX4_takesSmall_30 : decode cX4_takesSmall 30 = .ok (.putfield 25, 3) := by decide +kernel
theorem dX4_takesSmall_33 : decode cX4_takesSmall 33 = .ok (.iconst 1, 1) := by decide +kernel
theorem dX4_takesSmall_34 : decode cX4_takesSmall 34 = .ok (.ireturn, 1) := by decide +kernel
theorem dX4_takesCapital_0 : decode cX4_takesCapital 0 = .ok (.aload_n 0, 1) := by decide +kernel
theorem dX4_takesCapital_1 : decode cX4_takesCapital 1 = .ok (.getfield 25, 3) := by decide +kernel
theorem dX4_takesCapital_4 : decode cX4_takesCapital 4 = .ok (.iconst 1, 1) := by decide +kernel
end
section
theorem dX4_takesCapital_5 : decode cX4_takesCapital 5 = .ok (.if_icmp .eq 14, 3) := by decide +kernel
theorem dX4_takesCapital_8 : decode cX4_takesCapital 8 = .ok (.aload_n 0, 1) := by decide +kernel
theorem dX4_takesCapital_9 : decode cX4_takesCapital 9 = .ok (.getfield 29, 3) := by decide +kernel
theorem dX4_takesCapital_12 : decode cX4_takesCapital 12 = .ok (.invokestatic 70, 3) := by decide +kernel
theorem dX4_takesCapital_15 : decode cX4_takesCapital 15 = .ok (.iconst 3, 1) := by decide +kernel
theorem dX4_takesCapital_16 : decode cX4_takesCapital 16 = .ok (.if_icmp .lt 5, 3) := by decide +kernel
theorem dX4_takesCapital_19 : decode cX4_takesCapital 19 = .ok (.iconst 0, 1) := by decide +kernel
theorem dX4_takesCapital_20 : decode cX4_takesCapital 20 = .ok (.ireturn, 1) := by decide +kernel
theorem dX4_takesCapital_21 : decode cX4_takesCapital 21 = .ok (.aload_n 0, 1) := by decide +kernel
theorem dX4_takesCapital_22 : decode cX4_takesCapital 22 = .ok (.getfield 29, 3) := by decide +kernel
theorem dX4_takesCapital_25 : decode cX4_takesCapital 25 = .ok (.iconst 1, 1) := by decide +kernel
theorem dX4_takesCapital_26 : decode cX4_takesCapital 26 = .ok (.if_icmp .ne 20, 3) := by decide +kernel
theorem dX4_takesCapital_29 : decode cX4_takesCapital 29 = .ok (.aload_n 0, 1) := by decide +kernel
theorem dX4_takesCapital_30 : decode cX4_takesCapital 30 = .ok (.getfield 14, 3) := by decide +kernel
theorem dX4_takesCapital_33 : decode cX4_takesCapital 33 = .ok (.aload_n 0, 1) := by decide +kernel
theorem dX4_takesCapital_34 : decode cX4_takesCapital 34 = .ok (.getfield 25, 3) := by decide +kernel
theorem dX4_takesCapital_37 : decode cX4_takesCapital 37 = .ok (.invokevirtual 76, 3) := by decide +kernel
theorem dX4_takesCapital_40 : decode cX4_takesCapital 40 = .ok (.iconst (-1), 1) := by decide +kernel
theorem dX4_takesCapital_41 : decode cX4_takesCapital 41 = .ok (.if_icmp .eq 5, 3) := by decide +kernel
theorem dX4_takesCapital_44 : decode cX4_takesCapital 44 = .ok (.iconst 0, 1) := by decide +kernel
theorem dX4_takesCapital_45 : decode cX4_takesCapital 45 = .ok (.ireturn, 1) := by decide +kernel
theorem dX4_takesCapital_46 : decode cX4_takesCapital 46 = .ok (.aload_n 0, 1) := by decide +kernel
theorem dX4_takesCapital_47 : decode cX4_takesCapital 47 = .ok (.aload_n 0, 1) := by decide +kernel
theorem dX4_takesCapital_48 : decode cX4_takesCapital 48 = .ok (.getfield 29, 3) := by decide +kernel
theorem dX4_takesCapital_51 : decode cX4_takesCapital 51 = .ok (.iload_n 1, 1) := by decide +kernel
theorem dX4_takesCapital_52 : decode cX4_takesCapital 52 = .ok (.invokestatic 72, 3) := by decide +kernel
theorem dX4_takesCapital_55 : decode cX4_takesCapital 55 = .ok (.putfield 29, 3) := by decide +kernel
theorem dX4_takesCapital_58 : decode cX4_takesCapital 58 = .ok (.iconst 1, 1) := by decide +kernel
theorem dX4_takesCapital_59 : decode cX4_takesCapital 59 = .ok (.ireturn, 1) := by decide +kernel
theorem dX4_takesComma_0 : decode cX4_takesComma 0 = .ok (.aload_n 0, 1) := by decide +kernel
theorem dX4_takesComma_1 : decode cX4_takesComma 1 = .ok (.getfield 29, 3) := by decide +kernel
theorem dX4_takesComma_4 : decode cX4_takesComma 4 = .ok (.iconst 1, 1) := by decide +kernel
theorem dX4_takesComma_5 : decode cX4_takesComma 5 = .ok (.if_icmp .eq 17, 3) := by decide +kernel
theorem dX4_takesComma_8 : decode cX4_takesComma 8 = .ok (.aload_n 0, 1) := by decide +kernel
theorem dX4_takesComma_9 : decode cX4_takesComma 9 = .ok (.getfield 14, 3) := by decide +kernel
theorem dX4_takesComma_12 : decode cX4_takesComma 12 = .ok (.invokevirtual 35, 3) := by decide +kernel
theorem dX4_takesComma_15 : decode cX4_takesComma 15 = .ok (.iconst 1, 1) := by decide +kernel
theorem dX4_takesComma_16 : decode cX4_takesComma 16 = .ok (.iadd, 1) := by decide +kernel
theorem dX4_takesComma_17 : decode cX4_takesComma 17 = .ok (.bipush 8, 2) := by decide +kernel
theorem dX4_takesComma_19 : decode cX4_takesComma 19 = .ok (.if_icmp .lt 5, 3) := by decide +kernel
theorem dX4_takesComma_22 : decode cX4_takesComma 22 = .ok (.iconst 0, 1) := by decide +kernel
theorem dX4_takesComma_23 : decode cX4_takesComma 23 = .ok (.ireturn, 1) := by decide +kernel
theorem dX4_takesComma_24 : decode cX4_takesComma 24 = .ok (.aload_n 0, 1) := by decide +kernel
theorem dX4_takesComma_25 : decode cX4_takesComma 25 = .ok (.invokevirtual 51, 3) := by decide +kernel
theorem dX4_takesComma_28 : decode cX4_takesComma 28 = .ok (.iconst 1, 1) := by decide +kernel
theorem dX4_takesComma_29 : decode cX4_takesComma 29 = .ok (.ireturn, 1) := by decide +kernel
theorem dX4_endRule_0 : decode cX4_endRule 0 = .ok (.aload_n 0, 1) := by decide +kernel
theorem dX4_endRule_1 : decode cX4_endRule 1 = .ok (.getfield 14, 3) := by decide +kernel
theorem dX4_endRule_4 : decode cX4_endRule 4 = .ok (.aload_n 0, 1) := by decide +kernel
theorem dX4_endRule_5 : decode cX4_endRule 5 = .ok (.getfield 25, 3) := by decide +kernel
theorem dX4_endRule_8 : decode cX4_endRule 8 = .ok (.invokevirtual 79, 3) := by decide +kernel
theorem dX4_endRule_11 : decode cX4_endRule 11 = .ok (.aload_n 0, 1) := by decide +kernel
theorem dX4_endRule_12 : decode cX4_endRule 12 = .ok (.getfield 20, 3) := by decide +kernel
theorem dX4_endRule_15 : decode cX4_endRule 15 = .ok (.aload_n 0, 1) := by decide +kernel
theorem dX4_endRule_16 : decode cX4_endRule 16 = .ok (.getfield 29, 3) := by decide +kernel
theorem dX4_endRule_19 : decode cX4_endRule 19 = .ok (.invokevirtual 79, 3) := by decide +kernel
theorem dX4_endRule_22 : decode cX4_endRule 22 = .ok (.aload_n 0, 1) := by decide +kernel
theorem dX4_endRule_23 : decode cX4_endRule 23 = .ok (.iconst 1, 1) := by decide +kernel
theorem dX4_endRule_24 : decode cX4_endRule 24 = .ok (.putfield 25, 3) := by decide +kernel
theorem dX4_endRule_27 : decode cX4_endRule 27 = .ok (.aload_n 0, 1) := by decide +kernel
theorem dX4_endRule_28 : decode cX4_endRule 28 = .ok (.iconst 1, 1) := by decide +kernel
theorem dX4_endRule_29 : decode cX4_endRule 29 = .ok (.putfield 29, 3) := by decide +kernel
theorem dX4_endRule_32 : decode cX4_endRule 32 = .ok (.return_, 1) := by decide +kernel
theorem dX5_init_0 : decode cX5_init 0 = .ok (.aload_n 0, 1) := by decide +kernel
theorem dX5_init_1 : decode cX5_init 1 = .ok (.invokespecial 3, 3) := by decide +kernel
theorem dX5_init_4 : decode cX5_init 4 = .ok (.aload_n 0, 1) := by decide +kernel
theorem dX5_init_5 : decode cX5_init 5 = .ok (.new 9, 3) := by decide +kernel
theorem dX5_init_8 : decode cX5_init 8 = .ok (.dup, 1) := by decide +kernel
theorem dX5_init_9 : decode cX5_init 9 = .ok (.bipush 25, 2) := by decide +kernel
theorem dX5_init_11 : decode cX5_init 11 = .ok (.invokespecial 11, 3) := by decide +kernel
theorem dX5_init_14 : decode cX5_init 14 = .ok (.putfield 14, 3) := by decide +kernel
theorem dX5_init_17 : decode cX5_init 17 = .ok (.aload_n 0, 1) := by decide +kernel
theorem dX5_init_18 : decode cX5_init 18 = .ok (.iconst 0, 1) := by decide +kernel
theorem dX5_init_19 : decode cX5_init 19 = .ok (.putfield 20, 3) := by decide +kernel
theorem dX5_init_22 : decode cX5_init 22 = .ok (.return_, 1) := by decide +kernel
theorem dX5_areClean_0 : decode cX5_areClean 0 = .ok (.aload_n 0, 1) := by decide +kernel
theorem dX5_areClean_1 : decode cX5_areClean 1 = .ok (.getfield 20, 3) := by decide +kernel
theorem dX5_areClean_4 : decode cX5_areClean 4 = .ok (.ifCond .ne 7, 3) := by decide +kernel
theorem dX5_areClean_7 : decode cX5_areClean 7 = .ok (.iconst 1, 1) := by decide +kernel
theorem dX5_areClean_8 : decode cX5_areClean 8 = .ok (.goto 4, 3) := by decide +kernel
theorem dX5_areClean_11 : decode cX5_areClean 11 = .ok (.iconst 0, 1) := by decide +kernel
theorem dX5_areClean_12 : decode cX5_areClean 12 = .ok (.ireturn, 1) := by decide +kernel
theorem dX5_gather_0 : decode cX5_gather 0 = .ok (.aload_n 0, 1) := by decide +kernel
theorem dX5_gather_1 : decode cX5_gather 1 = .ok (.aload_n 1, 1) := by decide +kernel
theorem dX5_gather_2 : decode cX5_gather 2 = .ok (.invokevirtual 24, 3) := by decide +kernel
theorem dX5_gather_5 : decode cX5_gather 5 = .ok (.iconst 0, 1) := by decide +kernel
theorem dX5_gather_6 : decode cX5_gather 6 = .ok (.istore_n 2, 1) := by decide +kernel
theorem dX5_gather_7 : decode cX5_gather 7 = .ok (.iload_n 2, 1) := by decide +kernel
theorem dX5_gather_8 : decode cX5_gather 8 = .ok (.aload_n 0, 1) := by decide +kernel
theorem dX5_gather_9 : decode cX5_gather 9 = .ok (.getfield 14, 3) := by decide +kernel
theorem dX5_gather_12 : decode cX5_gather 12 = .ok (.invokevirtual 28, 3) := by decide +kernel
theorem dX5_gather_15 : decode cX5_gather 15 = .ok (.if_icmp .ge 28, 3) := by decide +kernel
theorem dX5_gather_18 : decode cX5_gather 18 = .ok (.iload_n 2, 1) := by decide +kernel
theorem dX5_gather_19 : decode cX5_gather 19 = .ok (.bipush 25, 2) := by decide +kernel
theorem dX5_gather_21 : decode cX5_gather 21 = .ok (.if_icmp .ge 22, 3) := by decide +kernel
theorem dX5_gather_24 : decode cX5_gather 24 = .ok (.aload_n 0, 1) := by decide +kernel
theorem dX5_gather_25 : decode cX5_gather 25 = .ok (.aload_n 0, 1) := by decide +kernel
theorem dX5_gather_26 : decode cX5_gather 26 = .ok (.getfield 14, 3) := by decide +kernel
theorem dX5_gather_29 : decode cX5_gather 29 = .ok (.iload_n 2, 1) := by decide +kernel
theorem dX5_gather_30 : decode cX5_gather 30 = .ok (.invokevirtual 32, 3) := by decide +kernel
theorem dX5_gather_33 : decode cX5_gather 33 = .ok (.aload_n 1, 1) := by decide +kernel
theorem dX5_gather_34 : decode cX5_gather 34 = .ok (.invokevirtual 36, 3) := by decide +kernel
theorem dX5_gather_37 : decode cX5_gather 37 = .ok (.iinc 2 1, 3) := by decide +kernel
theorem dX5_gather_40 : decode cX5_gather 40 = .ok (.goto (-33), 3) := by decide +kernel
theorem dX5_gather_43 : decode cX5_gather 43 = .ok (.aload_n 0, 1) := by decide +kernel
theorem dX5_gather_44 : decode cX5_gather 44 = .ok (.getfield 14, 3) := by decide +kernel
theorem dX5_gather_47 : decode cX5_gather 47 = .ok (.invokevirtual 40, 3) := by decide +kernel
theorem dX5_gather_50 : decode cX5_gather 50 = .ok (.return_, 1) := by decide +kernel
theorem dX5_wouldBeClean_0 : decode cX5_wouldBeClean 0 = .ok (.aload_n 0, 1) := by decide +kernel
theorem dX5_wouldBeClean_1 : decode cX5_wouldBeClean 1 = .ok (.aload_n 1, 1) := by decide +kernel
theorem dX5_wouldBeClean_2 : decode cX5_wouldBeClean 2 = .ok (.invokevirtual 24, 3) := by decide +kernel
theorem dX5_wouldBeClean_5 : decode cX5_wouldBeClean 5 = .ok (.iconst 0, 1) := by decide +kernel
theorem dX5_wouldBeClean_6 : decode cX5_wouldBeClean 6 = .ok (.istore_n 2, 1) := by decide +kernel
theorem dX5_wouldBeClean_7 : decode cX5_wouldBeClean 7 = .ok (.iload_n 2, 1) := by decide +kernel
theorem dX5_wouldBeClean_8 : decode cX5_wouldBeClean 8 = .ok (.aload_n 0, 1) := by decide +kernel
theorem dX5_wouldBeClean_9 : decode cX5_wouldBeClean 9 = .ok (.getfield 14, 3) := by decide +kernel
theorem dX5_wouldBeClean_12 : decode cX5_wouldBeClean 12 = .ok (.invokevirtual 28, 3) := by decide +kernel
theorem dX5_wouldBeClean_15 : decode cX5_wouldBeClean 15 = .ok (.if_icmp .ge 37, 3) := by decide +kernel
theorem dX5_wouldBeClean_18 : decode cX5_wouldBeClean 18 = .ok (.iload_n 2, 1) := by decide +kernel
theorem dX5_wouldBeClean_19 : decode cX5_wouldBeClean 19 = .ok (.bipush 25, 2) := by decide +kernel
theorem dX5_wouldBeClean_21 : decode cX5_wouldBeClean 21 = .ok (.if_icmp .ge 31, 3) := by decide +kernel
theorem dX5_wouldBeClean_24 : decode cX5_wouldBeClean 24 = .ok (.aload_n 0, 1) := by decide +kernel
theorem dX5_wouldBeClean_25 : decode cX5_wouldBeClean 25 = .ok (.getfield 20, 3) := by decide +kernel
theorem dX5_wouldBeClean_28 : decode cX5_wouldBeClean 28 = .ok (.ifCond .eq 5, 3) := by decide +kernel
theorem dX5_wouldBeClean_31 : decode cX5_wouldBeClean 31 = .ok (.iconst 0, 1) := by decide +kernel
theorem dX5_wouldBeClean_32 : decode cX5_wouldBeClean 32 = .ok (.ireturn, 1) := by decide +kernel
theorem dX5_wouldBeClean_33 : decode cX5_wouldBeClean 33 = .ok (.aload_n 0, 1) := by decide +kernel
theorem dX5_wouldBeClean_34 : decode cX5_wouldBeClean 34 = .ok (.aload_n 0, 1) := by decide +kernel
theorem dX5_wouldBeClean_35 : decode cX5_wouldBeClean 35 = .ok (.getfield 14, 3) := by decide +kernel
theorem dX5_wouldBeClean_38 : decode cX5_wouldBeClean 38 = .ok (.iload_n 2, 1) := by decide +kernel
theorem dX5_wouldBeClean_39 : decode cX5_wouldBeClean 39 = .ok (.invokevirtual 32, 3) := by decide +kernel
theorem dX5_wouldBeClean_42 : decode cX5_wouldBeClean 42 = .ok (.aload_n 1, 1) := by decide +kernel
theorem dX5_wouldBeClean_43 : decode cX5_wouldBeClean 43 = .ok (.invokevirtual 36, 3) := by decide +kernel
theorem dX5_wouldBeClean_46 : decode cX5_wouldBeClean 46 = .ok (.iinc 2 1, 3) := by decide +kernel
theorem dX5_wouldBeClean_49 : decode cX5_wouldBeClean 49 = .ok (.goto (-42), 3) := by decide +kernel
theorem dX5_wouldBeClean_52 : decode cX5_wouldBeClean 52 = .ok (.aload_n 0, 1) := by decide +kernel
theorem dX5_wouldBeClean_53 : decode cX5_wouldBeClean 53 = .ok (.getfield 20, 3) := by decide +kernel
theorem dX5_wouldBeClean_56 : decode cX5_wouldBeClean 56 = .ok (.ifCond .ne 7, 3) := by decide +kernel
theorem dX5_wouldBeClean_59 : decode cX5_wouldBeClean 59 = .ok (.iconst 1, 1) := by decide +kernel
theorem dX5_wouldBeClean_60 : decode cX5_wouldBeClean 60 = .ok (.goto 4, 3) := by decide +kernel
theorem dX5_wouldBeClean_63 : decode cX5_wouldBeClean 63 = .ok (.iconst 0, 1) := by decide +kernel
theorem dX5_wouldBeClean_64 : decode cX5_wouldBeClean 64 = .ok (.ireturn, 1) := by decide +kernel
theorem dX5_start_0 : decode cX5_start 0 = .ok (.aload_n 0, 1) := by decide +kernel
theorem dX5_start_1 : decode cX5_start 1 = .ok (.getfield 14, 3) := by decide +kernel
theorem dX5_start_4 : decode cX5_start 4 = .ok (.invokevirtual 43, 3) := by decide +kernel
theorem dX5_start_7 : decode cX5_start 7 = .ok (.aload_n 0, 1) := by decide +kernel
theorem dX5_start_8 : decode cX5_start 8 = .ok (.iconst 0, 1) := by decide +kernel
theorem dX5_start_9 : decode cX5_start 9 = .ok (.putfield 20, 3) := by decide +kernel
theorem dX5_start_12 : decode cX5_start 12 = .ok (.iconst 0, 1) := by decide +kernel
theorem dX5_start_13 : decode cX5_start 13 = .ok (.istore_n 2, 1) := by decide +kernel
theorem dX5_start_14 : decode cX5_start 14 = .ok (.iload_n 2, 1) := by decide +kernel
theorem dX5_start_15 : decode cX5_start 15 = .ok (.aload_n 1, 1) := by decide +kernel
theorem dX5_start_16 : decode cX5_start 16 = .ok (.invokevirtual 28, 3) := by decide +kernel
theorem dX5_start_19 : decode cX5_start 19 = .ok (.if_icmp .ge 66, 3) := by decide +kernel
theorem dX5_start_22 : decode cX5_start 22 = .ok (.aload_n 1, 1) := by decide +kernel
theorem dX5_start_23 : decode cX5_start 23 = .ok (.iload_n 2, 1) := by decide +kernel
theorem dX5_start_24 : decode cX5_start 24 = .ok (.invokevirtual 32, 3) := by decide +kernel
theorem dX5_start_27 : decode cX5_start 27 = .ok (.istore_n 3, 1) := by decide +kernel
theorem dX5_start_28 : decode cX5_start 28 = .ok (.iconst 0, 1) := by decide +kernel
theorem dX5_start_29 : decode cX5_start 29 = .ok (.istore 4, 2) := by decide +kernel
theorem dX5_start_31 : decode cX5_start 31 = .ok (.iload 4, 2) := by decide +kernel
theorem dX5_start_33 : decode cX5_start 33 = .ok (.aload_n 1, 1) := by decide +kernel
theorem dX5_start_34 : decode cX5_start 34 = .ok (.invokevirtual 28, 3) := by decide +kernel
theorem dX5_start_37 : decode cX5_start 37 = .ok (.if_icmp .ge 42, 3) := by decide +kernel
theorem dX5_start_40 : decode cX5_start 40 = .ok (.aload_n 1, 1) := by decide +kernel
theorem dX5_start_41 : decode cX5_start 41 = .ok (.iload 4, 2) := by decide +kernel
theorem dX5_start_43 : decode cX5_start 43 = .ok (.invokevirtual 32, 3) := by decide +kernel
theorem dX5_start_46 : decode cX5_start 46 = .ok (.istore 5, 2) := by decide +kernel
theorem dX5_start_48 : decode cX5_start 48 = .ok (.iload_n 2, 1) := by decide +kernel
theorem dX5_start_49 : decode cX5_start 49 = .ok (.iload 4, 2) := by decide +kernel
theorem dX5_start_51 : decode cX5_start 51 = .ok (.if_icmp .eq 22, 3) := by decide +kernel
theorem dX5_start_54 : decode cX5_start 54 = .ok (.iload 5, 2) := by decide +kernel
theorem dX5_start_56 : decode cX5_start 56 = .ok (.iload_n 3, 1) := by decide +kernel
theorem dX5_start_57 : decode cX5_start 57 = .ok (.invokestatic 46, 3) := by decide +kernel
theorem dX5_start_60 : decode cX5_start 60 = .ok (.ifCond .eq 13, 3) := by decide +kernel
theorem dX5_start_63 : decode cX5_start 63 = .ok (.aload_n 0, 1) := by decide +kernel
theorem dX5_start_64 : decode cX5_start 64 = .ok (.iload 5, 2) := by decide +kernel
theorem dX5_start_66 : decode cX5_start 66 = .ok (.iload_n 3, 1) := by decide +kernel
theorem dX5_start_67 : decode cX5_start 67 = .ok (.invokestatic 52, 3) := by decide +kernel
theorem dX5_start_70 : decode cX5_start 70 = .ok (.invokevirtual 56, 3) := by decide +kernel
theorem dX5_start_73 : decode cX5_start 73 = .ok (.iinc 4 1, 3) := by decide +kernel
theorem dX5_start_76 : decode cX5_start 76 = .ok (.goto (-45), 3) := by decide +kernel
theorem dX5_start_79 : decode cX5_start 79 = .ok (.iinc 2 1, 3) := by decide +kernel
theorem dX5_start_82 : decode cX5_start 82 = .ok (.goto (-68), 3) := by decide +kernel
theorem dX5_start_85 : decode cX5_start 85 = .ok (.return_, 1) := by decide +kernel
theorem dX5_follow_0 : decode cX5_follow 0 = .ok (.iload_n 1, 1) := by decide +kernel
theorem dX5_follow_1 : decode cX5_follow 1 = .ok (.iconst 1, 1) := by decide +kernel
theorem dX5_follow_2 : decode cX5_follow 2 = .ok (.if_icmp .ne 4, 3) := by decide +kernel
theorem dX5_follow_5 : decode cX5_follow 5 = .ok (.return_, 1) := by decide +kernel
theorem dX5_follow_6 : decode cX5_follow 6 = .ok (.iconst 0, 1) := by decide +kernel
theorem dX5_follow_7 : decode cX5_follow 7 = .ok (.istore_n 3, 1) := by decide +kernel
theorem dX5_follow_8 : decode cX5_follow 8 = .ok (.iload_n 3, 1) := by decide +kernel
theorem dX5_follow_9 : decode cX5_follow 9 = .ok (.aload_n 2, 1) := by decide +kernel
theorem dX5_follow_10 : decode cX5_follow 10 = .ok (.invokevirtual 28, 3) := by decide +kernel
theorem dX5_follow_13 : decode cX5_follow 13 = .ok (.if_icmp .ge 57, 3) := by decide +kernel
theorem dX5_follow_16 : decode cX5_follow 16 = .ok (.aload_n 2, 1) := by decide +kernel
theorem dX5_follow_17 : decode cX5_follow 17 = .ok (.iload_n 3, 1) := by decide +kernel
theorem dX5_follow_18 : decode cX5_follow 18 = .ok (.invokevirtual 32, 3) := by decide +kernel
theorem dX5_follow_21 : decode cX5_follow 21 = .ok (.istore 4, 2) := by decide +kernel
theorem dX5_follow_23 : decode cX5_follow 23 = .ok (.iload 4, 2) := by decide +kernel
theorem dX5_follow_25 : decode cX5_follow 25 = .ok (.iload_n 1, 1) := by decide +kernel
theorem dX5_follow_26 : decode cX5_follow 26 = .ok (.invokestatic 46, 3) := by decide +kernel
theorem dX5_follow_29 : decode cX5_follow 29 = .ok (.ifCond .eq 16, 3) := by decide +kernel
theorem dX5_follow_32 : decode cX5_follow 32 = .ok (.aload_n 0, 1) := by decide +kernel
theorem dX5_follow_33 : decode cX5_follow 33 = .ok (.iload 4, 2) := by decide +kernel
theorem dX5_follow_35 : decode cX5_follow 35 = .ok (.iload_n 1, 1) := by decide +kernel
theorem dX5_follow_36 : decode cX5_follow 36 = .ok (.invokestatic 52, 3) := by decide +kernel
theorem dX5_follow_39 : decode cX5_follow 39 = .ok (.invokevirtual 56, 3) := by decide +kernel
theorem dX5_follow_42 : decode cX5_follow 42 = .ok (.goto 22, 3) := by decide +kernel
theorem dX5_follow_45 : decode cX5_follow 45 = .ok (.iload_n 1, 1) := by decide +kernel
theorem dX5_follow_46 : decode cX5_follow 46 = .ok (.iload 4, 2) := by decide +kernel
theorem dX5_follow_48 : decode cX5_follow 48 = .ok (.invokestatic 46, 3) := by decide +kernel
theorem dX5_follow_51 : decode cX5_follow 51 = .ok (.ifCond .eq 13, 3) := by decide +kernel
theorem dX5_follow_54 : decode cX5_follow 54 = .ok (.aload_n 0, 1) := by decide +kernel
theorem dX5_follow_55 : decode cX5_follow 55 = .ok (.iload_n 1, 1) := by decide +kernel
theorem dX5_follow_56 : decode cX5_follow 56 = .ok (.iload 4, 2) := by decide +kernel
theorem dX5_follow_58 : decode cX5_follow 58 = .ok (.invokestatic 52, 3) := by decide +kernel
theorem dX5_follow_61 : decode cX5_follow 61 = .ok (.invokevirtual 56, 3) := by decide +kernel
theorem dX5_follow_64 : decode cX5_follow 64 = .ok (.iinc 3 1, 3) := by decide +kernel
theorem dX5_follow_67 : decode cX5_follow 67 = .ok (.goto (-59), 3) := by decide +kernel
theorem dX5_follow_70 : decode cX5_follow 70 = .ok (.return_, 1) := by decide +kernel
theorem dX5_note_0 : decode cX5_note 0 = .ok (.aload_n 0, 1) := by decide +kernel
theorem dX5_note_1 : decode cX5_note 1 = .ok (.getfield 14, 3) := by decide +kernel
theorem dX5_note_4 : decode cX5_note 4 = .ok (.iload_n 1, 1) := by decide +kernel
theorem dX5_note_5 : decode cX5_note 5 = .ok (.invokevirtual 59, 3) := by decide +kernel
theorem dX5_note_8 : decode cX5_note 8 = .ok (.iconst (-1), 1) := by decide +kernel
theorem dX5_note_9 : decode cX5_note 9 = .ok (.if_icmp .ne 11, 3) := by decide +kernel
theorem dX5_note_12 : decode cX5_note 12 = .ok (.aload_n 0, 1) := by decide +kernel
theorem dX5_note_13 : decode cX5_note 13 = .ok (.getfield 14, 3) := by decide +kernel
theorem dX5_note_16 : decode cX5_note 16 = .ok (.iload_n 1, 1) := by decide +kernel
theorem dX5_note_17 : decode cX5_note 17 = .ok (.invokevirtual 62, 3) := by decide +kernel
theorem dX5_note_20 : decode cX5_note 20 = .ok (.iload_n 1, 1) := by decide +kernel
theorem dX5_note_21 : decode cX5_note 21 = .ok (.iconst 1, 1) := by decide +kernel
theorem dX5_note_22 : decode cX5_note 22 = .ok (.if_icmp .ne 8, 3) := by decide +kernel
theorem dX5_note_25 : decode cX5_note 25 = .ok (.aload_n 0, 1) := by decide +kernel
theorem dX5_note_26 : decode cX5_note 26 = .ok (.iconst 1, 1) := by decide +kernel
theorem dX5_note_27 : decode cX5_note 27 = .ok (.putfield 20, 3) := by decide +kernel
theorem dX5_note_30 : decode cX5_note 30 = .ok (.return_, 1) := by decide +kernel
theorem dX6_init_0 : decode cX6_init 0 = .ok (.aload_n 0, 1) := by decide +kernel
theorem dX6_init_1 : decode cX6_init 1 = .ok (.invokespecial 3, 3) := by decide +kernel
theorem dX6_init_4 : decode cX6_init 4 = .ok (.aload_n 0, 1) := by decide +kernel
theorem dX6_init_5 : decode cX6_init 5 = .ok (.new 9, 3) := by decide +kernel
theorem dX6_init_8 : decode cX6_init 8 = .ok (.dup, 1) := by decide +kernel
theorem dX6_init_9 : decode cX6_init 9 = .ok (.bipush 8, 2) := by decide +kernel
theorem dX6_init_11 : decode cX6_init 11 = .ok (.invokespecial 11, 3) := by decide +kernel
theorem dX6_init_14 : decode cX6_init 14 = .ok (.putfield 14, 3) := by decide +kernel
theorem dX6_init_17 : decode cX6_init 17 = .ok (.aload_n 0, 1) := by decide +kernel
theorem dX6_init_18 : decode cX6_init 18 = .ok (.new 9, 3) := by decide +kernel
theorem dX6_init_21 : decode cX6_init 21 = .ok (.dup, 1) := by decide +kernel
theorem dX6_init_22 : decode cX6_init 22 = .ok (.bipush 8, 2) := by decide +kernel
theorem dX6_init_24 : decode cX6_init 24 = .ok (.invokespecial 11, 3) := by decide +kernel
theorem dX6_init_27 : decode cX6_init 27 = .ok (.putfield 20, 3) := by decide +kernel
theorem dX6_init_30 : decode cX6_init 30 = .ok (.aload_n 0, 1) := by decide +kernel
theorem dX6_init_31 : decode cX6_init 31 = .ok (.new 9, 3) := by decide +kernel
theorem dX6_init_34 : decode cX6_init 34 = .ok (.dup, 1) := by decide +kernel
theorem dX6_init_35 : decode cX6_init 35 = .ok (.bipush 8, 2) := by decide +kernel
theorem dX6_init_37 : decode cX6_init 37 = .ok (.invokespecial 11, 3) := by decide +kernel
theorem dX6_init_40 : decode cX6_init 40 = .ok (.putfield 23, 3) := by decide +kernel
theorem dX6_init_43 : decode cX6_init 43 = .ok (.aload_n 0, 1) := by decide +kernel
theorem dX6_init_44 : decode cX6_init 44 = .ok (.iconst 0, 1) := by decide +kernel
theorem dX6_init_45 : decode cX6_init 45 = .ok (.putfield 26, 3) := by decide +kernel
theorem dX6_init_48 : decode cX6_init 48 = .ok (.return_, 1) := by decide +kernel
theorem dX6_size_0 : decode cX6_size 0 = .ok (.aload_n 0, 1) := by decide +kernel
theorem dX6_size_1 : decode cX6_size 1 = .ok (.getfield 14, 3) := by decide +kernel
theorem dX6_size_4 : decode cX6_size 4 = .ok (.invokevirtual 30, 3) := by decide +kernel
theorem dX6_size_7 : decode cX6_size 7 = .ok (.ireturn, 1) := by decide +kernel
theorem dX6_has_0 : decode cX6_has 0 = .ok (.iload_n 1, 1) := by decide +kernel
theorem dX6_has_1 : decode cX6_has 1 = .ok (.ifCond .lt 18, 3) := by decide +kernel
theorem dX6_has_4 : decode cX6_has 4 = .ok (.iload_n 1, 1) := by decide +kernel
theorem dX6_has_5 : decode cX6_has 5 = .ok (.aload_n 0, 1) := by decide +kernel
theorem dX6_has_6 : decode cX6_has 6 = .ok (.getfield 14, 3) := by decide +kernel
theorem dX6_has_9 : decode cX6_has 9 = .ok (.invokevirtual 30, 3) := by decide +kernel
theorem dX6_has_12 : decode cX6_has 12 = .ok (.if_icmp .ge 7, 3) := by decide +kernel
theorem dX6_has_15 : decode cX6_has 15 = .ok (.iconst 1, 1) := by decide +kernel
theorem dX6_has_16 : decode cX6_has 16 = .ok (.goto 4, 3) := by decide +kernel
theorem dX6_has_19 : decode cX6_has 19 = .ok (.iconst 0, 1) := by decide +kernel
theorem dX6_has_20 : decode cX6_has 20 = .ok (.ireturn, 1) := by decide +kernel
theorem dX6_isMarked_0 : decode cX6_isMarked 0 = .ok (.aload_n 0, 1) := by decide +kernel
theorem dX6_isMarked_1 : decode cX6_isMarked 1 = .ok (.iload_n 1, 1) := by decide +kernel
theorem dX6_isMarked_2 : decode cX6_isMarked 2 = .ok (.invokevirtual 34, 3) := by decide +kernel
theorem dX6_isMarked_5 : decode cX6_isMarked 5 = .ok (.ifCond .eq 19, 3) := by decide +kernel
theorem dX6_isMarked_8 : decode cX6_isMarked 8 = .ok (.aload_n 0, 1) := by decide +kernel
theorem dX6_isMarked_9 : decode cX6_isMarked 9 = .ok (.getfield 26, 3) := by decide +kernel
theorem dX6_isMarked_12 : decode cX6_isMarked 12 = .ok (.iload_n 1, 1) := by decide +kernel
theorem dX6_isMarked_13 : decode cX6_isMarked 13 = .ok (.ishr, 1) := by decide +kernel
theorem dX6_isMarked_14 : decode cX6_isMarked 14 = .ok (.iconst 1, 1) := by decide +kernel
theorem dX6_isMarked_15 : decode cX6_isMarked 15 = .ok (.iand, 1) := by decide +kernel
theorem dX6_isMarked_16 : decode cX6_isMarked 16 = .ok (.iconst 1, 1) := by decide +kernel
theorem dX6_isMarked_17 : decode cX6_isMarked 17 = .ok (.if_icmp .ne 7, 3) := by decide +kernel
theorem dX6_isMarked_20 : decode cX6_isMarked 20 = .ok (.iconst 1, 1) := by decide +kernel
theorem dX6_isMarked_21 : decode cX6_isMarked 21 = .ok (.goto 4, 3) := by decide +kernel
theorem dX6_isMarked_24 : decode cX6_isMarked 24 = .ok (.iconst 0, 1) := by decide +kernel
theorem dX6_isMarked_25 : decode cX6_isMarked 25 = .ok (.ireturn, 1) := by decide +kernel
theorem dX6_markedRules_0 : decode cX6_markedRules 0 = .ok (.aload_n 0, 1) := by decide +kernel
theorem dX6_markedRules_1 : decode cX6_markedRules 1 = .ok (.getfield 26, 3) := by decide +kernel
theorem dX6_markedRules_4 : decode cX6_markedRules 4 = .ok (.invokestatic 38, 3) := by decide +kernel
theorem dX6_markedRules_7 : decode cX6_markedRules 7 = .ok (.ireturn, 1) := by decide +kernel
theorem dX6_replace_0 : decode cX6_replace 0 = .ok (.aload_n 0, 1) := by decide +kernel
theorem dX6_replace_1 : decode cX6_replace 1 = .ok (.getfield 14, 3) := by decide +kernel
theorem dX6_replace_4 : decode cX6_replace 4 = .ok (.aload_n 1, 1) := by decide +kernel
theorem dX6_replace_5 : decode cX6_replace 5 = .ok (.invokevirtual 44, 3) := by decide +kernel
theorem dX6_replace_8 : decode cX6_replace 8 = .ok (.aload_n 0, 1) := by decide +kernel
theorem dX6_replace_9 : decode cX6_replace 9 = .ok (.getfield 20, 3) := by decide +kernel
theorem dX6_replace_12 : decode cX6_replace 12 = .ok (.aload_n 2, 1) := by decide +kernel
theorem dX6_replace_13 : decode cX6_replace 13 = .ok (.invokevirtual 44, 3) := by decide +kernel
theorem dX6_replace_16 : decode cX6_replace 16 = .ok (.aload_n 0, 1) := by decide +kernel
theorem dX6_replace_17 : decode cX6_replace 17 = .ok (.iconst 0, 1) := by decide +kernel
theorem dX6_replace_18 : decode cX6_replace 18 = .ok (.putfield 26, 3) := by decide +kernel
theorem dX6_replace_21 : decode cX6_replace 21 = .ok (.aload_n 0, 1) := by decide +kernel
theorem dX6_replace_22 : decode cX6_replace 22 = .ok (.aload_n 0, 1) := by decide +kernel
theorem dX6_replace_23 : decode cX6_replace 23 = .ok (.getfield 26, 3) := by decide +kernel
theorem dX6_replace_26 : decode cX6_replace 26 = .ok (.aload_n 0, 1) := by decide +kernel
theorem dX6_replace_27 : decode cX6_replace 27 = .ok (.getfield 23, 3) := by decide +kernel
theorem dX6_replace_30 : decode cX6_replace 30 = .ok (.invokevirtual 48, 3) := by decide +kernel
theorem dX6_replace_33 : decode cX6_replace 33 = .ok (.return_, 1) := by decide +kernel
theorem dX6_turnMark_0 : decode cX6_turnMark 0 = .ok (.aload_n 0, 1) := by decide +kernel
theorem dX6_turnMark_1 : decode cX6_turnMark 1 = .ok (.iload_n 1, 1) := by decide +kernel
theorem dX6_turnMark_2 : decode cX6_turnMark 2 = .ok (.invokevirtual 34, 3) := by decide +kernel
theorem dX6_turnMark_5 : decode cX6_turnMark 5 = .ok (.ifCond .eq 27, 3) := by decide +kernel
theorem dX6_turnMark_8 : decode cX6_turnMark 8 = .ok (.aload_n 0, 1) := by decide +kernel
theorem dX6_turnMark_9 : decode cX6_turnMark 9 = .ok (.dup, 1) := by decide +kernel
theorem dX6_turnMark_10 : decode cX6_turnMark 10 = .ok (.getfield 26, 3) := by decide +kernel
theorem dX6_turnMark_13 : decode cX6_turnMark 13 = .ok (.iconst 1, 1) := by decide +kernel
theorem dX6_turnMark_14 : decode cX6_turnMark 14 = .ok (.iload_n 1, 1) := by decide +kernel
theorem dX6_turnMark_15 : decode cX6_turnMark 15 = .ok (.ishl, 1) := by decide +kernel
theorem dX6_turnMark_16 : decode cX6_turnMark 16 = .ok (.ixor, 1) := by decide +kernel
theorem dX6_turnMark_17 : decode cX6_turnMark 17 = .ok (.putfield 26, 3) := by decide +kernel
theorem dX6_turnMark_20 : decode cX6_turnMark 20 = .ok (.aload_n 0, 1) := by decide +kernel
theorem dX6_turnMark_21 : decode cX6_turnMark 21 = .ok (.aload_n 0, 1) := by decide +kernel
theorem dX6_turnMark_22 : decode cX6_turnMark 22 = .ok (.getfield 26, 3) := by decide +kernel
theorem dX6_turnMark_25 : decode cX6_turnMark 25 = .ok (.aload_n 0, 1) := by decide +kernel
theorem dX6_turnMark_26 : decode cX6_turnMark 26 = .ok (.getfield 23, 3) := by decide +kernel
theorem dX6_turnMark_29 : decode cX6_turnMark 29 = .ok (.invokevirtual 48, 3) := by decide +kernel
theorem dX6_turnMark_32 : decode cX6_turnMark 32 = .ok (.return_, 1) := by decide +kernel
theorem dX6_remove_0 : decode cX6_remove 0 = .ok (.aload_n 0, 1) := by decide +kernel
theorem dX6_remove_1 : decode cX6_remove 1 = .ok (.iload_n 1, 1) := by decide +kernel
theorem dX6_remove_2 : decode cX6_remove 2 = .ok (.invokevirtual 34, 3) := by decide +kernel
theorem dX6_remove_5 : decode cX6_remove 5 = .ok (.ifCond .eq 58, 3) := by decide +kernel
theorem dX6_remove_8 : decode cX6_remove 8 = .ok (.aload_n 0, 1) := by decide +kernel
theorem dX6_remove_9 : decode cX6_remove 9 = .ok (.getfield 14, 3) := by decide +kernel
theorem dX6_remove_12 : decode cX6_remove 12 = .ok (.iload_n 1, 1) := by decide +kernel
theorem dX6_remove_13 : decode cX6_remove 13 = .ok (.invokevirtual 52, 3) := by decide +kernel
theorem dX6_remove_16 : decode cX6_remove 16 = .ok (.aload_n 0, 1) := by decide +kernel
theorem dX6_remove_17 : decode cX6_remove 17 = .ok (.getfield 20, 3) := by decide +kernel
theorem dX6_remove_20 : decode cX6_remove 20 = .ok (.iload_n 1, 1) := by decide +kernel
theorem dX6_remove_21 : decode cX6_remove 21 = .ok (.invokevirtual 52, 3) := by decide +kernel
theorem dX6_remove_24 : decode cX6_remove 24 = .ok (.aload_n 0, 1) := by decide +kernel
theorem dX6_remove_25 : decode cX6_remove 25 = .ok (.getfield 26, 3) := by decide +kernel
theorem dX6_remove_28 : decode cX6_remove 28 = .ok (.iconst 1, 1) := by decide +kernel
theorem dX6_remove_29 : decode cX6_remove 29 = .ok (.iload_n 1, 1) := by decide +kernel
theorem dX6_remove_30 : decode cX6_remove 30 = .ok (.ishl, 1) := by decide +kernel
theorem dX6_remove_31 : decode cX6_remove 31 = .ok (.iconst 1, 1) := by decide +kernel
theorem dX6_remove_32 : decode cX6_remove 32 = .ok (.isub, 1) := by decide +kernel
theorem dX6_remove_33 : decode cX6_remove 33 = .ok (.iand, 1) := by decide +kernel
theorem dX6_remove_34 : decode cX6_remove 34 = .ok (.istore_n 2, 1) := by decide +kernel
theorem dX6_remove_35 : decode cX6_remove 35 = .ok (.aload_n 0, 1) := by decide +kernel
theorem dX6_remove_36 : decode cX6_remove 36 = .ok (.iload_n 2, 1) := by decide +kernel
theorem dX6_remove_37 : decode cX6_remove 37 = .ok (.aload_n 0, 1) := by decide +kernel
theorem dX6_remove_38 : decode cX6_remove 38 = .ok (.getfield 26, 3) := by decide +kernel
theorem dX6_remove_41 : decode cX6_remove 41 = .ok (.iload_n 1, 1) := by decide +kernel
theorem dX6_remove_42 : decode cX6_remove 42 = .ok (.iconst 1, 1) := by decide +kernel
theorem dX6_remove_43 : decode cX6_remove 43 = .ok (.iadd, 1) := by decide +kernel
theorem dX6_remove_44 : decode cX6_remove 44 = .ok (.ishr, 1) := by decide +kernel
theorem dX6_remove_45 : decode cX6_remove 45 = .ok (.iload_n 1, 1) := by decide +kernel
theorem dX6_remove_46 : decode cX6_remove 46 = .ok (.ishl, 1) := by decide +kernel
theorem dX6_remove_47 : decode cX6_remove 47 = .ok (.ior, 1) := by decide +kernel
theorem dX6_remove_48 : decode cX6_remove 48 = .ok (.putfield 26, 3) := by decide +kernel
theorem dX6_remove_51 : decode cX6_remove 51 = .ok (.aload_n 0, 1) := by decide +kernel
theorem dX6_remove_52 : decode cX6_remove 52 = .ok (.aload_n 0, 1) := by decide +kernel
theorem dX6_remove_53 : decode cX6_remove 53 = .ok (.getfield 26, 3) := by decide +kernel
theorem dX6_remove_56 : decode cX6_remove 56 = .ok (.aload_n 0, 1) := by decide +kernel
theorem dX6_remove_57 : decode cX6_remove 57 = .ok (.getfield 23, 3) := by decide +kernel
theorem dX6_remove_60 : decode cX6_remove 60 = .ok (.invokevirtual 48, 3) := by decide +kernel
theorem dX6_remove_63 : decode cX6_remove 63 = .ok (.return_, 1) := by decide +kernel
theorem dX6_makeSigns_0 : decode cX6_makeSigns 0 = .ok (.aload_n 2, 1) := by decide +kernel
theorem dX6_makeSigns_1 : decode cX6_makeSigns 1 = .ok (.invokevirtual 55, 3) := by decide +kernel
theorem dX6_makeSigns_4 : decode cX6_makeSigns 4 = .ok (.iconst 0, 1) := by decide +kernel
theorem dX6_makeSigns_5 : decode cX6_makeSigns 5 = .ok (.istore_n 3, 1) := by decide +kernel
theorem dX6_makeSigns_6 : decode cX6_makeSigns 6 = .ok (.iload_n 3, 1) := by decide +kernel
theorem dX6_makeSigns_7 : decode cX6_makeSigns 7 = .ok (.aload_n 0, 1) := by decide +kernel
theorem dX6_makeSigns_8 : decode cX6_makeSigns 8 = .ok (.getfield 20, 3) := by decide +kernel
theorem dX6_makeSigns_11 : decode cX6_makeSigns 11 = .ok (.invokevirtual 30, 3) := by decide +kernel
theorem dX6_makeSigns_14 : decode cX6_makeSigns 14 = .ok (.if_icmp .ge 56, 3) := by decide +kernel
theorem dX6_makeSigns_17 : decode cX6_makeSigns 17 = .ok (.aload_n 0, 1) := by decide +kernel
theorem dX6_makeSigns_18 : decode cX6_makeSigns 18 = .ok (.getfield 20, 3) := by decide +kernel
theorem dX6_makeSigns_21 : decode cX6_makeSigns 21 = .ok (.iload_n 3, 1) := by decide +kernel
theorem dX6_makeSigns_22 : decode cX6_makeSigns 22 = .ok (.invokevirtual 58, 3) := by decide +kernel
theorem dX6_makeSigns_25 : decode cX6_makeSigns 25 = .ok (.istore 4, 2) := by decide +kernel
theorem dX6_makeSigns_27 : decode cX6_makeSigns 27 = .ok (.iload_n 1, 1) := by decide +kernel
theorem dX6_makeSigns_28 : decode cX6_makeSigns 28 = .ok (.iload_n 3, 1) := by decide +kernel
theorem dX6_makeSigns_29 : decode cX6_makeSigns 29 = .ok (.ishr, 1) := by decide +kernel
theorem dX6_makeSigns_30 : decode cX6_makeSigns 30 = .ok (.iconst 1, 1) := by decide +kernel
theorem dX6_makeSigns_31 : decode cX6_makeSigns 31 = .ok (.iand, 1) := by decide +kernel
theorem dX6_makeSigns_32 : decode cX6_makeSigns 32 = .ok (.iconst 1, 1) := by decide +kernel
theorem dX6_makeSigns_33 : decode cX6_makeSigns 33 = .ok (.if_icmp .ne 7, 3) := by decide +kernel
theorem dX6_makeSigns_36 : decode cX6_makeSigns 36 = .ok (.iconst 1, 1) := by decide +kernel
theorem dX6_makeSigns_37 : decode cX6_makeSigns 37 = .ok (.goto 4, 3) := by decide +kernel
theorem dX6_makeSigns_40 : decode cX6_makeSigns 40 = .ok (.iconst 0, 1) := by decide +kernel
theorem dX6_makeSigns_41 : decode cX6_makeSigns 41 = .ok (.istore 5, 2) := by decide +kernel
theorem dX6_makeSigns_43 : decode cX6_makeSigns 43 = .ok (.aload_n 2, 1) := by decide +kernel
theorem dX6_makeSigns_44 : decode cX6_makeSigns 44 = .ok (.iload 5, 2) := by decide +kernel
theorem dX6_makeSigns_46 : decode cX6_makeSigns 46 = .ok (.ifCond .eq 13, 3) := by decide +kernel
theorem dX6_makeSigns_49 : decode cX6_makeSigns 49 = .ok (.iload 4, 2) := by decide +kernel
theorem dX6_makeSigns_51 : decode cX6_makeSigns 51 = .ok (.bipush 39, 2) := by decide +kernel
theorem dX6_makeSigns_53 : decode cX6_makeSigns 53 = .ok (.invokestatic 61, 3) := by decide +kernel
theorem dX6_makeSigns_56 : decode cX6_makeSigns 56 = .ok (.goto 5, 3) := by decide +kernel
theorem dX6_makeSigns_59 : decode cX6_makeSigns 59 = .ok (.iload 4, 2) := by decide +kernel
theorem dX6_makeSigns_61 : decode cX6_makeSigns 61 = .ok (.invokevirtual 67, 3) := by decide +kernel
theorem dX6_makeSigns_64 : decode cX6_makeSigns 64 = .ok (.iinc 3 1, 3) := by decide +kernel
theorem dX6_makeSigns_67 : decode cX6_makeSigns 67 = .ok (.goto (-61), 3) := by decide +kernel
theorem dX6_makeSigns_70 : decode cX6_makeSigns 70 = .ok (.return_, 1) := by decide +kernel
theorem dX6_spell_0 : decode cX6_spell 0 = .ok (.aload_n 2, 1) := by decide +kernel
theorem dX6_spell_1 : decode cX6_spell 1 = .ok (.invokevirtual 55, 3) := by decide +kernel
theorem dX6_spell_4 : decode cX6_spell 4 = .ok (.iconst 0, 1) := by decide +kernel
theorem dX6_spell_5 : decode cX6_spell 5 = .ok (.istore_n 3, 1) := by decide +kernel
theorem dX6_spell_6 : decode cX6_spell 6 = .ok (.iload_n 3, 1) := by decide +kernel
theorem dX6_spell_7 : decode cX6_spell 7 = .ok (.aload_n 1, 1) := by decide +kernel
theorem dX6_spell_8 : decode cX6_spell 8 = .ok (.invokevirtual 30, 3) := by decide +kernel
theorem dX6_spell_11 : decode cX6_spell 11 = .ok (.if_icmp .ge 25, 3) := by decide +kernel
theorem dX6_spell_14 : decode cX6_spell 14 = .ok (.aload_n 2, 1) := by decide +kernel
theorem dX6_spell_15 : decode cX6_spell 15 = .ok (.aload_n 0, 1) := by decide +kernel
theorem dX6_spell_16 : decode cX6_spell 16 = .ok (.getfield 23, 3) := by decide +kernel
theorem dX6_spell_19 : decode cX6_spell 19 = .ok (.aload_n 1, 1) := by decide +kernel
theorem dX6_spell_20 : decode cX6_spell 20 = .ok (.iload_n 3, 1) := by decide +kernel
theorem dX6_spell_21 : decode cX6_spell 21 = .ok (.invokevirtual 58, 3) := by decide +kernel
theorem dX6_spell_24 : decode cX6_spell 24 = .ok (.invokevirtual 58, 3) := by decide +kernel
theorem dX6_spell_27 : decode cX6_spell 27 = .ok (.invokevirtual 70, 3) := by decide +kernel
theorem dX6_spell_30 : decode cX6_spell 30 = .ok (.iinc 3 1, 3) := by decide +kernel
theorem dX6_spell_33 : decode cX6_spell 33 = .ok (.goto (-27), 3) := by decide +kernel
theorem dX6_spell_36 : decode cX6_spell 36 = .ok (.return_, 1) := by decide +kernel
theorem dX6_othersBeginning_0 : decode cX6_othersBeginning 0 = .ok (.iconst 0, 1) := by decide +kernel
theorem dX6_othersBeginning_1 : decode cX6_othersBeginning 1 = .ok (.istore_n 2, 1) := by decide +kernel
theorem dX6_othersBeginning_2 : decode cX6_othersBeginning 2 = .ok (.iconst 0, 1) := by decide +kernel
theorem dX6_othersBeginning_3 : decode cX6_othersBeginning 3 = .ok (.istore_n 3, 1) := by decide +kernel
theorem dX6_othersBeginning_4 : decode cX6_othersBeginning 4 = .ok (.iload_n 3, 1) := by decide +kernel
theorem dX6_othersBeginning_5 : decode cX6_othersBeginning 5 = .ok (.aload_n 0, 1) := by decide +kernel
theorem dX6_othersBeginning_6 : decode cX6_othersBeginning 6 = .ok (.invokevirtual 30, 3) := by decide +kernel
theorem dX6_othersBeginning_9 : decode cX6_othersBeginning 9 = .ok (.if_icmp .ge 33, 3) := by decide +kernel
theorem dX6_othersBeginning_12 : decode cX6_othersBeginning 12 = .ok (.iload_n 3, 1) := by decide +kernel
theorem dX6_othersBeginning_13 : decode cX6_othersBeginning 13 = .ok (.iload_n 1, 1) := by decide +kernel
theorem dX6_othersBeginning_14 : decode cX6_othersBeginning 14 = .ok (.if_icmp .eq 22, 3) := by decide +kernel
theorem dX6_othersBeginning_17 : decode cX6_othersBeginning 17 = .ok (.aload_n 0, 1) := by decide +kernel
theorem dX6_othersBeginning_18 : decode cX6_othersBeginning 18 = .ok (.iload_n 3, 1) := by decide +kernel
theorem dX6_othersBeginning_19 : decode cX6_othersBeginning 19 = .ok (.invokevirtual 58, 3) := by decide +kernel
theorem dX6_othersBeginning_22 : decode cX6_othersBeginning 22 = .ok (.aload_n 0, 1) := by decide +kernel
theorem dX6_othersBeginning_23 : decode cX6_othersBeginning 23 = .ok (.iload_n 1, 1) := by decide +kernel
theorem dX6_othersBeginning_24 : decode cX6_othersBeginning 24 = .ok (.invokevirtual 58, 3) := by decide +kernel
theorem dX6_othersBeginning_27 : decode cX6_othersBeginning 27 = .ok (.invokestatic 73, 3) := by decide +kernel
theorem dX6_othersBeginning_30 : decode cX6_othersBeginning 30 = .ok (.ifCond .eq 6, 3) := by decide +kernel
theorem dX6_othersBeginning_33 : decode cX6_othersBeginning 33 = .ok (.iinc 2 1, 3) := by decide +kernel
theorem dX6_othersBeginning_36 : decode cX6_othersBeginning 36 = .ok (.iinc 3 1, 3) := by decide +kernel
theorem dX6_othersBeginning_39 : decode cX6_othersBeginning 39 = .ok (.goto (-35), 3) := by decide +kernel
theorem dX6_othersBeginning_42 : decode cX6_othersBeginning 42 = .ok (.iload_n 2, 1) := by decide +kernel
theorem dX6_othersBeginning_43 : decode cX6_othersBeginning 43 = .ok (.ireturn, 1) := by decide +kernel
theorem dX7_init_0 : decode cX7_init 0 = .ok (.aload_n 0, 1) := by decide +kernel
theorem dX7_init_1 : decode cX7_init 1 = .ok (.invokespecial 3, 3) := by decide +kernel
theorem dX7_init_4 : decode cX7_init 4 = .ok (.aload_n 0, 1) := by decide +kernel
theorem dX7_init_5 : decode cX7_init 5 = .ok (.bipush 57, 2) := by decide +kernel
theorem dX7_init_7 : decode cX7_init 7 = .ok (.newarray .int, 2) := by decide +kernel
theorem dX7_init_9 : decode cX7_init 9 = .ok (.putfield 9, 3) := by decide +kernel
theorem dX7_init_12 : decode cX7_init 12 = .ok (.aload_n 0, 1) := by decide +kernel
theorem dX7_init_13 : decode cX7_init 13 = .ok (.bipush 57, 2) := by decide +kernel
theorem dX7_init_15 : decode cX7_init 15 = .ok (.newarray .int, 2) := by decide +kernel
theorem dX7_init_17 : decode cX7_init 17 = .ok (.putfield 15, 3) := by decide +kernel
theorem dX7_init_20 : decode cX7_init 20 = .ok (.aload_n 0, 1) := by decide +kernel
theorem dX7_init_21 : decode cX7_init 21 = .ok (.iconst 0, 1) := by decide +kernel
theorem dX7_init_22 : decode cX7_init 22 = .ok (.putfield 18, 3) := by decide +kernel
theorem dX7_init_25 : decode cX7_init 25 = .ok (.return_, 1) := by decide +kernel
theorem dX7_weigh_0 : decode cX7_weigh 0 = .ok (.aload_n 0, 1) := by decide +kernel
theorem dX7_weigh_1 : decode cX7_weigh 1 = .ok (.aload_n 2, 1) := by decide +kernel
theorem dX7_weigh_2 : decode cX7_weigh 2 = .ok (.invokevirtual 22, 3) := by decide +kernel
theorem dX7_weigh_5 : decode cX7_weigh 5 = .ok (.bipush 56, 2) := by decide +kernel
theorem dX7_weigh_7 : decode cX7_weigh 7 = .ok (.invokestatic 28, 3) := by decide +kernel
theorem dX7_weigh_10 : decode cX7_weigh 10 = .ok (.putfield 18, 3) := by decide +kernel
theorem dX7_weigh_13 : decode cX7_weigh 13 = .ok (.aload_n 0, 1) := by decide +kernel
theorem dX7_weigh_14 : decode cX7_weigh 14 = .ok (.getfield 9, 3) := by decide +kernel
theorem dX7_weigh_17 : decode cX7_weigh 17 = .ok (.aload_n 0, 1) := by decide +kernel
theorem dX7_weigh_18 : decode cX7_weigh 18 = .ok (.getfield 18, 3) := by decide +kernel
theorem dX7_weigh_21 : decode cX7_weigh 21 = .ok (.iconst 1, 1) := by decide +kernel
theorem dX7_weigh_22 : decode cX7_weigh 22 = .ok (.iastore, 1) := by decide +kernel
theorem dX7_weigh_23 : decode cX7_weigh 23 = .ok (.aload_n 0, 1) := by decide +kernel
theorem dX7_weigh_24 : decode cX7_weigh 24 = .ok (.getfield 15, 3) := by decide +kernel
theorem dX7_weigh_27 : decode cX7_weigh 27 = .ok (.aload_n 0, 1) := by decide +kernel
theorem dX7_weigh_28 : decode cX7_weigh 28 = .ok (.getfield 18, 3) := by decide +kernel
theorem dX7_weigh_31 : decode cX7_weigh 31 = .ok (.iconst 1, 1) := by decide +kernel
theorem dX7_weigh_32 : decode cX7_weigh 32 = .ok (.iastore, 1) := by decide +kernel
theorem dX7_weigh_33 : decode cX7_weigh 33 = .ok (.aload_n 0, 1) := by decide +kernel
theorem dX7_weigh_34 : decode cX7_weigh 34 = .ok (.getfield 18, 3) := by decide +kernel
theorem dX7_weigh_37 : decode cX7_weigh 37 = .ok (.iconst 1, 1) := by decide +kernel
theorem dX7_weigh_38 : decode cX7_weigh 38 = .ok (.isub, 1) := by decide +kernel
theorem dX7_weigh_39 : decode cX7_weigh 39 = .ok (.istore_n 3, 1) := by decide +kernel
theorem dX7_weigh_40 : decode cX7_weigh 40 = .ok (.iload_n 3, 1) := by decide +kernel
theorem dX7_weigh_41 : decode cX7_weigh 41 = .ok (.ifCond .lt 16, 3) := by decide +kernel
theorem dX7_weigh_44 : decode cX7_weigh 44 = .ok (.aload_n 0, 1) := by decide +kernel
theorem dX7_weigh_45 : decode cX7_weigh 45 = .ok (.aload_n 1, 1) := by decide +kernel
theorem dX7_weigh_46 : decode cX7_weigh 46 = .ok (.aload_n 2, 1) := by decide +kernel
theorem dX7_weigh_47 : decode cX7_weigh 47 = .ok (.iload_n 3, 1) := by decide +kernel
theorem dX7_weigh_48 : decode cX7_weigh 48 = .ok (.invokevirtual 34, 3) := by decide +kernel
theorem dX7_weigh_51 : decode cX7_weigh 51 = .ok (.iinc 3 (-1), 3) := by decide +kernel
theorem dX7_weigh_54 : decode cX7_weigh 54 = .ok (.goto (-14), 3) := by decide +kernel
theorem dX7_weigh_57 : decode cX7_weigh 57 = .ok (.return_, 1) := by decide +kernel
theorem dX7_weighPlace_0 : decode cX7_weighPlace 0 = .ok (.iconst 0, 1) := by decide +kernel
theorem dX7_weighPlace_1 : decode cX7_weighPlace 1 = .ok (.istore 4, 2) := by decide +kernel
theorem dX7_weighPlace_3 : decode cX7_weighPlace 3 = .ok (.iconst 0, 1) := by decide +kernel
theorem dX7_weighPlace_4 : decode cX7_weighPlace 4 = .ok (.istore 5, 2) := by decide +kernel
theorem dX7_weighPlace_6 : decode cX7_weighPlace 6 = .ok (.iconst 0, 1) := by decide +kernel
theorem dX7_weighPlace_7 : decode cX7_weighPlace 7 = .ok (.istore 6, 2) := by decide +kernel
theorem dX7_weighPlace_9 : decode cX7_weighPlace 9 = .ok (.iload 6, 2) := by decide +kernel
theorem dX7_weighPlace_11 : decode cX7_weighPlace 11 = .ok (.aload_n 1, 1) := by decide +kernel
theorem dX7_weighPlace_12 : decode cX7_weighPlace 12 = .ok (.invokevirtual 22, 3) := by decide +kernel
theorem dX7_weighPlace_15 : decode cX7_weighPlace 15 = .ok (.if_icmp .ge 68, 3) := by decide +kernel
theorem dX7_weighPlace_18 : decode cX7_weighPlace 18 = .ok (.aload_n 1, 1) := by decide +kernel
theorem dX7_weighPlace_19 : decode cX7_weighPlace 19 = .ok (.iload 6, 2) := by decide +kernel
theorem dX7_weighPlace_21 : decode cX7_weighPlace 21 = .ok (.invokevirtual 38, 3) := by decide +kernel
theorem dX7_weighPlace_24 : decode cX7_weighPlace 24 = .ok (.aload_n 2, 1) := by decide +kernel
theorem dX7_weighPlace_25 : decode cX7_weighPlace 25 = .ok (.iload_n 3, 1) := by decide +kernel
theorem dX7_weighPlace_26 : decode cX7_weighPlace 26 = .ok (.invokestatic 42, 3) := by decide +kernel
theorem dX7_weighPlace_29 : decode cX7_weighPlace 29 = .ok (.istore 7, 2) := by decide +kernel
theorem dX7_weighPlace_31 : decode cX7_weighPlace 31 = .ok (.iload 7, 2) := by decide +kernel
theorem dX7_weighPlace_33 : decode cX7_weighPlace 33 = .ok (.iload_n 3, 1) := by decide +kernel
theorem dX7_weighPlace_34 : decode cX7_weighPlace 34 = .ok (.if_icmp .le 43, 3) := by decide +kernel
theorem dX7_weighPlace_37 : decode cX7_weighPlace 37 = .ok (.iload 7, 2) := by decide +kernel
theorem dX7_weighPlace_39 : decode cX7_weighPlace 39 = .ok (.aload_n 0, 1) := by decide +kernel
theorem dX7_weighPlace_40 : decode cX7_weighPlace 40 = .ok (.getfield 18, 3) := by decide +kernel
theorem dX7_weighPlace_43 : decode cX7_weighPlace 43 = .ok (.if_icmp .gt 34, 3) := by decide +kernel
theorem dX7_weighPlace_46 : decode cX7_weighPlace 46 = .ok (.iload 4, 2) := by decide +kernel
theorem dX7_weighPlace_48 : decode cX7_weighPlace 48 = .ok (.aload_n 0, 1) := by decide +kernel
theorem dX7_weighPlace_49 : decode cX7_weighPlace 49 = .ok (.getfield 9, 3) := by decide +kernel
theorem dX7_weighPlace_52 : decode cX7_weighPlace 52 = .ok (.iload 7, 2) := by decide +kernel
theorem dX7_weighPlace_54 : decode cX7_weighPlace 54 = .ok (.iaload, 1) := by decide +kernel
theorem dX7_weighPlace_55 : decode cX7_weighPlace 55 = .ok (.iadd, 1) := by decide +kernel
theorem dX7_weighPlace_56 : decode cX7_weighPlace 56 = .ok (.ldc 48, 2) := by decide +kernel
theorem dX7_weighPlace_58 : decode cX7_weighPlace 58 = .ok (.irem, 1) := by decide +kernel
theorem dX7_weighPlace_59 : decode cX7_weighPlace 59 = .ok (.istore 4, 2) := by decide +kernel
theorem dX7_weighPlace_61 : decode cX7_weighPlace 61 = .ok (.iconst 2, 1) := by decide +kernel
theorem dX7_weighPlace_62 : decode cX7_weighPlace 62 = .ok (.iload 5, 2) := by decide +kernel
theorem dX7_weighPlace_64 : decode cX7_weighPlace 64 = .ok (.aload_n 0, 1) := by decide +kernel
theorem dX7_weighPlace_65 : decode cX7_weighPlace 65 = .ok (.getfield 15, 3) := by decide +kernel
theorem dX7_weighPlace_68 : decode cX7_weighPlace 68 = .ok (.iload 7, 2) := by decide +kernel
theorem dX7_weighPlace_70 : decode cX7_weighPlace 70 = .ok (.iaload, 1) := by decide +kernel
theorem dX7_weighPlace_71 : decode cX7_weighPlace 71 = .ok (.iadd, 1) := by decide +kernel
theorem dX7_weighPlace_72 : decode cX7_weighPlace 72 = .ok (.invokestatic 28, 3) := by decide +kernel
theorem dX7_weighPlace_75 : decode cX7_weighPlace 75 = .ok (.istore 5, 2) := by decide +kernel
theorem dX7_weighPlace_77 : decode cX7_weighPlace 77 = .ok (.iinc 6 1, 3) := by decide +kernel
theorem dX7_weighPlace_80 : decode cX7_weighPlace 80 = .ok (.goto (-71), 3) := by decide +kernel
theorem dX7_weighPlace_83 : decode cX7_weighPlace 83 = .ok (.aload_n 0, 1) := by decide +kernel
theorem dX7_weighPlace_84 : decode cX7_weighPlace 84 = .ok (.getfield 9, 3) := by decide +kernel
theorem dX7_weighPlace_87 : decode cX7_weighPlace 87 = .ok (.iload_n 3, 1) := by decide +kernel
theorem dX7_weighPlace_88 : decode cX7_weighPlace 88 = .ok (.iload 4, 2) := by decide +kernel
theorem dX7_weighPlace_90 : decode cX7_weighPlace 90 = .ok (.iastore, 1) := by decide +kernel
theorem dX7_weighPlace_91 : decode cX7_weighPlace 91 = .ok (.aload_n 0, 1) := by decide +kernel
theorem dX7_weighPlace_92 : decode cX7_weighPlace 92 = .ok (.getfield 15, 3) := by decide +kernel
theorem dX7_weighPlace_95 : decode cX7_weighPlace 95 = .ok (.iload_n 3, 1) := by decide +kernel
theorem dX7_weighPlace_96 : decode cX7_weighPlace 96 = .ok (.iload 5, 2) := by decide +kernel
theorem dX7_weighPlace_98 : decode cX7_weighPlace 98 = .ok (.iastore, 1) := by decide +kernel
theorem dX7_weighPlace_99 : decode cX7_weighPlace 99 = .ok (.return_, 1) := by decide +kernel
theorem dX7_total_0 : decode cX7_total 0 = .ok (.aload_n 0, 1) := by decide +kernel
theorem dX7_total_1 : decode cX7_total 1 = .ok (.getfield 9, 3) := by decide +kernel
theorem dX7_total_4 : decode cX7_total 4 = .ok (.iconst 0, 1) := by decide +kernel
theorem dX7_total_5 : decode cX7_total 5 = .ok (.iaload, 1) := by decide +kernel
theorem dX7_total_6 : decode cX7_total 6 = .ok (.ireturn, 1) := by decide +kernel
theorem dX7_pick_0 : decode cX7_pick 0 = .ok (.aload 4, 2) := by decide +kernel
theorem dX7_pick_2 : decode cX7_pick 2 = .ok (.invokevirtual 49, 3) := by decide +kernel
theorem dX7_pick_5 : decode cX7_pick 5 = .ok (.iload_n 3, 1) := by decide +kernel
theorem dX7_pick_6 : decode cX7_pick 6 = .ok (.aload_n 0, 1) := by decide +kernel
theorem dX7_pick_7 : decode cX7_pick 7 = .ok (.getfield 15, 3) := by decide +kernel
theorem dX7_pick_10 : decode cX7_pick 10 = .ok (.iconst 0, 1) := by decide +kernel
theorem dX7_pick_11 : decode cX7_pick 11 = .ok (.iaload, 1) := by decide +kernel
theorem dX7_pick_12 : decode cX7_pick 12 = .ok (.if_icmp .lt 4, 3) := by decide +kernel
theorem dX7_pick_15 : decode cX7_pick 15 = .ok (.return_, 1) := by decide +kernel
theorem dX7_pick_16 : decode cX7_pick 16 = .ok (.iload_n 3, 1) := by decide +kernel
theorem dX7_pick_17 : decode cX7_pick 17 = .ok (.istore 5, 2) := by decide +kernel
theorem dX7_pick_19 : decode cX7_pick 19 = .ok (.iconst 0, 1) := by decide +kernel
theorem dX7_pick_20 : decode cX7_pick 20 = .ok (.istore 6, 2) := by decide +kernel
theorem dX7_pick_22 : decode cX7_pick 22 = .ok (.iconst 0, 1) := by decide +kernel
theorem dX7_pick_23 : decode cX7_pick 23 = .ok (.istore 7, 2) := by decide +kernel
theorem dX7_pick_25 : decode cX7_pick 25 = .ok (.iload 7, 2) := by decide +kernel
theorem dX7_pick_27 : decode cX7_pick 27 = .ok (.aload_n 0, 1) := by decide +kernel
theorem dX7_pick_28 : decode cX7_pick 28 = .ok (.getfield 18, 3) := by decide +kernel
theorem dX7_pick_31 : decode cX7_pick 31 = .ok (.if_icmp .ge 119, 3) := by decide +kernel
theorem dX7_pick_34 : decode cX7_pick 34 = .ok (.iload 6, 2) := by decide +kernel
theorem dX7_pick_36 : decode cX7_pick 36 = .ok (.aload_n 0, 1) := by decide +kernel
theorem dX7_pick_37 : decode cX7_pick 37 = .ok (.getfield 18, 3) := by decide +kernel
theorem dX7_pick_40 : decode cX7_pick 40 = .ok (.if_icmp .ge 110, 3) := by decide +kernel
theorem dX7_pick_43 : decode cX7_pick 43 = .ok (.iload 6, 2) := by decide +kernel
theorem dX7_pick_45 : decode cX7_pick 45 = .ok (.istore 8, 2) := by decide +kernel
theorem dX7_pick_47 : decode cX7_pick 47 = .ok (.iconst 0, 1) := by decide +kernel
theorem dX7_pick_48 : decode cX7_pick 48 = .ok (.istore 9, 2) := by decide +kernel
theorem dX7_pick_50 : decode cX7_pick 50 = .ok (.iload 9, 2) := by decide +kernel
theorem dX7_pick_52 : decode cX7_pick 52 = .ok (.aload_n 1, 1) := by decide +kernel
theorem dX7_pick_53 : decode cX7_pick 53 = .ok (.invokevirtual 22, 3) := by decide +kernel
theorem dX7_pick_56 : decode cX7_pick 56 = .ok (.if_icmp .ge 84, 3) := by decide +kernel
theorem dX7_pick_59 : decode cX7_pick 59 = .ok (.iload 8, 2) := by decide +kernel
theorem dX7_pick_61 : decode cX7_pick 61 = .ok (.iload 6, 2) := by decide +kernel
theorem dX7_pick_63 : decode cX7_pick 63 = .ok (.if_icmp .ne 77, 3) := by decide +kernel
theorem dX7_pick_66 : decode cX7_pick 66 = .ok (.aload_n 1, 1) := by decide +kernel
theorem dX7_pick_67 : decode cX7_pick 67 = .ok (.iload 9, 2) := by decide +kernel
theorem dX7_pick_69 : decode cX7_pick 69 = .ok (.invokevirtual 38, 3) := by decide +kernel
theorem dX7_pick_72 : decode cX7_pick 72 = .ok (.aload_n 2, 1) := by decide +kernel
theorem dX7_pick_73 : decode cX7_pick 73 = .ok (.iload 6, 2) := by decide +kernel
theorem dX7_pick_75 : decode cX7_pick 75 = .ok (.invokestatic 42, 3) := by decide +kernel
theorem dX7_pick_78 : decode cX7_pick 78 = .ok (.istore 10, 2) := by decide +kernel
theorem dX7_pick_80 : decode cX7_pick 80 = .ok (.iload 10, 2) := by decide +kernel
theorem dX7_pick_82 : decode cX7_pick 82 = .ok (.iload 6, 2) := by decide +kernel
theorem dX7_pick_84 : decode cX7_pick 84 = .ok (.if_icmp .le 50, 3) := by decide +kernel
theorem dX7_pick_87 : decode cX7_pick 87 = .ok (.iload 10, 2) := by decide +kernel
theorem dX7_pick_89 : decode cX7_pick 89 = .ok (.aload_n 0, 1) := by decide +kernel
theorem dX7_pick_90 : decode cX7_pick 90 = .ok (.getfield 18, 3) := by decide +kernel
theorem dX7_pick_93 : decode cX7_pick 93 = .ok (.if_icmp .gt 41, 3) := by decide +kernel
theorem dX7_pick_96 : decode cX7_pick 96 = .ok (.iload 5, 2) := by decide +kernel
theorem dX7_pick_98 : decode cX7_pick 98 = .ok (.aload_n 0, 1) := by decide +kernel
theorem dX7_pick_99 : decode cX7_pick 99 = .ok (.getfield 15, 3) := by decide +kernel
theorem dX7_pick_102 : decode cX7_pick 102 = .ok (.iload 10, 2) := by decide +kernel
theorem dX7_pick_104 : decode cX7_pick 104 = .ok (.iaload, 1) := by decide +kernel
theorem dX7_pick_105 : decode cX7_pick 105 = .ok (.if_icmp .ge 17, 3) := by decide +kernel
theorem dX7_pick_108 : decode cX7_pick 108 = .ok (.aload 4, 2) := by decide +kernel
theorem dX7_pick_110 : decode cX7_pick 110 = .ok (.iload 9, 2) := by decide +kernel
theorem dX7_pick_112 : decode cX7_pick 112 = .ok (.invokevirtual 52, 3) := by decide +kernel
theorem dX7_pick_115 : decode cX7_pick 115 = .ok (.iload 10, 2) := by decide +kernel
theorem dX7_pick_117 : decode cX7_pick 117 = .ok (.istore 8, 2) := by decide +kernel
theorem dX7_pick_119 : decode cX7_pick 119 = .ok (.goto 15, 3) := by decide +kernel
theorem dX7_pick_122 : decode cX7_pick 122 = .ok (.iload 5, 2) := by decide +kernel
theorem dX7_pick_124 : decode cX7_pick 124 = .ok (.aload_n 0, 1) := by decide +kernel
theorem dX7_pick_125 : decode cX7_pick 125 = .ok (.getfield 15, 3) := by decide +kernel
theorem dX7_pick_128 : decode cX7_pick 128 = .ok (.iload 10, 2) := by decide +kernel
theorem dX7_pick_130 : decode cX7_pick 130 = .ok (.iaload, 1) := by decide +kernel
theorem dX7_pick_131 : decode cX7_pick 131 = .ok (.isub, 1) := by decide +kernel
theorem dX7_pick_132 : decode cX7_pick 132 = .ok (.istore 5, 2) := by decide +kernel
theorem dX7_pick_134 : decode cX7_pick 134 = .ok (.iinc 9 1, 3) := by decide +kernel
theorem dX7_pick_137 : decode cX7_pick 137 = .ok (.goto (-87), 3) := by decide +kernel
theorem dX7_pick_140 : decode cX7_pick 140 = .ok (.iload 8, 2) := by decide +kernel
theorem dX7_pick_142 : decode cX7_pick 142 = .ok (.istore 6, 2) := by decide +kernel
theorem dX7_pick_144 : decode cX7_pick 144 = .ok (.iinc 7 1, 3) := by decide +kernel
theorem dX7_pick_147 : decode cX7_pick 147 = .ok (.goto (-122), 3) := by decide +kernel
theorem dX7_pick_150 : decode cX7_pick 150 = .ok (.return_, 1) := by decide +kernel
theorem dX8_init_0 : decode cX8_init 0 = .ok (.aload_n 0, 1) := by decide +kernel
theorem dX8_init_1 : decode cX8_init 1 = .ok (.invokespecial 3, 3) := by decide +kernel
theorem dX8_init_4 : decode cX8_init 4 = .ok (.aload_n 0, 1) := by decide +kernel
theorem dX8_init_5 : decode cX8_init 5 = .ok (.new 9, 3) := by decide +kernel
theorem dX8_init_8 : decode cX8_init 8 = .ok (.dup, 1) := by decide +kernel
theorem dX8_init_9 : decode cX8_init 9 = .ok (.iconst 5, 1) := by decide +kernel
theorem dX8_init_10 : decode cX8_init 10 = .ok (.invokespecial 11, 3) := by decide +kernel
theorem dX8_init_13 : decode cX8_init 13 = .ok (.putfield 14, 3) := by decide +kernel
theorem dX8_init_16 : decode cX8_init 16 = .ok (.aload_n 0, 1) := by decide +kernel
theorem dX8_init_17 : decode cX8_init 17 = .ok (.new 9, 3) := by decide +kernel
theorem dX8_init_20 : decode cX8_init 20 = .ok (.dup, 1) := by decide +kernel
theorem dX8_init_21 : decode cX8_init 21 = .ok (.bipush 56, 2) := by decide +kernel
theorem dX8_init_23 : decode cX8_init 23 = .ok (.invokespecial 11, 3) := by decide +kernel
theorem dX8_init_26 : decode cX8_init 26 = .ok (.putfield 20, 3) := by decide +kernel
theorem dX8_init_29 : decode cX8_init 29 = .ok (.aload_n 0, 1) := by decide +kernel
theorem dX8_init_30 : decode cX8_init 30 = .ok (.new 9, 3) := by decide +kernel
theorem dX8_init_33 : decode cX8_init 33 = .ok (.dup, 1) := by decide +kernel
theorem dX8_init_34 : decode cX8_init 34 = .ok (.bipush 56, 2) := by decide +kernel
theorem dX8_init_36 : decode cX8_init 36 = .ok (.invokespecial 11, 3) := by decide +kernel
theorem dX8_init_39 : decode cX8_init 39 = .ok (.putfield 23, 3) := by decide +kernel
theorem dX8_init_42 : decode cX8_init 42 = .ok (.aload_n 0, 1) := by decide +kernel
theorem dX8_init_43 : decode cX8_init 43 = .ok (.lconst 0, 1) := by decide +kernel
theorem dX8_init_44 : decode cX8_init 44 = .ok (.putfield 26, 3) := by decide +kernel
theorem dX8_init_47 : decode cX8_init 47 = .ok (.aload_n 0, 1) := by decide +kernel
theorem dX8_init_48 : decode cX8_init 48 = .ok (.iconst 0, 1) := by decide +kernel
theorem dX8_init_49 : decode cX8_init 49 = .ok (.putfield 30, 3) := by decide +kernel
theorem dX8_init_52 : decode cX8_init 52 = .ok (.aload_n 0, 1) := by decide +kernel
theorem dX8_init_53 : decode cX8_init 53 = .ok (.iconst 0, 1) := by decide +kernel
theorem dX8_init_54 : decode cX8_init 54 = .ok (.putfield 34, 3) := by decide +kernel
theorem dX8_init_57 : decode cX8_init 57 = .ok (.aload_n 0, 1) := by decide +kernel
theorem dX8_init_58 : decode cX8_init 58 = .ok (.iconst 0, 1) := by decide +kernel
theorem dX8_init_59 : decode cX8_init 59 = .ok (.putfield 37, 3) := by decide +kernel
theorem dX8_init_62 : decode cX8_init 62 = .ok (.aload_n 0, 1) := by decide +kernel
theorem dX8_init_63 : decode cX8_init 63 = .ok (.iconst 0, 1) := by decide +kernel
theorem dX8_init_64 : decode cX8_init 64 = .ok (.putfield 40, 3) := by decide +kernel
theorem dX8_init_67 : decode cX8_init 67 = .ok (.return_, 1) := by decide +kernel
theorem dX8_value_0 : decode cX8_value 0 = .ok (.iload_n 1, 1) := by decide +kernel
theorem dX8_value_1 : decode cX8_value 1 = .ok (.tableswitch 42 0 2 #[27, 32, 37], 27) := by decide +kernel
theorem dX8_value_28 : decode cX8_value 28 = .ok (.aload_n 0, 1) := by decide +kernel
theorem dX8_value_29 : decode cX8_value 29 = .ok (.getfield 30, 3) := by decide +kernel
theorem dX8_value_32 : decode cX8_value 32 = .ok (.ireturn, 1) := by decide +kernel
theorem dX8_value_33 : decode cX8_value 33 = .ok (.aload_n 0, 1) := by decide +kernel
theorem dX8_value_34 : decode cX8_value 34 = .ok (.getfield 34, 3) := by decide +kernel
theorem dX8_value_37 : decode cX8_value 37 = .ok (.ireturn, 1) := by decide +kernel
theorem dX8_value_38 : decode cX8_value 38 = .ok (.aload_n 0, 1) := by decide +kernel
theorem dX8_value_39 : decode cX8_value 39 = .ok (.getfield 37, 3) := by decide +kernel
theorem dX8_value_42 : decode cX8_value 42 = .ok (.ireturn, 1) := by decide +kernel
theorem dX8_value_43 : decode cX8_value 43 = .ok (.aload_n 0, 1) := by decide +kernel
theorem dX8_value_44 : decode cX8_value 44 = .ok (.getfield 40, 3) := by decide +kernel
theorem dX8_value_47 : decode cX8_value 47 = .ok (.ireturn, 1) := by decide +kernel
theorem dX8_run_0 : decode cX8_run 0 = .ok (.aload_n 0, 1) := by decide +kernel
theorem dX8_run_1 : decode cX8_run 1 = .ok (.iload_n 3, 1) := by decide +kernel
theorem dX8_run_2 : decode cX8_run 2 = .ok (.i2l, 1) := by decide +kernel
theorem dX8_run_3 : decode cX8_run 3 = .ok (.putfield 26, 3) := by decide +kernel
theorem dX8_run_6 : decode cX8_run 6 = .ok (.aload_n 0, 1) := by decide +kernel
theorem dX8_run_7 : decode cX8_run 7 = .ok (.iconst 0, 1) := by decide +kernel
theorem dX8_run_8 : decode cX8_run 8 = .ok (.putfield 30, 3) := by decide +kernel
theorem dX8_run_11 : decode cX8_run 11 = .ok (.aload_n 0, 1) := by decide +kernel
theorem dX8_run_12 : decode cX8_run 12 = .ok (.iconst 0, 1) := by decide +kernel
theorem dX8_run_13 : decode cX8_run 13 = .ok (.putfield 34, 3) := by decide +kernel
theorem dX8_run_16 : decode cX8_run 16 = .ok (.aload_n 0, 1) := by decide +kernel
theorem dX8_run_17 : decode cX8_run 17 = .ok (.iconst 0, 1) := by decide +kernel
theorem dX8_run_18 : decode cX8_run 18 = .ok (.putfield 37, 3) := by decide +kernel
theorem dX8_run_21 : decode cX8_run 21 = .ok (.aload_n 0, 1) := by decide +kernel
theorem dX8_run_22 : decode cX8_run 22 = .ok (.iconst 0, 1) := by decide +kernel
theorem dX8_run_23 : decode cX8_run 23 = .ok (.putfield 40, 3) := by decide +kernel
theorem dX8_run_26 : decode cX8_run 26 = .ok (.iconst 0, 1) := by decide +kernel
theorem dX8_run_27 : decode cX8_run 27 = .ok (.istore 4, 2) := by decide +kernel
theorem dX8_run_29 : decode cX8_run 29 = .ok (.iload 4, 2) := by decide +kernel
theorem dX8_run_31 : decode cX8_run 31 = .ok (.iload_n 2, 1) := by decide +kernel
theorem dX8_run_32 : decode cX8_run 32 = .ok (.if_icmp .ge 22, 3) := by decide +kernel
theorem dX8_run_35 : decode cX8_run 35 = .ok (.aload_n 0, 1) := by decide +kernel
theorem dX8_run_36 : decode cX8_run 36 = .ok (.aload_n 1, 1) := by decide +kernel
theorem dX8_run_37 : decode cX8_run 37 = .ok (.invokevirtual 43, 3) := by decide +kernel
theorem dX8_run_40 : decode cX8_run 40 = .ok (.invokevirtual 49, 3) := by decide +kernel
theorem dX8_run_43 : decode cX8_run 43 = .ok (.aload_n 0, 1) := by decide +kernel
theorem dX8_run_44 : decode cX8_run 44 = .ok (.aload_n 1, 1) := by decide +kernel
theorem dX8_run_45 : decode cX8_run 45 = .ok (.invokevirtual 52, 3) := by decide +kernel
theorem dX8_run_48 : decode cX8_run 48 = .ok (.iinc 4 1, 3) := by decide +kernel
theorem dX8_run_51 : decode cX8_run 51 = .ok (.goto (-22), 3) := by decide +kernel
theorem dX8_run_54 : decode cX8_run 54 = .ok (.return_, 1) := by decide +kernel
theorem dX8_drawRow_0 : decode cX8_drawRow 0 = .ok (.aload_n 0, 1) := by decide +kernel
theorem dX8_drawRow_1 : decode cX8_drawRow 1 = .ok (.getfield 14, 3) := by decide +kernel
theorem dX8_drawRow_4 : decode cX8_drawRow 4 = .ok (.invokevirtual 56, 3) := by decide +kernel
theorem dX8_drawRow_7 : decode cX8_drawRow 7 = .ok (.iconst 1, 1) := by decide +kernel
theorem dX8_drawRow_8 : decode cX8_drawRow 8 = .ok (.aload_n 0, 1) := by decide +kernel
theorem dX8_drawRow_9 : decode cX8_drawRow 9 = .ok (.iconst 5, 1) := by decide +kernel
theorem dX8_drawRow_10 : decode cX8_drawRow 10 = .ok (.invokevirtual 59, 3) := by decide +kernel
theorem dX8_drawRow_13 : decode cX8_drawRow 13 = .ok (.iadd, 1) := by decide +kernel
theorem dX8_drawRow_14 : decode cX8_drawRow 14 = .ok (.istore_n 2, 1) := by decide +kernel
theorem dX8_drawRow_15 : decode cX8_drawRow 15 = .ok (.iconst 0, 1) := by decide +kernel
theorem dX8_drawRow_16 : decode cX8_drawRow 16 = .ok (.istore_n 3, 1) := by decide +kernel
theorem dX8_drawRow_17 : decode cX8_drawRow 17 = .ok (.iload_n 3, 1) := by decide +kernel
theorem dX8_drawRow_18 : decode cX8_drawRow 18 = .ok (.iload_n 2, 1) := by decide +kernel
theorem dX8_drawRow_19 : decode cX8_drawRow 19 = .ok (.if_icmp .ge 21, 3) := by decide +kernel
theorem dX8_drawRow_22 : decode cX8_drawRow 22 = .ok (.aload_n 0, 1) := by decide +kernel
theorem dX8_drawRow_23 : decode cX8_drawRow 23 = .ok (.getfield 14, 3) := by decide +kernel
theorem dX8_drawRow_26 : decode cX8_drawRow 26 = .ok (.aload_n 0, 1) := by decide +kernel
theorem dX8_drawRow_27 : decode cX8_drawRow 27 = .ok (.iload_n 1, 1) := by decide +kernel
theorem dX8_drawRow_28 : decode cX8_drawRow 28 = .ok (.invokevirtual 59, 3) := by decide +kernel
theorem dX8_drawRow_31 : decode cX8_drawRow 31 = .ok (.invokevirtual 63, 3) := by decide +kernel
theorem dX8_drawRow_34 : decode cX8_drawRow 34 = .ok (.iinc 3 1, 3) := by decide +kernel
theorem dX8_drawRow_37 : decode cX8_drawRow 37 = .ok (.goto (-20), 3) := by decide +kernel
theorem dX8_drawRow_40 : decode cX8_drawRow 40 = .ok (.return_, 1) := by decide +kernel
theorem dX8_tryRow_0 : decode cX8_tryRow 0 = .ok (.aload_n 1, 1) := by decide +kernel
theorem dX8_tryRow_1 : decode cX8_tryRow 1 = .ok (.aload_n 0, 1) := by decide +kernel
theorem dX8_tryRow_2 : decode cX8_tryRow 2 = .ok (.getfield 14, 3) := by decide +kernel
theorem dX8_tryRow_5 : decode cX8_tryRow 5 = .ok (.aload_n 0, 1) := by decide +kernel
theorem dX8_tryRow_6 : decode cX8_tryRow 6 = .ok (.getfield 20, 3) := by decide +kernel
theorem dX8_tryRow_9 : decode cX8_tryRow 9 = .ok (.invokevirtual 66, 3) := by decide +kernel
theorem dX8_tryRow_12 : decode cX8_tryRow 12 = .ok (.aload_n 0, 1) := by decide +kernel
theorem dX8_tryRow_13 : decode cX8_tryRow 13 = .ok (.dup, 1) := by decide +kernel
theorem dX8_tryRow_14 : decode cX8_tryRow 14 = .ok (.getfield 40, 3) := by decide +kernel
theorem dX8_tryRow_17 : decode cX8_tryRow 17 = .ok (.aload_n 0, 1) := by decide +kernel
theorem dX8_tryRow_18 : decode cX8_tryRow 18 = .ok (.getfield 20, 3) := by decide +kernel
theorem dX8_tryRow_21 : decode cX8_tryRow 21 = .ok (.invokevirtual 70, 3) := by decide +kernel
theorem dX8_tryRow_24 : decode cX8_tryRow 24 = .ok (.iadd, 1) := by decide +kernel
theorem dX8_tryRow_25 : decode cX8_tryRow 25 = .ok (.putfield 40, 3) := by decide +kernel
theorem dX8_tryRow_28 : decode cX8_tryRow 28 = .ok (.aload_n 1, 1) := by decide +kernel
theorem dX8_tryRow_29 : decode cX8_tryRow 29 = .ok (.getfield 71, 3) := by decide +kernel
theorem dX8_tryRow_32 : decode cX8_tryRow 32 = .ok (.aload_n 0, 1) := by decide +kernel
theorem dX8_tryRow_33 : decode cX8_tryRow 33 = .ok (.getfield 20, 3) := by decide +kernel
theorem dX8_tryRow_36 : decode cX8_tryRow 36 = .ok (.aload_n 0, 1) := by decide +kernel
theorem dX8_tryRow_37 : decode cX8_tryRow 37 = .ok (.getfield 23, 3) := by decide +kernel
theorem dX8_tryRow_40 : decode cX8_tryRow 40 = .ok (.invokestatic 74, 3) := by decide +kernel
theorem dX8_tryRow_43 : decode cX8_tryRow 43 = .ok (.istore_n 2, 1) := by decide +kernel
theorem dX8_tryRow_44 : decode cX8_tryRow 44 = .ok (.iload_n 2, 1) := by decide +kernel
theorem dX8_tryRow_45 : decode cX8_tryRow 45 = .ok (.aload_n 0, 1) := by decide +kernel
theorem dX8_tryRow_46 : decode cX8_tryRow 46 = .ok (.getfield 20, 3) := by decide +kernel
theorem dX8_tryRow_49 : decode cX8_tryRow 49 = .ok (.invokevirtual 70, 3) := by decide +kernel
theorem dX8_tryRow_52 : decode cX8_tryRow 52 = .ok (.if_icmp .ge 16, 3) := by decide +kernel
theorem dX8_tryRow_55 : decode cX8_tryRow 55 = .ok (.aload_n 0, 1) := by decide +kernel
theorem dX8_tryRow_56 : decode cX8_tryRow 56 = .ok (.dup, 1) := by decide +kernel
theorem dX8_tryRow_57 : decode cX8_tryRow 57 = .ok (.getfield 37, 3) := by decide +kernel
theorem dX8_tryRow_60 : decode cX8_tryRow 60 = .ok (.iconst 1, 1) := by decide +kernel
theorem dX8_tryRow_61 : decode cX8_tryRow 61 = .ok (.iadd, 1) := by decide +kernel
theorem dX8_tryRow_62 : decode cX8_tryRow 62 = .ok (.putfield 37, 3) := by decide +kernel
theorem dX8_tryRow_65 : decode cX8_tryRow 65 = .ok (.goto 40, 3) := by decide +kernel
theorem dX8_tryRow_68 : decode cX8_tryRow 68 = .ok (.aload_n 0, 1) := by decide +kernel
theorem dX8_tryRow_69 : decode cX8_tryRow 69 = .ok (.getfield 23, 3) := by decide +kernel
theorem dX8_tryRow_72 : decode cX8_tryRow 72 = .ok (.aload_n 0, 1) := by decide +kernel
theorem dX8_tryRow_73 : decode cX8_tryRow 73 = .ok (.getfield 14, 3) := by decide +kernel
theorem dX8_tryRow_76 : decode cX8_tryRow 76 = .ok (.invokevirtual 80, 3) := by decide +kernel
theorem dX8_tryRow_79 : decode cX8_tryRow 79 = .ok (.ifCond .eq 16, 3) := by decide +kernel
theorem dX8_tryRow_82 : decode cX8_tryRow 82 = .ok (.aload_n 0, 1) := by decide +kernel
theorem dX8_tryRow_83 : decode cX8_tryRow 83 = .ok (.dup, 1) := by decide +kernel
theorem dX8_tryRow_84 : decode cX8_tryRow 84 = .ok (.getfield 30, 3) := by decide +kernel
theorem dX8_tryRow_87 : decode cX8_tryRow 87 = .ok (.iconst 1, 1) := by decide +kernel
theorem dX8_tryRow_88 : decode cX8_tryRow 88 = .ok (.iadd, 1) := by decide +kernel
theorem dX8_tryRow_89 : decode cX8_tryRow 89 = .ok (.putfield 30, 3) := by decide +kernel
theorem dX8_tryRow_92 : decode cX8_tryRow 92 = .ok (.goto 13, 3) := by decide +kernel
theorem dX8_tryRow_95 : decode cX8_tryRow 95 = .ok (.aload_n 0, 1) := by decide +kernel
theorem dX8_tryRow_96 : decode cX8_tryRow 96 = .ok (.dup, 1) := by decide +kernel
theorem dX8_tryRow_97 : decode cX8_tryRow 97 = .ok (.getfield 34, 3) := by decide +kernel
theorem dX8_tryRow_100 : decode cX8_tryRow 100 = .ok (.iconst 1, 1) := by decide +kernel
theorem dX8_tryRow_101 : decode cX8_tryRow 101 = .ok (.iadd, 1) := by decide +kernel
theorem dX8_tryRow_102 : decode cX8_tryRow 102 = .ok (.putfield 34, 3) := by decide +kernel
theorem dX8_tryRow_105 : decode cX8_tryRow 105 = .ok (.return_, 1) := by decide +kernel
theorem dX8_draw_0 : decode cX8_draw 0 = .ok (.aload_n 0, 1) := by decide +kernel
theorem dX8_draw_1 : decode cX8_draw 1 = .ok (.ldc2_w 84, 3) := by decide +kernel
theorem dX8_draw_4 : decode cX8_draw 4 = .ok (.aload_n 0, 1) := by decide +kernel
theorem dX8_draw_5 : decode cX8_draw 5 = .ok (.getfield 26, 3) := by decide +kernel
theorem dX8_draw_8 : decode cX8_draw 8 = .ok (.lmul, 1) := by decide +kernel
theorem dX8_draw_9 : decode cX8_draw 9 = .ok (.ldc2_w 86, 3) := by decide +kernel
theorem dX8_draw_12 : decode cX8_draw 12 = .ok (.ladd, 1) := by decide +kernel
theorem dX8_draw_13 : decode cX8_draw 13 = .ok (.ldc2_w 88, 3) := by decide +kernel
theorem dX8_draw_16 : decode cX8_draw 16 = .ok (.lrem, 1) := by decide +kernel
theorem dX8_draw_17 : decode cX8_draw 17 = .ok (.putfield 26, 3) := by decide +kernel
theorem dX8_draw_20 : decode cX8_draw 20 = .ok (.iload_n 1, 1) := by decide +kernel
theorem dX8_draw_21 : decode cX8_draw 21 = .ok (.ifCond .le 18, 3) := by decide +kernel
theorem dX8_draw_24 : decode cX8_draw 24 = .ok (.aload_n 0, 1) := by decide +kernel
theorem dX8_draw_25 : decode cX8_draw 25 = .ok (.getfield 26, 3) := by decide +kernel
theorem dX8_draw_28 : decode cX8_draw 28 = .ok (.ldc2_w 90, 3) := by decide +kernel
theorem dX8_draw_31 : decode cX8_draw 31 = .ok (.ldiv, 1) := by decide +kernel
theorem dX8_draw_32 : decode cX8_draw 32 = .ok (.iload_n 1, 1) := by decide +kernel
theorem dX8_draw_33 : decode cX8_draw 33 = .ok (.i2l, 1) := by decide +kernel
theorem dX8_draw_34 : decode cX8_draw 34 = .ok (.lrem, 1) := by decide +kernel
theorem dX8_draw_35 : decode cX8_draw 35 = .ok (.l2i, 1) := by decide +kernel
theorem dX8_draw_36 : decode cX8_draw 36 = .ok (.goto 4, 3) := by decide +kernel
theorem dX8_draw_39 : decode cX8_draw 39 = .ok (.iconst 0, 1) := by decide +kernel
theorem dX8_draw_40 : decode cX8_draw 40 = .ok (.ireturn, 1) := by decide +kernel
theorem dX9_size_0 : decode cX9_size 0 = .ok (.iload_n 0, 1) := by decide +kernel
theorem dX9_size_1 : decode cX9_size 1 = .ok (.sipush 16384, 3) := by decide +kernel
theorem dX9_size_4 : decode cX9_size 4 = .ok (.if_icmp .ge 16, 3) := by decide +kernel
theorem dX9_size_7 : decode cX9_size 7 = .ok (.iload_n 0, 1) := by decide +kernel
theorem dX9_size_8 : decode cX9_size 8 = .ok (.sipush 128, 3) := by decide +kernel
theorem dX9_size_11 : decode cX9_size 11 = .ok (.if_icmp .ge 7, 3) := by decide +kernel
theorem dX9_size_14 : decode cX9_size 14 = .ok (.iconst 0, 1) := by decide +kernel
theorem dX9_size_15 : decode cX9_size 15 = .ok (.goto 4, 3) := by decide +kernel
theorem dX9_size_18 : decode cX9_size 18 = .ok (.iconst 1, 1) := by decide +kernel
theorem dX9_size_19 : decode cX9_size 19 = .ok (.ireturn, 1) := by decide +kernel
theorem dX9_size_20 : decode cX9_size 20 = .ok (.iload_n 0, 1) := by decide +kernel
theorem dX9_size_21 : decode cX9_size 21 = .ok (.ldc 11, 2) := by decide +kernel
theorem dX9_size_23 : decode cX9_size 23 = .ok (.if_icmp .ge 5, 3) := by decide +kernel
theorem dX9_size_26 : decode cX9_size 26 = .ok (.iconst 2, 1) := by decide +kernel
theorem dX9_size_27 : decode cX9_size 27 = .ok (.ireturn, 1) := by decide +kernel
theorem dX9_size_28 : decode cX9_size 28 = .ok (.iload_n 0, 1) := by decide +kernel
theorem dX9_size_29 : decode cX9_size 29 = .ok (.ldc 12, 2) := by decide +kernel
theorem dX9_size_31 : decode cX9_size 31 = .ok (.if_icmp .ge 7, 3) := by decide +kernel
theorem dX9_size_34 : decode cX9_size 34 = .ok (.iconst 3, 1) := by decide +kernel
theorem dX9_size_35 : decode cX9_size 35 = .ok (.goto 4, 3) := by decide +kernel
theorem dX9_size_38 : decode cX9_size 38 = .ok (.iconst 4, 1) := by decide +kernel
theorem dX9_size_39 : decode cX9_size 39 = .ok (.ireturn, 1) := by decide +kernel
theorem dX9_append_0 : decode cX9_append 0 = .ok (.iload_n 0, 1) := by decide +kernel
theorem dX9_append_1 : decode cX9_append 1 = .ok (.bipush 7, 2) := by decide +kernel
theorem dX9_append_3 : decode cX9_append 3 = .ok (.ishl, 1) := by decide +kernel
theorem dX9_append_4 : decode cX9_append 4 = .ok (.iload_n 1, 1) := by decide +kernel
theorem dX9_append_5 : decode cX9_append 5 = .ok (.bipush 127, 2) := by decide +kernel
theorem dX9_append_7 : decode cX9_append 7 = .ok (.iand, 1) := by decide +kernel
theorem dX9_append_8 : decode cX9_append 8 = .ok (.ior, 1) := by decide +kernel
theorem dX9_append_9 : decode cX9_append 9 = .ok (.ireturn, 1) := by decide +kernel
theorem dX9_character_0 : decode cX9_character 0 = .ok (.iload_n 0, 1) := by decide +kernel
theorem dX9_character_1 : decode cX9_character 1 = .ok (.invokestatic 13, 3) := by decide +kernel
theorem dX9_character_4 : decode cX9_character 4 = .ok (.istore_n 2, 1) := by decide +kernel
theorem dX9_character_5 : decode cX9_character 5 = .ok (.iload_n 1, 1) := by decide +kernel
theorem dX9_character_6 : decode cX9_character 6 = .ok (.ifCond .lt 8, 3) := by decide +kernel
theorem dX9_character_9 : decode cX9_character 9 = .ok (.iload_n 1, 1) := by decide +kernel
theorem dX9_character_10 : decode cX9_character 10 = .ok (.iload_n 2, 1) := by decide +kernel
theorem dX9_character_11 : decode cX9_character 11 = .ok (.if_icmp .lt 6, 3) := by decide +kernel
theorem dX9_character_14 : decode cX9_character 14 = .ok (.bipush (-101), 2) := by decide +kernel
theorem dX9_character_16 : decode cX9_character 16 = .ok (.ireturn, 1) := by decide +kernel
theorem dX9_character_17 : decode cX9_character 17 = .ok (.iload_n 0, 1) := by decide +kernel
theorem dX9_character_18 : decode cX9_character 18 = .ok (.iload_n 2, 1) := by decide +kernel
theorem dX9_character_19 : decode cX9_character 19 = .ok (.iconst 1, 1) := by decide +kernel
theorem dX9_character_20 : decode cX9_character 20 = .ok (.isub, 1) := by decide +kernel
theorem dX9_character_21 : decode cX9_character 21 = .ok (.iload_n 1, 1) := by decide +kernel
theorem dX9_character_22 : decode cX9_character 22 = .ok (.isub, 1) := by decide +kernel
theorem dX9_character_23 : decode cX9_character 23 = .ok (.invokestatic 17, 3) := by decide +kernel
theorem dX9_character_26 : decode cX9_character 26 = .ok (.ireturn, 1) := by decide +kernel
theorem dX9_fromEnd_0 : decode cX9_fromEnd 0 = .ok (.iload_n 0, 1) := by decide +kernel
theorem dX9_fromEnd_1 : decode cX9_fromEnd 1 = .ok (.bipush 7, 2) := by decide +kernel
theorem dX9_fromEnd_3 : decode cX9_fromEnd 3 = .ok (.iload_n 1, 1) := by decide +kernel
theorem dX9_fromEnd_4 : decode cX9_fromEnd 4 = .ok (.imul, 1) := by decide +kernel
theorem dX9_fromEnd_5 : decode cX9_fromEnd 5 = .ok (.ishr, 1) := by decide +kernel
theorem dX9_fromEnd_6 : decode cX9_fromEnd 6 = .ok (.bipush 127, 2) := by decide +kernel
theorem dX9_fromEnd_8 : decode cX9_fromEnd 8 = .ok (.iand, 1) := by decide +kernel
theorem dX9_fromEnd_9 : decode cX9_fromEnd 9 = .ok (.ireturn, 1) := by decide +kernel
theorem dX9_begins_0 : decode cX9_begins 0 = .ok (.iload_n 0, 1) := by decide +kernel
theorem dX9_begins_1 : decode cX9_begins 1 = .ok (.invokestatic 13, 3) := by decide +kernel
theorem dX9_begins_4 : decode cX9_begins 4 = .ok (.iload_n 1, 1) := by decide +kernel
theorem dX9_begins_5 : decode cX9_begins 5 = .ok (.invokestatic 13, 3) := by decide +kernel
theorem dX9_begins_8 : decode cX9_begins 8 = .ok (.isub, 1) := by decide +kernel
theorem dX9_begins_9 : decode cX9_begins 9 = .ok (.istore_n 2, 1) := by decide +kernel
theorem dX9_begins_10 : decode cX9_begins 10 = .ok (.iload_n 2, 1) := by decide +kernel
theorem dX9_begins_11 : decode cX9_begins 11 = .ok (.ifCond .lt 17, 3) := by decide +kernel
theorem dX9_begins_14 : decode cX9_begins 14 = .ok (.iload_n 0, 1) := by decide +kernel
theorem dX9_begins_15 : decode cX9_begins 15 = .ok (.bipush 7, 2) := by decide +kernel
theorem dX9_begins_17 : decode cX9_begins 17 = .ok (.iload_n 2, 1) := by decide +kernel
theorem dX9_begins_18 : decode cX9_begins 18 = .ok (.imul, 1) := by decide +kernel
theorem dX9_begins_19 : decode cX9_begins 19 = .ok (.ishr, 1) := by decide +kernel
theorem dX9_begins_20 : decode cX9_begins 20 = .ok (.iload_n 1, 1) := by decide +kernel
theorem dX9_begins_21 : decode cX9_begins 21 = .ok (.if_icmp .ne 7, 3) := by decide +kernel
theorem dX9_begins_24 : decode cX9_begins 24 = .ok (.iconst 1, 1) := by decide +kernel
theorem dX9_begins_25 : decode cX9_begins 25 = .ok (.goto 4, 3) := by decide +kernel
theorem dX9_begins_28 : decode cX9_begins 28 = .ok (.iconst 0, 1) := by decide +kernel
theorem dX9_begins_29 : decode cX9_begins 29 = .ok (.ireturn, 1) := by decide +kernel
theorem dX9_behind_0 : decode cX9_behind 0 = .ok (.bipush 7, 2) := by decide +kernel
theorem dX9_behind_2 : decode cX9_behind 2 = .ok (.iconst 0, 1) := by decide +kernel
theorem dX9_behind_3 : decode cX9_behind 3 = .ok (.iload_n 0, 1) := by decide +kernel
theorem dX9_behind_4 : decode cX9_behind 4 = .ok (.invokestatic 13, 3) := by decide +kernel
theorem dX9_behind_7 : decode cX9_behind 7 = .ok (.iload_n 1, 1) := by decide +kernel
theorem dX9_behind_8 : decode cX9_behind 8 = .ok (.invokestatic 13, 3) := by decide +kernel
theorem dX9_behind_11 : decode cX9_behind 11 = .ok (.isub, 1) := by decide +kernel
theorem dX9_behind_12 : decode cX9_behind 12 = .ok (.invokestatic 21, 3) := by decide +kernel
theorem dX9_behind_15 : decode cX9_behind 15 = .ok (.imul, 1) := by decide +kernel
end
section
theorem dX9_behind_16 : decode cX9_behind 16 = .ok (.istore_n 2, 1) := by decide +kernel
theorem dX9_behind_17 : decode cX9_behind 17 = .ok (.iconst 1, 1) := by decide +kernel
theorem dX9_behind_18 : decode cX9_behind 18 = .ok (.iload_n 2, 1) := by decide +kernel
theorem dX9_behind_19 : decode cX9_behind 19 = .ok (.ishl, 1) := by decide +kernel
theorem dX9_behind_20 : decode cX9_behind 20 = .ok (.istore_n 3, 1) := by decide +kernel
theorem dX9_behind_21 : decode cX9_behind 21 = .ok (.iload_n 3, 1) := by decide +kernel
theorem dX9_behind_22 : decode cX9_behind 22 = .ok (.iload_n 0, 1) := by decide +kernel
theorem dX9_behind_23 : decode cX9_behind 23 = .ok (.iload_n 3, 1) := by decide +kernel
theorem dX9_behind_24 : decode cX9_behind 24 = .ok (.iconst 1, 1) := by decide +kernel
theorem dX9_behind_25 : decode cX9_behind 25 = .ok (.isub, 1) := by decide +kernel
theorem dX9_behind_26 : decode cX9_behind 26 = .ok (.iand, 1) := by decide +kernel
theorem dX9_behind_27 : decode cX9_behind 27 = .ok (.ior, 1) := by decide +kernel
theorem dX9_behind_28 : decode cX9_behind 28 = .ok (.ireturn, 1) := by decide +kernel
theorem dJ6_bitCount_0f7a4_0 : decode cJ6_bitCount_0f7a4 0 = .ok (.iload_n 0, 1) := by decide +kernel
theorem dJ6_bitCount_0f7a4_1 : decode cJ6_bitCount_0f7a4 1 = .ok (.iload_n 0, 1) := by decide +kernel
theorem dJ6_bitCount_0f7a4_2 : decode cJ6_bitCount_0f7a4 2 = .ok (.iconst 1, 1) := by decide +kernel
theorem dJ6_bitCount_0f7a4_3 : decode cJ6_bitCount_0f7a4 3 = .ok (.iushr, 1) := by decide +kernel
theorem dJ6_bitCount_0f7a4_4 : decode cJ6_bitCount_0f7a4 4 = .ok (.ldc_w 265, 3) := by decide +kernel
theorem dJ6_bitCount_0f7a4_7 : decode cJ6_bitCount_0f7a4 7 = .ok (.iand, 1) := by decide +kernel
theorem dJ6_bitCount_0f7a4_8 : decode cJ6_bitCount_0f7a4 8 = .ok (.isub, 1) := by decide +kernel
theorem dJ6_bitCount_0f7a4_9 : decode cJ6_bitCount_0f7a4 9 = .ok (.istore_n 0, 1) := by decide +kernel
theorem dJ6_bitCount_0f7a4_10 : decode cJ6_bitCount_0f7a4 10 = .ok (.iload_n 0, 1) := by decide +kernel
theorem dJ6_bitCount_0f7a4_11 : decode cJ6_bitCount_0f7a4 11 = .ok (.ldc_w 266, 3) := by decide +kernel
theorem dJ6_bitCount_0f7a4_14 : decode cJ6_bitCount_0f7a4 14 = .ok (.iand, 1) := by decide +kernel
theorem dJ6_bitCount_0f7a4_15 : decode cJ6_bitCount_0f7a4 15 = .ok (.iload_n 0, 1) := by decide +kernel
theorem dJ6_bitCount_0f7a4_16 : decode cJ6_bitCount_0f7a4 16 = .ok (.iconst 2, 1) := by decide +kernel
theorem dJ6_bitCount_0f7a4_17 : decode cJ6_bitCount_0f7a4 17 = .ok (.iushr, 1) := by decide +kernel
theorem dJ6_bitCount_0f7a4_18 : decode cJ6_bitCount_0f7a4 18 = .ok (.ldc_w 266, 3) := by decide +kernel
theorem dJ6_bitCount_0f7a4_21 : decode cJ6_bitCount_0f7a4 21 = .ok (.iand, 1) := by decide +kernel
theorem dJ6_bitCount_0f7a4_22 : decode cJ6_bitCount_0f7a4 22 = .ok (.iadd, 1) := by decide +kernel
theorem dJ6_bitCount_0f7a4_23 : decode cJ6_bitCount_0f7a4 23 = .ok (.istore_n 0, 1) := by decide +kernel
theorem dJ6_bitCount_0f7a4_24 : decode cJ6_bitCount_0f7a4 24 = .ok (.iload_n 0, 1) := by decide +kernel
theorem dJ6_bitCount_0f7a4_25 : decode cJ6_bitCount_0f7a4 25 = .ok (.iload_n 0, 1) := by decide +kernel
theorem dJ6_bitCount_0f7a4_26 : decode cJ6_bitCount_0f7a4 26 = .ok (.iconst 4, 1) := by decide +kernel
theorem dJ6_bitCount_0f7a4_27 : decode cJ6_bitCount_0f7a4 27 = .ok (.iushr, 1) := by decide +kernel
theorem dJ6_bitCount_0f7a4_28 : decode cJ6_bitCount_0f7a4 28 = .ok (.iadd, 1) := by decide +kernel
theorem dJ6_bitCount_0f7a4_29 : decode cJ6_bitCount_0f7a4 29 = .ok (.ldc_w 267, 3) := by decide +kernel
theorem dJ6_bitCount_0f7a4_32 : decode cJ6_bitCount_0f7a4 32 = .ok (.iand, 1) := by decide +kernel
theorem dJ6_bitCount_0f7a4_33 : decode cJ6_bitCount_0f7a4 33 = .ok (.istore_n 0, 1) := by decide +kernel
theorem dJ6_bitCount_0f7a4_34 : decode cJ6_bitCount_0f7a4 34 = .ok (.iload_n 0, 1) := by decide +kernel
theorem dJ6_bitCount_0f7a4_35 : decode cJ6_bitCount_0f7a4 35 = .ok (.iload_n 0, 1) := by decide +kernel
theorem dJ6_bitCount_0f7a4_36 : decode cJ6_bitCount_0f7a4 36 = .ok (.bipush 8, 2) := by decide +kernel
theorem dJ6_bitCount_0f7a4_38 : decode cJ6_bitCount_0f7a4 38 = .ok (.iushr, 1) := by decide +kernel
theorem dJ6_bitCount_0f7a4_39 : decode cJ6_bitCount_0f7a4 39 = .ok (.iadd, 1) := by decide +kernel
theorem dJ6_bitCount_0f7a4_40 : decode cJ6_bitCount_0f7a4 40 = .ok (.istore_n 0, 1) := by decide +kernel
theorem dJ6_bitCount_0f7a4_41 : decode cJ6_bitCount_0f7a4 41 = .ok (.iload_n 0, 1) := by decide +kernel
theorem dJ6_bitCount_0f7a4_42 : decode cJ6_bitCount_0f7a4 42 = .ok (.iload_n 0, 1) := by decide +kernel
theorem dJ6_bitCount_0f7a4_43 : decode cJ6_bitCount_0f7a4 43 = .ok (.bipush 16, 2) := by decide +kernel
theorem dJ6_bitCount_0f7a4_45 : decode cJ6_bitCount_0f7a4 45 = .ok (.iushr, 1) := by decide +kernel
theorem dJ6_bitCount_0f7a4_46 : decode cJ6_bitCount_0f7a4 46 = .ok (.iadd, 1) := by decide +kernel
theorem dJ6_bitCount_0f7a4_47 : decode cJ6_bitCount_0f7a4 47 = .ok (.istore_n 0, 1) := by decide +kernel
theorem dJ6_bitCount_0f7a4_48 : decode cJ6_bitCount_0f7a4 48 = .ok (.iload_n 0, 1) := by decide +kernel
theorem dJ6_bitCount_0f7a4_49 : decode cJ6_bitCount_0f7a4 49 = .ok (.bipush 63, 2) := by decide +kernel
theorem dJ6_bitCount_0f7a4_51 : decode cJ6_bitCount_0f7a4 51 = .ok (.iand, 1) := by decide +kernel
theorem dJ6_bitCount_0f7a4_52 : decode cJ6_bitCount_0f7a4 52 = .ok (.ireturn, 1) := by decide +kernel
theorem dJ9_max_7cf53_0 : decode cJ9_max_7cf53 0 = .ok (.iload_n 0, 1) := by decide +kernel
theorem dJ9_max_7cf53_1 : decode cJ9_max_7cf53 1 = .ok (.iload_n 1, 1) := by decide +kernel
theorem dJ9_max_7cf53_2 : decode cJ9_max_7cf53 2 = .ok (.if_icmp .lt 7, 3) := by decide +kernel
theorem dJ9_max_7cf53_5 : decode cJ9_max_7cf53 5 = .ok (.iload_n 0, 1) := by decide +kernel
theorem dJ9_max_7cf53_6 : decode cJ9_max_7cf53 6 = .ok (.goto 4, 3) := by decide +kernel
theorem dJ9_max_7cf53_9 : decode cJ9_max_7cf53 9 = .ok (.iload_n 1, 1) := by decide +kernel
theorem dJ9_max_7cf53_10 : decode cJ9_max_7cf53 10 = .ok (.ireturn, 1) := by decide +kernel
theorem dJ9_min_7cf53_0 : decode cJ9_min_7cf53 0 = .ok (.iload_n 0, 1) := by decide +kernel
theorem dJ9_min_7cf53_1 : decode cJ9_min_7cf53 1 = .ok (.iload_n 1, 1) := by decide +kernel
theorem dJ9_min_7cf53_2 : decode cJ9_min_7cf53 2 = .ok (.if_icmp .gt 7, 3) := by decide +kernel
theorem dJ9_min_7cf53_5 : decode cJ9_min_7cf53 5 = .ok (.iload_n 0, 1) := by decide +kernel
theorem dJ9_min_7cf53_6 : decode cJ9_min_7cf53 6 = .ok (.goto 4, 3) := by decide +kernel
theorem dJ9_min_7cf53_9 : decode cJ9_min_7cf53 9 = .ok (.iload_n 1, 1) := by decide +kernel
theorem dJ9_min_7cf53_10 : decode cJ9_min_7cf53 10 = .ok (.ireturn, 1) := by decide +kernel
end
section
theorem dX10_init_0 : decode cX10_init 0 = .ok (.aload_n 0, 1) := by decide +kernel
theorem dX10_init_1 : decode cX10_init 1 = .ok (.invokespecial 1, 3) := by decide +kernel
theorem dX10_init_4 : decode cX10_init 4 = .ok (.aload_n 0, 1) := by decide +kernel
theorem dX10_init_5 : decode cX10_init 5 = .ok (.new 7, 3) := by decide +kernel
theorem dX10_init_8 : decode cX10_init 8 = .ok (.dup, 1) := by decide +kernel
theorem dX10_init_9 : decode cX10_init 9 = .ok (.invokespecial 9, 3) := by decide +kernel
theorem dX10_init_12 : decode cX10_init 12 = .ok (.putfield 10, 3) := by decide +kernel
theorem dX10_init_15 : decode cX10_init 15 = .ok (.aload_n 0, 1) := by decide +kernel
theorem dX10_init_16 : decode cX10_init 16 = .ok (.new 16, 3) := by decide +kernel
theorem dX10_init_19 : decode cX10_init 19 = .ok (.dup, 1) := by decide +kernel
theorem dX10_init_20 : decode cX10_init 20 = .ok (.bipush 56, 2) := by decide +kernel
theorem dX10_init_22 : decode cX10_init 22 = .ok (.invokespecial 18, 3) := by decide +kernel
theorem dX10_init_25 : decode cX10_init 25 = .ok (.putfield 21, 3) := by decide +kernel
theorem dX10_init_28 : decode cX10_init 28 = .ok (.aload_n 0, 1) := by decide +kernel
theorem dX10_init_29 : decode cX10_init 29 = .ok (.new 16, 3) := by decide +kernel
theorem dX10_init_32 : decode cX10_init 32 = .ok (.dup, 1) := by decide +kernel
theorem dX10_init_33 : decode cX10_init 33 = .ok (.bipush 56, 2) := by decide +kernel
theorem dX10_init_35 : decode cX10_init 35 = .ok (.invokespecial 18, 3) := by decide +kernel
theorem dX10_init_38 : decode cX10_init 38 = .ok (.putfield 25, 3) := by decide +kernel
theorem dX10_init_41 : decode cX10_init 41 = .ok (.aload_n 0, 1) := by decide +kernel
theorem dX10_init_42 : decode cX10_init 42 = .ok (.new 16, 3) := by decide +kernel
theorem dX10_init_45 : decode cX10_init 45 = .ok (.dup, 1) := by decide +kernel
theorem dX10_init_46 : decode cX10_init 46 = .ok (.bipush 56, 2) := by decide +kernel
theorem dX10_init_48 : decode cX10_init 48 = .ok (.invokespecial 18, 3) := by decide +kernel
theorem dX10_init_51 : decode cX10_init 51 = .ok (.putfield 28, 3) := by decide +kernel
theorem dX10_init_54 : decode cX10_init 54 = .ok (.aload_n 0, 1) := by decide +kernel
theorem dX10_init_55 : decode cX10_init 55 = .ok (.new 31, 3) := by decide +kernel
theorem dX10_init_58 : decode cX10_init 58 = .ok (.dup, 1) := by decide +kernel
theorem dX10_init_59 : decode cX10_init 59 = .ok (.invokespecial 33, 3) := by decide +kernel
theorem dX10_init_62 : decode cX10_init 62 = .ok (.putfield 34, 3) := by decide +kernel
theorem dX10_init_65 : decode cX10_init 65 = .ok (.aload_n 0, 1) := by decide +kernel
theorem dX10_init_66 : decode cX10_init 66 = .ok (.new 38, 3) := by decide +kernel
theorem dX10_init_69 : decode cX10_init 69 = .ok (.dup, 1) := by decide +kernel
theorem dX10_init_70 : decode cX10_init 70 = .ok (.invokespecial 40, 3) := by decide +kernel
theorem dX10_init_73 : decode cX10_init 73 = .ok (.putfield 41, 3) := by decide +kernel
theorem dX10_init_76 : decode cX10_init 76 = .ok (.aload_n 0, 1) := by decide +kernel
theorem dX10_init_77 : decode cX10_init 77 = .ok (.new 45, 3) := by decide +kernel
theorem dX10_init_80 : decode cX10_init 80 = .ok (.dup, 1) := by decide +kernel
theorem dX10_init_81 : decode cX10_init 81 = .ok (.invokespecial 47, 3) := by decide +kernel
theorem dX10_init_84 : decode cX10_init 84 = .ok (.putfield 48, 3) := by decide +kernel
theorem dX10_init_87 : decode cX10_init 87 = .ok (.aload_n 0, 1) := by decide +kernel
theorem dX10_init_88 : decode cX10_init 88 = .ok (.new 52, 3) := by decide +kernel
theorem dX10_init_91 : decode cX10_init 91 = .ok (.dup, 1) := by decide +kernel
theorem dX10_init_92 : decode cX10_init 92 = .ok (.invokespecial 54, 3) := by decide +kernel
theorem dX10_init_95 : decode cX10_init 95 = .ok (.putfield 55, 3) := by decide +kernel
theorem dX10_init_98 : decode cX10_init 98 = .ok (.aload_n 0, 1) := by decide +kernel
theorem dX10_init_99 : decode cX10_init 99 = .ok (.new 59, 3) := by decide +kernel
theorem dX10_init_102 : decode cX10_init 102 = .ok (.dup, 1) := by decide +kernel
theorem dX10_init_103 : decode cX10_init 103 = .ok (.invokespecial 61, 3) := by decide +kernel
theorem dX10_init_106 : decode cX10_init 106 = .ok (.putfield 62, 3) := by decide +kernel
theorem dX10_init_109 : decode cX10_init 109 = .ok (.aload_n 0, 1) := by decide +kernel
theorem dX10_init_110 : decode cX10_init 110 = .ok (.iconst 0, 1) := by decide +kernel
theorem dX10_init_111 : decode cX10_init 111 = .ok (.putfield 66, 3) := by decide +kernel
theorem dX10_init_114 : decode cX10_init 114 = .ok (.aload_n 0, 1) := by decide +kernel
theorem dX10_init_115 : decode cX10_init 115 = .ok (.iconst 0, 1) := by decide +kernel
theorem dX10_init_116 : decode cX10_init 116 = .ok (.putfield 70, 3) := by decide +kernel
theorem dX10_init_119 : decode cX10_init 119 = .ok (.aload_n 0, 1) := by decide +kernel
theorem dX10_init_120 : decode cX10_init 120 = .ok (.iconst 0, 1) := by decide +kernel
theorem dX10_init_121 : decode cX10_init 121 = .ok (.putfield 73, 3) := by decide +kernel
theorem dX10_init_124 : decode cX10_init 124 = .ok (.aload_n 0, 1) := by decide +kernel
theorem dX10_init_125 : decode cX10_init 125 = .ok (.iconst 0, 1) := by decide +kernel
theorem dX10_init_126 : decode cX10_init 126 = .ok (.putfield 77, 3) := by decide +kernel
theorem dX10_init_129 : decode cX10_init 129 = .ok (.aload_n 0, 1) := by decide +kernel
theorem dX10_init_130 : decode cX10_init 130 = .ok (.iconst 0, 1) := by decide +kernel
theorem dX10_init_131 : decode cX10_init 131 = .ok (.putfield 80, 3) := by decide +kernel
theorem dX10_init_134 : decode cX10_init 134 = .ok (.return_, 1) := by decide +kernel
theorem dX10_letter_0 : decode cX10_letter 0 = .ok (.iload_n 1, 1) := by decide +kernel
theorem dX10_letter_1 : decode cX10_letter 1 = .ok (.bipush 32, 2) := by decide +kernel
theorem dX10_letter_3 : decode cX10_letter 3 = .ok (.if_icmp .lt 9, 3) := by decide +kernel
theorem dX10_letter_6 : decode cX10_letter 6 = .ok (.iload_n 1, 1) := by decide +kernel
theorem dX10_letter_7 : decode cX10_letter 7 = .ok (.bipush 126, 2) := by decide +kernel
theorem dX10_letter_9 : decode cX10_letter 9 = .ok (.if_icmp .le 6, 3) := by decide +kernel
theorem dX10_letter_12 : decode cX10_letter 12 = .ok (.bipush (-102), 2) := by decide +kernel
theorem dX10_letter_14 : decode cX10_letter 14 = .ok (.ireturn, 1) := by decide +kernel
theorem dX10_letter_15 : decode cX10_letter 15 = .ok (.aload_n 0, 1) := by decide +kernel
theorem dX10_letter_16 : decode cX10_letter 16 = .ok (.getfield 21, 3) := by decide +kernel
theorem dX10_letter_19 : decode cX10_letter 19 = .ok (.invokevirtual 83, 3) := by decide +kernel
theorem dX10_letter_22 : decode cX10_letter 22 = .ok (.bipush 56, 2) := by decide +kernel
theorem dX10_letter_24 : decode cX10_letter 24 = .ok (.if_icmp .lt 6, 3) := by decide +kernel
theorem dX10_letter_27 : decode cX10_letter 27 = .ok (.bipush (-104), 2) := by decide +kernel
theorem dX10_letter_29 : decode cX10_letter 29 = .ok (.ireturn, 1) := by decide +kernel
theorem dX10_letter_30 : decode cX10_letter 30 = .ok (.aload_n 0, 1) := by decide +kernel
theorem dX10_letter_31 : decode cX10_letter 31 = .ok (.getfield 21, 3) := by decide +kernel
theorem dX10_letter_34 : decode cX10_letter 34 = .ok (.iload_n 1, 1) := by decide +kernel
theorem dX10_letter_35 : decode cX10_letter 35 = .ok (.invokevirtual 87, 3) := by decide +kernel
theorem dX10_letter_38 : decode cX10_letter 38 = .ok (.aload_n 0, 1) := by decide +kernel
theorem dX10_letter_39 : decode cX10_letter 39 = .ok (.getfield 21, 3) := by decide +kernel
theorem dX10_letter_42 : decode cX10_letter 42 = .ok (.invokevirtual 83, 3) := by decide +kernel
theorem dX10_letter_45 : decode cX10_letter 45 = .ok (.ireturn, 1) := by decide +kernel
theorem dX10_blank_0 : decode cX10_blank 0 = .ok (.aload_n 0, 1) := by decide +kernel
theorem dX10_blank_1 : decode cX10_blank 1 = .ok (.getfield 21, 3) := by decide +kernel
theorem dX10_blank_4 : decode cX10_blank 4 = .ok (.invokevirtual 83, 3) := by decide +kernel
theorem dX10_blank_7 : decode cX10_blank 7 = .ok (.istore_n 1, 1) := by decide +kernel
theorem dX10_blank_8 : decode cX10_blank 8 = .ok (.aload_n 0, 1) := by decide +kernel
theorem dX10_blank_9 : decode cX10_blank 9 = .ok (.getfield 21, 3) := by decide +kernel
theorem dX10_blank_12 : decode cX10_blank 12 = .ok (.invokevirtual 90, 3) := by decide +kernel
theorem dX10_blank_15 : decode cX10_blank 15 = .ok (.iload_n 1, 1) := by decide +kernel
theorem dX10_blank_16 : decode cX10_blank 16 = .ok (.ireturn, 1) := by decide +kernel
theorem dX10_fault_0 : decode cX10_fault 0 = .ok (.aload_n 0, 1) := by decide +kernel
theorem dX10_fault_1 : decode cX10_fault 1 = .ok (.getfield 34, 3) := by decide +kernel
theorem dX10_fault_4 : decode cX10_fault 4 = .ok (.aload_n 0, 1) := by decide +kernel
theorem dX10_fault_5 : decode cX10_fault 5 = .ok (.getfield 21, 3) := by decide +kernel
theorem dX10_fault_8 : decode cX10_fault 8 = .ok (.invokevirtual 93, 3) := by decide +kernel
theorem dX10_fault_11 : decode cX10_fault 11 = .ok (.ireturn, 1) := by decide +kernel
theorem dX10_table_0 : decode cX10_table 0 = .ok (.aload_n 0, 1) := by decide +kernel
theorem dX10_table_1 : decode cX10_table 1 = .ok (.getfield 34, 3) := by decide +kernel
theorem dX10_table_4 : decode cX10_table 4 = .ok (.aload_n 0, 1) := by decide +kernel
theorem dX10_table_5 : decode cX10_table 5 = .ok (.getfield 21, 3) := by decide +kernel
theorem dX10_table_8 : decode cX10_table 8 = .ok (.invokevirtual 97, 3) := by decide +kernel
theorem dX10_table_11 : decode cX10_table 11 = .ok (.ifCond .ne 6, 3) := by decide +kernel
theorem dX10_table_14 : decode cX10_table 14 = .ok (.bipush (-103), 2) := by decide +kernel
theorem dX10_table_16 : decode cX10_table 16 = .ok (.ireturn, 1) := by decide +kernel
theorem dX10_table_17 : decode cX10_table 17 = .ok (.aload_n 0, 1) := by decide +kernel
theorem dX10_table_18 : decode cX10_table 18 = .ok (.getfield 10, 3) := by decide +kernel
theorem dX10_table_21 : decode cX10_table 21 = .ok (.aload_n 0, 1) := by decide +kernel
theorem dX10_table_22 : decode cX10_table 22 = .ok (.getfield 34, 3) := by decide +kernel
theorem dX10_table_25 : decode cX10_table 25 = .ok (.getfield 101, 3) := by decide +kernel
theorem dX10_table_28 : decode cX10_table 28 = .ok (.aload_n 0, 1) := by decide +kernel
theorem dX10_table_29 : decode cX10_table 29 = .ok (.getfield 34, 3) := by decide +kernel
theorem dX10_table_32 : decode cX10_table 32 = .ok (.getfield 104, 3) := by decide +kernel
theorem dX10_table_35 : decode cX10_table 35 = .ok (.invokevirtual 107, 3) := by decide +kernel
theorem dX10_table_38 : decode cX10_table 38 = .ok (.aload_n 0, 1) := by decide +kernel
theorem dX10_table_39 : decode cX10_table 39 = .ok (.invokevirtual 111, 3) := by decide +kernel
theorem dX10_table_42 : decode cX10_table 42 = .ok (.aload_n 0, 1) := by decide +kernel
theorem dX10_table_43 : decode cX10_table 43 = .ok (.getfield 25, 3) := by decide +kernel
theorem dX10_table_46 : decode cX10_table 46 = .ok (.invokevirtual 90, 3) := by decide +kernel
theorem dX10_table_49 : decode cX10_table 49 = .ok (.aload_n 0, 1) := by decide +kernel
theorem dX10_table_50 : decode cX10_table 50 = .ok (.getfield 21, 3) := by decide +kernel
theorem dX10_table_53 : decode cX10_table 53 = .ok (.invokevirtual 90, 3) := by decide +kernel
theorem dX10_table_56 : decode cX10_table 56 = .ok (.aload_n 0, 1) := by decide +kernel
theorem dX10_table_57 : decode cX10_table 57 = .ok (.dup, 1) := by decide +kernel
theorem dX10_table_58 : decode cX10_table 58 = .ok (.getfield 73, 3) := by decide +kernel
theorem dX10_table_61 : decode cX10_table 61 = .ok (.iconst 1, 1) := by decide +kernel
theorem dX10_table_62 : decode cX10_table 62 = .ok (.iadd, 1) := by decide +kernel
theorem dX10_table_63 : decode cX10_table 63 = .ok (.putfield 73, 3) := by decide +kernel
theorem dX10_table_66 : decode cX10_table 66 = .ok (.aload_n 0, 1) := by decide +kernel
theorem dX10_table_67 : decode cX10_table 67 = .ok (.getfield 10, 3) := by decide +kernel
theorem dX10_table_70 : decode cX10_table 70 = .ok (.invokevirtual 114, 3) := by decide +kernel
theorem dX10_table_73 : decode cX10_table 73 = .ok (.ireturn, 1) := by decide +kernel
theorem dX10_turn_0 : decode cX10_turn 0 = .ok (.aload_n 0, 1) := by decide +kernel
theorem dX10_turn_1 : decode cX10_turn 1 = .ok (.getfield 21, 3) := by decide +kernel
theorem dX10_turn_4 : decode cX10_turn 4 = .ok (.invokevirtual 83, 3) := by decide +kernel
theorem dX10_turn_7 : decode cX10_turn 7 = .ok (.bipush 12, 2) := by decide +kernel
theorem dX10_turn_9 : decode cX10_turn 9 = .ok (.if_icmp .gt 13, 3) := by decide +kernel
theorem dX10_turn_12 : decode cX10_turn 12 = .ok (.aload_n 0, 1) := by decide +kernel
theorem dX10_turn_13 : decode cX10_turn 13 = .ok (.getfield 21, 3) := by decide +kernel
theorem dX10_turn_16 : decode cX10_turn 16 = .ok (.invokestatic 115, 3) := by decide +kernel
theorem dX10_turn_19 : decode cX10_turn 19 = .ok (.ifCond .ne 6, 3) := by decide +kernel
theorem dX10_turn_22 : decode cX10_turn 22 = .ok (.bipush (-103), 2) := by decide +kernel
theorem dX10_turn_24 : decode cX10_turn 24 = .ok (.ireturn, 1) := by decide +kernel
theorem dX10_turn_25 : decode cX10_turn 25 = .ok (.aload_n 0, 1) := by decide +kernel
theorem dX10_turn_26 : decode cX10_turn 26 = .ok (.getfield 10, 3) := by decide +kernel
theorem dX10_turn_29 : decode cX10_turn 29 = .ok (.getfield 118, 3) := by decide +kernel
theorem dX10_turn_32 : decode cX10_turn 32 = .ok (.aload_n 0, 1) := by decide +kernel
theorem dX10_turn_33 : decode cX10_turn 33 = .ok (.getfield 21, 3) := by decide +kernel
theorem dX10_turn_36 : decode cX10_turn 36 = .ok (.aload_n 0, 1) := by decide +kernel
theorem dX10_turn_37 : decode cX10_turn 37 = .ok (.getfield 28, 3) := by decide +kernel
theorem dX10_turn_40 : decode cX10_turn 40 = .ok (.invokestatic 119, 3) := by decide +kernel
theorem dX10_turn_43 : decode cX10_turn 43 = .ok (.istore_n 1, 1) := by decide +kernel
theorem dX10_turn_44 : decode cX10_turn 44 = .ok (.iload_n 1, 1) := by decide +kernel
theorem dX10_turn_45 : decode cX10_turn 45 = .ok (.aload_n 0, 1) := by decide +kernel
theorem dX10_turn_46 : decode cX10_turn 46 = .ok (.getfield 21, 3) := by decide +kernel
theorem dX10_turn_49 : decode cX10_turn 49 = .ok (.invokevirtual 83, 3) := by decide +kernel
theorem dX10_turn_52 : decode cX10_turn 52 = .ok (.if_icmp .ge 9, 3) := by decide +kernel
theorem dX10_turn_55 : decode cX10_turn 55 = .ok (.sipush (-1000), 3) := by decide +kernel
theorem dX10_turn_58 : decode cX10_turn 58 = .ok (.iload_n 1, 1) := by decide +kernel
theorem dX10_turn_59 : decode cX10_turn 59 = .ok (.isub, 1) := by decide +kernel
theorem dX10_turn_60 : decode cX10_turn 60 = .ok (.ireturn, 1) := by decide +kernel
theorem dX10_turn_61 : decode cX10_turn 61 = .ok (.aload_n 0, 1) := by decide +kernel
theorem dX10_turn_62 : decode cX10_turn 62 = .ok (.getfield 10, 3) := by decide +kernel
theorem dX10_turn_65 : decode cX10_turn 65 = .ok (.aload_n 0, 1) := by decide +kernel
theorem dX10_turn_66 : decode cX10_turn 66 = .ok (.getfield 28, 3) := by decide +kernel
theorem dX10_turn_69 : decode cX10_turn 69 = .ok (.aload_n 0, 1) := by decide +kernel
theorem dX10_turn_70 : decode cX10_turn 70 = .ok (.getfield 25, 3) := by decide +kernel
theorem dX10_turn_73 : decode cX10_turn 73 = .ok (.invokevirtual 125, 3) := by decide +kernel
theorem dX10_turn_76 : decode cX10_turn 76 = .ok (.aload_n 0, 1) := by decide +kernel
theorem dX10_turn_77 : decode cX10_turn 77 = .ok (.getfield 21, 3) := by decide +kernel
theorem dX10_turn_80 : decode cX10_turn 80 = .ok (.invokevirtual 90, 3) := by decide +kernel
theorem dX10_turn_83 : decode cX10_turn 83 = .ok (.aload_n 0, 1) := by decide +kernel
theorem dX10_turn_84 : decode cX10_turn 84 = .ok (.dup, 1) := by decide +kernel
theorem dX10_turn_85 : decode cX10_turn 85 = .ok (.getfield 77, 3) := by decide +kernel
theorem dX10_turn_88 : decode cX10_turn 88 = .ok (.iconst 1, 1) := by decide +kernel
theorem dX10_turn_89 : decode cX10_turn 89 = .ok (.iadd, 1) := by decide +kernel
theorem dX10_turn_90 : decode cX10_turn 90 = .ok (.putfield 77, 3) := by decide +kernel
theorem dX10_turn_93 : decode cX10_turn 93 = .ok (.aload_n 0, 1) := by decide +kernel
theorem dX10_turn_94 : decode cX10_turn 94 = .ok (.getfield 28, 3) := by decide +kernel
theorem dX10_turn_97 : decode cX10_turn 97 = .ok (.invokevirtual 83, 3) := by decide +kernel
theorem dX10_turn_100 : decode cX10_turn 100 = .ok (.ireturn, 1) := by decide +kernel
theorem dX10_text_0 : decode cX10_text 0 = .ok (.aload_n 0, 1) := by decide +kernel
theorem dX10_text_1 : decode cX10_text 1 = .ok (.getfield 21, 3) := by decide +kernel
theorem dX10_text_4 : decode cX10_text 4 = .ok (.invokestatic 128, 3) := by decide +kernel
theorem dX10_text_7 : decode cX10_text 7 = .ok (.ifCond .ne 6, 3) := by decide +kernel
theorem dX10_text_10 : decode cX10_text 10 = .ok (.bipush (-103), 2) := by decide +kernel
theorem dX10_text_12 : decode cX10_text 12 = .ok (.ireturn, 1) := by decide +kernel
theorem dX10_text_13 : decode cX10_text 13 = .ok (.aload_n 0, 1) := by decide +kernel
theorem dX10_text_14 : decode cX10_text 14 = .ok (.getfield 25, 3) := by decide +kernel
theorem dX10_text_17 : decode cX10_text 17 = .ok (.aload_n 0, 1) := by decide +kernel
theorem dX10_text_18 : decode cX10_text 18 = .ok (.getfield 21, 3) := by decide +kernel
theorem dX10_text_21 : decode cX10_text 21 = .ok (.invokevirtual 131, 3) := by decide +kernel
theorem dX10_text_24 : decode cX10_text 24 = .ok (.aload_n 0, 1) := by decide +kernel
theorem dX10_text_25 : decode cX10_text 25 = .ok (.getfield 21, 3) := by decide +kernel
theorem dX10_text_28 : decode cX10_text 28 = .ok (.invokevirtual 90, 3) := by decide +kernel
theorem dX10_text_31 : decode cX10_text 31 = .ok (.aload_n 0, 1) := by decide +kernel
theorem dX10_text_32 : decode cX10_text 32 = .ok (.dup, 1) := by decide +kernel
theorem dX10_text_33 : decode cX10_text 33 = .ok (.getfield 80, 3) := by decide +kernel
theorem dX10_text_36 : decode cX10_text 36 = .ok (.iconst 1, 1) := by decide +kernel
theorem dX10_text_37 : decode cX10_text 37 = .ok (.iadd, 1) := by decide +kernel
theorem dX10_text_38 : decode cX10_text 38 = .ok (.putfield 80, 3) := by decide +kernel
theorem dX10_text_41 : decode cX10_text 41 = .ok (.aload_n 0, 1) := by decide +kernel
theorem dX10_text_42 : decode cX10_text 42 = .ok (.getfield 25, 3) := by decide +kernel
theorem dX10_text_45 : decode cX10_text 45 = .ok (.invokevirtual 83, 3) := by decide +kernel
theorem dX10_text_48 : decode cX10_text 48 = .ok (.ireturn, 1) := by decide +kernel
theorem dX10_mark_0 : decode cX10_mark 0 = .ok (.aload_n 0, 1) := by decide +kernel
theorem dX10_mark_1 : decode cX10_mark 1 = .ok (.getfield 10, 3) := by decide +kernel
theorem dX10_mark_4 : decode cX10_mark 4 = .ok (.iload_n 1, 1) := by decide +kernel
theorem dX10_mark_5 : decode cX10_mark 5 = .ok (.invokevirtual 135, 3) := by decide +kernel
theorem dX10_mark_8 : decode cX10_mark 8 = .ok (.ifCond .ne 6, 3) := by decide +kernel
theorem dX10_mark_11 : decode cX10_mark 11 = .ok (.bipush (-101), 2) := by decide +kernel
theorem dX10_mark_13 : decode cX10_mark 13 = .ok (.ireturn, 1) := by decide +kernel
theorem dX10_mark_14 : decode cX10_mark 14 = .ok (.aload_n 0, 1) := by decide +kernel
theorem dX10_mark_15 : decode cX10_mark 15 = .ok (.getfield 10, 3) := by decide +kernel
theorem dX10_mark_18 : decode cX10_mark 18 = .ok (.iload_n 1, 1) := by decide +kernel
theorem dX10_mark_19 : decode cX10_mark 19 = .ok (.invokevirtual 139, 3) := by decide +kernel
theorem dX10_mark_22 : decode cX10_mark 22 = .ok (.aload_n 0, 1) := by decide +kernel
theorem dX10_mark_23 : decode cX10_mark 23 = .ok (.iconst 0, 1) := by decide +kernel
theorem dX10_mark_24 : decode cX10_mark 24 = .ok (.putfield 66, 3) := by decide +kernel
theorem dX10_mark_27 : decode cX10_mark 27 = .ok (.aload_n 0, 1) := by decide +kernel
theorem dX10_mark_28 : decode cX10_mark 28 = .ok (.getfield 10, 3) := by decide +kernel
theorem dX10_mark_31 : decode cX10_mark 31 = .ok (.iload_n 1, 1) := by decide +kernel
theorem dX10_mark_32 : decode cX10_mark 32 = .ok (.invokevirtual 142, 3) := by decide +kernel
theorem dX10_mark_35 : decode cX10_mark 35 = .ok (.ifCond .eq 7, 3) := by decide +kernel
theorem dX10_mark_38 : decode cX10_mark 38 = .ok (.iconst 1, 1) := by decide +kernel
theorem dX10_mark_39 : decode cX10_mark 39 = .ok (.goto 4, 3) := by decide +kernel
theorem dX10_mark_42 : decode cX10_mark 42 = .ok (.iconst 0, 1) := by decide +kernel
theorem dX10_mark_43 : decode cX10_mark 43 = .ok (.ireturn, 1) := by decide +kernel
theorem dX10_drop_0 : decode cX10_drop 0 = .ok (.aload_n 0, 1) := by decide +kernel
theorem dX10_drop_1 : decode cX10_drop 1 = .ok (.getfield 10, 3) := by decide +kernel
theorem dX10_drop_4 : decode cX10_drop 4 = .ok (.iload_n 1, 1) := by decide +kernel
theorem dX10_drop_5 : decode cX10_drop 5 = .ok (.invokevirtual 135, 3) := by decide +kernel
theorem dX10_drop_8 : decode cX10_drop 8 = .ok (.ifCond .ne 6, 3) := by decide +kernel
theorem dX10_drop_11 : decode cX10_drop 11 = .ok (.bipush (-101), 2) := by decide +kernel
theorem dX10_drop_13 : decode cX10_drop 13 = .ok (.ireturn, 1) := by decide +kernel
theorem dX10_drop_14 : decode cX10_drop 14 = .ok (.aload_n 0, 1) := by decide +kernel
theorem dX10_drop_15 : decode cX10_drop 15 = .ok (.getfield 10, 3) := by decide +kernel
theorem dX10_drop_18 : decode cX10_drop 18 = .ok (.iload_n 1, 1) := by decide +kernel
theorem dX10_drop_19 : decode cX10_drop 19 = .ok (.invokevirtual 145, 3) := by decide +kernel
theorem dX10_drop_22 : decode cX10_drop 22 = .ok (.aload_n 0, 1) := by decide +kernel
theorem dX10_drop_23 : decode cX10_drop 23 = .ok (.invokevirtual 111, 3) := by decide +kernel
theorem dX10_drop_26 : decode cX10_drop 26 = .ok (.aload_n 0, 1) := by decide +kernel
theorem dX10_drop_27 : decode cX10_drop 27 = .ok (.getfield 10, 3) := by decide +kernel
theorem dX10_drop_30 : decode cX10_drop 30 = .ok (.invokevirtual 114, 3) := by decide +kernel
theorem dX10_drop_33 : decode cX10_drop 33 = .ok (.ireturn, 1) := by decide +kernel
theorem dX10_rule_0 : decode cX10_rule 0 = .ok (.aload_n 0, 1) := by decide +kernel
theorem dX10_rule_1 : decode cX10_rule 1 = .ok (.getfield 10, 3) := by decide +kernel
theorem dX10_rule_4 : decode cX10_rule 4 = .ok (.iload_n 1, 1) := by decide +kernel
theorem dX10_rule_5 : decode cX10_rule 5 = .ok (.invokevirtual 135, 3) := by decide +kernel
theorem dX10_rule_8 : decode cX10_rule 8 = .ok (.ifCond .ne 6, 3) := by decide +kernel
theorem dX10_rule_11 : decode cX10_rule 11 = .ok (.bipush (-101), 2) := by decide +kernel
theorem dX10_rule_13 : decode cX10_rule 13 = .ok (.ireturn, 1) := by decide +kernel
theorem dX10_rule_14 : decode cX10_rule 14 = .ok (.iload_n 2, 1) := by decide +kernel
theorem dX10_rule_15 : decode cX10_rule 15 = .ok (.tableswitch 104 0 4 #[33, 48, 63, 80, 92], 33) := by decide +kernel
theorem dX10_rule_48 : decode cX10_rule 48 = .ok (.aload_n 0, 1) := by decide +kernel
theorem dX10_rule_49 : decode cX10_rule 49 = .ok (.getfield 10, 3) := by decide +kernel
theorem dX10_rule_52 : decode cX10_rule 52 = .ok (.getfield 118, 3) := by decide +kernel
theorem dX10_rule_55 : decode cX10_rule 55 = .ok (.iload_n 1, 1) := by decide +kernel
theorem dX10_rule_56 : decode cX10_rule 56 = .ok (.invokevirtual 148, 3) := by decide +kernel
theorem dX10_rule_59 : decode cX10_rule 59 = .ok (.invokestatic 152, 3) := by decide +kernel
theorem dX10_rule_62 : decode cX10_rule 62 = .ok (.ireturn, 1) := by decide +kernel
theorem dX10_rule_63 : decode cX10_rule 63 = .ok (.aload_n 0, 1) := by decide +kernel
theorem dX10_rule_64 : decode cX10_rule 64 = .ok (.getfield 10, 3) := by decide +kernel
theorem dX10_rule_67 : decode cX10_rule 67 = .ok (.getfield 156, 3) := by decide +kernel
theorem dX10_rule_70 : decode cX10_rule 70 = .ok (.iload_n 1, 1) := by decide +kernel
theorem dX10_rule_71 : decode cX10_rule 71 = .ok (.invokevirtual 148, 3) := by decide +kernel
theorem dX10_rule_74 : decode cX10_rule 74 = .ok (.invokestatic 152, 3) := by decide +kernel
theorem dX10_rule_77 : decode cX10_rule 77 = .ok (.ireturn, 1) := by decide +kernel
theorem dX10_rule_78 : decode cX10_rule 78 = .ok (.aload_n 0, 1) := by decide +kernel
theorem dX10_rule_79 : decode cX10_rule 79 = .ok (.getfield 10, 3) := by decide +kernel
theorem dX10_rule_82 : decode cX10_rule 82 = .ok (.iload_n 1, 1) := by decide +kernel
theorem dX10_rule_83 : decode cX10_rule 83 = .ok (.invokevirtual 142, 3) := by decide +kernel
theorem dX10_rule_86 : decode cX10_rule 86 = .ok (.ifCond .eq 7, 3) := by decide +kernel
theorem dX10_rule_89 : decode cX10_rule 89 = .ok (.iconst 1, 1) := by decide +kernel
theorem dX10_rule_90 : decode cX10_rule 90 = .ok (.goto 4, 3) := by decide +kernel
theorem dX10_rule_93 : decode cX10_rule 93 = .ok (.iconst 0, 1) := by decide +kernel
theorem dX10_rule_94 : decode cX10_rule 94 = .ok (.ireturn, 1) := by decide +kernel
theorem dX10_rule_95 : decode cX10_rule 95 = .ok (.aload_n 0, 1) := by decide +kernel
theorem dX10_rule_96 : decode cX10_rule 96 = .ok (.getfield 10, 3) := by decide +kernel
theorem dX10_rule_99 : decode cX10_rule 99 = .ok (.getfield 157, 3) := by decide +kernel
theorem dX10_rule_102 : decode cX10_rule 102 = .ok (.iload_n 1, 1) := by decide +kernel
theorem dX10_rule_103 : decode cX10_rule 103 = .ok (.invokestatic 160, 3) := by decide +kernel
theorem dX10_rule_106 : decode cX10_rule 106 = .ok (.ireturn, 1) := by decide +kernel
theorem dX10_rule_107 : decode cX10_rule 107 = .ok (.aload_n 0, 1) := by decide +kernel
theorem dX10_rule_108 : decode cX10_rule 108 = .ok (.getfield 10, 3) := by decide +kernel
theorem dX10_rule_111 : decode cX10_rule 111 = .ok (.getfield 118, 3) := by decide +kernel
theorem dX10_rule_114 : decode cX10_rule 114 = .ok (.iload_n 1, 1) := by decide +kernel
theorem dX10_rule_115 : decode cX10_rule 115 = .ok (.invokestatic 160, 3) := by decide +kernel
theorem dX10_rule_118 : decode cX10_rule 118 = .ok (.ireturn, 1) := by decide +kernel
theorem dX10_rule_119 : decode cX10_rule 119 = .ok (.bipush (-102), 2) := by decide +kernel
theorem dX10_rule_121 : decode cX10_rule 121 = .ok (.ireturn, 1) := by decide +kernel
theorem dX10_sign_0 : decode cX10_sign 0 = .ok (.aload_n 0, 1) := by decide +kernel
theorem dX10_sign_1 : decode cX10_sign 1 = .ok (.getfield 10, 3) := by decide +kernel
theorem dX10_sign_4 : decode cX10_sign 4 = .ok (.iload_n 1, 1) := by decide +kernel
theorem dX10_sign_5 : decode cX10_sign 5 = .ok (.invokevirtual 135, 3) := by decide +kernel
theorem dX10_sign_8 : decode cX10_sign 8 = .ok (.ifCond .ne 6, 3) := by decide +kernel
theorem dX10_sign_11 : decode cX10_sign 11 = .ok (.bipush (-101), 2) := by decide +kernel
theorem dX10_sign_13 : decode cX10_sign 13 = .ok (.ireturn, 1) := by decide +kernel
theorem dX10_sign_14 : decode cX10_sign 14 = .ok (.iload_n 2, 1) := by decide +kernel
theorem dX10_sign_15 : decode cX10_sign 15 = .ok (.ifCond .lt 8, 3) := by decide +kernel
theorem dX10_sign_18 : decode cX10_sign 18 = .ok (.iload_n 2, 1) := by decide +kernel
theorem dX10_sign_19 : decode cX10_sign 19 = .ok (.iconst 1, 1) := by decide +kernel
theorem dX10_sign_20 : decode cX10_sign 20 = .ok (.if_icmp .le 6, 3) := by decide +kernel
theorem dX10_sign_23 : decode cX10_sign 23 = .ok (.bipush (-102), 2) := by decide +kernel
theorem dX10_sign_25 : decode cX10_sign 25 = .ok (.ireturn, 1) := by decide +kernel
theorem dX10_sign_26 : decode cX10_sign 26 = .ok (.iload_n 2, 1) := by decide +kernel
theorem dX10_sign_27 : decode cX10_sign 27 = .ok (.ifCond .ne 17, 3) := by decide +kernel
theorem dX10_sign_30 : decode cX10_sign 30 = .ok (.aload_n 0, 1) := by decide +kernel
theorem dX10_sign_31 : decode cX10_sign 31 = .ok (.getfield 10, 3) := by decide +kernel
theorem dX10_sign_34 : decode cX10_sign 34 = .ok (.getfield 118, 3) := by decide +kernel
theorem dX10_sign_37 : decode cX10_sign 37 = .ok (.iload_n 1, 1) := by decide +kernel
theorem dX10_sign_38 : decode cX10_sign 38 = .ok (.invokevirtual 148, 3) := by decide +kernel
theorem dX10_sign_41 : decode cX10_sign 41 = .ok (.goto 14, 3) := by decide +kernel
theorem dX10_sign_44 : decode cX10_sign 44 = .ok (.aload_n 0, 1) := by decide +kernel
theorem dX10_sign_45 : decode cX10_sign 45 = .ok (.getfield 10, 3) := by decide +kernel
theorem dX10_sign_48 : decode cX10_sign 48 = .ok (.getfield 157, 3) := by decide +kernel
theorem dX10_sign_51 : decode cX10_sign 51 = .ok (.iload_n 1, 1) := by decide +kernel
theorem dX10_sign_52 : decode cX10_sign 52 = .ok (.invokevirtual 148, 3) := by decide +kernel
theorem dX10_sign_55 : decode cX10_sign 55 = .ok (.iload_n 3, 1) := by decide +kernel
theorem dX10_sign_56 : decode cX10_sign 56 = .ok (.invokestatic 164, 3) := by decide +kernel
theorem dX10_sign_59 : decode cX10_sign 59 = .ok (.ireturn, 1) := by decide +kernel
theorem dX10_ink_0 : decode cX10_ink 0 = .ok (.aload_n 0, 1) := by decide +kernel
theorem dX10_ink_1 : decode cX10_ink 1 = .ok (.getfield 25, 3) := by decide +kernel
theorem dX10_ink_4 : decode cX10_ink 4 = .ok (.iload_n 1, 1) := by decide +kernel
theorem dX10_ink_5 : decode cX10_ink 5 = .ok (.invokevirtual 148, 3) := by decide +kernel
theorem dX10_ink_8 : decode cX10_ink 8 = .ok (.ireturn, 1) := by decide +kernel
theorem dX10_back_0 : decode cX10_back 0 = .ok (.iload_n 1, 1) := by decide +kernel
theorem dX10_back_1 : decode cX10_back 1 = .ok (.ifCond .lt 8, 3) := by decide +kernel
theorem dX10_back_4 : decode cX10_back 4 = .ok (.iload_n 1, 1) := by decide +kernel
theorem dX10_back_5 : decode cX10_back 5 = .ok (.iconst 1, 1) := by decide +kernel
theorem dX10_back_6 : decode cX10_back 6 = .ok (.if_icmp .le 6, 3) := by decide +kernel
theorem dX10_back_9 : decode cX10_back 9 = .ok (.bipush (-102), 2) := by decide +kernel
theorem dX10_back_11 : decode cX10_back 11 = .ok (.ireturn, 1) := by decide +kernel
theorem dX10_back_12 : decode cX10_back 12 = .ok (.aload_n 0, 1) := by decide +kernel
theorem dX10_back_13 : decode cX10_back 13 = .ok (.getfield 10, 3) := by decide +kernel
theorem dX10_back_16 : decode cX10_back 16 = .ok (.getfield 157, 3) := by decide +kernel
theorem dX10_back_19 : decode cX10_back 19 = .ok (.aload_n 0, 1) := by decide +kernel
theorem dX10_back_20 : decode cX10_back 20 = .ok (.getfield 25, 3) := by decide +kernel
theorem dX10_back_23 : decode cX10_back 23 = .ok (.aload_n 0, 1) := by decide +kernel
theorem dX10_back_24 : decode cX10_back 24 = .ok (.getfield 28, 3) := by decide +kernel
theorem dX10_back_27 : decode cX10_back 27 = .ok (.invokestatic 119, 3) := by decide +kernel
theorem dX10_back_30 : decode cX10_back 30 = .ok (.istore_n 2, 1) := by decide +kernel
theorem dX10_back_31 : decode cX10_back 31 = .ok (.iload_n 1, 1) := by decide +kernel
theorem dX10_back_32 : decode cX10_back 32 = .ok (.ifCond .ne 11, 3) := by decide +kernel
theorem dX10_back_35 : decode cX10_back 35 = .ok (.aload_n 0, 1) := by decide +kernel
theorem dX10_back_36 : decode cX10_back 36 = .ok (.getfield 28, 3) := by decide +kernel
theorem dX10_back_39 : decode cX10_back 39 = .ok (.invokevirtual 83, 3) := by decide +kernel
theorem dX10_back_42 : decode cX10_back 42 = .ok (.ireturn, 1) := by decide +kernel
theorem dX10_back_43 : decode cX10_back 43 = .ok (.aload_n 0, 1) := by decide +kernel
theorem dX10_back_44 : decode cX10_back 44 = .ok (.iload_n 2, 1) := by decide +kernel
theorem dX10_back_45 : decode cX10_back 45 = .ok (.invokevirtual 168, 3) := by decide +kernel
theorem dX10_back_48 : decode cX10_back 48 = .ok (.ireturn, 1) := by decide +kernel
theorem dX10_backAt_0 : decode cX10_backAt 0 = .ok (.aload_n 0, 1) := by decide +kernel
theorem dX10_backAt_1 : decode cX10_backAt 1 = .ok (.getfield 10, 3) := by decide +kernel
theorem dX10_backAt_4 : decode cX10_backAt 4 = .ok (.getfield 157, 3) := by decide +kernel
theorem dX10_backAt_7 : decode cX10_backAt 7 = .ok (.aload_n 0, 1) := by decide +kernel
theorem dX10_backAt_8 : decode cX10_backAt 8 = .ok (.getfield 25, 3) := by decide +kernel
theorem dX10_backAt_11 : decode cX10_backAt 11 = .ok (.aload_n 0, 1) := by decide +kernel
theorem dX10_backAt_12 : decode cX10_backAt 12 = .ok (.getfield 28, 3) := by decide +kernel
theorem dX10_backAt_15 : decode cX10_backAt 15 = .ok (.invokestatic 119, 3) := by decide +kernel
theorem dX10_backAt_18 : decode cX10_backAt 18 = .ok (.pop, 1) := by decide +kernel
theorem dX10_backAt_19 : decode cX10_backAt 19 = .ok (.aload_n 0, 1) := by decide +kernel
theorem dX10_backAt_20 : decode cX10_backAt 20 = .ok (.getfield 28, 3) := by decide +kernel
theorem dX10_backAt_23 : decode cX10_backAt 23 = .ok (.iload_n 1, 1) := by decide +kernel
theorem dX10_backAt_24 : decode cX10_backAt 24 = .ok (.invokevirtual 148, 3) := by decide +kernel
theorem dX10_backAt_27 : decode cX10_backAt 27 = .ok (.ireturn, 1) := by decide +kernel
theorem dX10_ways_0 : decode cX10_ways 0 = .ok (.aload_n 0, 1) := by decide +kernel
theorem dX10_ways_1 : decode cX10_ways 1 = .ok (.getfield 41, 3) := by decide +kernel
theorem dX10_ways_4 : decode cX10_ways 4 = .ok (.aload_n 0, 1) := by decide +kernel
theorem dX10_ways_5 : decode cX10_ways 5 = .ok (.getfield 10, 3) := by decide +kernel
theorem dX10_ways_8 : decode cX10_ways 8 = .ok (.getfield 157, 3) := by decide +kernel
theorem dX10_ways_11 : decode cX10_ways 11 = .ok (.aload_n 0, 1) := by decide +kernel
theorem dX10_ways_12 : decode cX10_ways 12 = .ok (.getfield 25, 3) := by decide +kernel
theorem dX10_ways_15 : decode cX10_ways 15 = .ok (.invokevirtual 171, 3) := by decide +kernel
theorem dX10_ways_18 : decode cX10_ways 18 = .ok (.aload_n 0, 1) := by decide +kernel
theorem dX10_ways_19 : decode cX10_ways 19 = .ok (.getfield 41, 3) := by decide +kernel
theorem dX10_ways_22 : decode cX10_ways 22 = .ok (.invokevirtual 174, 3) := by decide +kernel
theorem dX10_ways_25 : decode cX10_ways 25 = .ok (.ireturn, 1) := by decide +kernel
theorem dX10_first_0 : decode cX10_first 0 = .ok (.aload_n 0, 1) := by decide +kernel
theorem dX10_first_1 : decode cX10_first 1 = .ok (.getfield 41, 3) := by decide +kernel
theorem dX10_first_4 : decode cX10_first 4 = .ok (.aload_n 0, 1) := by decide +kernel
theorem dX10_first_5 : decode cX10_first 5 = .ok (.getfield 10, 3) := by decide +kernel
theorem dX10_first_8 : decode cX10_first 8 = .ok (.getfield 157, 3) := by decide +kernel
theorem dX10_first_11 : decode cX10_first 11 = .ok (.aload_n 0, 1) := by decide +kernel
theorem dX10_first_12 : decode cX10_first 12 = .ok (.getfield 25, 3) := by decide +kernel
theorem dX10_first_15 : decode cX10_first 15 = .ok (.invokevirtual 171, 3) := by decide +kernel
theorem dX10_first_18 : decode cX10_first 18 = .ok (.aload_n 0, 1) := by decide +kernel
theorem dX10_first_19 : decode cX10_first 19 = .ok (.getfield 41, 3) := by decide +kernel
theorem dX10_first_22 : decode cX10_first 22 = .ok (.aload_n 0, 1) := by decide +kernel
theorem dX10_first_23 : decode cX10_first 23 = .ok (.getfield 10, 3) := by decide +kernel
theorem dX10_first_26 : decode cX10_first 26 = .ok (.getfield 157, 3) := by decide +kernel
theorem dX10_first_29 : decode cX10_first 29 = .ok (.aload_n 0, 1) := by decide +kernel
theorem dX10_first_30 : decode cX10_first 30 = .ok (.getfield 25, 3) := by decide +kernel
theorem dX10_first_33 : decode cX10_first 33 = .ok (.iconst 0, 1) := by decide +kernel
theorem dX10_first_34 : decode cX10_first 34 = .ok (.aload_n 0, 1) := by decide +kernel
theorem dX10_first_35 : decode cX10_first 35 = .ok (.getfield 28, 3) := by decide +kernel
theorem dX10_first_38 : decode cX10_first 38 = .ok (.invokevirtual 177, 3) := by decide +kernel
theorem dX10_first_41 : decode cX10_first 41 = .ok (.aload_n 0, 1) := by decide +kernel
theorem dX10_first_42 : decode cX10_first 42 = .ok (.getfield 28, 3) := by decide +kernel
theorem dX10_first_45 : decode cX10_first 45 = .ok (.iload_n 1, 1) := by decide +kernel
theorem dX10_first_46 : decode cX10_first 46 = .ok (.invokevirtual 148, 3) := by decide +kernel
theorem dX10_first_49 : decode cX10_first 49 = .ok (.ireturn, 1) := by decide +kernel
theorem dX10_clash_0 : decode cX10_clash 0 = .ok (.iload_n 1, 1) := by decide +kernel
theorem dX10_clash_1 : decode cX10_clash 1 = .ok (.ifCond .lt 8, 3) := by decide +kernel
theorem dX10_clash_4 : decode cX10_clash 4 = .ok (.iload_n 1, 1) := by decide +kernel
theorem dX10_clash_5 : decode cX10_clash 5 = .ok (.iconst 5, 1) := by decide +kernel
theorem dX10_clash_6 : decode cX10_clash 6 = .ok (.if_icmp .le 6, 3) := by decide +kernel
theorem dX10_clash_9 : decode cX10_clash 9 = .ok (.bipush (-102), 2) := by decide +kernel
theorem dX10_clash_11 : decode cX10_clash 11 = .ok (.ireturn, 1) := by decide +kernel
theorem dX10_clash_12 : decode cX10_clash 12 = .ok (.aload_n 0, 1) := by decide +kernel
theorem dX10_clash_13 : decode cX10_clash 13 = .ok (.invokevirtual 181, 3) := by decide +kernel
theorem dX10_clash_16 : decode cX10_clash 16 = .ok (.aload_n 0, 1) := by decide +kernel
theorem dX10_clash_17 : decode cX10_clash 17 = .ok (.getfield 48, 3) := by decide +kernel
theorem dX10_clash_20 : decode cX10_clash 20 = .ok (.iload_n 1, 1) := by decide +kernel
theorem dX10_clash_21 : decode cX10_clash 21 = .ok (.invokevirtual 184, 3) := by decide +kernel
theorem dX10_clash_24 : decode cX10_clash 24 = .ok (.ireturn, 1) := by decide +kernel
theorem dX10_clashAt_0 : decode cX10_clashAt 0 = .ok (.aload_n 0, 1) := by decide +kernel
theorem dX10_clashAt_1 : decode cX10_clashAt 1 = .ok (.invokevirtual 181, 3) := by decide +kernel
theorem dX10_clashAt_4 : decode cX10_clashAt 4 = .ok (.aload_n 0, 1) := by decide +kernel
theorem dX10_clashAt_5 : decode cX10_clashAt 5 = .ok (.getfield 48, 3) := by decide +kernel
theorem dX10_clashAt_8 : decode cX10_clashAt 8 = .ok (.getfield 187, 3) := by decide +kernel
theorem dX10_clashAt_11 : decode cX10_clashAt 11 = .ok (.iload_n 1, 1) := by decide +kernel
theorem dX10_clashAt_12 : decode cX10_clashAt 12 = .ok (.invokevirtual 148, 3) := by decide +kernel
theorem dX10_clashAt_15 : decode cX10_clashAt 15 = .ok (.ireturn, 1) := by decide +kernel
theorem dX10_clashing_0 : decode cX10_clashing 0 = .ok (.iload_n 1, 1) := by decide +kernel
theorem dX10_clashing_1 : decode cX10_clashing 1 = .ok (.ifCond .lt 8, 3) := by decide +kernel
theorem dX10_clashing_4 : decode cX10_clashing 4 = .ok (.iload_n 1, 1) := by decide +kernel
theorem dX10_clashing_5 : decode cX10_clashing 5 = .ok (.iconst 1, 1) := by decide +kernel
theorem dX10_clashing_6 : decode cX10_clashing 6 = .ok (.if_icmp .le 6, 3) := by decide +kernel
theorem dX10_clashing_9 : decode cX10_clashing 9 = .ok (.bipush (-102), 2) := by decide +kernel
theorem dX10_clashing_11 : decode cX10_clashing 11 = .ok (.ireturn, 1) := by decide +kernel
theorem dX10_clashing_12 : decode cX10_clashing 12 = .ok (.aload_n 0, 1) := by decide +kernel
theorem dX10_clashing_13 : decode cX10_clashing 13 = .ok (.invokevirtual 181, 3) := by decide +kernel
theorem dX10_clashing_16 : decode cX10_clashing 16 = .ok (.iload_n 1, 1) := by decide +kernel
theorem dX10_clashing_17 : decode cX10_clashing 17 = .ok (.ifCond .ne 17, 3) := by decide +kernel
theorem dX10_clashing_20 : decode cX10_clashing 20 = .ok (.aload_n 0, 1) := by decide +kernel
theorem dX10_clashing_21 : decode cX10_clashing 21 = .ok (.getfield 48, 3) := by decide +kernel
theorem dX10_clashing_24 : decode cX10_clashing 24 = .ok (.getfield 190, 3) := by decide +kernel
theorem dX10_clashing_27 : decode cX10_clashing 27 = .ok (.iload_n 2, 1) := by decide +kernel
theorem dX10_clashing_28 : decode cX10_clashing 28 = .ok (.invokevirtual 148, 3) := by decide +kernel
theorem dX10_clashing_31 : decode cX10_clashing 31 = .ok (.goto 14, 3) := by decide +kernel
theorem dX10_clashing_34 : decode cX10_clashing 34 = .ok (.aload_n 0, 1) := by decide +kernel
theorem dX10_clashing_35 : decode cX10_clashing 35 = .ok (.getfield 48, 3) := by decide +kernel
theorem dX10_clashing_38 : decode cX10_clashing 38 = .ok (.getfield 193, 3) := by decide +kernel
theorem dX10_clashing_41 : decode cX10_clashing 41 = .ok (.iload_n 2, 1) := by decide +kernel
theorem dX10_clashing_42 : decode cX10_clashing 42 = .ok (.invokevirtual 148, 3) := by decide +kernel
theorem dX10_clashing_45 : decode cX10_clashing 45 = .ok (.ireturn, 1) := by decide +kernel
theorem dX10_ahead_0 : decode cX10_ahead 0 = .ok (.aload_n 0, 1) := by decide +kernel
theorem dX10_ahead_1 : decode cX10_ahead 1 = .ok (.invokevirtual 181, 3) := by decide +kernel
theorem dX10_ahead_4 : decode cX10_ahead 4 = .ok (.iload_n 1, 1) := by decide +kernel
theorem dX10_ahead_5 : decode cX10_ahead 5 = .ok (.ifCond .lt 20, 3) := by decide +kernel
theorem dX10_ahead_8 : decode cX10_ahead 8 = .ok (.iload_n 1, 1) := by decide +kernel
theorem dX10_ahead_9 : decode cX10_ahead 9 = .ok (.aload_n 0, 1) := by decide +kernel
theorem dX10_ahead_10 : decode cX10_ahead 10 = .ok (.getfield 48, 3) := by decide +kernel
theorem dX10_ahead_13 : decode cX10_ahead 13 = .ok (.getfield 196, 3) := by decide +kernel
theorem dX10_ahead_16 : decode cX10_ahead 16 = .ok (.getfield 200, 3) := by decide +kernel
theorem dX10_ahead_19 : decode cX10_ahead 19 = .ok (.invokevirtual 83, 3) := by decide +kernel
theorem dX10_ahead_22 : decode cX10_ahead 22 = .ok (.if_icmp .lt 6, 3) := by decide +kernel
theorem dX10_ahead_25 : decode cX10_ahead 25 = .ok (.bipush (-101), 2) := by decide +kernel
theorem dX10_ahead_27 : decode cX10_ahead 27 = .ok (.ireturn, 1) := by decide +kernel
theorem dX10_ahead_28 : decode cX10_ahead 28 = .ok (.aload_n 0, 1) := by decide +kernel
theorem dX10_ahead_29 : decode cX10_ahead 29 = .ok (.getfield 48, 3) := by decide +kernel
theorem dX10_ahead_32 : decode cX10_ahead 32 = .ok (.getfield 196, 3) := by decide +kernel
theorem dX10_ahead_35 : decode cX10_ahead 35 = .ok (.getfield 200, 3) := by decide +kernel
theorem dX10_ahead_38 : decode cX10_ahead 38 = .ok (.iload_n 1, 1) := by decide +kernel
theorem dX10_ahead_39 : decode cX10_ahead 39 = .ok (.invokevirtual 148, 3) := by decide +kernel
theorem dX10_ahead_42 : decode cX10_ahead 42 = .ok (.invokestatic 152, 3) := by decide +kernel
theorem dX10_ahead_45 : decode cX10_ahead 45 = .ok (.ireturn, 1) := by decide +kernel
theorem dX10_aheadAt_0 : decode cX10_aheadAt 0 = .ok (.aload_n 0, 1) := by decide +kernel
theorem dX10_aheadAt_1 : decode cX10_aheadAt 1 = .ok (.invokevirtual 181, 3) := by decide +kernel
theorem dX10_aheadAt_4 : decode cX10_aheadAt 4 = .ok (.iload_n 1, 1) := by decide +kernel
theorem dX10_aheadAt_5 : decode cX10_aheadAt 5 = .ok (.ifCond .lt 20, 3) := by decide +kernel
theorem dX10_aheadAt_8 : decode cX10_aheadAt 8 = .ok (.iload_n 1, 1) := by decide +kernel
theorem dX10_aheadAt_9 : decode cX10_aheadAt 9 = .ok (.aload_n 0, 1) := by decide +kernel
theorem dX10_aheadAt_10 : decode cX10_aheadAt 10 = .ok (.getfield 48, 3) := by decide +kernel
theorem dX10_aheadAt_13 : decode cX10_aheadAt 13 = .ok (.getfield 196, 3) := by decide +kernel
theorem dX10_aheadAt_16 : decode cX10_aheadAt 16 = .ok (.getfield 200, 3) := by decide +kernel
theorem dX10_aheadAt_19 : decode cX10_aheadAt 19 = .ok (.invokevirtual 83, 3) := by decide +kernel
theorem dX10_aheadAt_22 : decode cX10_aheadAt 22 = .ok (.if_icmp .lt 6, 3) := by decide +kernel
theorem dX10_aheadAt_25 : decode cX10_aheadAt 25 = .ok (.bipush (-101), 2) := by decide +kernel
theorem dX10_aheadAt_27 : decode cX10_aheadAt 27 = .ok (.ireturn, 1) := by decide +kernel
theorem dX10_aheadAt_28 : decode cX10_aheadAt 28 = .ok (.aload_n 0, 1) := by decide +kernel
theorem dX10_aheadAt_29 : decode cX10_aheadAt 29 = .ok (.getfield 48, 3) := by decide +kernel
theorem dX10_aheadAt_32 : decode cX10_aheadAt 32 = .ok (.getfield 196, 3) := by decide +kernel
theorem dX10_aheadAt_35 : decode cX10_aheadAt 35 = .ok (.getfield 200, 3) := by decide +kernel
theorem dX10_aheadAt_38 : decode cX10_aheadAt 38 = .ok (.iload_n 1, 1) := by decide +kernel
theorem dX10_aheadAt_39 : decode cX10_aheadAt 39 = .ok (.invokevirtual 148, 3) := by decide +kernel
theorem dX10_aheadAt_42 : decode cX10_aheadAt 42 = .ok (.iload_n 2, 1) := by decide +kernel
theorem dX10_aheadAt_43 : decode cX10_aheadAt 43 = .ok (.invokestatic 164, 3) := by decide +kernel
theorem dX10_aheadAt_46 : decode cX10_aheadAt 46 = .ok (.ireturn, 1) := by decide +kernel
theorem dX10_parting_0 : decode cX10_parting 0 = .ok (.iload_n 1, 1) := by decide +kernel
theorem dX10_parting_1 : decode cX10_parting 1 = .ok (.ifCond .lt 8, 3) := by decide +kernel
theorem dX10_parting_4 : decode cX10_parting 4 = .ok (.iload_n 1, 1) := by decide +kernel
theorem dX10_parting_5 : decode cX10_parting 5 = .ok (.iconst 1, 1) := by decide +kernel
theorem dX10_parting_6 : decode cX10_parting 6 = .ok (.if_icmp .le 6, 3) := by decide +kernel
theorem dX10_parting_9 : decode cX10_parting 9 = .ok (.bipush (-102), 2) := by decide +kernel
theorem dX10_parting_11 : decode cX10_parting 11 = .ok (.ireturn, 1) := by decide +kernel
theorem dX10_parting_12 : decode cX10_parting 12 = .ok (.aload_n 0, 1) := by decide +kernel
theorem dX10_parting_13 : decode cX10_parting 13 = .ok (.invokevirtual 205, 3) := by decide +kernel
theorem dX10_parting_16 : decode cX10_parting 16 = .ok (.aload_n 0, 1) := by decide +kernel
theorem dX10_parting_17 : decode cX10_parting 17 = .ok (.getfield 55, 3) := by decide +kernel
theorem dX10_parting_20 : decode cX10_parting 20 = .ok (.iload_n 1, 1) := by decide +kernel
theorem dX10_parting_21 : decode cX10_parting 21 = .ok (.invokevirtual 208, 3) := by decide +kernel
theorem dX10_parting_24 : decode cX10_parting 24 = .ok (.ireturn, 1) := by decide +kernel
theorem dX10_trial_0 : decode cX10_trial 0 = .ok (.iload_n 1, 1) := by decide +kernel
theorem dX10_trial_1 : decode cX10_trial 1 = .ok (.iconst 1, 1) := by decide +kernel
theorem dX10_trial_2 : decode cX10_trial 2 = .ok (.if_icmp .lt 22, 3) := by decide +kernel
theorem dX10_trial_5 : decode cX10_trial 5 = .ok (.iload_n 1, 1) := by decide +kernel
theorem dX10_trial_6 : decode cX10_trial 6 = .ok (.bipush 40, 2) := by decide +kernel
theorem dX10_trial_8 : decode cX10_trial 8 = .ok (.if_icmp .gt 16, 3) := by decide +kernel
theorem dX10_trial_11 : decode cX10_trial 11 = .ok (.iload_n 2, 1) := by decide +kernel
theorem dX10_trial_12 : decode cX10_trial 12 = .ok (.ifCond .lt 12, 3) := by decide +kernel
theorem dX10_trial_15 : decode cX10_trial 15 = .ok (.iload_n 3, 1) := by decide +kernel
theorem dX10_trial_16 : decode cX10_trial 16 = .ok (.ifCond .lt 8, 3) := by decide +kernel
theorem dX10_trial_19 : decode cX10_trial 19 = .ok (.iload_n 3, 1) := by decide +kernel
theorem dX10_trial_20 : decode cX10_trial 20 = .ok (.iconst 3, 1) := by decide +kernel
theorem dX10_trial_21 : decode cX10_trial 21 = .ok (.if_icmp .le 6, 3) := by decide +kernel
theorem dX10_trial_24 : decode cX10_trial 24 = .ok (.bipush (-102), 2) := by decide +kernel
theorem dX10_trial_26 : decode cX10_trial 26 = .ok (.ireturn, 1) := by decide +kernel
theorem dX10_trial_27 : decode cX10_trial 27 = .ok (.aload_n 0, 1) := by decide +kernel
theorem dX10_trial_28 : decode cX10_trial 28 = .ok (.getfield 10, 3) := by decide +kernel
theorem dX10_trial_31 : decode cX10_trial 31 = .ok (.invokevirtual 114, 3) := by decide +kernel
theorem dX10_trial_34 : decode cX10_trial 34 = .ok (.ifCond .ne 6, 3) := by decide +kernel
theorem dX10_trial_37 : decode cX10_trial 37 = .ok (.bipush (-103), 2) := by decide +kernel
theorem dX10_trial_39 : decode cX10_trial 39 = .ok (.ireturn, 1) := by decide +kernel
theorem dX10_trial_40 : decode cX10_trial 40 = .ok (.aload_n 0, 1) := by decide +kernel
theorem dX10_trial_41 : decode cX10_trial 41 = .ok (.getfield 62, 3) := by decide +kernel
theorem dX10_trial_44 : decode cX10_trial 44 = .ok (.aload_n 0, 1) := by decide +kernel
theorem dX10_trial_45 : decode cX10_trial 45 = .ok (.getfield 10, 3) := by decide +kernel
theorem dX10_trial_48 : decode cX10_trial 48 = .ok (.iload_n 1, 1) := by decide +kernel
theorem dX10_trial_49 : decode cX10_trial 49 = .ok (.iload_n 2, 1) := by decide +kernel
theorem dX10_trial_50 : decode cX10_trial 50 = .ok (.invokevirtual 209, 3) := by decide +kernel
theorem dX10_trial_53 : decode cX10_trial 53 = .ok (.aload_n 0, 1) := by decide +kernel
theorem dX10_trial_54 : decode cX10_trial 54 = .ok (.getfield 62, 3) := by decide +kernel
theorem dX10_trial_57 : decode cX10_trial 57 = .ok (.iload_n 3, 1) := by decide +kernel
theorem dX10_trial_58 : decode cX10_trial 58 = .ok (.invokevirtual 213, 3) := by decide +kernel
theorem dX10_trial_61 : decode cX10_trial 61 = .ok (.ireturn, 1) := by decide +kernel
theorem dX10_count_0 : decode cX10_count 0 = .ok (.iload_n 1, 1) := by decide +kernel
theorem dX10_count_1 : decode cX10_count 1 = .ok (.tableswitch 90 0 6 #[43, 51, 59, 67, 75, 80, 85], 43) := by decide +kernel
theorem dX10_count_44 : decode cX10_count 44 = .ok (.aload_n 0, 1) := by decide +kernel
theorem dX10_count_45 : decode cX10_count 45 = .ok (.getfield 10, 3) := by decide +kernel
theorem dX10_count_48 : decode cX10_count 48 = .ok (.invokevirtual 114, 3) := by decide +kernel
theorem dX10_count_51 : decode cX10_count 51 = .ok (.ireturn, 1) := by decide +kernel
theorem dX10_count_52 : decode cX10_count 52 = .ok (.aload_n 0, 1) := by decide +kernel
theorem dX10_count_53 : decode cX10_count 53 = .ok (.getfield 21, 3) := by decide +kernel
theorem dX10_count_56 : decode cX10_count 56 = .ok (.invokevirtual 83, 3) := by decide +kernel
theorem dX10_count_59 : decode cX10_count 59 = .ok (.ireturn, 1) := by decide +kernel
theorem dX10_count_60 : decode cX10_count 60 = .ok (.aload_n 0, 1) := by decide +kernel
theorem dX10_count_61 : decode cX10_count 61 = .ok (.getfield 25, 3) := by decide +kernel
theorem dX10_count_64 : decode cX10_count 64 = .ok (.invokevirtual 83, 3) := by decide +kernel
theorem dX10_count_67 : decode cX10_count 67 = .ok (.ireturn, 1) := by decide +kernel
theorem dX10_count_68 : decode cX10_count 68 = .ok (.aload_n 0, 1) := by decide +kernel
theorem dX10_count_69 : decode cX10_count 69 = .ok (.getfield 10, 3) := by decide +kernel
theorem dX10_count_72 : decode cX10_count 72 = .ok (.invokevirtual 214, 3) := by decide +kernel
theorem dX10_count_75 : decode cX10_count 75 = .ok (.ireturn, 1) := by decide +kernel
theorem dX10_count_76 : decode cX10_count 76 = .ok (.aload_n 0, 1) := by decide +kernel
theorem dX10_count_77 : decode cX10_count 77 = .ok (.getfield 73, 3) := by decide +kernel
theorem dX10_count_80 : decode cX10_count 80 = .ok (.ireturn, 1) := by decide +kernel
theorem dX10_count_81 : decode cX10_count 81 = .ok (.aload_n 0, 1) := by decide +kernel
theorem dX10_count_82 : decode cX10_count 82 = .ok (.getfield 77, 3) := by decide +kernel
theorem dX10_count_85 : decode cX10_count 85 = .ok (.ireturn, 1) := by decide +kernel
theorem dX10_count_86 : decode cX10_count 86 = .ok (.aload_n 0, 1) := by decide +kernel
theorem dX10_count_87 : decode cX10_count 87 = .ok (.getfield 80, 3) := by decide +kernel
theorem dX10_count_90 : decode cX10_count 90 = .ok (.ireturn, 1) := by decide +kernel
theorem dX10_count_91 : decode cX10_count 91 = .ok (.bipush (-102), 2) := by decide +kernel
theorem dX10_count_93 : decode cX10_count 93 = .ok (.ireturn, 1) := by decide +kernel
theorem dX10_digest_0 : decode cX10_digest 0 = .ok (.aload_n 0, 1) := by decide +kernel
theorem dX10_digest_1 : decode cX10_digest 1 = .ok (.invokevirtual 181, 3) := by decide +kernel
theorem dX10_digest_4 : decode cX10_digest 4 = .ok (.aload_n 0, 1) := by decide +kernel
theorem dX10_digest_5 : decode cX10_digest 5 = .ok (.invokevirtual 205, 3) := by decide +kernel
theorem dX10_digest_8 : decode cX10_digest 8 = .ok (.aload_n 0, 1) := by decide +kernel
theorem dX10_digest_9 : decode cX10_digest 9 = .ok (.ldc2_w 217, 3) := by decide +kernel
theorem dX10_digest_12 : decode cX10_digest 12 = .ok (.invokevirtual 219, 3) := by decide +kernel
theorem dX10_digest_15 : decode cX10_digest 15 = .ok (.lstore_n 1, 1) := by decide +kernel
theorem dX10_digest_16 : decode cX10_digest 16 = .ok (.lload_n 1, 1) := by decide +kernel
theorem dX10_digest_17 : decode cX10_digest 17 = .ok (.aload_n 0, 1) := by decide +kernel
theorem dX10_digest_18 : decode cX10_digest 18 = .ok (.getfield 25, 3) := by decide +kernel
theorem dX10_digest_21 : decode cX10_digest 21 = .ok (.invokestatic 223, 3) := by decide +kernel
theorem dX10_digest_24 : decode cX10_digest 24 = .ok (.lstore_n 1, 1) := by decide +kernel
theorem dX10_digest_25 : decode cX10_digest 25 = .ok (.aload_n 0, 1) := by decide +kernel
theorem dX10_digest_26 : decode cX10_digest 26 = .ok (.lload_n 1, 1) := by decide +kernel
theorem dX10_digest_27 : decode cX10_digest 27 = .ok (.invokevirtual 227, 3) := by decide +kernel
theorem dX10_digest_30 : decode cX10_digest 30 = .ok (.lstore_n 1, 1) := by decide +kernel
theorem dX10_digest_31 : decode cX10_digest 31 = .ok (.aload_n 0, 1) := by decide +kernel
theorem dX10_digest_32 : decode cX10_digest 32 = .ok (.lload_n 1, 1) := by decide +kernel
theorem dX10_digest_33 : decode cX10_digest 33 = .ok (.invokevirtual 230, 3) := by decide +kernel
theorem dX10_digest_36 : decode cX10_digest 36 = .ok (.lstore_n 1, 1) := by decide +kernel
theorem dX10_digest_37 : decode cX10_digest 37 = .ok (.lload_n 1, 1) := by decide +kernel
theorem dX10_digest_38 : decode cX10_digest 38 = .ok (.aload_n 0, 1) := by decide +kernel
theorem dX10_digest_39 : decode cX10_digest 39 = .ok (.getfield 55, 3) := by decide +kernel
theorem dX10_digest_42 : decode cX10_digest 42 = .ok (.iconst 0, 1) := by decide +kernel
theorem dX10_digest_43 : decode cX10_digest 43 = .ok (.invokevirtual 208, 3) := by decide +kernel
theorem dX10_digest_46 : decode cX10_digest 46 = .ok (.invokestatic 233, 3) := by decide +kernel
theorem dX10_digest_49 : decode cX10_digest 49 = .ok (.lstore_n 1, 1) := by decide +kernel
theorem dX10_digest_50 : decode cX10_digest 50 = .ok (.lload_n 1, 1) := by decide +kernel
theorem dX10_digest_51 : decode cX10_digest 51 = .ok (.aload_n 0, 1) := by decide +kernel
theorem dX10_digest_52 : decode cX10_digest 52 = .ok (.getfield 55, 3) := by decide +kernel
theorem dX10_digest_55 : decode cX10_digest 55 = .ok (.iconst 1, 1) := by decide +kernel
theorem dX10_digest_56 : decode cX10_digest 56 = .ok (.invokevirtual 208, 3) := by decide +kernel
theorem dX10_digest_59 : decode cX10_digest 59 = .ok (.invokestatic 233, 3) := by decide +kernel
theorem dX10_digest_62 : decode cX10_digest 62 = .ok (.lstore_n 1, 1) := by decide +kernel
theorem dX10_digest_63 : decode cX10_digest 63 = .ok (.lload_n 1, 1) := by decide +kernel
theorem dX10_digest_64 : decode cX10_digest 64 = .ok (.aload_n 0, 1) := by decide +kernel
theorem dX10_digest_65 : decode cX10_digest 65 = .ok (.getfield 21, 3) := by decide +kernel
theorem dX10_digest_68 : decode cX10_digest 68 = .ok (.invokestatic 223, 3) := by decide +kernel
theorem dX10_digest_71 : decode cX10_digest 71 = .ok (.lstore_n 1, 1) := by decide +kernel
theorem dX10_digest_72 : decode cX10_digest 72 = .ok (.iconst 0, 1) := by decide +kernel
theorem dX10_digest_73 : decode cX10_digest 73 = .ok (.istore_n 3, 1) := by decide +kernel
theorem dX10_digest_74 : decode cX10_digest 74 = .ok (.iload_n 3, 1) := by decide +kernel
theorem dX10_digest_75 : decode cX10_digest 75 = .ok (.bipush 6, 2) := by decide +kernel
theorem dX10_digest_77 : decode cX10_digest 77 = .ok (.if_icmp .gt 19, 3) := by decide +kernel
theorem dX10_digest_80 : decode cX10_digest 80 = .ok (.lload_n 1, 1) := by decide +kernel
theorem dX10_digest_81 : decode cX10_digest 81 = .ok (.aload_n 0, 1) := by decide +kernel
theorem dX10_digest_82 : decode cX10_digest 82 = .ok (.iload_n 3, 1) := by decide +kernel
theorem dX10_digest_83 : decode cX10_digest 83 = .ok (.invokevirtual 237, 3) := by decide +kernel
theorem dX10_digest_86 : decode cX10_digest 86 = .ok (.invokestatic 233, 3) := by decide +kernel
theorem dX10_digest_89 : decode cX10_digest 89 = .ok (.lstore_n 1, 1) := by decide +kernel
theorem dX10_digest_90 : decode cX10_digest 90 = .ok (.iinc 3 1, 3) := by decide +kernel
theorem dX10_digest_93 : decode cX10_digest 93 = .ok (.goto (-19), 3) := by decide +kernel
theorem dX10_digest_96 : decode cX10_digest 96 = .ok (.lload_n 1, 1) := by decide +kernel
theorem dX10_digest_97 : decode cX10_digest 97 = .ok (.lreturn, 1) := by decide +kernel
theorem dX10_hashRules_0 : decode cX10_hashRules 0 = .ok (.lload_n 1, 1) := by decide +kernel
theorem dX10_hashRules_1 : decode cX10_hashRules 1 = .ok (.lstore_n 3, 1) := by decide +kernel
theorem dX10_hashRules_2 : decode cX10_hashRules 2 = .ok (.iconst 0, 1) := by decide +kernel
theorem dX10_hashRules_3 : decode cX10_hashRules 3 = .ok (.istore 5, 2) := by decide +kernel
theorem dX10_hashRules_5 : decode cX10_hashRules 5 = .ok (.iload 5, 2) := by decide +kernel
theorem dX10_hashRules_7 : decode cX10_hashRules 7 = .ok (.aload_n 0, 1) := by decide +kernel
theorem dX10_hashRules_8 : decode cX10_hashRules 8 = .ok (.getfield 10, 3) := by decide +kernel
theorem dX10_hashRules_11 : decode cX10_hashRules 11 = .ok (.invokevirtual 114, 3) := by decide +kernel
theorem dX10_hashRules_14 : decode cX10_hashRules 14 = .ok (.if_icmp .ge 71, 3) := by decide +kernel
theorem dX10_hashRules_17 : decode cX10_hashRules 17 = .ok (.iconst 0, 1) := by decide +kernel
theorem dX10_hashRules_18 : decode cX10_hashRules 18 = .ok (.istore 6, 2) := by decide +kernel
theorem dX10_hashRules_20 : decode cX10_hashRules 20 = .ok (.iload 6, 2) := by decide +kernel
theorem dX10_hashRules_22 : decode cX10_hashRules 22 = .ok (.iconst 4, 1) := by decide +kernel
theorem dX10_hashRules_23 : decode cX10_hashRules 23 = .ok (.if_icmp .gt 22, 3) := by decide +kernel
theorem dX10_hashRules_26 : decode cX10_hashRules 26 = .ok (.lload_n 3, 1) := by decide +kernel
theorem dX10_hashRules_27 : decode cX10_hashRules 27 = .ok (.aload_n 0, 1) := by decide +kernel
theorem dX10_hashRules_28 : decode cX10_hashRules 28 = .ok (.iload 5, 2) := by decide +kernel
theorem dX10_hashRules_30 : decode cX10_hashRules 30 = .ok (.iload 6, 2) := by decide +kernel
theorem dX10_hashRules_32 : decode cX10_hashRules 32 = .ok (.invokevirtual 240, 3) := by decide +kernel
theorem dX10_hashRules_35 : decode cX10_hashRules 35 = .ok (.invokestatic 233, 3) := by decide +kernel
theorem dX10_hashRules_38 : decode cX10_hashRules 38 = .ok (.lstore_n 3, 1) := by decide +kernel
theorem dX10_hashRules_39 : decode cX10_hashRules 39 = .ok (.iinc 6 1, 3) := by decide +kernel
theorem dX10_hashRules_42 : decode cX10_hashRules 42 = .ok (.goto (-22), 3) := by decide +kernel
theorem dX10_hashRules_45 : decode cX10_hashRules 45 = .ok (.lload_n 3, 1) := by decide +kernel
theorem dX10_hashRules_46 : decode cX10_hashRules 46 = .ok (.aload_n 0, 1) := by decide +kernel
theorem dX10_hashRules_47 : decode cX10_hashRules 47 = .ok (.getfield 10, 3) := by decide +kernel
theorem dX10_hashRules_50 : decode cX10_hashRules 50 = .ok (.getfield 118, 3) := by decide +kernel
theorem dX10_hashRules_53 : decode cX10_hashRules 53 = .ok (.iload 5, 2) := by decide +kernel
theorem dX10_hashRules_55 : decode cX10_hashRules 55 = .ok (.invokevirtual 148, 3) := by decide +kernel
theorem dX10_hashRules_58 : decode cX10_hashRules 58 = .ok (.invokestatic 243, 3) := by decide +kernel
theorem dX10_hashRules_61 : decode cX10_hashRules 61 = .ok (.lstore_n 3, 1) := by decide +kernel
theorem dX10_hashRules_62 : decode cX10_hashRules 62 = .ok (.lload_n 3, 1) := by decide +kernel
theorem dX10_hashRules_63 : decode cX10_hashRules 63 = .ok (.aload_n 0, 1) := by decide +kernel
theorem dX10_hashRules_64 : decode cX10_hashRules 64 = .ok (.getfield 10, 3) := by decide +kernel
theorem dX10_hashRules_67 : decode cX10_hashRules 67 = .ok (.getfield 157, 3) := by decide +kernel
theorem dX10_hashRules_70 : decode cX10_hashRules 70 = .ok (.iload 5, 2) := by decide +kernel
theorem dX10_hashRules_72 : decode cX10_hashRules 72 = .ok (.invokevirtual 148, 3) := by decide +kernel
theorem dX10_hashRules_75 : decode cX10_hashRules 75 = .ok (.invokestatic 243, 3) := by decide +kernel
theorem dX10_hashRules_78 : decode cX10_hashRules 78 = .ok (.lstore_n 3, 1) := by decide +kernel
theorem dX10_hashRules_79 : decode cX10_hashRules 79 = .ok (.iinc 5 1, 3) := by decide +kernel
theorem dX10_hashRules_82 : decode cX10_hashRules 82 = .ok (.goto (-77), 3) := by decide +kernel
theorem dX10_hashRules_85 : decode cX10_hashRules 85 = .ok (.lload_n 3, 1) := by decide +kernel
theorem dX10_hashRules_86 : decode cX10_hashRules 86 = .ok (.lreturn, 1) := by decide +kernel
theorem dX10_hashRows_0 : decode cX10_hashRows 0 = .ok (.aload_n 0, 1) := by decide +kernel
theorem dX10_hashRows_1 : decode cX10_hashRows 1 = .ok (.getfield 10, 3) := by decide +kernel
theorem dX10_hashRows_4 : decode cX10_hashRows 4 = .ok (.getfield 157, 3) := by decide +kernel
theorem dX10_hashRows_7 : decode cX10_hashRows 7 = .ok (.aload_n 0, 1) := by decide +kernel
theorem dX10_hashRows_8 : decode cX10_hashRows 8 = .ok (.getfield 25, 3) := by decide +kernel
theorem dX10_hashRows_11 : decode cX10_hashRows 11 = .ok (.aload_n 0, 1) := by decide +kernel
theorem dX10_hashRows_12 : decode cX10_hashRows 12 = .ok (.getfield 28, 3) := by decide +kernel
theorem dX10_hashRows_15 : decode cX10_hashRows 15 = .ok (.invokestatic 119, 3) := by decide +kernel
theorem dX10_hashRows_18 : decode cX10_hashRows 18 = .ok (.istore_n 3, 1) := by decide +kernel
theorem dX10_hashRows_19 : decode cX10_hashRows 19 = .ok (.lload_n 1, 1) := by decide +kernel
theorem dX10_hashRows_20 : decode cX10_hashRows 20 = .ok (.aload_n 0, 1) := by decide +kernel
theorem dX10_hashRows_21 : decode cX10_hashRows 21 = .ok (.getfield 28, 3) := by decide +kernel
theorem dX10_hashRows_24 : decode cX10_hashRows 24 = .ok (.invokevirtual 83, 3) := by decide +kernel
theorem dX10_hashRows_27 : decode cX10_hashRows 27 = .ok (.invokestatic 233, 3) := by decide +kernel
theorem dX10_hashRows_30 : decode cX10_hashRows 30 = .ok (.lstore 4, 2) := by decide +kernel
theorem dX10_hashRows_32 : decode cX10_hashRows 32 = .ok (.lload 4, 2) := by decide +kernel
theorem dX10_hashRows_34 : decode cX10_hashRows 34 = .ok (.aload_n 0, 1) := by decide +kernel
theorem dX10_hashRows_35 : decode cX10_hashRows 35 = .ok (.iload_n 3, 1) := by decide +kernel
theorem dX10_hashRows_36 : decode cX10_hashRows 36 = .ok (.invokevirtual 168, 3) := by decide +kernel
theorem dX10_hashRows_39 : decode cX10_hashRows 39 = .ok (.invokestatic 233, 3) := by decide +kernel
theorem dX10_hashRows_42 : decode cX10_hashRows 42 = .ok (.lstore 4, 2) := by decide +kernel
theorem dX10_hashRows_44 : decode cX10_hashRows 44 = .ok (.lload 4, 2) := by decide +kernel
theorem dX10_hashRows_46 : decode cX10_hashRows 46 = .ok (.aload_n 0, 1) := by decide +kernel
theorem dX10_hashRows_47 : decode cX10_hashRows 47 = .ok (.getfield 28, 3) := by decide +kernel
theorem dX10_hashRows_50 : decode cX10_hashRows 50 = .ok (.invokestatic 223, 3) := by decide +kernel
theorem dX10_hashRows_53 : decode cX10_hashRows 53 = .ok (.lstore 4, 2) := by decide +kernel
theorem dX10_hashRows_55 : decode cX10_hashRows 55 = .ok (.aload_n 0, 1) := by decide +kernel
theorem dX10_hashRows_56 : decode cX10_hashRows 56 = .ok (.getfield 41, 3) := by decide +kernel
theorem dX10_hashRows_59 : decode cX10_hashRows 59 = .ok (.aload_n 0, 1) := by decide +kernel
theorem dX10_hashRows_60 : decode cX10_hashRows 60 = .ok (.getfield 10, 3) := by decide +kernel
theorem dX10_hashRows_63 : decode cX10_hashRows 63 = .ok (.getfield 157, 3) := by decide +kernel
theorem dX10_hashRows_66 : decode cX10_hashRows 66 = .ok (.aload_n 0, 1) := by decide +kernel
theorem dX10_hashRows_67 : decode cX10_hashRows 67 = .ok (.getfield 25, 3) := by decide +kernel
theorem dX10_hashRows_70 : decode cX10_hashRows 70 = .ok (.invokevirtual 171, 3) := by decide +kernel
theorem dX10_hashRows_73 : decode cX10_hashRows 73 = .ok (.lload 4, 2) := by decide +kernel
theorem dX10_hashRows_75 : decode cX10_hashRows 75 = .ok (.aload_n 0, 1) := by decide +kernel
theorem dX10_hashRows_76 : decode cX10_hashRows 76 = .ok (.getfield 41, 3) := by decide +kernel
theorem dX10_hashRows_79 : decode cX10_hashRows 79 = .ok (.invokevirtual 174, 3) := by decide +kernel
theorem dX10_hashRows_82 : decode cX10_hashRows 82 = .ok (.invokestatic 233, 3) := by decide +kernel
theorem dX10_hashRows_85 : decode cX10_hashRows 85 = .ok (.lstore 4, 2) := by decide +kernel
theorem dX10_hashRows_87 : decode cX10_hashRows 87 = .ok (.aload_n 0, 1) := by decide +kernel
theorem dX10_hashRows_88 : decode cX10_hashRows 88 = .ok (.getfield 41, 3) := by decide +kernel
theorem dX10_hashRows_91 : decode cX10_hashRows 91 = .ok (.aload_n 0, 1) := by decide +kernel
theorem dX10_hashRows_92 : decode cX10_hashRows 92 = .ok (.getfield 10, 3) := by decide +kernel
theorem dX10_hashRows_95 : decode cX10_hashRows 95 = .ok (.getfield 157, 3) := by decide +kernel
theorem dX10_hashRows_98 : decode cX10_hashRows 98 = .ok (.aload_n 0, 1) := by decide +kernel
theorem dX10_hashRows_99 : decode cX10_hashRows 99 = .ok (.getfield 25, 3) := by decide +kernel
theorem dX10_hashRows_102 : decode cX10_hashRows 102 = .ok (.iconst 0, 1) := by decide +kernel
theorem dX10_hashRows_103 : decode cX10_hashRows 103 = .ok (.aload_n 0, 1) := by decide +kernel
theorem dX10_hashRows_104 : decode cX10_hashRows 104 = .ok (.getfield 28, 3) := by decide +kernel
theorem dX10_hashRows_107 : decode cX10_hashRows 107 = .ok (.invokevirtual 177, 3) := by decide +kernel
theorem dX10_hashRows_110 : decode cX10_hashRows 110 = .ok (.lload 4, 2) := by decide +kernel
theorem dX10_hashRows_112 : decode cX10_hashRows 112 = .ok (.aload_n 0, 1) := by decide +kernel
theorem dX10_hashRows_113 : decode cX10_hashRows 113 = .ok (.getfield 28, 3) := by decide +kernel
theorem dX10_hashRows_116 : decode cX10_hashRows 116 = .ok (.invokestatic 223, 3) := by decide +kernel
theorem dX10_hashRows_119 : decode cX10_hashRows 119 = .ok (.lreturn, 1) := by decide +kernel
theorem dX10_hashClashes_0 : decode cX10_hashClashes 0 = .ok (.lload_n 1, 1) := by decide +kernel
theorem dX10_hashClashes_1 : decode cX10_hashClashes 1 = .ok (.lstore_n 3, 1) := by decide +kernel
theorem dX10_hashClashes_2 : decode cX10_hashClashes 2 = .ok (.iconst 0, 1) := by decide +kernel
theorem dX10_hashClashes_3 : decode cX10_hashClashes 3 = .ok (.istore 5, 2) := by decide +kernel
theorem dX10_hashClashes_5 : decode cX10_hashClashes 5 = .ok (.iload 5, 2) := by decide +kernel
theorem dX10_hashClashes_7 : decode cX10_hashClashes 7 = .ok (.iconst 5, 1) := by decide +kernel
theorem dX10_hashClashes_8 : decode cX10_hashClashes 8 = .ok (.if_icmp .gt 23, 3) := by decide +kernel
theorem dX10_hashClashes_11 : decode cX10_hashClashes 11 = .ok (.lload_n 3, 1) := by decide +kernel
theorem dX10_hashClashes_12 : decode cX10_hashClashes 12 = .ok (.aload_n 0, 1) := by decide +kernel
theorem dX10_hashClashes_13 : decode cX10_hashClashes 13 = .ok (.getfield 48, 3) := by decide +kernel
theorem dX10_hashClashes_16 : decode cX10_hashClashes 16 = .ok (.iload 5, 2) := by decide +kernel
theorem dX10_hashClashes_18 : decode cX10_hashClashes 18 = .ok (.invokevirtual 184, 3) := by decide +kernel
theorem dX10_hashClashes_21 : decode cX10_hashClashes 21 = .ok (.invokestatic 233, 3) := by decide +kernel
theorem dX10_hashClashes_24 : decode cX10_hashClashes 24 = .ok (.lstore_n 3, 1) := by decide +kernel
theorem dX10_hashClashes_25 : decode cX10_hashClashes 25 = .ok (.iinc 5 1, 3) := by decide +kernel
theorem dX10_hashClashes_28 : decode cX10_hashClashes 28 = .ok (.goto (-23), 3) := by decide +kernel
theorem dX10_hashClashes_31 : decode cX10_hashClashes 31 = .ok (.lload_n 3, 1) := by decide +kernel
theorem dX10_hashClashes_32 : decode cX10_hashClashes 32 = .ok (.aload_n 0, 1) := by decide +kernel
theorem dX10_hashClashes_33 : decode cX10_hashClashes 33 = .ok (.getfield 48, 3) := by decide +kernel
theorem dX10_hashClashes_36 : decode cX10_hashClashes 36 = .ok (.getfield 187, 3) := by decide +kernel
theorem dX10_hashClashes_39 : decode cX10_hashClashes 39 = .ok (.invokestatic 223, 3) := by decide +kernel
theorem dX10_hashClashes_42 : decode cX10_hashClashes 42 = .ok (.lstore_n 3, 1) := by decide +kernel
theorem dX10_hashClashes_43 : decode cX10_hashClashes 43 = .ok (.lload_n 3, 1) := by decide +kernel
theorem dX10_hashClashes_44 : decode cX10_hashClashes 44 = .ok (.aload_n 0, 1) := by decide +kernel
theorem dX10_hashClashes_45 : decode cX10_hashClashes 45 = .ok (.getfield 48, 3) := by decide +kernel
theorem dX10_hashClashes_48 : decode cX10_hashClashes 48 = .ok (.getfield 190, 3) := by decide +kernel
theorem dX10_hashClashes_51 : decode cX10_hashClashes 51 = .ok (.invokestatic 223, 3) := by decide +kernel
theorem dX10_hashClashes_54 : decode cX10_hashClashes 54 = .ok (.lstore_n 3, 1) := by decide +kernel
theorem dX10_hashClashes_55 : decode cX10_hashClashes 55 = .ok (.lload_n 3, 1) := by decide +kernel
theorem dX10_hashClashes_56 : decode cX10_hashClashes 56 = .ok (.aload_n 0, 1) := by decide +kernel
theorem dX10_hashClashes_57 : decode cX10_hashClashes 57 = .ok (.getfield 48, 3) := by decide +kernel
theorem dX10_hashClashes_60 : decode cX10_hashClashes 60 = .ok (.getfield 193, 3) := by decide +kernel
theorem dX10_hashClashes_63 : decode cX10_hashClashes 63 = .ok (.invokestatic 223, 3) := by decide +kernel
theorem dX10_hashClashes_66 : decode cX10_hashClashes 66 = .ok (.lstore_n 3, 1) := by decide +kernel
theorem dX10_hashClashes_67 : decode cX10_hashClashes 67 = .ok (.iconst 0, 1) := by decide +kernel
theorem dX10_hashClashes_68 : decode cX10_hashClashes 68 = .ok (.istore 5, 2) := by decide +kernel
theorem dX10_hashClashes_70 : decode cX10_hashClashes 70 = .ok (.iload 5, 2) := by decide +kernel
theorem dX10_hashClashes_72 : decode cX10_hashClashes 72 = .ok (.aload_n 0, 1) := by decide +kernel
theorem dX10_hashClashes_73 : decode cX10_hashClashes 73 = .ok (.getfield 48, 3) := by decide +kernel
theorem dX10_hashClashes_76 : decode cX10_hashClashes 76 = .ok (.getfield 196, 3) := by decide +kernel
theorem dX10_hashClashes_79 : decode cX10_hashClashes 79 = .ok (.getfield 200, 3) := by decide +kernel
theorem dX10_hashClashes_82 : decode cX10_hashClashes 82 = .ok (.invokevirtual 83, 3) := by decide +kernel
theorem dX10_hashClashes_85 : decode cX10_hashClashes 85 = .ok (.if_icmp .ge 29, 3) := by decide +kernel
theorem dX10_hashClashes_88 : decode cX10_hashClashes 88 = .ok (.lload_n 3, 1) := by decide +kernel
theorem dX10_hashClashes_89 : decode cX10_hashClashes 89 = .ok (.aload_n 0, 1) := by decide +kernel
theorem dX10_hashClashes_90 : decode cX10_hashClashes 90 = .ok (.getfield 48, 3) := by decide +kernel
theorem dX10_hashClashes_93 : decode cX10_hashClashes 93 = .ok (.getfield 196, 3) := by decide +kernel
theorem dX10_hashClashes_96 : decode cX10_hashClashes 96 = .ok (.getfield 200, 3) := by decide +kernel
theorem dX10_hashClashes_99 : decode cX10_hashClashes 99 = .ok (.iload 5, 2) := by decide +kernel
theorem dX10_hashClashes_101 : decode cX10_hashClashes 101 = .ok (.invokevirtual 148, 3) := by decide +kernel
theorem dX10_hashClashes_104 : decode cX10_hashClashes 104 = .ok (.invokestatic 243, 3) := by decide +kernel
theorem dX10_hashClashes_107 : decode cX10_hashClashes 107 = .ok (.lstore_n 3, 1) := by decide +kernel
theorem dX10_hashClashes_108 : decode cX10_hashClashes 108 = .ok (.iinc 5 1, 3) := by decide +kernel
theorem dX10_hashClashes_111 : decode cX10_hashClashes 111 = .ok (.goto (-41), 3) := by decide +kernel
theorem dX10_hashClashes_114 : decode cX10_hashClashes 114 = .ok (.lload_n 3, 1) := by decide +kernel
theorem dX10_hashClashes_115 : decode cX10_hashClashes 115 = .ok (.lreturn, 1) := by decide +kernel
theorem dX10_stuckPlace_0 : decode cX10_stuckPlace 0 = .ok (.iload_n 1, 1) := by decide +kernel
theorem dX10_stuckPlace_1 : decode cX10_stuckPlace 1 = .ok (.aload_n 0, 1) := by decide +kernel
theorem dX10_stuckPlace_2 : decode cX10_stuckPlace 2 = .ok (.getfield 25, 3) := by decide +kernel
theorem dX10_stuckPlace_5 : decode cX10_stuckPlace 5 = .ok (.invokevirtual 83, 3) := by decide +kernel
theorem dX10_stuckPlace_8 : decode cX10_stuckPlace 8 = .ok (.if_icmp .ge 7, 3) := by decide +kernel
theorem dX10_stuckPlace_11 : decode cX10_stuckPlace 11 = .ok (.iload_n 1, 1) := by decide +kernel
theorem dX10_stuckPlace_12 : decode cX10_stuckPlace 12 = .ok (.goto 4, 3) := by decide +kernel
theorem dX10_stuckPlace_15 : decode cX10_stuckPlace 15 = .ok (.iconst (-1), 1) := by decide +kernel
theorem dX10_stuckPlace_16 : decode cX10_stuckPlace 16 = .ok (.ireturn, 1) := by decide +kernel
theorem dX10_hashNumber_0 : decode cX10_hashNumber 0 = .ok (.ldc2_w 246, 3) := by decide +kernel
theorem dX10_hashNumber_3 : decode cX10_hashNumber 3 = .ok (.lload_n 0, 1) := by decide +kernel
theorem dX10_hashNumber_4 : decode cX10_hashNumber 4 = .ok (.lmul, 1) := by decide +kernel
theorem dX10_hashNumber_5 : decode cX10_hashNumber 5 = .ok (.iload_n 2, 1) := by decide +kernel
theorem dX10_hashNumber_6 : decode cX10_hashNumber 6 = .ok (.i2l, 1) := by decide +kernel
theorem dX10_hashNumber_7 : decode cX10_hashNumber 7 = .ok (.ladd, 1) := by decide +kernel
theorem dX10_hashNumber_8 : decode cX10_hashNumber 8 = .ok (.lreturn, 1) := by decide +kernel
theorem dX10_hashLine_0 : decode cX10_hashLine 0 = .ok (.lload_n 0, 1) := by decide +kernel
theorem dX10_hashLine_1 : decode cX10_hashLine 1 = .ok (.lstore_n 3, 1) := by decide +kernel
theorem dX10_hashLine_2 : decode cX10_hashLine 2 = .ok (.iconst 0, 1) := by decide +kernel
theorem dX10_hashLine_3 : decode cX10_hashLine 3 = .ok (.istore 5, 2) := by decide +kernel
theorem dX10_hashLine_5 : decode cX10_hashLine 5 = .ok (.iload 5, 2) := by decide +kernel
theorem dX10_hashLine_7 : decode cX10_hashLine 7 = .ok (.aload_n 2, 1) := by decide +kernel
theorem dX10_hashLine_8 : decode cX10_hashLine 8 = .ok (.invokevirtual 83, 3) := by decide +kernel
theorem dX10_hashLine_11 : decode cX10_hashLine 11 = .ok (.if_icmp .ge 20, 3) := by decide +kernel
theorem dX10_hashLine_14 : decode cX10_hashLine 14 = .ok (.lload_n 3, 1) := by decide +kernel
theorem dX10_hashLine_15 : decode cX10_hashLine 15 = .ok (.aload_n 2, 1) := by decide +kernel
theorem dX10_hashLine_16 : decode cX10_hashLine 16 = .ok (.iload 5, 2) := by decide +kernel
theorem dX10_hashLine_18 : decode cX10_hashLine 18 = .ok (.invokevirtual 148, 3) := by decide +kernel
theorem dX10_hashLine_21 : decode cX10_hashLine 21 = .ok (.invokestatic 233, 3) := by decide +kernel
theorem dX10_hashLine_24 : decode cX10_hashLine 24 = .ok (.lstore_n 3, 1) := by decide +kernel
theorem dX10_hashLine_25 : decode cX10_hashLine 25 = .ok (.iinc 5 1, 3) := by decide +kernel
theorem dX10_hashLine_28 : decode cX10_hashLine 28 = .ok (.goto (-23), 3) := by decide +kernel
theorem dX10_hashLine_31 : decode cX10_hashLine 31 = .ok (.lload_n 3, 1) := by decide +kernel
theorem dX10_hashLine_32 : decode cX10_hashLine 32 = .ok (.lreturn, 1) := by decide +kernel
theorem dX10_hashWord_0 : decode cX10_hashWord 0 = .ok (.lload_n 0, 1) := by decide +kernel
theorem dX10_hashWord_1 : decode cX10_hashWord 1 = .ok (.lstore_n 3, 1) := by decide +kernel
theorem dX10_hashWord_2 : decode cX10_hashWord 2 = .ok (.iload_n 2, 1) := by decide +kernel
theorem dX10_hashWord_3 : decode cX10_hashWord 3 = .ok (.invokestatic 152, 3) := by decide +kernel
theorem dX10_hashWord_6 : decode cX10_hashWord 6 = .ok (.istore 5, 2) := by decide +kernel
theorem dX10_hashWord_8 : decode cX10_hashWord 8 = .ok (.iconst 0, 1) := by decide +kernel
theorem dX10_hashWord_9 : decode cX10_hashWord 9 = .ok (.istore 6, 2) := by decide +kernel
theorem dX10_hashWord_11 : decode cX10_hashWord 11 = .ok (.iload 6, 2) := by decide +kernel
theorem dX10_hashWord_13 : decode cX10_hashWord 13 = .ok (.iload 5, 2) := by decide +kernel
theorem dX10_hashWord_15 : decode cX10_hashWord 15 = .ok (.if_icmp .ge 20, 3) := by decide +kernel
theorem dX10_hashWord_18 : decode cX10_hashWord 18 = .ok (.lload_n 3, 1) := by decide +kernel
theorem dX10_hashWord_19 : decode cX10_hashWord 19 = .ok (.iload_n 2, 1) := by decide +kernel
theorem dX10_hashWord_20 : decode cX10_hashWord 20 = .ok (.iload 6, 2) := by decide +kernel
theorem dX10_hashWord_22 : decode cX10_hashWord 22 = .ok (.invokestatic 164, 3) := by decide +kernel
theorem dX10_hashWord_25 : decode cX10_hashWord 25 = .ok (.invokestatic 233, 3) := by decide +kernel
theorem dX10_hashWord_28 : decode cX10_hashWord 28 = .ok (.lstore_n 3, 1) := by decide +kernel
theorem dX10_hashWord_29 : decode cX10_hashWord 29 = .ok (.iinc 6 1, 3) := by decide +kernel
theorem dX10_hashWord_32 : decode cX10_hashWord 32 = .ok (.goto (-21), 3) := by decide +kernel
theorem dX10_hashWord_35 : decode cX10_hashWord 35 = .ok (.lload_n 3, 1) := by decide +kernel
theorem dX10_hashWord_36 : decode cX10_hashWord 36 = .ok (.lreturn, 1) := by decide +kernel
theorem dX10_forgetTable_0 : decode cX10_forgetTable 0 = .ok (.aload_n 0, 1) := by decide +kernel
theorem dX10_forgetTable_1 : decode cX10_forgetTable 1 = .ok (.iconst 0, 1) := by decide +kernel
theorem dX10_forgetTable_2 : decode cX10_forgetTable 2 = .ok (.putfield 66, 3) := by decide +kernel
theorem dX10_forgetTable_5 : decode cX10_forgetTable 5 = .ok (.aload_n 0, 1) := by decide +kernel
theorem dX10_forgetTable_6 : decode cX10_forgetTable 6 = .ok (.iconst 0, 1) := by decide +kernel
theorem dX10_forgetTable_7 : decode cX10_forgetTable 7 = .ok (.putfield 70, 3) := by decide +kernel
theorem dX10_forgetTable_10 : decode cX10_forgetTable 10 = .ok (.return_, 1) := by decide +kernel
theorem dX10_knowClashes_0 : decode cX10_knowClashes 0 = .ok (.aload_n 0, 1) := by decide +kernel
theorem dX10_knowClashes_1 : decode cX10_knowClashes 1 = .ok (.getfield 66, 3) := by decide +kernel
theorem dX10_knowClashes_4 : decode cX10_knowClashes 4 = .ok (.ifCond .ne 22, 3) := by decide +kernel
theorem dX10_knowClashes_7 : decode cX10_knowClashes 7 = .ok (.aload_n 0, 1) := by decide +kernel
theorem dX10_knowClashes_8 : decode cX10_knowClashes 8 = .ok (.getfield 48, 3) := by decide +kernel
theorem dX10_knowClashes_11 : decode cX10_knowClashes 11 = .ok (.aload_n 0, 1) := by decide +kernel
theorem dX10_knowClashes_12 : decode cX10_knowClashes 12 = .ok (.getfield 10, 3) := by decide +kernel
theorem dX10_knowClashes_15 : decode cX10_knowClashes 15 = .ok (.getfield 157, 3) := by decide +kernel
theorem dX10_knowClashes_18 : decode cX10_knowClashes 18 = .ok (.invokevirtual 248, 3) := by decide +kernel
theorem dX10_knowClashes_21 : decode cX10_knowClashes 21 = .ok (.aload_n 0, 1) := by decide +kernel
theorem dX10_knowClashes_22 : decode cX10_knowClashes 22 = .ok (.iconst 1, 1) := by decide +kernel
theorem dX10_knowClashes_23 : decode cX10_knowClashes 23 = .ok (.putfield 66, 3) := by decide +kernel
theorem dX10_knowClashes_26 : decode cX10_knowClashes 26 = .ok (.return_, 1) := by decide +kernel
theorem dX10_knowPartings_0 : decode cX10_knowPartings 0 = .ok (.aload_n 0, 1) := by decide +kernel
theorem dX10_knowPartings_1 : decode cX10_knowPartings 1 = .ok (.getfield 70, 3) := by decide +kernel
theorem dX10_knowPartings_4 : decode cX10_knowPartings 4 = .ok (.ifCond .ne 19, 3) := by decide +kernel
theorem dX10_knowPartings_7 : decode cX10_knowPartings 7 = .ok (.aload_n 0, 1) := by decide +kernel
theorem dX10_knowPartings_8 : decode cX10_knowPartings 8 = .ok (.getfield 55, 3) := by decide +kernel
theorem dX10_knowPartings_11 : decode cX10_knowPartings 11 = .ok (.aload_n 0, 1) := by decide +kernel
theorem dX10_knowPartings_12 : decode cX10_knowPartings 12 = .ok (.getfield 10, 3) := by decide +kernel
theorem dX10_knowPartings_15 : decode cX10_knowPartings 15 = .ok (.invokevirtual 251, 3) := by decide +kernel
theorem dX10_knowPartings_18 : decode cX10_knowPartings 18 = .ok (.aload_n 0, 1) := by decide +kernel
theorem dX10_knowPartings_19 : decode cX10_knowPartings 19 = .ok (.iconst 1, 1) := by decide +kernel
theorem dX10_knowPartings_20 : decode cX10_knowPartings 20 = .ok (.putfield 70, 3) := by decide +kernel
theorem dX10_knowPartings_23 : decode cX10_knowPartings 23 = .ok (.return_, 1) := by decide +kernel
theorem dX10_isSmall_0 : decode cX10_isSmall 0 = .ok (.iload_n 0, 1) := by decide +kernel
theorem dX10_isSmall_1 : decode cX10_isSmall 1 = .ok (.bipush 97, 2) := by decide +kernel
theorem dX10_isSmall_3 : decode cX10_isSmall 3 = .ok (.if_icmp .lt 13, 3) := by decide +kernel
theorem dX10_isSmall_6 : decode cX10_isSmall 6 = .ok (.iload_n 0, 1) := by decide +kernel
theorem dX10_isSmall_7 : decode cX10_isSmall 7 = .ok (.bipush 122, 2) := by decide +kernel
theorem dX10_isSmall_9 : decode cX10_isSmall 9 = .ok (.if_icmp .gt 7, 3) := by decide +kernel
theorem dX10_isSmall_12 : decode cX10_isSmall 12 = .ok (.iconst 1, 1) := by decide +kernel
theorem dX10_isSmall_13 : decode cX10_isSmall 13 = .ok (.goto 4, 3) := by decide +kernel
theorem dX10_isSmall_16 : decode cX10_isSmall 16 = .ok (.iconst 0, 1) := by decide +kernel
theorem dX10_isSmall_17 : decode cX10_isSmall 17 = .ok (.ireturn, 1) := by decide +kernel
theorem dX10_isCapital_0 : decode cX10_isCapital 0 = .ok (.iload_n 0, 1) := by decide +kernel
theorem dX10_isCapital_1 : decode cX10_isCapital 1 = .ok (.bipush 65, 2) := by decide +kernel
theorem dX10_isCapital_3 : decode cX10_isCapital 3 = .ok (.if_icmp .lt 13, 3) := by decide +kernel
theorem dX10_isCapital_6 : decode cX10_isCapital 6 = .ok (.iload_n 0, 1) := by decide +kernel
theorem dX10_isCapital_7 : decode cX10_isCapital 7 = .ok (.bipush 90, 2) := by decide +kernel
theorem dX10_isCapital_9 : decode cX10_isCapital 9 = .ok (.if_icmp .gt 7, 3) := by decide +kernel
theorem dX10_isCapital_12 : decode cX10_isCapital 12 = .ok (.iconst 1, 1) := by decide +kernel
theorem dX10_isCapital_13 : decode cX10_isCapital 13 = .ok (.goto 4, 3) := by decide +kernel
theorem dX10_isCapital_16 : decode cX10_isCapital 16 = .ok (.iconst 0, 1) := by decide +kernel
theorem dX10_isCapital_17 : decode cX10_isCapital 17 = .ok (.ireturn, 1) := by decide +kernel
theorem dX10_onlySmall_0 : decode cX10_onlySmall 0 = .ok (.iconst 0, 1) := by decide +kernel
theorem dX10_onlySmall_1 : decode cX10_onlySmall 1 = .ok (.istore_n 1, 1) := by decide +kernel
theorem dX10_onlySmall_2 : decode cX10_onlySmall 2 = .ok (.iload_n 1, 1) := by decide +kernel
theorem dX10_onlySmall_3 : decode cX10_onlySmall 3 = .ok (.aload_n 0, 1) := by decide +kernel
theorem dX10_onlySmall_4 : decode cX10_onlySmall 4 = .ok (.invokevirtual 83, 3) := by decide +kernel
theorem dX10_onlySmall_7 : decode cX10_onlySmall 7 = .ok (.if_icmp .ge 22, 3) := by decide +kernel
theorem dX10_onlySmall_10 : decode cX10_onlySmall 10 = .ok (.aload_n 0, 1) := by decide +kernel
theorem dX10_onlySmall_11 : decode cX10_onlySmall 11 = .ok (.iload_n 1, 1) := by decide +kernel
theorem dX10_onlySmall_12 : decode cX10_onlySmall 12 = .ok (.invokevirtual 148, 3) := by decide +kernel
theorem dX10_onlySmall_15 : decode cX10_onlySmall 15 = .ok (.invokestatic 254, 3) := by decide +kernel
theorem dX10_onlySmall_18 : decode cX10_onlySmall 18 = .ok (.ifCond .ne 5, 3) := by decide +kernel
end
section
theorem dX10_onlySmall_21 : decode cX10_onlySmall 21 = .ok (.iconst 0, 1) := by decide +kernel
theorem dX10_onlySmall_22 : decode cX10_onlySmall 22 = .ok (.ireturn, 1) := by decide +kernel
theorem dX10_onlySmall_23 : decode cX10_onlySmall 23 = .ok (.iinc 1 1, 3) := by decide +kernel
theorem dX10_onlySmall_26 : decode cX10_onlySmall 26 = .ok (.goto (-24), 3) := by decide +kernel
theorem dX10_onlySmall_29 : decode cX10_onlySmall 29 = .ok (.iconst 1, 1) := by decide +kernel
theorem dX10_onlySmall_30 : decode cX10_onlySmall 30 = .ok (.ireturn, 1) := by decide +kernel
theorem dX10_onlyInk_0 : decode cX10_onlyInk 0 = .ok (.iconst 0, 1) := by decide +kernel
theorem dX10_onlyInk_1 : decode cX10_onlyInk 1 = .ok (.istore_n 1, 1) := by decide +kernel
theorem dX10_onlyInk_2 : decode cX10_onlyInk 2 = .ok (.iload_n 1, 1) := by decide +kernel
theorem dX10_onlyInk_3 : decode cX10_onlyInk 3 = .ok (.aload_n 0, 1) := by decide +kernel
theorem dX10_onlyInk_4 : decode cX10_onlyInk 4 = .ok (.invokevirtual 83, 3) := by decide +kernel
theorem dX10_onlyInk_7 : decode cX10_onlyInk 7 = .ok (.if_icmp .ge 30, 3) := by decide +kernel
theorem dX10_onlyInk_10 : decode cX10_onlyInk 10 = .ok (.aload_n 0, 1) := by decide +kernel
theorem dX10_onlyInk_11 : decode cX10_onlyInk 11 = .ok (.iload_n 1, 1) := by decide +kernel
theorem dX10_onlyInk_12 : decode cX10_onlyInk 12 = .ok (.invokevirtual 148, 3) := by decide +kernel
theorem dX10_onlyInk_15 : decode cX10_onlyInk 15 = .ok (.istore_n 2, 1) := by decide +kernel
theorem dX10_onlyInk_16 : decode cX10_onlyInk 16 = .ok (.iload_n 2, 1) := by decide +kernel
theorem dX10_onlyInk_17 : decode cX10_onlyInk 17 = .ok (.invokestatic 257, 3) := by decide +kernel
theorem dX10_onlyInk_20 : decode cX10_onlyInk 20 = .ok (.ifCond .ne 11, 3) := by decide +kernel
theorem dX10_onlyInk_23 : decode cX10_onlyInk 23 = .ok (.iload_n 2, 1) := by decide +kernel
theorem dX10_onlyInk_24 : decode cX10_onlyInk 24 = .ok (.bipush 39, 2) := by decide +kernel
theorem dX10_onlyInk_26 : decode cX10_onlyInk 26 = .ok (.if_icmp .eq 5, 3) := by decide +kernel
theorem dX10_onlyInk_29 : decode cX10_onlyInk 29 = .ok (.iconst 0, 1) := by decide +kernel
theorem dX10_onlyInk_30 : decode cX10_onlyInk 30 = .ok (.ireturn, 1) := by decide +kernel
theorem dX10_onlyInk_31 : decode cX10_onlyInk 31 = .ok (.iinc 1 1, 3) := by decide +kernel
theorem dX10_onlyInk_34 : decode cX10_onlyInk 34 = .ok (.goto (-32), 3) := by decide +kernel
theorem dX10_onlyInk_37 : decode cX10_onlyInk 37 = .ok (.iconst 1, 1) := by decide +kernel
theorem dX10_onlyInk_38 : decode cX10_onlyInk 38 = .ok (.ireturn, 1) := by decide +kernel
end
section
theorem dX11_init_0 : decode cX11_init 0 = .ok (.aload_n 0, 1) := by decide +kernel
theorem dX11_init_1 : decode cX11_init 1 = .ok (.invokespecial 1, 3) := by decide +kernel
theorem dX11_init_4 : decode cX11_init 4 = .ok (.aload_n 0, 1) := by decide +kernel
theorem dX11_init_5 : decode cX11_init 5 = .ok (.bipush 8, 2) := by decide +kernel
theorem dX11_init_7 : decode cX11_init 7 = .ok (.newarray .int, 2) := by decide +kernel
theorem dX11_init_9 : decode cX11_init 9 = .ok (.putfield 7, 3) := by decide +kernel
theorem dX11_init_12 : decode cX11_init 12 = .ok (.aload_n 0, 1) := by decide +kernel
theorem dX11_init_13 : decode cX11_init 13 = .ok (.bipush 8, 2) := by decide +kernel
theorem dX11_init_15 : decode cX11_init 15 = .ok (.newarray .int, 2) := by decide +kernel
theorem dX11_init_17 : decode cX11_init 17 = .ok (.putfield 13, 3) := by decide +kernel
theorem dX11_init_20 : decode cX11_init 20 = .ok (.aload_n 0, 1) := by decide +kernel
theorem dX11_init_21 : decode cX11_init 21 = .ok (.bipush 24, 2) := by decide +kernel
theorem dX11_init_23 : decode cX11_init 23 = .ok (.newarray .int, 2) := by decide +kernel
theorem dX11_init_25 : decode cX11_init 25 = .ok (.putfield 16, 3) := by decide +kernel
theorem dX11_init_28 : decode cX11_init 28 = .ok (.aload_n 0, 1) := by decide +kernel
theorem dX11_init_29 : decode cX11_init 29 = .ok (.bipush 24, 2) := by decide +kernel
theorem dX11_init_31 : decode cX11_init 31 = .ok (.newarray .int, 2) := by decide +kernel
theorem dX11_init_33 : decode cX11_init 33 = .ok (.putfield 19, 3) := by decide +kernel
theorem dX11_init_36 : decode cX11_init 36 = .ok (.aload_n 0, 1) := by decide +kernel
theorem dX11_init_37 : decode cX11_init 37 = .ok (.bipush 56, 2) := by decide +kernel
theorem dX11_init_39 : decode cX11_init 39 = .ok (.newarray .int, 2) := by decide +kernel
theorem dX11_init_41 : decode cX11_init 41 = .ok (.putfield 22, 3) := by decide +kernel
theorem dX11_init_44 : decode cX11_init 44 = .ok (.aload_n 0, 1) := by decide +kernel
theorem dX11_init_45 : decode cX11_init 45 = .ok (.bipush 56, 2) := by decide +kernel
theorem dX11_init_47 : decode cX11_init 47 = .ok (.newarray .int, 2) := by decide +kernel
theorem dX11_init_49 : decode cX11_init 49 = .ok (.putfield 25, 3) := by decide +kernel
theorem dX11_init_52 : decode cX11_init 52 = .ok (.aload_n 0, 1) := by decide +kernel
theorem dX11_init_53 : decode cX11_init 53 = .ok (.bipush 8, 2) := by decide +kernel
theorem dX11_init_55 : decode cX11_init 55 = .ok (.newarray .int, 2) := by decide +kernel
theorem dX11_init_57 : decode cX11_init 57 = .ok (.putfield 28, 3) := by decide +kernel
theorem dX11_init_60 : decode cX11_init 60 = .ok (.aload_n 0, 1) := by decide +kernel
theorem dX11_init_61 : decode cX11_init 61 = .ok (.bipush 8, 2) := by decide +kernel
theorem dX11_init_63 : decode cX11_init 63 = .ok (.newarray .int, 2) := by decide +kernel
theorem dX11_init_65 : decode cX11_init 65 = .ok (.putfield 31, 3) := by decide +kernel
theorem dX11_init_68 : decode cX11_init 68 = .ok (.aload_n 0, 1) := by decide +kernel
theorem dX11_init_69 : decode cX11_init 69 = .ok (.bipush 24, 2) := by decide +kernel
theorem dX11_init_71 : decode cX11_init 71 = .ok (.newarray .int, 2) := by decide +kernel
theorem dX11_init_73 : decode cX11_init 73 = .ok (.putfield 34, 3) := by decide +kernel
theorem dX11_init_76 : decode cX11_init 76 = .ok (.aload_n 0, 1) := by decide +kernel
theorem dX11_init_77 : decode cX11_init 77 = .ok (.bipush 24, 2) := by decide +kernel
theorem dX11_init_79 : decode cX11_init 79 = .ok (.newarray .int, 2) := by decide +kernel
theorem dX11_init_81 : decode cX11_init 81 = .ok (.putfield 37, 3) := by decide +kernel
theorem dX11_init_84 : decode cX11_init 84 = .ok (.aload_n 0, 1) := by decide +kernel
theorem dX11_init_85 : decode cX11_init 85 = .ok (.bipush 12, 2) := by decide +kernel
theorem dX11_init_87 : decode cX11_init 87 = .ok (.newarray .int, 2) := by decide +kernel
theorem dX11_init_89 : decode cX11_init 89 = .ok (.putfield 40, 3) := by decide +kernel
theorem dX11_init_92 : decode cX11_init 92 = .ok (.aload_n 0, 1) := by decide +kernel
theorem dX11_init_93 : decode cX11_init 93 = .ok (.sipush 200, 3) := by decide +kernel
theorem dX11_init_96 : decode cX11_init 96 = .ok (.newarray .int, 2) := by decide +kernel
theorem dX11_init_98 : decode cX11_init 98 = .ok (.putfield 43, 3) := by decide +kernel
theorem dX11_init_101 : decode cX11_init 101 = .ok (.aload_n 0, 1) := by decide +kernel
theorem dX11_init_102 : decode cX11_init 102 = .ok (.sipush 201, 3) := by decide +kernel
theorem dX11_init_105 : decode cX11_init 105 = .ok (.newarray .int, 2) := by decide +kernel
theorem dX11_init_107 : decode cX11_init 107 = .ok (.putfield 46, 3) := by decide +kernel
theorem dX11_init_110 : decode cX11_init 110 = .ok (.aload_n 0, 1) := by decide +kernel
theorem dX11_init_111 : decode cX11_init 111 = .ok (.sipush 201, 3) := by decide +kernel
theorem dX11_init_114 : decode cX11_init 114 = .ok (.newarray .int, 2) := by decide +kernel
theorem dX11_init_116 : decode cX11_init 116 = .ok (.putfield 49, 3) := by decide +kernel
theorem dX11_init_119 : decode cX11_init 119 = .ok (.aload_n 0, 1) := by decide +kernel
theorem dX11_init_120 : decode cX11_init 120 = .ok (.sipush 200, 3) := by decide +kernel
theorem dX11_init_123 : decode cX11_init 123 = .ok (.newarray .int, 2) := by decide +kernel
theorem dX11_init_125 : decode cX11_init 125 = .ok (.putfield 52, 3) := by decide +kernel
theorem dX11_init_128 : decode cX11_init 128 = .ok (.aload_n 0, 1) := by decide +kernel
theorem dX11_init_129 : decode cX11_init 129 = .ok (.bipush 40, 2) := by decide +kernel
theorem dX11_init_131 : decode cX11_init 131 = .ok (.newarray .boolean, 2) := by decide +kernel
theorem dX11_init_133 : decode cX11_init 133 = .ok (.putfield 55, 3) := by decide +kernel
theorem dX11_init_136 : decode cX11_init 136 = .ok (.aload_n 0, 1) := by decide +kernel
theorem dX11_init_137 : decode cX11_init 137 = .ok (.bipush 40, 2) := by decide +kernel
theorem dX11_init_139 : decode cX11_init 139 = .ok (.newarray .int, 2) := by decide +kernel
theorem dX11_init_141 : decode cX11_init 141 = .ok (.putfield 59, 3) := by decide +kernel
theorem dX11_init_144 : decode cX11_init 144 = .ok (.aload_n 0, 1) := by decide +kernel
theorem dX11_init_145 : decode cX11_init 145 = .ok (.sipush 8000, 3) := by decide +kernel
theorem dX11_init_148 : decode cX11_init 148 = .ok (.newarray .int, 2) := by decide +kernel
theorem dX11_init_150 : decode cX11_init 150 = .ok (.putfield 62, 3) := by decide +kernel
theorem dX11_init_153 : decode cX11_init 153 = .ok (.aload_n 0, 1) := by decide +kernel
theorem dX11_init_154 : decode cX11_init 154 = .ok (.sipush 200, 3) := by decide +kernel
theorem dX11_init_157 : decode cX11_init 157 = .ok (.newarray .int, 2) := by decide +kernel
theorem dX11_init_159 : decode cX11_init 159 = .ok (.putfield 65, 3) := by decide +kernel
theorem dX11_init_162 : decode cX11_init 162 = .ok (.aload_n 0, 1) := by decide +kernel
theorem dX11_init_163 : decode cX11_init 163 = .ok (.sipush 200, 3) := by decide +kernel
theorem dX11_init_166 : decode cX11_init 166 = .ok (.newarray .int, 2) := by decide +kernel
theorem dX11_init_168 : decode cX11_init 168 = .ok (.putfield 68, 3) := by decide +kernel
theorem dX11_init_171 : decode cX11_init 171 = .ok (.return_, 1) := by decide +kernel
theorem dX11_within_0 : decode cX11_within 0 = .ok (.iload_n 0, 1) := by decide +kernel
theorem dX11_within_1 : decode cX11_within 1 = .ok (.iload_n 1, 1) := by decide +kernel
theorem dX11_within_2 : decode cX11_within 2 = .ok (.if_icmp .lt 12, 3) := by decide +kernel
theorem dX11_within_5 : decode cX11_within 5 = .ok (.iload_n 0, 1) := by decide +kernel
theorem dX11_within_6 : decode cX11_within 6 = .ok (.iload_n 2, 1) := by decide +kernel
theorem dX11_within_7 : decode cX11_within 7 = .ok (.if_icmp .gt 7, 3) := by decide +kernel
theorem dX11_within_10 : decode cX11_within 10 = .ok (.iconst 1, 1) := by decide +kernel
theorem dX11_within_11 : decode cX11_within 11 = .ok (.goto 4, 3) := by decide +kernel
theorem dX11_within_14 : decode cX11_within 14 = .ok (.iconst 0, 1) := by decide +kernel
theorem dX11_within_15 : decode cX11_within 15 = .ok (.ireturn, 1) := by decide +kernel
theorem dX11_isSmall_0 : decode cX11_isSmall 0 = .ok (.iload_n 0, 1) := by decide +kernel
theorem dX11_isSmall_1 : decode cX11_isSmall 1 = .ok (.bipush 97, 2) := by decide +kernel
theorem dX11_isSmall_3 : decode cX11_isSmall 3 = .ok (.bipush 122, 2) := by decide +kernel
theorem dX11_isSmall_5 : decode cX11_isSmall 5 = .ok (.invokestatic 71, 3) := by decide +kernel
theorem dX11_isSmall_8 : decode cX11_isSmall 8 = .ok (.ireturn, 1) := by decide +kernel
theorem dX11_isGreat_0 : decode cX11_isGreat 0 = .ok (.iload_n 0, 1) := by decide +kernel
theorem dX11_isGreat_1 : decode cX11_isGreat 1 = .ok (.bipush 65, 2) := by decide +kernel
theorem dX11_isGreat_3 : decode cX11_isGreat 3 = .ok (.bipush 90, 2) := by decide +kernel
theorem dX11_isGreat_5 : decode cX11_isGreat 5 = .ok (.invokestatic 71, 3) := by decide +kernel
theorem dX11_isGreat_8 : decode cX11_isGreat 8 = .ok (.ireturn, 1) := by decide +kernel
theorem dX11_letter_0 : decode cX11_letter 0 = .ok (.iload_n 1, 1) := by decide +kernel
theorem dX11_letter_1 : decode cX11_letter 1 = .ok (.bipush 32, 2) := by decide +kernel
theorem dX11_letter_3 : decode cX11_letter 3 = .ok (.bipush 126, 2) := by decide +kernel
theorem dX11_letter_5 : decode cX11_letter 5 = .ok (.invokestatic 71, 3) := by decide +kernel
theorem dX11_letter_8 : decode cX11_letter 8 = .ok (.ifCond .ne 6, 3) := by decide +kernel
theorem dX11_letter_11 : decode cX11_letter 11 = .ok (.bipush (-102), 2) := by decide +kernel
theorem dX11_letter_13 : decode cX11_letter 13 = .ok (.ireturn, 1) := by decide +kernel
theorem dX11_letter_14 : decode cX11_letter 14 = .ok (.aload_n 0, 1) := by decide +kernel
theorem dX11_letter_15 : decode cX11_letter 15 = .ok (.getfield 75, 3) := by decide +kernel
theorem dX11_letter_18 : decode cX11_letter 18 = .ok (.bipush 56, 2) := by decide +kernel
theorem dX11_letter_20 : decode cX11_letter 20 = .ok (.if_icmp .ne 6, 3) := by decide +kernel
theorem dX11_letter_23 : decode cX11_letter 23 = .ok (.bipush (-104), 2) := by decide +kernel
theorem dX11_letter_25 : decode cX11_letter 25 = .ok (.ireturn, 1) := by decide +kernel
theorem dX11_letter_26 : decode cX11_letter 26 = .ok (.aload_n 0, 1) := by decide +kernel
theorem dX11_letter_27 : decode cX11_letter 27 = .ok (.getfield 25, 3) := by decide +kernel
theorem dX11_letter_30 : decode cX11_letter 30 = .ok (.aload_n 0, 1) := by decide +kernel
theorem dX11_letter_31 : decode cX11_letter 31 = .ok (.getfield 75, 3) := by decide +kernel
theorem dX11_letter_34 : decode cX11_letter 34 = .ok (.iload_n 1, 1) := by decide +kernel
theorem dX11_letter_35 : decode cX11_letter 35 = .ok (.iastore, 1) := by decide +kernel
theorem dX11_letter_36 : decode cX11_letter 36 = .ok (.aload_n 0, 1) := by decide +kernel
theorem dX11_letter_37 : decode cX11_letter 37 = .ok (.dup, 1) := by decide +kernel
theorem dX11_letter_38 : decode cX11_letter 38 = .ok (.getfield 75, 3) := by decide +kernel
theorem dX11_letter_41 : decode cX11_letter 41 = .ok (.iconst 1, 1) := by decide +kernel
theorem dX11_letter_42 : decode cX11_letter 42 = .ok (.iadd, 1) := by decide +kernel
theorem dX11_letter_43 : decode cX11_letter 43 = .ok (.putfield 75, 3) := by decide +kernel
theorem dX11_letter_46 : decode cX11_letter 46 = .ok (.aload_n 0, 1) := by decide +kernel
theorem dX11_letter_47 : decode cX11_letter 47 = .ok (.getfield 75, 3) := by decide +kernel
theorem dX11_letter_50 : decode cX11_letter 50 = .ok (.ireturn, 1) := by decide +kernel
theorem dX11_blank_0 : decode cX11_blank 0 = .ok (.aload_n 0, 1) := by decide +kernel
theorem dX11_blank_1 : decode cX11_blank 1 = .ok (.getfield 75, 3) := by decide +kernel
theorem dX11_blank_4 : decode cX11_blank 4 = .ok (.istore_n 1, 1) := by decide +kernel
theorem dX11_blank_5 : decode cX11_blank 5 = .ok (.aload_n 0, 1) := by decide +kernel
theorem dX11_blank_6 : decode cX11_blank 6 = .ok (.iconst 0, 1) := by decide +kernel
theorem dX11_blank_7 : decode cX11_blank 7 = .ok (.putfield 75, 3) := by decide +kernel
theorem dX11_blank_10 : decode cX11_blank 10 = .ok (.iload_n 1, 1) := by decide +kernel
theorem dX11_blank_11 : decode cX11_blank 11 = .ok (.ireturn, 1) := by decide +kernel
theorem dX11_isTwice_0 : decode cX11_isTwice 0 = .ok (.iconst 0, 1) := by decide +kernel
theorem dX11_isTwice_1 : decode cX11_isTwice 1 = .ok (.istore_n 1, 1) := by decide +kernel
theorem dX11_isTwice_2 : decode cX11_isTwice 2 = .ok (.iconst 0, 1) := by decide +kernel
theorem dX11_isTwice_3 : decode cX11_isTwice 3 = .ok (.istore_n 2, 1) := by decide +kernel
theorem dX11_isTwice_4 : decode cX11_isTwice 4 = .ok (.iload_n 2, 1) := by decide +kernel
theorem dX11_isTwice_5 : decode cX11_isTwice 5 = .ok (.aload_n 0, 1) := by decide +kernel
theorem dX11_isTwice_6 : decode cX11_isTwice 6 = .ok (.getfield 79, 3) := by decide +kernel
theorem dX11_isTwice_9 : decode cX11_isTwice 9 = .ok (.if_icmp .ge 108, 3) := by decide +kernel
theorem dX11_isTwice_12 : decode cX11_isTwice 12 = .ok (.aload_n 0, 1) := by decide +kernel
theorem dX11_isTwice_13 : decode cX11_isTwice 13 = .ok (.getfield 28, 3) := by decide +kernel
theorem dX11_isTwice_16 : decode cX11_isTwice 16 = .ok (.iload_n 2, 1) := by decide +kernel
theorem dX11_isTwice_17 : decode cX11_isTwice 17 = .ok (.iaload, 1) := by decide +kernel
theorem dX11_isTwice_18 : decode cX11_isTwice 18 = .ok (.aload_n 0, 1) := by decide +kernel
theorem dX11_isTwice_19 : decode cX11_isTwice 19 = .ok (.getfield 28, 3) := by decide +kernel
theorem dX11_isTwice_22 : decode cX11_isTwice 22 = .ok (.aload_n 0, 1) := by decide +kernel
theorem dX11_isTwice_23 : decode cX11_isTwice 23 = .ok (.getfield 79, 3) := by decide +kernel
theorem dX11_isTwice_26 : decode cX11_isTwice 26 = .ok (.iaload, 1) := by decide +kernel
theorem dX11_isTwice_27 : decode cX11_isTwice 27 = .ok (.if_icmp .ne 7, 3) := by decide +kernel
theorem dX11_isTwice_30 : decode cX11_isTwice 30 = .ok (.iconst 1, 1) := by decide +kernel
theorem dX11_isTwice_31 : decode cX11_isTwice 31 = .ok (.goto 4, 3) := by decide +kernel
theorem dX11_isTwice_34 : decode cX11_isTwice 34 = .ok (.iconst 0, 1) := by decide +kernel
theorem dX11_isTwice_35 : decode cX11_isTwice 35 = .ok (.istore_n 3, 1) := by decide +kernel
theorem dX11_isTwice_36 : decode cX11_isTwice 36 = .ok (.iconst 0, 1) := by decide +kernel
theorem dX11_isTwice_37 : decode cX11_isTwice 37 = .ok (.istore 4, 2) := by decide +kernel
theorem dX11_isTwice_39 : decode cX11_isTwice 39 = .ok (.iload 4, 2) := by decide +kernel
theorem dX11_isTwice_41 : decode cX11_isTwice 41 = .ok (.aload_n 0, 1) := by decide +kernel
theorem dX11_isTwice_42 : decode cX11_isTwice 42 = .ok (.getfield 28, 3) := by decide +kernel
theorem dX11_isTwice_45 : decode cX11_isTwice 45 = .ok (.aload_n 0, 1) := by decide +kernel
theorem dX11_isTwice_46 : decode cX11_isTwice 46 = .ok (.getfield 79, 3) := by decide +kernel
theorem dX11_isTwice_49 : decode cX11_isTwice 49 = .ok (.iaload, 1) := by decide +kernel
theorem dX11_isTwice_50 : decode cX11_isTwice 50 = .ok (.if_icmp .ge 47, 3) := by decide +kernel
theorem dX11_isTwice_53 : decode cX11_isTwice 53 = .ok (.iload_n 3, 1) := by decide +kernel
theorem dX11_isTwice_54 : decode cX11_isTwice 54 = .ok (.ifCond .eq 35, 3) := by decide +kernel
theorem dX11_isTwice_57 : decode cX11_isTwice 57 = .ok (.aload_n 0, 1) := by decide +kernel
theorem dX11_isTwice_58 : decode cX11_isTwice 58 = .ok (.getfield 34, 3) := by decide +kernel
theorem dX11_isTwice_61 : decode cX11_isTwice 61 = .ok (.iconst 3, 1) := by decide +kernel
theorem dX11_isTwice_62 : decode cX11_isTwice 62 = .ok (.iload_n 2, 1) := by decide +kernel
theorem dX11_isTwice_63 : decode cX11_isTwice 63 = .ok (.imul, 1) := by decide +kernel
theorem dX11_isTwice_64 : decode cX11_isTwice 64 = .ok (.iload 4, 2) := by decide +kernel
theorem dX11_isTwice_66 : decode cX11_isTwice 66 = .ok (.iadd, 1) := by decide +kernel
theorem dX11_isTwice_67 : decode cX11_isTwice 67 = .ok (.iaload, 1) := by decide +kernel
theorem dX11_isTwice_68 : decode cX11_isTwice 68 = .ok (.aload_n 0, 1) := by decide +kernel
theorem dX11_isTwice_69 : decode cX11_isTwice 69 = .ok (.getfield 34, 3) := by decide +kernel
theorem dX11_isTwice_72 : decode cX11_isTwice 72 = .ok (.iconst 3, 1) := by decide +kernel
theorem dX11_isTwice_73 : decode cX11_isTwice 73 = .ok (.aload_n 0, 1) := by decide +kernel
theorem dX11_isTwice_74 : decode cX11_isTwice 74 = .ok (.getfield 79, 3) := by decide +kernel
theorem dX11_isTwice_77 : decode cX11_isTwice 77 = .ok (.imul, 1) := by decide +kernel
theorem dX11_isTwice_78 : decode cX11_isTwice 78 = .ok (.iload 4, 2) := by decide +kernel
theorem dX11_isTwice_80 : decode cX11_isTwice 80 = .ok (.iadd, 1) := by decide +kernel
theorem dX11_isTwice_81 : decode cX11_isTwice 81 = .ok (.iaload, 1) := by decide +kernel
theorem dX11_isTwice_82 : decode cX11_isTwice 82 = .ok (.if_icmp .ne 7, 3) := by decide +kernel
theorem dX11_isTwice_85 : decode cX11_isTwice 85 = .ok (.iconst 1, 1) := by decide +kernel
theorem dX11_isTwice_86 : decode cX11_isTwice 86 = .ok (.goto 4, 3) := by decide +kernel
theorem dX11_isTwice_89 : decode cX11_isTwice 89 = .ok (.iconst 0, 1) := by decide +kernel
theorem dX11_isTwice_90 : decode cX11_isTwice 90 = .ok (.istore_n 3, 1) := by decide +kernel
theorem dX11_isTwice_91 : decode cX11_isTwice 91 = .ok (.iinc 4 1, 3) := by decide +kernel
theorem dX11_isTwice_94 : decode cX11_isTwice 94 = .ok (.goto (-55), 3) := by decide +kernel
theorem dX11_isTwice_97 : decode cX11_isTwice 97 = .ok (.iload_n 1, 1) := by decide +kernel
theorem dX11_isTwice_98 : decode cX11_isTwice 98 = .ok (.ifCond .ne 7, 3) := by decide +kernel
theorem dX11_isTwice_101 : decode cX11_isTwice 101 = .ok (.iload_n 3, 1) := by decide +kernel
theorem dX11_isTwice_102 : decode cX11_isTwice 102 = .ok (.ifCond .eq 7, 3) := by decide +kernel
theorem dX11_isTwice_105 : decode cX11_isTwice 105 = .ok (.iconst 1, 1) := by decide +kernel
theorem dX11_isTwice_106 : decode cX11_isTwice 106 = .ok (.goto 4, 3) := by decide +kernel
theorem dX11_isTwice_109 : decode cX11_isTwice 109 = .ok (.iconst 0, 1) := by decide +kernel
theorem dX11_isTwice_110 : decode cX11_isTwice 110 = .ok (.istore_n 1, 1) := by decide +kernel
theorem dX11_isTwice_111 : decode cX11_isTwice 111 = .ok (.iinc 2 1, 3) := by decide +kernel
theorem dX11_isTwice_114 : decode cX11_isTwice 114 = .ok (.goto (-110), 3) := by decide +kernel
theorem dX11_isTwice_117 : decode cX11_isTwice 117 = .ok (.iload_n 1, 1) := by decide +kernel
theorem dX11_isTwice_118 : decode cX11_isTwice 118 = .ok (.ireturn, 1) := by decide +kernel
theorem dX11_takesLeft_0 : decode cX11_takesLeft 0 = .ok (.aload_n 0, 1) := by decide +kernel
theorem dX11_takesLeft_1 : decode cX11_takesLeft 1 = .ok (.getfield 79, 3) := by decide +kernel
theorem dX11_takesLeft_4 : decode cX11_takesLeft 4 = .ok (.istore_n 2, 1) := by decide +kernel
theorem dX11_takesLeft_5 : decode cX11_takesLeft 5 = .ok (.aload_n 0, 1) := by decide +kernel
theorem dX11_takesLeft_6 : decode cX11_takesLeft 6 = .ok (.getfield 31, 3) := by decide +kernel
theorem dX11_takesLeft_9 : decode cX11_takesLeft 9 = .ok (.iload_n 2, 1) := by decide +kernel
theorem dX11_takesLeft_10 : decode cX11_takesLeft 10 = .ok (.iaload, 1) := by decide +kernel
theorem dX11_takesLeft_11 : decode cX11_takesLeft 11 = .ok (.ifCond .ne 17, 3) := by decide +kernel
theorem dX11_takesLeft_14 : decode cX11_takesLeft 14 = .ok (.aload_n 0, 1) := by decide +kernel
theorem dX11_takesLeft_15 : decode cX11_takesLeft 15 = .ok (.getfield 28, 3) := by decide +kernel
theorem dX11_takesLeft_18 : decode cX11_takesLeft 18 = .ok (.iload_n 2, 1) := by decide +kernel
theorem dX11_takesLeft_19 : decode cX11_takesLeft 19 = .ok (.iaload, 1) := by decide +kernel
theorem dX11_takesLeft_20 : decode cX11_takesLeft 20 = .ok (.iconst 3, 1) := by decide +kernel
theorem dX11_takesLeft_21 : decode cX11_takesLeft 21 = .ok (.if_icmp .ge 7, 3) := by decide +kernel
theorem dX11_takesLeft_24 : decode cX11_takesLeft 24 = .ok (.iconst 1, 1) := by decide +kernel
theorem dX11_takesLeft_25 : decode cX11_takesLeft 25 = .ok (.goto 4, 3) := by decide +kernel
theorem dX11_takesLeft_28 : decode cX11_takesLeft 28 = .ok (.iconst 0, 1) := by decide +kernel
theorem dX11_takesLeft_29 : decode cX11_takesLeft 29 = .ok (.istore_n 3, 1) := by decide +kernel
theorem dX11_takesLeft_30 : decode cX11_takesLeft 30 = .ok (.iload_n 3, 1) := by decide +kernel
theorem dX11_takesLeft_31 : decode cX11_takesLeft 31 = .ok (.ifCond .eq 29, 3) := by decide +kernel
theorem dX11_takesLeft_34 : decode cX11_takesLeft 34 = .ok (.aload_n 0, 1) := by decide +kernel
theorem dX11_takesLeft_35 : decode cX11_takesLeft 35 = .ok (.getfield 34, 3) := by decide +kernel
theorem dX11_takesLeft_38 : decode cX11_takesLeft 38 = .ok (.iconst 3, 1) := by decide +kernel
theorem dX11_takesLeft_39 : decode cX11_takesLeft 39 = .ok (.iload_n 2, 1) := by decide +kernel
theorem dX11_takesLeft_40 : decode cX11_takesLeft 40 = .ok (.imul, 1) := by decide +kernel
theorem dX11_takesLeft_41 : decode cX11_takesLeft 41 = .ok (.aload_n 0, 1) := by decide +kernel
theorem dX11_takesLeft_42 : decode cX11_takesLeft 42 = .ok (.getfield 28, 3) := by decide +kernel
theorem dX11_takesLeft_45 : decode cX11_takesLeft 45 = .ok (.iload_n 2, 1) := by decide +kernel
theorem dX11_takesLeft_46 : decode cX11_takesLeft 46 = .ok (.iaload, 1) := by decide +kernel
theorem dX11_takesLeft_47 : decode cX11_takesLeft 47 = .ok (.iadd, 1) := by decide +kernel
theorem dX11_takesLeft_48 : decode cX11_takesLeft 48 = .ok (.iload_n 1, 1) := by decide +kernel
theorem dX11_takesLeft_49 : decode cX11_takesLeft 49 = .ok (.iastore, 1) := by decide +kernel
theorem dX11_takesLeft_50 : decode cX11_takesLeft 50 = .ok (.aload_n 0, 1) := by decide +kernel
theorem dX11_takesLeft_51 : decode cX11_takesLeft 51 = .ok (.getfield 28, 3) := by decide +kernel
theorem dX11_takesLeft_54 : decode cX11_takesLeft 54 = .ok (.iload_n 2, 1) := by decide +kernel
theorem dX11_takesLeft_55 : decode cX11_takesLeft 55 = .ok (.dup2, 1) := by decide +kernel
theorem dX11_takesLeft_56 : decode cX11_takesLeft 56 = .ok (.iaload, 1) := by decide +kernel
theorem dX11_takesLeft_57 : decode cX11_takesLeft 57 = .ok (.iconst 1, 1) := by decide +kernel
theorem dX11_takesLeft_58 : decode cX11_takesLeft 58 = .ok (.iadd, 1) := by decide +kernel
theorem dX11_takesLeft_59 : decode cX11_takesLeft 59 = .ok (.iastore, 1) := by decide +kernel
theorem dX11_takesLeft_60 : decode cX11_takesLeft 60 = .ok (.iload_n 3, 1) := by decide +kernel
theorem dX11_takesLeft_61 : decode cX11_takesLeft 61 = .ok (.ireturn, 1) := by decide +kernel
theorem dX11_takesRight_0 : decode cX11_takesRight 0 = .ok (.aload_n 0, 1) := by decide +kernel
theorem dX11_takesRight_1 : decode cX11_takesRight 1 = .ok (.getfield 79, 3) := by decide +kernel
theorem dX11_takesRight_4 : decode cX11_takesRight 4 = .ok (.istore_n 2, 1) := by decide +kernel
theorem dX11_takesRight_5 : decode cX11_takesRight 5 = .ok (.aload_n 0, 1) := by decide +kernel
theorem dX11_takesRight_6 : decode cX11_takesRight 6 = .ok (.getfield 28, 3) := by decide +kernel
theorem dX11_takesRight_9 : decode cX11_takesRight 9 = .ok (.iload_n 2, 1) := by decide +kernel
theorem dX11_takesRight_10 : decode cX11_takesRight 10 = .ok (.iaload, 1) := by decide +kernel
theorem dX11_takesRight_11 : decode cX11_takesRight 11 = .ok (.ifCond .le 33, 3) := by decide +kernel
theorem dX11_takesRight_14 : decode cX11_takesRight 14 = .ok (.aload_n 0, 1) := by decide +kernel
theorem dX11_takesRight_15 : decode cX11_takesRight 15 = .ok (.getfield 31, 3) := by decide +kernel
theorem dX11_takesRight_18 : decode cX11_takesRight 18 = .ok (.iload_n 2, 1) := by decide +kernel
theorem dX11_takesRight_19 : decode cX11_takesRight 19 = .ok (.iaload, 1) := by decide +kernel
theorem dX11_takesRight_20 : decode cX11_takesRight 20 = .ok (.iconst 3, 1) := by decide +kernel
theorem dX11_takesRight_21 : decode cX11_takesRight 21 = .ok (.if_icmp .ge 23, 3) := by decide +kernel
theorem dX11_takesRight_24 : decode cX11_takesRight 24 = .ok (.aload_n 0, 1) := by decide +kernel
theorem dX11_takesRight_25 : decode cX11_takesRight 25 = .ok (.getfield 31, 3) := by decide +kernel
theorem dX11_takesRight_28 : decode cX11_takesRight 28 = .ok (.iload_n 2, 1) := by decide +kernel
theorem dX11_takesRight_29 : decode cX11_takesRight 29 = .ok (.iaload, 1) := by decide +kernel
theorem dX11_takesRight_30 : decode cX11_takesRight 30 = .ok (.ifCond .gt 10, 3) := by decide +kernel
theorem dX11_takesRight_33 : decode cX11_takesRight 33 = .ok (.aload_n 0, 1) := by decide +kernel
theorem dX11_takesRight_34 : decode cX11_takesRight 34 = .ok (.invokevirtual 82, 3) := by decide +kernel
theorem dX11_takesRight_37 : decode cX11_takesRight 37 = .ok (.ifCond .ne 7, 3) := by decide +kernel
theorem dX11_takesRight_40 : decode cX11_takesRight 40 = .ok (.iconst 1, 1) := by decide +kernel
theorem dX11_takesRight_41 : decode cX11_takesRight 41 = .ok (.goto 4, 3) := by decide +kernel
theorem dX11_takesRight_44 : decode cX11_takesRight 44 = .ok (.iconst 0, 1) := by decide +kernel
theorem dX11_takesRight_45 : decode cX11_takesRight 45 = .ok (.istore_n 3, 1) := by decide +kernel
theorem dX11_takesRight_46 : decode cX11_takesRight 46 = .ok (.iload_n 3, 1) := by decide +kernel
theorem dX11_takesRight_47 : decode cX11_takesRight 47 = .ok (.ifCond .eq 29, 3) := by decide +kernel
theorem dX11_takesRight_50 : decode cX11_takesRight 50 = .ok (.aload_n 0, 1) := by decide +kernel
theorem dX11_takesRight_51 : decode cX11_takesRight 51 = .ok (.getfield 37, 3) := by decide +kernel
theorem dX11_takesRight_54 : decode cX11_takesRight 54 = .ok (.iconst 3, 1) := by decide +kernel
theorem dX11_takesRight_55 : decode cX11_takesRight 55 = .ok (.iload_n 2, 1) := by decide +kernel
theorem dX11_takesRight_56 : decode cX11_takesRight 56 = .ok (.imul, 1) := by decide +kernel
theorem dX11_takesRight_57 : decode cX11_takesRight 57 = .ok (.aload_n 0, 1) := by decide +kernel
theorem dX11_takesRight_58 : decode cX11_takesRight 58 = .ok (.getfield 31, 3) := by decide +kernel
theorem dX11_takesRight_61 : decode cX11_takesRight 61 = .ok (.iload_n 2, 1) := by decide +kernel
theorem dX11_takesRight_62 : decode cX11_takesRight 62 = .ok (.iaload, 1) := by decide +kernel
theorem dX11_takesRight_63 : decode cX11_takesRight 63 = .ok (.iadd, 1) := by decide +kernel
theorem dX11_takesRight_64 : decode cX11_takesRight 64 = .ok (.iload_n 1, 1) := by decide +kernel
theorem dX11_takesRight_65 : decode cX11_takesRight 65 = .ok (.iastore, 1) := by decide +kernel
theorem dX11_takesRight_66 : decode cX11_takesRight 66 = .ok (.aload_n 0, 1) := by decide +kernel
theorem dX11_takesRight_67 : decode cX11_takesRight 67 = .ok (.getfield 31, 3) := by decide +kernel
theorem dX11_takesRight_70 : decode cX11_takesRight 70 = .ok (.iload_n 2, 1) := by decide +kernel
theorem dX11_takesRight_71 : decode cX11_takesRight 71 = .ok (.dup2, 1) := by decide +kernel
theorem dX11_takesRight_72 : decode cX11_takesRight 72 = .ok (.iaload, 1) := by decide +kernel
theorem dX11_takesRight_73 : decode cX11_takesRight 73 = .ok (.iconst 1, 1) := by decide +kernel
theorem dX11_takesRight_74 : decode cX11_takesRight 74 = .ok (.iadd, 1) := by decide +kernel
theorem dX11_takesRight_75 : decode cX11_takesRight 75 = .ok (.iastore, 1) := by decide +kernel
theorem dX11_takesRight_76 : decode cX11_takesRight 76 = .ok (.iload_n 3, 1) := by decide +kernel
theorem dX11_takesRight_77 : decode cX11_takesRight 77 = .ok (.ireturn, 1) := by decide +kernel
theorem dX11_takesComma_0 : decode cX11_takesComma 0 = .ok (.aload_n 0, 1) := by decide +kernel
theorem dX11_takesComma_1 : decode cX11_takesComma 1 = .ok (.getfield 31, 3) := by decide +kernel
theorem dX11_takesComma_4 : decode cX11_takesComma 4 = .ok (.aload_n 0, 1) := by decide +kernel
theorem dX11_takesComma_5 : decode cX11_takesComma 5 = .ok (.getfield 79, 3) := by decide +kernel
theorem dX11_takesComma_8 : decode cX11_takesComma 8 = .ok (.iaload, 1) := by decide +kernel
theorem dX11_takesComma_9 : decode cX11_takesComma 9 = .ok (.ifCond .le 18, 3) := by decide +kernel
theorem dX11_takesComma_12 : decode cX11_takesComma 12 = .ok (.aload_n 0, 1) := by decide +kernel
theorem dX11_takesComma_13 : decode cX11_takesComma 13 = .ok (.getfield 79, 3) := by decide +kernel
theorem dX11_takesComma_16 : decode cX11_takesComma 16 = .ok (.iconst 1, 1) := by decide +kernel
theorem dX11_takesComma_17 : decode cX11_takesComma 17 = .ok (.iadd, 1) := by decide +kernel
theorem dX11_takesComma_18 : decode cX11_takesComma 18 = .ok (.bipush 8, 2) := by decide +kernel
theorem dX11_takesComma_20 : decode cX11_takesComma 20 = .ok (.if_icmp .ge 7, 3) := by decide +kernel
theorem dX11_takesComma_23 : decode cX11_takesComma 23 = .ok (.iconst 1, 1) := by decide +kernel
theorem dX11_takesComma_24 : decode cX11_takesComma 24 = .ok (.goto 4, 3) := by decide +kernel
theorem dX11_takesComma_27 : decode cX11_takesComma 27 = .ok (.iconst 0, 1) := by decide +kernel
theorem dX11_takesComma_28 : decode cX11_takesComma 28 = .ok (.istore_n 1, 1) := by decide +kernel
theorem dX11_takesComma_29 : decode cX11_takesComma 29 = .ok (.iload_n 1, 1) := by decide +kernel
theorem dX11_takesComma_30 : decode cX11_takesComma 30 = .ok (.ifCond .eq 33, 3) := by decide +kernel
theorem dX11_takesComma_33 : decode cX11_takesComma 33 = .ok (.aload_n 0, 1) := by decide +kernel
theorem dX11_takesComma_34 : decode cX11_takesComma 34 = .ok (.dup, 1) := by decide +kernel
theorem dX11_takesComma_35 : decode cX11_takesComma 35 = .ok (.getfield 79, 3) := by decide +kernel
theorem dX11_takesComma_38 : decode cX11_takesComma 38 = .ok (.iconst 1, 1) := by decide +kernel
theorem dX11_takesComma_39 : decode cX11_takesComma 39 = .ok (.iadd, 1) := by decide +kernel
theorem dX11_takesComma_40 : decode cX11_takesComma 40 = .ok (.putfield 79, 3) := by decide +kernel
theorem dX11_takesComma_43 : decode cX11_takesComma 43 = .ok (.aload_n 0, 1) := by decide +kernel
theorem dX11_takesComma_44 : decode cX11_takesComma 44 = .ok (.getfield 28, 3) := by decide +kernel
theorem dX11_takesComma_47 : decode cX11_takesComma 47 = .ok (.aload_n 0, 1) := by decide +kernel
theorem dX11_takesComma_48 : decode cX11_takesComma 48 = .ok (.getfield 79, 3) := by decide +kernel
theorem dX11_takesComma_51 : decode cX11_takesComma 51 = .ok (.iconst 0, 1) := by decide +kernel
theorem dX11_takesComma_52 : decode cX11_takesComma 52 = .ok (.iastore, 1) := by decide +kernel
theorem dX11_takesComma_53 : decode cX11_takesComma 53 = .ok (.aload_n 0, 1) := by decide +kernel
theorem dX11_takesComma_54 : decode cX11_takesComma 54 = .ok (.getfield 31, 3) := by decide +kernel
theorem dX11_takesComma_57 : decode cX11_takesComma 57 = .ok (.aload_n 0, 1) := by decide +kernel
theorem dX11_takesComma_58 : decode cX11_takesComma 58 = .ok (.getfield 79, 3) := by decide +kernel
theorem dX11_takesComma_61 : decode cX11_takesComma 61 = .ok (.iconst 0, 1) := by decide +kernel
theorem dX11_takesComma_62 : decode cX11_takesComma 62 = .ok (.iastore, 1) := by decide +kernel
theorem dX11_takesComma_63 : decode cX11_takesComma 63 = .ok (.iload_n 1, 1) := by decide +kernel
theorem dX11_takesComma_64 : decode cX11_takesComma 64 = .ok (.ireturn, 1) := by decide +kernel
theorem dX11_takes_0 : decode cX11_takes 0 = .ok (.iload_n 1, 1) := by decide +kernel
theorem dX11_takes_1 : decode cX11_takes 1 = .ok (.bipush 44, 2) := by decide +kernel
theorem dX11_takes_3 : decode cX11_takes 3 = .ok (.if_icmp .ne 8, 3) := by decide +kernel
theorem dX11_takes_6 : decode cX11_takes 6 = .ok (.aload_n 0, 1) := by decide +kernel
theorem dX11_takes_7 : decode cX11_takes 7 = .ok (.invokevirtual 86, 3) := by decide +kernel
theorem dX11_takes_10 : decode cX11_takes 10 = .ok (.ireturn, 1) := by decide +kernel
theorem dX11_takes_11 : decode cX11_takes 11 = .ok (.iload_n 1, 1) := by decide +kernel
theorem dX11_takes_12 : decode cX11_takes 12 = .ok (.invokestatic 89, 3) := by decide +kernel
theorem dX11_takes_15 : decode cX11_takes 15 = .ok (.ifCond .eq 11, 3) := by decide +kernel
theorem dX11_takes_18 : decode cX11_takes 18 = .ok (.aload_n 0, 1) := by decide +kernel
theorem dX11_takes_19 : decode cX11_takes 19 = .ok (.iload_n 1, 1) := by decide +kernel
theorem dX11_takes_20 : decode cX11_takes 20 = .ok (.invokevirtual 93, 3) := by decide +kernel
theorem dX11_takes_23 : decode cX11_takes 23 = .ok (.goto 23, 3) := by decide +kernel
theorem dX11_takes_26 : decode cX11_takes 26 = .ok (.iload_n 1, 1) := by decide +kernel
theorem dX11_takes_27 : decode cX11_takes 27 = .ok (.invokestatic 96, 3) := by decide +kernel
theorem dX11_takes_30 : decode cX11_takes 30 = .ok (.ifCond .eq 15, 3) := by decide +kernel
theorem dX11_takes_33 : decode cX11_takes 33 = .ok (.aload_n 0, 1) := by decide +kernel
theorem dX11_takes_34 : decode cX11_takes 34 = .ok (.iload_n 1, 1) := by decide +kernel
theorem dX11_takes_35 : decode cX11_takes 35 = .ok (.invokevirtual 99, 3) := by decide +kernel
theorem dX11_takes_38 : decode cX11_takes 38 = .ok (.ifCond .eq 7, 3) := by decide +kernel
theorem dX11_takes_41 : decode cX11_takes 41 = .ok (.iconst 1, 1) := by decide +kernel
theorem dX11_takes_42 : decode cX11_takes 42 = .ok (.goto 4, 3) := by decide +kernel
theorem dX11_takes_45 : decode cX11_takes 45 = .ok (.iconst 0, 1) := by decide +kernel
theorem dX11_takes_46 : decode cX11_takes 46 = .ok (.ireturn, 1) := by decide +kernel
theorem dX11_read_0 : decode cX11_read 0 = .ok (.aload_n 0, 1) := by decide +kernel
theorem dX11_read_1 : decode cX11_read 1 = .ok (.iconst 0, 1) := by decide +kernel
theorem dX11_read_2 : decode cX11_read 2 = .ok (.putfield 79, 3) := by decide +kernel
theorem dX11_read_5 : decode cX11_read 5 = .ok (.aload_n 0, 1) := by decide +kernel
theorem dX11_read_6 : decode cX11_read 6 = .ok (.getfield 28, 3) := by decide +kernel
theorem dX11_read_9 : decode cX11_read 9 = .ok (.iconst 0, 1) := by decide +kernel
theorem dX11_read_10 : decode cX11_read 10 = .ok (.iconst 0, 1) := by decide +kernel
theorem dX11_read_11 : decode cX11_read 11 = .ok (.iastore, 1) := by decide +kernel
theorem dX11_read_12 : decode cX11_read 12 = .ok (.aload_n 0, 1) := by decide +kernel
theorem dX11_read_13 : decode cX11_read 13 = .ok (.getfield 31, 3) := by decide +kernel
theorem dX11_read_16 : decode cX11_read 16 = .ok (.iconst 0, 1) := by decide +kernel
theorem dX11_read_17 : decode cX11_read 17 = .ok (.iconst 0, 1) := by decide +kernel
theorem dX11_read_18 : decode cX11_read 18 = .ok (.iastore, 1) := by decide +kernel
theorem dX11_read_19 : decode cX11_read 19 = .ok (.iconst 0, 1) := by decide +kernel
theorem dX11_read_20 : decode cX11_read 20 = .ok (.istore_n 1, 1) := by decide +kernel
theorem dX11_read_21 : decode cX11_read 21 = .ok (.iload_n 1, 1) := by decide +kernel
theorem dX11_read_22 : decode cX11_read 22 = .ok (.aload_n 0, 1) := by decide +kernel
theorem dX11_read_23 : decode cX11_read 23 = .ok (.getfield 75, 3) := by decide +kernel
theorem dX11_read_26 : decode cX11_read 26 = .ok (.if_icmp .ge 22, 3) := by decide +kernel
theorem dX11_read_29 : decode cX11_read 29 = .ok (.aload_n 0, 1) := by decide +kernel
theorem dX11_read_30 : decode cX11_read 30 = .ok (.aload_n 0, 1) := by decide +kernel
theorem dX11_read_31 : decode cX11_read 31 = .ok (.getfield 25, 3) := by decide +kernel
theorem dX11_read_34 : decode cX11_read 34 = .ok (.iload_n 1, 1) := by decide +kernel
theorem dX11_read_35 : decode cX11_read 35 = .ok (.iaload, 1) := by decide +kernel
theorem dX11_read_36 : decode cX11_read 36 = .ok (.invokevirtual 102, 3) := by decide +kernel
theorem dX11_read_39 : decode cX11_read 39 = .ok (.ifCond .eq 9, 3) := by decide +kernel
theorem dX11_read_42 : decode cX11_read 42 = .ok (.iinc 1 1, 3) := by decide +kernel
theorem dX11_read_45 : decode cX11_read 45 = .ok (.goto (-24), 3) := by decide +kernel
theorem dX11_read_48 : decode cX11_read 48 = .ok (.iload_n 1, 1) := by decide +kernel
theorem dX11_read_49 : decode cX11_read 49 = .ok (.ireturn, 1) := by decide +kernel
theorem dX11_fault_0 : decode cX11_fault 0 = .ok (.aload_n 0, 1) := by decide +kernel
theorem dX11_fault_1 : decode cX11_fault 1 = .ok (.invokevirtual 105, 3) := by decide +kernel
theorem dX11_fault_4 : decode cX11_fault 4 = .ok (.ireturn, 1) := by decide +kernel
theorem dX11_table_0 : decode cX11_table 0 = .ok (.aload_n 0, 1) := by decide +kernel
theorem dX11_table_1 : decode cX11_table 1 = .ok (.invokevirtual 105, 3) := by decide +kernel
theorem dX11_table_4 : decode cX11_table 4 = .ok (.aload_n 0, 1) := by decide +kernel
theorem dX11_table_5 : decode cX11_table 5 = .ok (.getfield 75, 3) := by decide +kernel
theorem dX11_table_8 : decode cX11_table 8 = .ok (.if_icmp .lt 15, 3) := by decide +kernel
theorem dX11_table_11 : decode cX11_table 11 = .ok (.aload_n 0, 1) := by decide +kernel
theorem dX11_table_12 : decode cX11_table 12 = .ok (.getfield 31, 3) := by decide +kernel
theorem dX11_table_15 : decode cX11_table 15 = .ok (.aload_n 0, 1) := by decide +kernel
theorem dX11_table_16 : decode cX11_table 16 = .ok (.getfield 79, 3) := by decide +kernel
theorem dX11_table_19 : decode cX11_table 19 = .ok (.iaload, 1) := by decide +kernel
theorem dX11_table_20 : decode cX11_table 20 = .ok (.ifCond .ne 6, 3) := by decide +kernel
theorem dX11_table_23 : decode cX11_table 23 = .ok (.bipush (-103), 2) := by decide +kernel
theorem dX11_table_25 : decode cX11_table 25 = .ok (.ireturn, 1) := by decide +kernel
theorem dX11_table_26 : decode cX11_table 26 = .ok (.aload_n 0, 1) := by decide +kernel
theorem dX11_table_27 : decode cX11_table 27 = .ok (.aload_n 0, 1) := by decide +kernel
theorem dX11_table_28 : decode cX11_table 28 = .ok (.getfield 79, 3) := by decide +kernel
theorem dX11_table_31 : decode cX11_table 31 = .ok (.iconst 1, 1) := by decide +kernel
theorem dX11_table_32 : decode cX11_table 32 = .ok (.iadd, 1) := by decide +kernel
theorem dX11_table_33 : decode cX11_table 33 = .ok (.putfield 109, 3) := by decide +kernel
theorem dX11_table_36 : decode cX11_table 36 = .ok (.iconst 0, 1) := by decide +kernel
theorem dX11_table_37 : decode cX11_table 37 = .ok (.istore_n 1, 1) := by decide +kernel
theorem dX11_table_38 : decode cX11_table 38 = .ok (.iload_n 1, 1) := by decide +kernel
theorem dX11_table_39 : decode cX11_table 39 = .ok (.aload_n 0, 1) := by decide +kernel
theorem dX11_table_40 : decode cX11_table 40 = .ok (.getfield 109, 3) := by decide +kernel
theorem dX11_table_43 : decode cX11_table 43 = .ok (.if_icmp .ge 86, 3) := by decide +kernel
theorem dX11_table_46 : decode cX11_table 46 = .ok (.aload_n 0, 1) := by decide +kernel
theorem dX11_table_47 : decode cX11_table 47 = .ok (.getfield 7, 3) := by decide +kernel
theorem dX11_table_50 : decode cX11_table 50 = .ok (.iload_n 1, 1) := by decide +kernel
theorem dX11_table_51 : decode cX11_table 51 = .ok (.aload_n 0, 1) := by decide +kernel
theorem dX11_table_52 : decode cX11_table 52 = .ok (.getfield 28, 3) := by decide +kernel
theorem dX11_table_55 : decode cX11_table 55 = .ok (.iload_n 1, 1) := by decide +kernel
theorem dX11_table_56 : decode cX11_table 56 = .ok (.iaload, 1) := by decide +kernel
theorem dX11_table_57 : decode cX11_table 57 = .ok (.iastore, 1) := by decide +kernel
theorem dX11_table_58 : decode cX11_table 58 = .ok (.aload_n 0, 1) := by decide +kernel
theorem dX11_table_59 : decode cX11_table 59 = .ok (.getfield 13, 3) := by decide +kernel
theorem dX11_table_62 : decode cX11_table 62 = .ok (.iload_n 1, 1) := by decide +kernel
theorem dX11_table_63 : decode cX11_table 63 = .ok (.aload_n 0, 1) := by decide +kernel
theorem dX11_table_64 : decode cX11_table 64 = .ok (.getfield 31, 3) := by decide +kernel
theorem dX11_table_67 : decode cX11_table 67 = .ok (.iload_n 1, 1) := by decide +kernel
theorem dX11_table_68 : decode cX11_table 68 = .ok (.iaload, 1) := by decide +kernel
theorem dX11_table_69 : decode cX11_table 69 = .ok (.iastore, 1) := by decide +kernel
theorem dX11_table_70 : decode cX11_table 70 = .ok (.iconst 0, 1) := by decide +kernel
theorem dX11_table_71 : decode cX11_table 71 = .ok (.istore_n 2, 1) := by decide +kernel
theorem dX11_table_72 : decode cX11_table 72 = .ok (.iload_n 2, 1) := by decide +kernel
theorem dX11_table_73 : decode cX11_table 73 = .ok (.iconst 3, 1) := by decide +kernel
theorem dX11_table_74 : decode cX11_table 74 = .ok (.if_icmp .ge 49, 3) := by decide +kernel
theorem dX11_table_77 : decode cX11_table 77 = .ok (.aload_n 0, 1) := by decide +kernel
theorem dX11_table_78 : decode cX11_table 78 = .ok (.getfield 16, 3) := by decide +kernel
theorem dX11_table_81 : decode cX11_table 81 = .ok (.iconst 3, 1) := by decide +kernel
theorem dX11_table_82 : decode cX11_table 82 = .ok (.iload_n 1, 1) := by decide +kernel
theorem dX11_table_83 : decode cX11_table 83 = .ok (.imul, 1) := by decide +kernel
theorem dX11_table_84 : decode cX11_table 84 = .ok (.iload_n 2, 1) := by decide +kernel
theorem dX11_table_85 : decode cX11_table 85 = .ok (.iadd, 1) := by decide +kernel
theorem dX11_table_86 : decode cX11_table 86 = .ok (.aload_n 0, 1) := by decide +kernel
theorem dX11_table_87 : decode cX11_table 87 = .ok (.getfield 34, 3) := by decide +kernel
theorem dX11_table_90 : decode cX11_table 90 = .ok (.iconst 3, 1) := by decide +kernel
theorem dX11_table_91 : decode cX11_table 91 = .ok (.iload_n 1, 1) := by decide +kernel
theorem dX11_table_92 : decode cX11_table 92 = .ok (.imul, 1) := by decide +kernel
theorem dX11_table_93 : decode cX11_table 93 = .ok (.iload_n 2, 1) := by decide +kernel
theorem dX11_table_94 : decode cX11_table 94 = .ok (.iadd, 1) := by decide +kernel
theorem dX11_table_95 : decode cX11_table 95 = .ok (.iaload, 1) := by decide +kernel
theorem dX11_table_96 : decode cX11_table 96 = .ok (.iastore, 1) := by decide +kernel
theorem dX11_table_97 : decode cX11_table 97 = .ok (.aload_n 0, 1) := by decide +kernel
theorem dX11_table_98 : decode cX11_table 98 = .ok (.getfield 19, 3) := by decide +kernel
theorem dX11_table_101 : decode cX11_table 101 = .ok (.iconst 3, 1) := by decide +kernel
theorem dX11_table_102 : decode cX11_table 102 = .ok (.iload_n 1, 1) := by decide +kernel
theorem dX11_table_103 : decode cX11_table 103 = .ok (.imul, 1) := by decide +kernel
theorem dX11_table_104 : decode cX11_table 104 = .ok (.iload_n 2, 1) := by decide +kernel
theorem dX11_table_105 : decode cX11_table 105 = .ok (.iadd, 1) := by decide +kernel
theorem dX11_table_106 : decode cX11_table 106 = .ok (.aload_n 0, 1) := by decide +kernel
theorem dX11_table_107 : decode cX11_table 107 = .ok (.getfield 37, 3) := by decide +kernel
theorem dX11_table_110 : decode cX11_table 110 = .ok (.iconst 3, 1) := by decide +kernel
theorem dX11_table_111 : decode cX11_table 111 = .ok (.iload_n 1, 1) := by decide +kernel
theorem dX11_table_112 : decode cX11_table 112 = .ok (.imul, 1) := by decide +kernel
theorem dX11_table_113 : decode cX11_table 113 = .ok (.iload_n 2, 1) := by decide +kernel
theorem dX11_table_114 : decode cX11_table 114 = .ok (.iadd, 1) := by decide +kernel
theorem dX11_table_115 : decode cX11_table 115 = .ok (.iaload, 1) := by decide +kernel
theorem dX11_table_116 : decode cX11_table 116 = .ok (.iastore, 1) := by decide +kernel
theorem dX11_table_117 : decode cX11_table 117 = .ok (.iinc 2 1, 3) := by decide +kernel
theorem dX11_table_120 : decode cX11_table 120 = .ok (.goto (-48), 3) := by decide +kernel
theorem dX11_table_123 : decode cX11_table 123 = .ok (.iinc 1 1, 3) := by decide +kernel
theorem dX11_table_126 : decode cX11_table 126 = .ok (.goto (-88), 3) := by decide +kernel
theorem dX11_table_129 : decode cX11_table 129 = .ok (.aload_n 0, 1) := by decide +kernel
theorem dX11_table_130 : decode cX11_table 130 = .ok (.iconst 0, 1) := by decide +kernel
theorem dX11_table_131 : decode cX11_table 131 = .ok (.putfield 112, 3) := by decide +kernel
theorem dX11_table_134 : decode cX11_table 134 = .ok (.aload_n 0, 1) := by decide +kernel
theorem dX11_table_135 : decode cX11_table 135 = .ok (.iconst 0, 1) := by decide +kernel
theorem dX11_table_136 : decode cX11_table 136 = .ok (.putfield 115, 3) := by decide +kernel
theorem dX11_table_139 : decode cX11_table 139 = .ok (.aload_n 0, 1) := by decide +kernel
theorem dX11_table_140 : decode cX11_table 140 = .ok (.iconst 0, 1) := by decide +kernel
theorem dX11_table_141 : decode cX11_table 141 = .ok (.putfield 118, 3) := by decide +kernel
theorem dX11_table_144 : decode cX11_table 144 = .ok (.aload_n 0, 1) := by decide +kernel
theorem dX11_table_145 : decode cX11_table 145 = .ok (.iconst 0, 1) := by decide +kernel
theorem dX11_table_146 : decode cX11_table 146 = .ok (.putfield 75, 3) := by decide +kernel
theorem dX11_table_149 : decode cX11_table 149 = .ok (.aload_n 0, 1) := by decide +kernel
theorem dX11_table_150 : decode cX11_table 150 = .ok (.dup, 1) := by decide +kernel
theorem dX11_table_151 : decode cX11_table 151 = .ok (.getfield 121, 3) := by decide +kernel
theorem dX11_table_154 : decode cX11_table 154 = .ok (.iconst 1, 1) := by decide +kernel
theorem dX11_table_155 : decode cX11_table 155 = .ok (.iadd, 1) := by decide +kernel
theorem dX11_table_156 : decode cX11_table 156 = .ok (.putfield 121, 3) := by decide +kernel
theorem dX11_table_159 : decode cX11_table 159 = .ok (.aload_n 0, 1) := by decide +kernel
theorem dX11_table_160 : decode cX11_table 160 = .ok (.getfield 109, 3) := by decide +kernel
theorem dX11_table_163 : decode cX11_table 163 = .ok (.ireturn, 1) := by decide +kernel
theorem dX11_signLength_0 : decode cX11_signLength 0 = .ok (.aload_n 0, 1) := by decide +kernel
theorem dX11_signLength_1 : decode cX11_signLength 1 = .ok (.getfield 13, 3) := by decide +kernel
theorem dX11_signLength_4 : decode cX11_signLength 4 = .ok (.iload_n 1, 1) := by decide +kernel
theorem dX11_signLength_5 : decode cX11_signLength 5 = .ok (.iaload, 1) := by decide +kernel
theorem dX11_signLength_6 : decode cX11_signLength 6 = .ok (.aload_n 0, 1) := by decide +kernel
theorem dX11_signLength_7 : decode cX11_signLength 7 = .ok (.getfield 115, 3) := by decide +kernel
theorem dX11_signLength_10 : decode cX11_signLength 10 = .ok (.iload_n 1, 1) := by decide +kernel
theorem dX11_signLength_11 : decode cX11_signLength 11 = .ok (.ishr, 1) := by decide +kernel
theorem dX11_signLength_12 : decode cX11_signLength 12 = .ok (.iconst 1, 1) := by decide +kernel
theorem dX11_signLength_13 : decode cX11_signLength 13 = .ok (.iand, 1) := by decide +kernel
theorem dX11_signLength_14 : decode cX11_signLength 14 = .ok (.iadd, 1) := by decide +kernel
theorem dX11_signLength_15 : decode cX11_signLength 15 = .ok (.ireturn, 1) := by decide +kernel
theorem dX11_signAt_0 : decode cX11_signAt 0 = .ok (.iload_n 2, 1) := by decide +kernel
theorem dX11_signAt_1 : decode cX11_signAt 1 = .ok (.aload_n 0, 1) := by decide +kernel
theorem dX11_signAt_2 : decode cX11_signAt 2 = .ok (.getfield 13, 3) := by decide +kernel
theorem dX11_signAt_5 : decode cX11_signAt 5 = .ok (.iload_n 1, 1) := by decide +kernel
theorem dX11_signAt_6 : decode cX11_signAt 6 = .ok (.iaload, 1) := by decide +kernel
theorem dX11_signAt_7 : decode cX11_signAt 7 = .ok (.if_icmp .ge 16, 3) := by decide +kernel
theorem dX11_signAt_10 : decode cX11_signAt 10 = .ok (.aload_n 0, 1) := by decide +kernel
theorem dX11_signAt_11 : decode cX11_signAt 11 = .ok (.getfield 19, 3) := by decide +kernel
theorem dX11_signAt_14 : decode cX11_signAt 14 = .ok (.iconst 3, 1) := by decide +kernel
theorem dX11_signAt_15 : decode cX11_signAt 15 = .ok (.iload_n 1, 1) := by decide +kernel
theorem dX11_signAt_16 : decode cX11_signAt 16 = .ok (.imul, 1) := by decide +kernel
theorem dX11_signAt_17 : decode cX11_signAt 17 = .ok (.iload_n 2, 1) := by decide +kernel
theorem dX11_signAt_18 : decode cX11_signAt 18 = .ok (.iadd, 1) := by decide +kernel
theorem dX11_signAt_19 : decode cX11_signAt 19 = .ok (.iaload, 1) := by decide +kernel
theorem dX11_signAt_20 : decode cX11_signAt 20 = .ok (.goto 5, 3) := by decide +kernel
theorem dX11_signAt_23 : decode cX11_signAt 23 = .ok (.bipush 39, 2) := by decide +kernel
theorem dX11_signAt_25 : decode cX11_signAt 25 = .ok (.ireturn, 1) := by decide +kernel
theorem dX11_longestLeft_0 : decode cX11_longestLeft 0 = .ok (.iconst (-1), 1) := by decide +kernel
theorem dX11_longestLeft_1 : decode cX11_longestLeft 1 = .ok (.istore_n 2, 1) := by decide +kernel
theorem dX11_longestLeft_2 : decode cX11_longestLeft 2 = .ok (.iconst 0, 1) := by decide +kernel
theorem dX11_longestLeft_3 : decode cX11_longestLeft 3 = .ok (.istore_n 3, 1) := by decide +kernel
theorem dX11_longestLeft_4 : decode cX11_longestLeft 4 = .ok (.iload_n 3, 1) := by decide +kernel
theorem dX11_longestLeft_5 : decode cX11_longestLeft 5 = .ok (.aload_n 0, 1) := by decide +kernel
theorem dX11_longestLeft_6 : decode cX11_longestLeft 6 = .ok (.getfield 109, 3) := by decide +kernel
theorem dX11_longestLeft_9 : decode cX11_longestLeft 9 = .ok (.if_icmp .ge 117, 3) := by decide +kernel
theorem dX11_longestLeft_12 : decode cX11_longestLeft 12 = .ok (.iload_n 1, 1) := by decide +kernel
theorem dX11_longestLeft_13 : decode cX11_longestLeft 13 = .ok (.aload_n 0, 1) := by decide +kernel
theorem dX11_longestLeft_14 : decode cX11_longestLeft 14 = .ok (.getfield 7, 3) := by decide +kernel
theorem dX11_longestLeft_17 : decode cX11_longestLeft 17 = .ok (.iload_n 3, 1) := by decide +kernel
theorem dX11_longestLeft_18 : decode cX11_longestLeft 18 = .ok (.iaload, 1) := by decide +kernel
theorem dX11_longestLeft_19 : decode cX11_longestLeft 19 = .ok (.iadd, 1) := by decide +kernel
theorem dX11_longestLeft_20 : decode cX11_longestLeft 20 = .ok (.aload_n 0, 1) := by decide +kernel
theorem dX11_longestLeft_21 : decode cX11_longestLeft 21 = .ok (.getfield 75, 3) := by decide +kernel
theorem dX11_longestLeft_24 : decode cX11_longestLeft 24 = .ok (.if_icmp .gt 27, 3) := by decide +kernel
theorem dX11_longestLeft_27 : decode cX11_longestLeft 27 = .ok (.iload_n 2, 1) := by decide +kernel
theorem dX11_longestLeft_28 : decode cX11_longestLeft 28 = .ok (.iconst (-1), 1) := by decide +kernel
theorem dX11_longestLeft_29 : decode cX11_longestLeft 29 = .ok (.if_icmp .eq 18, 3) := by decide +kernel
theorem dX11_longestLeft_32 : decode cX11_longestLeft 32 = .ok (.aload_n 0, 1) := by decide +kernel
theorem dX11_longestLeft_33 : decode cX11_longestLeft 33 = .ok (.getfield 7, 3) := by decide +kernel
theorem dX11_longestLeft_36 : decode cX11_longestLeft 36 = .ok (.iload_n 3, 1) := by decide +kernel
theorem dX11_longestLeft_37 : decode cX11_longestLeft 37 = .ok (.iaload, 1) := by decide +kernel
theorem dX11_longestLeft_38 : decode cX11_longestLeft 38 = .ok (.aload_n 0, 1) := by decide +kernel
theorem dX11_longestLeft_39 : decode cX11_longestLeft 39 = .ok (.getfield 7, 3) := by decide +kernel
theorem dX11_longestLeft_42 : decode cX11_longestLeft 42 = .ok (.iload_n 2, 1) := by decide +kernel
theorem dX11_longestLeft_43 : decode cX11_longestLeft 43 = .ok (.iaload, 1) := by decide +kernel
theorem dX11_longestLeft_44 : decode cX11_longestLeft 44 = .ok (.if_icmp .le 7, 3) := by decide +kernel
theorem dX11_longestLeft_47 : decode cX11_longestLeft 47 = .ok (.iconst 1, 1) := by decide +kernel
theorem dX11_longestLeft_48 : decode cX11_longestLeft 48 = .ok (.goto 4, 3) := by decide +kernel
theorem dX11_longestLeft_51 : decode cX11_longestLeft 51 = .ok (.iconst 0, 1) := by decide +kernel
theorem dX11_longestLeft_52 : decode cX11_longestLeft 52 = .ok (.istore 4, 2) := by decide +kernel
theorem dX11_longestLeft_54 : decode cX11_longestLeft 54 = .ok (.iconst 0, 1) := by decide +kernel
theorem dX11_longestLeft_55 : decode cX11_longestLeft 55 = .ok (.istore 5, 2) := by decide +kernel
theorem dX11_longestLeft_57 : decode cX11_longestLeft 57 = .ok (.iload 5, 2) := by decide +kernel
theorem dX11_longestLeft_59 : decode cX11_longestLeft 59 = .ok (.aload_n 0, 1) := by decide +kernel
theorem dX11_longestLeft_60 : decode cX11_longestLeft 60 = .ok (.getfield 7, 3) := by decide +kernel
theorem dX11_longestLeft_63 : decode cX11_longestLeft 63 = .ok (.iload_n 3, 1) := by decide +kernel
theorem dX11_longestLeft_64 : decode cX11_longestLeft 64 = .ok (.iaload, 1) := by decide +kernel
theorem dX11_longestLeft_65 : decode cX11_longestLeft 65 = .ok (.if_icmp .ge 44, 3) := by decide +kernel
theorem dX11_longestLeft_68 : decode cX11_longestLeft 68 = .ok (.iload 4, 2) := by decide +kernel
theorem dX11_longestLeft_70 : decode cX11_longestLeft 70 = .ok (.ifCond .eq 39, 3) := by decide +kernel
theorem dX11_longestLeft_73 : decode cX11_longestLeft 73 = .ok (.aload_n 0, 1) := by decide +kernel
theorem dX11_longestLeft_74 : decode cX11_longestLeft 74 = .ok (.getfield 25, 3) := by decide +kernel
theorem dX11_longestLeft_77 : decode cX11_longestLeft 77 = .ok (.iload_n 1, 1) := by decide +kernel
theorem dX11_longestLeft_78 : decode cX11_longestLeft 78 = .ok (.iload 5, 2) := by decide +kernel
theorem dX11_longestLeft_80 : decode cX11_longestLeft 80 = .ok (.iadd, 1) := by decide +kernel
theorem dX11_longestLeft_81 : decode cX11_longestLeft 81 = .ok (.iaload, 1) := by decide +kernel
theorem dX11_longestLeft_82 : decode cX11_longestLeft 82 = .ok (.aload_n 0, 1) := by decide +kernel
theorem dX11_longestLeft_83 : decode cX11_longestLeft 83 = .ok (.getfield 16, 3) := by decide +kernel
theorem dX11_longestLeft_86 : decode cX11_longestLeft 86 = .ok (.iconst 3, 1) := by decide +kernel
theorem dX11_longestLeft_87 : decode cX11_longestLeft 87 = .ok (.iload_n 3, 1) := by decide +kernel
theorem dX11_longestLeft_88 : decode cX11_longestLeft 88 = .ok (.imul, 1) := by decide +kernel
theorem dX11_longestLeft_89 : decode cX11_longestLeft 89 = .ok (.iload 5, 2) := by decide +kernel
theorem dX11_longestLeft_91 : decode cX11_longestLeft 91 = .ok (.iadd, 1) := by decide +kernel
theorem dX11_longestLeft_92 : decode cX11_longestLeft 92 = .ok (.iaload, 1) := by decide +kernel
theorem dX11_longestLeft_93 : decode cX11_longestLeft 93 = .ok (.if_icmp .ne 7, 3) := by decide +kernel
theorem dX11_longestLeft_96 : decode cX11_longestLeft 96 = .ok (.iconst 1, 1) := by decide +kernel
theorem dX11_longestLeft_97 : decode cX11_longestLeft 97 = .ok (.goto 4, 3) := by decide +kernel
theorem dX11_longestLeft_100 : decode cX11_longestLeft 100 = .ok (.iconst 0, 1) := by decide +kernel
theorem dX11_longestLeft_101 : decode cX11_longestLeft 101 = .ok (.istore 4, 2) := by decide +kernel
theorem dX11_longestLeft_103 : decode cX11_longestLeft 103 = .ok (.iinc 5 1, 3) := by decide +kernel
theorem dX11_longestLeft_106 : decode cX11_longestLeft 106 = .ok (.goto (-49), 3) := by decide +kernel
theorem dX11_longestLeft_109 : decode cX11_longestLeft 109 = .ok (.iload 4, 2) := by decide +kernel
theorem dX11_longestLeft_111 : decode cX11_longestLeft 111 = .ok (.ifCond .eq 7, 3) := by decide +kernel
theorem dX11_longestLeft_114 : decode cX11_longestLeft 114 = .ok (.iload_n 3, 1) := by decide +kernel
theorem dX11_longestLeft_115 : decode cX11_longestLeft 115 = .ok (.goto 4, 3) := by decide +kernel
theorem dX11_longestLeft_118 : decode cX11_longestLeft 118 = .ok (.iload_n 2, 1) := by decide +kernel
theorem dX11_longestLeft_119 : decode cX11_longestLeft 119 = .ok (.istore_n 2, 1) := by decide +kernel
theorem dX11_longestLeft_120 : decode cX11_longestLeft 120 = .ok (.iinc 3 1, 3) := by decide +kernel
theorem dX11_longestLeft_123 : decode cX11_longestLeft 123 = .ok (.goto (-119), 3) := by decide +kernel
theorem dX11_longestLeft_126 : decode cX11_longestLeft 126 = .ok (.iload_n 2, 1) := by decide +kernel
theorem dX11_longestLeft_127 : decode cX11_longestLeft 127 = .ok (.ireturn, 1) := by decide +kernel
theorem dX11_turnRow_0 : decode cX11_turnRow 0 = .ok (.aload_n 0, 1) := by decide +kernel
theorem dX11_turnRow_1 : decode cX11_turnRow 1 = .ok (.iconst 0, 1) := by decide +kernel
theorem dX11_turnRow_2 : decode cX11_turnRow 2 = .ok (.putfield 124, 3) := by decide +kernel
theorem dX11_turnRow_5 : decode cX11_turnRow 5 = .ok (.iconst 0, 1) := by decide +kernel
theorem dX11_turnRow_6 : decode cX11_turnRow 6 = .ok (.istore_n 1, 1) := by decide +kernel
theorem dX11_turnRow_7 : decode cX11_turnRow 7 = .ok (.iload_n 1, 1) := by decide +kernel
theorem dX11_turnRow_8 : decode cX11_turnRow 8 = .ok (.aload_n 0, 1) := by decide +kernel
theorem dX11_turnRow_9 : decode cX11_turnRow 9 = .ok (.getfield 75, 3) := by decide +kernel
theorem dX11_turnRow_12 : decode cX11_turnRow 12 = .ok (.if_icmp .ge 48, 3) := by decide +kernel
theorem dX11_turnRow_15 : decode cX11_turnRow 15 = .ok (.aload_n 0, 1) := by decide +kernel
theorem dX11_turnRow_16 : decode cX11_turnRow 16 = .ok (.iload_n 1, 1) := by decide +kernel
theorem dX11_turnRow_17 : decode cX11_turnRow 17 = .ok (.invokevirtual 127, 3) := by decide +kernel
theorem dX11_turnRow_20 : decode cX11_turnRow 20 = .ok (.istore_n 2, 1) := by decide +kernel
theorem dX11_turnRow_21 : decode cX11_turnRow 21 = .ok (.iload_n 2, 1) := by decide +kernel
theorem dX11_turnRow_22 : decode cX11_turnRow 22 = .ok (.iconst (-1), 1) := by decide +kernel
theorem dX11_turnRow_23 : decode cX11_turnRow 23 = .ok (.if_icmp .ne 5, 3) := by decide +kernel
theorem dX11_turnRow_26 : decode cX11_turnRow 26 = .ok (.iload_n 1, 1) := by decide +kernel
theorem dX11_turnRow_27 : decode cX11_turnRow 27 = .ok (.ireturn, 1) := by decide +kernel
theorem dX11_turnRow_28 : decode cX11_turnRow 28 = .ok (.aload_n 0, 1) := by decide +kernel
theorem dX11_turnRow_29 : decode cX11_turnRow 29 = .ok (.getfield 40, 3) := by decide +kernel
theorem dX11_turnRow_32 : decode cX11_turnRow 32 = .ok (.aload_n 0, 1) := by decide +kernel
theorem dX11_turnRow_33 : decode cX11_turnRow 33 = .ok (.getfield 124, 3) := by decide +kernel
theorem dX11_turnRow_36 : decode cX11_turnRow 36 = .ok (.iload_n 2, 1) := by decide +kernel
theorem dX11_turnRow_37 : decode cX11_turnRow 37 = .ok (.iastore, 1) := by decide +kernel
theorem dX11_turnRow_38 : decode cX11_turnRow 38 = .ok (.aload_n 0, 1) := by decide +kernel
theorem dX11_turnRow_39 : decode cX11_turnRow 39 = .ok (.dup, 1) := by decide +kernel
theorem dX11_turnRow_40 : decode cX11_turnRow 40 = .ok (.getfield 124, 3) := by decide +kernel
theorem dX11_turnRow_43 : decode cX11_turnRow 43 = .ok (.iconst 1, 1) := by decide +kernel
theorem dX11_turnRow_44 : decode cX11_turnRow 44 = .ok (.iadd, 1) := by decide +kernel
theorem dX11_turnRow_45 : decode cX11_turnRow 45 = .ok (.putfield 124, 3) := by decide +kernel
theorem dX11_turnRow_48 : decode cX11_turnRow 48 = .ok (.iload_n 1, 1) := by decide +kernel
theorem dX11_turnRow_49 : decode cX11_turnRow 49 = .ok (.aload_n 0, 1) := by decide +kernel
theorem dX11_turnRow_50 : decode cX11_turnRow 50 = .ok (.getfield 7, 3) := by decide +kernel
theorem dX11_turnRow_53 : decode cX11_turnRow 53 = .ok (.iload_n 2, 1) := by decide +kernel
theorem dX11_turnRow_54 : decode cX11_turnRow 54 = .ok (.iaload, 1) := by decide +kernel
theorem dX11_turnRow_55 : decode cX11_turnRow 55 = .ok (.iadd, 1) := by decide +kernel
theorem dX11_turnRow_56 : decode cX11_turnRow 56 = .ok (.istore_n 1, 1) := by decide +kernel
theorem dX11_turnRow_57 : decode cX11_turnRow 57 = .ok (.goto (-50), 3) := by decide +kernel
theorem dX11_turnRow_60 : decode cX11_turnRow 60 = .ok (.iconst (-1), 1) := by decide +kernel
theorem dX11_turnRow_61 : decode cX11_turnRow 61 = .ok (.ireturn, 1) := by decide +kernel
theorem dX11_isSmallPage_0 : decode cX11_isSmallPage 0 = .ok (.aload_n 0, 1) := by decide +kernel
theorem dX11_isSmallPage_1 : decode cX11_isSmallPage 1 = .ok (.getfield 75, 3) := by decide +kernel
theorem dX11_isSmallPage_4 : decode cX11_isSmallPage 4 = .ok (.bipush 12, 2) := by decide +kernel
theorem dX11_isSmallPage_6 : decode cX11_isSmallPage 6 = .ok (.if_icmp .gt 7, 3) := by decide +kernel
theorem dX11_isSmallPage_9 : decode cX11_isSmallPage 9 = .ok (.iconst 1, 1) := by decide +kernel
theorem dX11_isSmallPage_10 : decode cX11_isSmallPage 10 = .ok (.goto 4, 3) := by decide +kernel
theorem dX11_isSmallPage_13 : decode cX11_isSmallPage 13 = .ok (.iconst 0, 1) := by decide +kernel
theorem dX11_isSmallPage_14 : decode cX11_isSmallPage 14 = .ok (.istore_n 1, 1) := by decide +kernel
theorem dX11_isSmallPage_15 : decode cX11_isSmallPage 15 = .ok (.iconst 0, 1) := by decide +kernel
theorem dX11_isSmallPage_16 : decode cX11_isSmallPage 16 = .ok (.istore_n 2, 1) := by decide +kernel
theorem dX11_isSmallPage_17 : decode cX11_isSmallPage 17 = .ok (.iload_n 2, 1) := by decide +kernel
theorem dX11_isSmallPage_18 : decode cX11_isSmallPage 18 = .ok (.aload_n 0, 1) := by decide +kernel
theorem dX11_isSmallPage_19 : decode cX11_isSmallPage 19 = .ok (.getfield 75, 3) := by decide +kernel
theorem dX11_isSmallPage_22 : decode cX11_isSmallPage 22 = .ok (.if_icmp .ge 31, 3) := by decide +kernel
theorem dX11_isSmallPage_25 : decode cX11_isSmallPage 25 = .ok (.iload_n 1, 1) := by decide +kernel
theorem dX11_isSmallPage_26 : decode cX11_isSmallPage 26 = .ok (.ifCond .eq 19, 3) := by decide +kernel
theorem dX11_isSmallPage_29 : decode cX11_isSmallPage 29 = .ok (.aload_n 0, 1) := by decide +kernel
theorem dX11_isSmallPage_30 : decode cX11_isSmallPage 30 = .ok (.getfield 25, 3) := by decide +kernel
theorem dX11_isSmallPage_33 : decode cX11_isSmallPage 33 = .ok (.iload_n 2, 1) := by decide +kernel
theorem dX11_isSmallPage_34 : decode cX11_isSmallPage 34 = .ok (.iaload, 1) := by decide +kernel
theorem dX11_isSmallPage_35 : decode cX11_isSmallPage 35 = .ok (.invokestatic 89, 3) := by decide +kernel
theorem dX11_isSmallPage_38 : decode cX11_isSmallPage 38 = .ok (.ifCond .eq 7, 3) := by decide +kernel
theorem dX11_isSmallPage_41 : decode cX11_isSmallPage 41 = .ok (.iconst 1, 1) := by decide +kernel
theorem dX11_isSmallPage_42 : decode cX11_isSmallPage 42 = .ok (.goto 4, 3) := by decide +kernel
theorem dX11_isSmallPage_45 : decode cX11_isSmallPage 45 = .ok (.iconst 0, 1) := by decide +kernel
theorem dX11_isSmallPage_46 : decode cX11_isSmallPage 46 = .ok (.istore_n 1, 1) := by decide +kernel
theorem dX11_isSmallPage_47 : decode cX11_isSmallPage 47 = .ok (.iinc 2 1, 3) := by decide +kernel
theorem dX11_isSmallPage_50 : decode cX11_isSmallPage 50 = .ok (.goto (-33), 3) := by decide +kernel
theorem dX11_isSmallPage_53 : decode cX11_isSmallPage 53 = .ok (.iload_n 1, 1) := by decide +kernel
theorem dX11_isSmallPage_54 : decode cX11_isSmallPage 54 = .ok (.ireturn, 1) := by decide +kernel
theorem dX11_turn_0 : decode cX11_turn 0 = .ok (.aload_n 0, 1) := by decide +kernel
theorem dX11_turn_1 : decode cX11_turn 1 = .ok (.invokevirtual 131, 3) := by decide +kernel
theorem dX11_turn_4 : decode cX11_turn 4 = .ok (.ifCond .ne 6, 3) := by decide +kernel
theorem dX11_turn_7 : decode cX11_turn 7 = .ok (.bipush (-103), 2) := by decide +kernel
theorem dX11_turn_9 : decode cX11_turn 9 = .ok (.ireturn, 1) := by decide +kernel
theorem dX11_turn_10 : decode cX11_turn 10 = .ok (.aload_n 0, 1) := by decide +kernel
theorem dX11_turn_11 : decode cX11_turn 11 = .ok (.invokevirtual 134, 3) := by decide +kernel
theorem dX11_turn_14 : decode cX11_turn 14 = .ok (.istore_n 1, 1) := by decide +kernel
theorem dX11_turn_15 : decode cX11_turn 15 = .ok (.iload_n 1, 1) := by decide +kernel
theorem dX11_turn_16 : decode cX11_turn 16 = .ok (.iconst (-1), 1) := by decide +kernel
theorem dX11_turn_17 : decode cX11_turn 17 = .ok (.if_icmp .eq 9, 3) := by decide +kernel
theorem dX11_turn_20 : decode cX11_turn 20 = .ok (.sipush (-1000), 3) := by decide +kernel
theorem dX11_turn_23 : decode cX11_turn 23 = .ok (.iload_n 1, 1) := by decide +kernel
theorem dX11_turn_24 : decode cX11_turn 24 = .ok (.isub, 1) := by decide +kernel
theorem dX11_turn_25 : decode cX11_turn 25 = .ok (.ireturn, 1) := by decide +kernel
theorem dX11_turn_26 : decode cX11_turn 26 = .ok (.aload_n 0, 1) := by decide +kernel
theorem dX11_turn_27 : decode cX11_turn 27 = .ok (.iconst 0, 1) := by decide +kernel
theorem dX11_turn_28 : decode cX11_turn 28 = .ok (.putfield 118, 3) := by decide +kernel
theorem dX11_turn_31 : decode cX11_turn 31 = .ok (.iconst 0, 1) := by decide +kernel
theorem dX11_turn_32 : decode cX11_turn 32 = .ok (.istore_n 2, 1) := by decide +kernel
theorem dX11_turn_33 : decode cX11_turn 33 = .ok (.iload_n 2, 1) := by decide +kernel
theorem dX11_turn_34 : decode cX11_turn 34 = .ok (.aload_n 0, 1) := by decide +kernel
theorem dX11_turn_35 : decode cX11_turn 35 = .ok (.getfield 124, 3) := by decide +kernel
theorem dX11_turn_38 : decode cX11_turn 38 = .ok (.if_icmp .ge 61, 3) := by decide +kernel
theorem dX11_turn_41 : decode cX11_turn 41 = .ok (.iconst 0, 1) := by decide +kernel
theorem dX11_turn_42 : decode cX11_turn 42 = .ok (.istore_n 3, 1) := by decide +kernel
theorem dX11_turn_43 : decode cX11_turn 43 = .ok (.iload_n 3, 1) := by decide +kernel
theorem dX11_turn_44 : decode cX11_turn 44 = .ok (.aload_n 0, 1) := by decide +kernel
theorem dX11_turn_45 : decode cX11_turn 45 = .ok (.aload_n 0, 1) := by decide +kernel
theorem dX11_turn_46 : decode cX11_turn 46 = .ok (.getfield 40, 3) := by decide +kernel
theorem dX11_turn_49 : decode cX11_turn 49 = .ok (.iload_n 2, 1) := by decide +kernel
theorem dX11_turn_50 : decode cX11_turn 50 = .ok (.iaload, 1) := by decide +kernel
theorem dX11_turn_51 : decode cX11_turn 51 = .ok (.invokevirtual 137, 3) := by decide +kernel
theorem dX11_turn_54 : decode cX11_turn 54 = .ok (.if_icmp .ge 39, 3) := by decide +kernel
theorem dX11_turn_57 : decode cX11_turn 57 = .ok (.aload_n 0, 1) := by decide +kernel
theorem dX11_turn_58 : decode cX11_turn 58 = .ok (.getfield 22, 3) := by decide +kernel
theorem dX11_turn_61 : decode cX11_turn 61 = .ok (.aload_n 0, 1) := by decide +kernel
theorem dX11_turn_62 : decode cX11_turn 62 = .ok (.getfield 118, 3) := by decide +kernel
theorem dX11_turn_65 : decode cX11_turn 65 = .ok (.aload_n 0, 1) := by decide +kernel
theorem dX11_turn_66 : decode cX11_turn 66 = .ok (.aload_n 0, 1) := by decide +kernel
theorem dX11_turn_67 : decode cX11_turn 67 = .ok (.getfield 40, 3) := by decide +kernel
theorem dX11_turn_70 : decode cX11_turn 70 = .ok (.iload_n 2, 1) := by decide +kernel
theorem dX11_turn_71 : decode cX11_turn 71 = .ok (.iaload, 1) := by decide +kernel
theorem dX11_turn_72 : decode cX11_turn 72 = .ok (.iload_n 3, 1) := by decide +kernel
theorem dX11_turn_73 : decode cX11_turn 73 = .ok (.invokevirtual 140, 3) := by decide +kernel
theorem dX11_turn_76 : decode cX11_turn 76 = .ok (.iastore, 1) := by decide +kernel
theorem dX11_turn_77 : decode cX11_turn 77 = .ok (.aload_n 0, 1) := by decide +kernel
theorem dX11_turn_78 : decode cX11_turn 78 = .ok (.dup, 1) := by decide +kernel
theorem dX11_turn_79 : decode cX11_turn 79 = .ok (.getfield 118, 3) := by decide +kernel
theorem dX11_turn_82 : decode cX11_turn 82 = .ok (.iconst 1, 1) := by decide +kernel
theorem dX11_turn_83 : decode cX11_turn 83 = .ok (.iadd, 1) := by decide +kernel
theorem dX11_turn_84 : decode cX11_turn 84 = .ok (.putfield 118, 3) := by decide +kernel
theorem dX11_turn_87 : decode cX11_turn 87 = .ok (.iinc 3 1, 3) := by decide +kernel
theorem dX11_turn_90 : decode cX11_turn 90 = .ok (.goto (-47), 3) := by decide +kernel
theorem dX11_turn_93 : decode cX11_turn 93 = .ok (.iinc 2 1, 3) := by decide +kernel
theorem dX11_turn_96 : decode cX11_turn 96 = .ok (.goto (-63), 3) := by decide +kernel
theorem dX11_turn_99 : decode cX11_turn 99 = .ok (.aload_n 0, 1) := by decide +kernel
theorem dX11_turn_100 : decode cX11_turn 100 = .ok (.dup, 1) := by decide +kernel
theorem dX11_turn_101 : decode cX11_turn 101 = .ok (.getfield 144, 3) := by decide +kernel
theorem dX11_turn_104 : decode cX11_turn 104 = .ok (.iconst 1, 1) := by decide +kernel
theorem dX11_turn_105 : decode cX11_turn 105 = .ok (.iadd, 1) := by decide +kernel
theorem dX11_turn_106 : decode cX11_turn 106 = .ok (.putfield 144, 3) := by decide +kernel
theorem dX11_turn_109 : decode cX11_turn 109 = .ok (.aload_n 0, 1) := by decide +kernel
theorem dX11_turn_110 : decode cX11_turn 110 = .ok (.iconst 0, 1) := by decide +kernel
theorem dX11_turn_111 : decode cX11_turn 111 = .ok (.putfield 75, 3) := by decide +kernel
theorem dX11_turn_114 : decode cX11_turn 114 = .ok (.aload_n 0, 1) := by decide +kernel
theorem dX11_turn_115 : decode cX11_turn 115 = .ok (.getfield 124, 3) := by decide +kernel
theorem dX11_turn_118 : decode cX11_turn 118 = .ok (.ireturn, 1) := by decide +kernel
theorem dX11_text_0 : decode cX11_text 0 = .ok (.iconst 0, 1) := by decide +kernel
theorem dX11_text_1 : decode cX11_text 1 = .ok (.istore_n 1, 1) := by decide +kernel
theorem dX11_text_2 : decode cX11_text 2 = .ok (.iload_n 1, 1) := by decide +kernel
theorem dX11_text_3 : decode cX11_text 3 = .ok (.aload_n 0, 1) := by decide +kernel
theorem dX11_text_4 : decode cX11_text 4 = .ok (.getfield 75, 3) := by decide +kernel
theorem dX11_text_7 : decode cX11_text 7 = .ok (.if_icmp .ge 35, 3) := by decide +kernel
theorem dX11_text_10 : decode cX11_text 10 = .ok (.aload_n 0, 1) := by decide +kernel
theorem dX11_text_11 : decode cX11_text 11 = .ok (.getfield 25, 3) := by decide +kernel
theorem dX11_text_14 : decode cX11_text 14 = .ok (.iload_n 1, 1) := by decide +kernel
theorem dX11_text_15 : decode cX11_text 15 = .ok (.iaload, 1) := by decide +kernel
theorem dX11_text_16 : decode cX11_text 16 = .ok (.invokestatic 96, 3) := by decide +kernel
theorem dX11_text_19 : decode cX11_text 19 = .ok (.ifCond .ne 17, 3) := by decide +kernel
theorem dX11_text_22 : decode cX11_text 22 = .ok (.aload_n 0, 1) := by decide +kernel
theorem dX11_text_23 : decode cX11_text 23 = .ok (.getfield 25, 3) := by decide +kernel
theorem dX11_text_26 : decode cX11_text 26 = .ok (.iload_n 1, 1) := by decide +kernel
theorem dX11_text_27 : decode cX11_text 27 = .ok (.iaload, 1) := by decide +kernel
theorem dX11_text_28 : decode cX11_text 28 = .ok (.bipush 39, 2) := by decide +kernel
theorem dX11_text_30 : decode cX11_text 30 = .ok (.if_icmp .eq 6, 3) := by decide +kernel
theorem dX11_text_33 : decode cX11_text 33 = .ok (.bipush (-103), 2) := by decide +kernel
theorem dX11_text_35 : decode cX11_text 35 = .ok (.ireturn, 1) := by decide +kernel
theorem dX11_text_36 : decode cX11_text 36 = .ok (.iinc 1 1, 3) := by decide +kernel
theorem dX11_text_39 : decode cX11_text 39 = .ok (.goto (-37), 3) := by decide +kernel
theorem dX11_text_42 : decode cX11_text 42 = .ok (.iconst 0, 1) := by decide +kernel
theorem dX11_text_43 : decode cX11_text 43 = .ok (.istore_n 1, 1) := by decide +kernel
theorem dX11_text_44 : decode cX11_text 44 = .ok (.iload_n 1, 1) := by decide +kernel
theorem dX11_text_45 : decode cX11_text 45 = .ok (.aload_n 0, 1) := by decide +kernel
theorem dX11_text_46 : decode cX11_text 46 = .ok (.getfield 75, 3) := by decide +kernel
theorem dX11_text_49 : decode cX11_text 49 = .ok (.if_icmp .ge 21, 3) := by decide +kernel
theorem dX11_text_52 : decode cX11_text 52 = .ok (.aload_n 0, 1) := by decide +kernel
theorem dX11_text_53 : decode cX11_text 53 = .ok (.getfield 22, 3) := by decide +kernel
theorem dX11_text_56 : decode cX11_text 56 = .ok (.iload_n 1, 1) := by decide +kernel
theorem dX11_text_57 : decode cX11_text 57 = .ok (.aload_n 0, 1) := by decide +kernel
theorem dX11_text_58 : decode cX11_text 58 = .ok (.getfield 25, 3) := by decide +kernel
theorem dX11_text_61 : decode cX11_text 61 = .ok (.iload_n 1, 1) := by decide +kernel
theorem dX11_text_62 : decode cX11_text 62 = .ok (.iaload, 1) := by decide +kernel
theorem dX11_text_63 : decode cX11_text 63 = .ok (.iastore, 1) := by decide +kernel
theorem dX11_text_64 : decode cX11_text 64 = .ok (.iinc 1 1, 3) := by decide +kernel
theorem dX11_text_67 : decode cX11_text 67 = .ok (.goto (-23), 3) := by decide +kernel
theorem dX11_text_70 : decode cX11_text 70 = .ok (.aload_n 0, 1) := by decide +kernel
theorem dX11_text_71 : decode cX11_text 71 = .ok (.aload_n 0, 1) := by decide +kernel
theorem dX11_text_72 : decode cX11_text 72 = .ok (.getfield 75, 3) := by decide +kernel
theorem dX11_text_75 : decode cX11_text 75 = .ok (.putfield 118, 3) := by decide +kernel
theorem dX11_text_78 : decode cX11_text 78 = .ok (.aload_n 0, 1) := by decide +kernel
theorem dX11_text_79 : decode cX11_text 79 = .ok (.iconst 0, 1) := by decide +kernel
theorem dX11_text_80 : decode cX11_text 80 = .ok (.putfield 75, 3) := by decide +kernel
theorem dX11_text_83 : decode cX11_text 83 = .ok (.aload_n 0, 1) := by decide +kernel
theorem dX11_text_84 : decode cX11_text 84 = .ok (.dup, 1) := by decide +kernel
theorem dX11_text_85 : decode cX11_text 85 = .ok (.getfield 147, 3) := by decide +kernel
theorem dX11_text_88 : decode cX11_text 88 = .ok (.iconst 1, 1) := by decide +kernel
theorem dX11_text_89 : decode cX11_text 89 = .ok (.iadd, 1) := by decide +kernel
theorem dX11_text_90 : decode cX11_text 90 = .ok (.putfield 147, 3) := by decide +kernel
theorem dX11_text_93 : decode cX11_text 93 = .ok (.aload_n 0, 1) := by decide +kernel
theorem dX11_text_94 : decode cX11_text 94 = .ok (.getfield 118, 3) := by decide +kernel
theorem dX11_text_97 : decode cX11_text 97 = .ok (.ireturn, 1) := by decide +kernel
theorem dX11_isRule_0 : decode cX11_isRule 0 = .ok (.iload_n 1, 1) := by decide +kernel
theorem dX11_isRule_1 : decode cX11_isRule 1 = .ok (.iconst 0, 1) := by decide +kernel
theorem dX11_isRule_2 : decode cX11_isRule 2 = .ok (.aload_n 0, 1) := by decide +kernel
theorem dX11_isRule_3 : decode cX11_isRule 3 = .ok (.getfield 109, 3) := by decide +kernel
theorem dX11_isRule_6 : decode cX11_isRule 6 = .ok (.iconst 1, 1) := by decide +kernel
theorem dX11_isRule_7 : decode cX11_isRule 7 = .ok (.isub, 1) := by decide +kernel
theorem dX11_isRule_8 : decode cX11_isRule 8 = .ok (.invokestatic 71, 3) := by decide +kernel
theorem dX11_isRule_11 : decode cX11_isRule 11 = .ok (.ireturn, 1) := by decide +kernel
theorem dX11_mark_0 : decode cX11_mark 0 = .ok (.aload_n 0, 1) := by decide +kernel
theorem dX11_mark_1 : decode cX11_mark 1 = .ok (.iload_n 1, 1) := by decide +kernel
theorem dX11_mark_2 : decode cX11_mark 2 = .ok (.invokevirtual 150, 3) := by decide +kernel
theorem dX11_mark_5 : decode cX11_mark 5 = .ok (.ifCond .ne 6, 3) := by decide +kernel
theorem dX11_mark_8 : decode cX11_mark 8 = .ok (.bipush (-101), 2) := by decide +kernel
theorem dX11_mark_10 : decode cX11_mark 10 = .ok (.ireturn, 1) := by decide +kernel
theorem dX11_mark_11 : decode cX11_mark 11 = .ok (.aload_n 0, 1) := by decide +kernel
theorem dX11_mark_12 : decode cX11_mark 12 = .ok (.dup, 1) := by decide +kernel
theorem dX11_mark_13 : decode cX11_mark 13 = .ok (.getfield 112, 3) := by decide +kernel
theorem dX11_mark_16 : decode cX11_mark 16 = .ok (.iconst 1, 1) := by decide +kernel
theorem dX11_mark_17 : decode cX11_mark 17 = .ok (.iload_n 1, 1) := by decide +kernel
theorem dX11_mark_18 : decode cX11_mark 18 = .ok (.ishl, 1) := by decide +kernel
theorem dX11_mark_19 : decode cX11_mark 19 = .ok (.ixor, 1) := by decide +kernel
theorem dX11_mark_20 : decode cX11_mark 20 = .ok (.putfield 112, 3) := by decide +kernel
theorem dX11_mark_23 : decode cX11_mark 23 = .ok (.aload_n 0, 1) := by decide +kernel
theorem dX11_mark_24 : decode cX11_mark 24 = .ok (.aload_n 0, 1) := by decide +kernel
theorem dX11_mark_25 : decode cX11_mark 25 = .ok (.getfield 112, 3) := by decide +kernel
theorem dX11_mark_28 : decode cX11_mark 28 = .ok (.putfield 115, 3) := by decide +kernel
theorem dX11_mark_31 : decode cX11_mark 31 = .ok (.aload_n 0, 1) := by decide +kernel
theorem dX11_mark_32 : decode cX11_mark 32 = .ok (.getfield 112, 3) := by decide +kernel
theorem dX11_mark_35 : decode cX11_mark 35 = .ok (.iload_n 1, 1) := by decide +kernel
theorem dX11_mark_36 : decode cX11_mark 36 = .ok (.ishr, 1) := by decide +kernel
theorem dX11_mark_37 : decode cX11_mark 37 = .ok (.iconst 1, 1) := by decide +kernel
theorem dX11_mark_38 : decode cX11_mark 38 = .ok (.iand, 1) := by decide +kernel
theorem dX11_mark_39 : decode cX11_mark 39 = .ok (.ireturn, 1) := by decide +kernel
theorem dX11_drop_0 : decode cX11_drop 0 = .ok (.aload_n 0, 1) := by decide +kernel
theorem dX11_drop_1 : decode cX11_drop 1 = .ok (.iload_n 1, 1) := by decide +kernel
theorem dX11_drop_2 : decode cX11_drop 2 = .ok (.invokevirtual 150, 3) := by decide +kernel
theorem dX11_drop_5 : decode cX11_drop 5 = .ok (.ifCond .ne 6, 3) := by decide +kernel
theorem dX11_drop_8 : decode cX11_drop 8 = .ok (.bipush (-101), 2) := by decide +kernel
theorem dX11_drop_10 : decode cX11_drop 10 = .ok (.ireturn, 1) := by decide +kernel
theorem dX11_drop_11 : decode cX11_drop 11 = .ok (.aload_n 0, 1) := by decide +kernel
theorem dX11_drop_12 : decode cX11_drop 12 = .ok (.dup, 1) := by decide +kernel
theorem dX11_drop_13 : decode cX11_drop 13 = .ok (.getfield 109, 3) := by decide +kernel
theorem dX11_drop_16 : decode cX11_drop 16 = .ok (.iconst 1, 1) := by decide +kernel
theorem dX11_drop_17 : decode cX11_drop 17 = .ok (.isub, 1) := by decide +kernel
theorem dX11_drop_18 : decode cX11_drop 18 = .ok (.putfield 109, 3) := by decide +kernel
theorem dX11_drop_21 : decode cX11_drop 21 = .ok (.iload_n 1, 1) := by decide +kernel
theorem dX11_drop_22 : decode cX11_drop 22 = .ok (.istore_n 2, 1) := by decide +kernel
theorem dX11_drop_23 : decode cX11_drop 23 = .ok (.iload_n 2, 1) := by decide +kernel
theorem dX11_drop_24 : decode cX11_drop 24 = .ok (.aload_n 0, 1) := by decide +kernel
theorem dX11_drop_25 : decode cX11_drop 25 = .ok (.getfield 109, 3) := by decide +kernel
theorem dX11_drop_28 : decode cX11_drop 28 = .ok (.if_icmp .ge 94, 3) := by decide +kernel
theorem dX11_drop_31 : decode cX11_drop 31 = .ok (.aload_n 0, 1) := by decide +kernel
theorem dX11_drop_32 : decode cX11_drop 32 = .ok (.getfield 7, 3) := by decide +kernel
theorem dX11_drop_35 : decode cX11_drop 35 = .ok (.iload_n 2, 1) := by decide +kernel
theorem dX11_drop_36 : decode cX11_drop 36 = .ok (.aload_n 0, 1) := by decide +kernel
theorem dX11_drop_37 : decode cX11_drop 37 = .ok (.getfield 7, 3) := by decide +kernel
theorem dX11_drop_40 : decode cX11_drop 40 = .ok (.iload_n 2, 1) := by decide +kernel
theorem dX11_drop_41 : decode cX11_drop 41 = .ok (.iconst 1, 1) := by decide +kernel
theorem dX11_drop_42 : decode cX11_drop 42 = .ok (.iadd, 1) := by decide +kernel
theorem dX11_drop_43 : decode cX11_drop 43 = .ok (.iaload, 1) := by decide +kernel
theorem dX11_drop_44 : decode cX11_drop 44 = .ok (.iastore, 1) := by decide +kernel
theorem dX11_drop_45 : decode cX11_drop 45 = .ok (.aload_n 0, 1) := by decide +kernel
theorem dX11_drop_46 : decode cX11_drop 46 = .ok (.getfield 13, 3) := by decide +kernel
theorem dX11_drop_49 : decode cX11_drop 49 = .ok (.iload_n 2, 1) := by decide +kernel
theorem dX11_drop_50 : decode cX11_drop 50 = .ok (.aload_n 0, 1) := by decide +kernel
theorem dX11_drop_51 : decode cX11_drop 51 = .ok (.getfield 13, 3) := by decide +kernel
theorem dX11_drop_54 : decode cX11_drop 54 = .ok (.iload_n 2, 1) := by decide +kernel
theorem dX11_drop_55 : decode cX11_drop 55 = .ok (.iconst 1, 1) := by decide +kernel
theorem dX11_drop_56 : decode cX11_drop 56 = .ok (.iadd, 1) := by decide +kernel
theorem dX11_drop_57 : decode cX11_drop 57 = .ok (.iaload, 1) := by decide +kernel
theorem dX11_drop_58 : decode cX11_drop 58 = .ok (.iastore, 1) := by decide +kernel
theorem dX11_drop_59 : decode cX11_drop 59 = .ok (.iconst 0, 1) := by decide +kernel
theorem dX11_drop_60 : decode cX11_drop 60 = .ok (.istore_n 3, 1) := by decide +kernel
theorem dX11_drop_61 : decode cX11_drop 61 = .ok (.iload_n 3, 1) := by decide +kernel
theorem dX11_drop_62 : decode cX11_drop 62 = .ok (.iconst 3, 1) := by decide +kernel
theorem dX11_drop_63 : decode cX11_drop 63 = .ok (.if_icmp .ge 53, 3) := by decide +kernel
theorem dX11_drop_66 : decode cX11_drop 66 = .ok (.aload_n 0, 1) := by decide +kernel
theorem dX11_drop_67 : decode cX11_drop 67 = .ok (.getfield 16, 3) := by decide +kernel
theorem dX11_drop_70 : decode cX11_drop 70 = .ok (.iconst 3, 1) := by decide +kernel
theorem dX11_drop_71 : decode cX11_drop 71 = .ok (.iload_n 2, 1) := by decide +kernel
theorem dX11_drop_72 : decode cX11_drop 72 = .ok (.imul, 1) := by decide +kernel
theorem dX11_drop_73 : decode cX11_drop 73 = .ok (.iload_n 3, 1) := by decide +kernel
theorem dX11_drop_74 : decode cX11_drop 74 = .ok (.iadd, 1) := by decide +kernel
theorem dX11_drop_75 : decode cX11_drop 75 = .ok (.aload_n 0, 1) := by decide +kernel
theorem dX11_drop_76 : decode cX11_drop 76 = .ok (.getfield 16, 3) := by decide +kernel
theorem dX11_drop_79 : decode cX11_drop 79 = .ok (.iconst 3, 1) := by decide +kernel
theorem dX11_drop_80 : decode cX11_drop 80 = .ok (.iload_n 2, 1) := by decide +kernel
theorem dX11_drop_81 : decode cX11_drop 81 = .ok (.imul, 1) := by decide +kernel
theorem dX11_drop_82 : decode cX11_drop 82 = .ok (.iconst 3, 1) := by decide +kernel
theorem dX11_drop_83 : decode cX11_drop 83 = .ok (.iadd, 1) := by decide +kernel
theorem dX11_drop_84 : decode cX11_drop 84 = .ok (.iload_n 3, 1) := by decide +kernel
theorem dX11_drop_85 : decode cX11_drop 85 = .ok (.iadd, 1) := by decide +kernel
theorem dX11_drop_86 : decode cX11_drop 86 = .ok (.iaload, 1) := by decide +kernel
theorem dX11_drop_87 : decode cX11_drop 87 = .ok (.iastore, 1) := by decide +kernel
theorem dX11_drop_88 : decode cX11_drop 88 = .ok (.aload_n 0, 1) := by decide +kernel
theorem dX11_drop_89 : decode cX11_drop 89 = .ok (.getfield 19, 3) := by decide +kernel
theorem dX11_drop_92 : decode cX11_drop 92 = .ok (.iconst 3, 1) := by decide +kernel
theorem dX11_drop_93 : decode cX11_drop 93 = .ok (.iload_n 2, 1) := by decide +kernel
theorem dX11_drop_94 : decode cX11_drop 94 = .ok (.imul, 1) := by decide +kernel
theorem dX11_drop_95 : decode cX11_drop 95 = .ok (.iload_n 3, 1) := by decide +kernel
theorem dX11_drop_96 : decode cX11_drop 96 = .ok (.iadd, 1) := by decide +kernel
theorem dX11_drop_97 : decode cX11_drop 97 = .ok (.aload_n 0, 1) := by decide +kernel
theorem dX11_drop_98 : decode cX11_drop 98 = .ok (.getfield 19, 3) := by decide +kernel
theorem dX11_drop_101 : decode cX11_drop 101 = .ok (.iconst 3, 1) := by decide +kernel
theorem dX11_drop_102 : decode cX11_drop 102 = .ok (.iload_n 2, 1) := by decide +kernel
theorem dX11_drop_103 : decode cX11_drop 103 = .ok (.imul, 1) := by decide +kernel
theorem dX11_drop_104 : decode cX11_drop 104 = .ok (.iconst 3, 1) := by decide +kernel
end
section
theorem dX11_drop_105 : decode cX11_drop 105 = .ok (.iadd, 1) := by decide +kernel
theorem dX11_drop_106 : decode cX11_drop 106 = .ok (.iload_n 3, 1) := by decide +kernel
theorem dX11_drop_107 : decode cX11_drop 107 = .ok (.iadd, 1) := by decide +kernel
theorem dX11_drop_108 : decode cX11_drop 108 = .ok (.iaload, 1) := by decide +kernel
theorem dX11_drop_109 : decode cX11_drop 109 = .ok (.iastore, 1) := by decide +kernel
theorem dX11_drop_110 : decode cX11_drop 110 = .ok (.iinc 3 1, 3) := by decide +kernel
theorem dX11_drop_113 : decode cX11_drop 113 = .ok (.goto (-52), 3) := by decide +kernel
theorem dX11_drop_116 : decode cX11_drop 116 = .ok (.iinc 2 1, 3) := by decide +kernel
theorem dX11_drop_119 : decode cX11_drop 119 = .ok (.goto (-96), 3) := by decide +kernel
theorem dX11_drop_122 : decode cX11_drop 122 = .ok (.aload_n 0, 1) := by decide +kernel
theorem dX11_drop_123 : decode cX11_drop 123 = .ok (.aload_n 0, 1) := by decide +kernel
theorem dX11_drop_124 : decode cX11_drop 124 = .ok (.getfield 112, 3) := by decide +kernel
theorem dX11_drop_127 : decode cX11_drop 127 = .ok (.iconst 1, 1) := by decide +kernel
theorem dX11_drop_128 : decode cX11_drop 128 = .ok (.iload_n 1, 1) := by decide +kernel
theorem dX11_drop_129 : decode cX11_drop 129 = .ok (.ishl, 1) := by decide +kernel
theorem dX11_drop_130 : decode cX11_drop 130 = .ok (.iconst 1, 1) := by decide +kernel
theorem dX11_drop_131 : decode cX11_drop 131 = .ok (.isub, 1) := by decide +kernel
theorem dX11_drop_132 : decode cX11_drop 132 = .ok (.iand, 1) := by decide +kernel
theorem dX11_drop_133 : decode cX11_drop 133 = .ok (.aload_n 0, 1) := by decide +kernel
theorem dX11_drop_134 : decode cX11_drop 134 = .ok (.getfield 112, 3) := by decide +kernel
theorem dX11_drop_137 : decode cX11_drop 137 = .ok (.iload_n 1, 1) := by decide +kernel
theorem dX11_drop_138 : decode cX11_drop 138 = .ok (.iconst 1, 1) := by decide +kernel
theorem dX11_drop_139 : decode cX11_drop 139 = .ok (.iadd, 1) := by decide +kernel
theorem dX11_drop_140 : decode cX11_drop 140 = .ok (.ishr, 1) := by decide +kernel
theorem dX11_drop_141 : decode cX11_drop 141 = .ok (.iload_n 1, 1) := by decide +kernel
theorem dX11_drop_142 : decode cX11_drop 142 = .ok (.ishl, 1) := by decide +kernel
theorem dX11_drop_143 : decode cX11_drop 143 = .ok (.ior, 1) := by decide +kernel
theorem dX11_drop_144 : decode cX11_drop 144 = .ok (.putfield 112, 3) := by decide +kernel
theorem dX11_drop_147 : decode cX11_drop 147 = .ok (.aload_n 0, 1) := by decide +kernel
theorem dX11_drop_148 : decode cX11_drop 148 = .ok (.aload_n 0, 1) := by decide +kernel
theorem dX11_drop_149 : decode cX11_drop 149 = .ok (.getfield 112, 3) := by decide +kernel
theorem dX11_drop_152 : decode cX11_drop 152 = .ok (.putfield 115, 3) := by decide +kernel
theorem dX11_drop_155 : decode cX11_drop 155 = .ok (.aload_n 0, 1) := by decide +kernel
theorem dX11_drop_156 : decode cX11_drop 156 = .ok (.getfield 109, 3) := by decide +kernel
theorem dX11_drop_159 : decode cX11_drop 159 = .ok (.ireturn, 1) := by decide +kernel
theorem dX11_begins_0 : decode cX11_begins 0 = .ok (.aload_n 0, 1) := by decide +kernel
theorem dX11_begins_1 : decode cX11_begins 1 = .ok (.iload_n 1, 1) := by decide +kernel
theorem dX11_begins_2 : decode cX11_begins 2 = .ok (.invokevirtual 137, 3) := by decide +kernel
theorem dX11_begins_5 : decode cX11_begins 5 = .ok (.aload_n 0, 1) := by decide +kernel
theorem dX11_begins_6 : decode cX11_begins 6 = .ok (.iload_n 2, 1) := by decide +kernel
theorem dX11_begins_7 : decode cX11_begins 7 = .ok (.invokevirtual 137, 3) := by decide +kernel
theorem dX11_begins_10 : decode cX11_begins 10 = .ok (.if_icmp .gt 7, 3) := by decide +kernel
theorem dX11_begins_13 : decode cX11_begins 13 = .ok (.iconst 1, 1) := by decide +kernel
theorem dX11_begins_14 : decode cX11_begins 14 = .ok (.goto 4, 3) := by decide +kernel
theorem dX11_begins_17 : decode cX11_begins 17 = .ok (.iconst 0, 1) := by decide +kernel
theorem dX11_begins_18 : decode cX11_begins 18 = .ok (.istore_n 3, 1) := by decide +kernel
theorem dX11_begins_19 : decode cX11_begins 19 = .ok (.iconst 0, 1) := by decide +kernel
theorem dX11_begins_20 : decode cX11_begins 20 = .ok (.istore 4, 2) := by decide +kernel
theorem dX11_begins_22 : decode cX11_begins 22 = .ok (.iload 4, 2) := by decide +kernel
theorem dX11_begins_24 : decode cX11_begins 24 = .ok (.aload_n 0, 1) := by decide +kernel
theorem dX11_begins_25 : decode cX11_begins 25 = .ok (.iload_n 1, 1) := by decide +kernel
theorem dX11_begins_26 : decode cX11_begins 26 = .ok (.invokevirtual 137, 3) := by decide +kernel
theorem dX11_begins_29 : decode cX11_begins 29 = .ok (.if_icmp .ge 36, 3) := by decide +kernel
theorem dX11_begins_32 : decode cX11_begins 32 = .ok (.iload_n 3, 1) := by decide +kernel
theorem dX11_begins_33 : decode cX11_begins 33 = .ok (.ifCond .eq 32, 3) := by decide +kernel
theorem dX11_begins_36 : decode cX11_begins 36 = .ok (.aload_n 0, 1) := by decide +kernel
theorem dX11_begins_37 : decode cX11_begins 37 = .ok (.iload_n 1, 1) := by decide +kernel
theorem dX11_begins_38 : decode cX11_begins 38 = .ok (.iload 4, 2) := by decide +kernel
theorem dX11_begins_40 : decode cX11_begins 40 = .ok (.invokevirtual 140, 3) := by decide +kernel
theorem dX11_begins_43 : decode cX11_begins 43 = .ok (.aload_n 0, 1) := by decide +kernel
theorem dX11_begins_44 : decode cX11_begins 44 = .ok (.iload_n 2, 1) := by decide +kernel
theorem dX11_begins_45 : decode cX11_begins 45 = .ok (.iload 4, 2) := by decide +kernel
theorem dX11_begins_47 : decode cX11_begins 47 = .ok (.invokevirtual 140, 3) := by decide +kernel
theorem dX11_begins_50 : decode cX11_begins 50 = .ok (.if_icmp .ne 7, 3) := by decide +kernel
theorem dX11_begins_53 : decode cX11_begins 53 = .ok (.iconst 1, 1) := by decide +kernel
theorem dX11_begins_54 : decode cX11_begins 54 = .ok (.goto 4, 3) := by decide +kernel
theorem dX11_begins_57 : decode cX11_begins 57 = .ok (.iconst 0, 1) := by decide +kernel
theorem dX11_begins_58 : decode cX11_begins 58 = .ok (.istore_n 3, 1) := by decide +kernel
theorem dX11_begins_59 : decode cX11_begins 59 = .ok (.iinc 4 1, 3) := by decide +kernel
theorem dX11_begins_62 : decode cX11_begins 62 = .ok (.goto (-40), 3) := by decide +kernel
theorem dX11_begins_65 : decode cX11_begins 65 = .ok (.iload_n 3, 1) := by decide +kernel
theorem dX11_begins_66 : decode cX11_begins 66 = .ok (.ireturn, 1) := by decide +kernel
theorem dX11_leftBegins_0 : decode cX11_leftBegins 0 = .ok (.aload_n 0, 1) := by decide +kernel
theorem dX11_leftBegins_1 : decode cX11_leftBegins 1 = .ok (.getfield 7, 3) := by decide +kernel
theorem dX11_leftBegins_4 : decode cX11_leftBegins 4 = .ok (.iload_n 1, 1) := by decide +kernel
theorem dX11_leftBegins_5 : decode cX11_leftBegins 5 = .ok (.iaload, 1) := by decide +kernel
theorem dX11_leftBegins_6 : decode cX11_leftBegins 6 = .ok (.aload_n 0, 1) := by decide +kernel
theorem dX11_leftBegins_7 : decode cX11_leftBegins 7 = .ok (.getfield 7, 3) := by decide +kernel
theorem dX11_leftBegins_10 : decode cX11_leftBegins 10 = .ok (.iload_n 2, 1) := by decide +kernel
theorem dX11_leftBegins_11 : decode cX11_leftBegins 11 = .ok (.iaload, 1) := by decide +kernel
theorem dX11_leftBegins_12 : decode cX11_leftBegins 12 = .ok (.if_icmp .gt 7, 3) := by decide +kernel
theorem dX11_leftBegins_15 : decode cX11_leftBegins 15 = .ok (.iconst 1, 1) := by decide +kernel
theorem dX11_leftBegins_16 : decode cX11_leftBegins 16 = .ok (.goto 4, 3) := by decide +kernel
theorem dX11_leftBegins_19 : decode cX11_leftBegins 19 = .ok (.iconst 0, 1) := by decide +kernel
theorem dX11_leftBegins_20 : decode cX11_leftBegins 20 = .ok (.istore_n 3, 1) := by decide +kernel
theorem dX11_leftBegins_21 : decode cX11_leftBegins 21 = .ok (.iconst 0, 1) := by decide +kernel
theorem dX11_leftBegins_22 : decode cX11_leftBegins 22 = .ok (.istore 4, 2) := by decide +kernel
theorem dX11_leftBegins_24 : decode cX11_leftBegins 24 = .ok (.iload 4, 2) := by decide +kernel
theorem dX11_leftBegins_26 : decode cX11_leftBegins 26 = .ok (.aload_n 0, 1) := by decide +kernel
theorem dX11_leftBegins_27 : decode cX11_leftBegins 27 = .ok (.getfield 7, 3) := by decide +kernel
theorem dX11_leftBegins_30 : decode cX11_leftBegins 30 = .ok (.iload_n 1, 1) := by decide +kernel
theorem dX11_leftBegins_31 : decode cX11_leftBegins 31 = .ok (.iaload, 1) := by decide +kernel
theorem dX11_leftBegins_32 : decode cX11_leftBegins 32 = .ok (.if_icmp .ge 44, 3) := by decide +kernel
theorem dX11_leftBegins_35 : decode cX11_leftBegins 35 = .ok (.iload_n 3, 1) := by decide +kernel
theorem dX11_leftBegins_36 : decode cX11_leftBegins 36 = .ok (.ifCond .eq 40, 3) := by decide +kernel
theorem dX11_leftBegins_39 : decode cX11_leftBegins 39 = .ok (.aload_n 0, 1) := by decide +kernel
theorem dX11_leftBegins_40 : decode cX11_leftBegins 40 = .ok (.getfield 16, 3) := by decide +kernel
theorem dX11_leftBegins_43 : decode cX11_leftBegins 43 = .ok (.iconst 3, 1) := by decide +kernel
theorem dX11_leftBegins_44 : decode cX11_leftBegins 44 = .ok (.iload_n 1, 1) := by decide +kernel
theorem dX11_leftBegins_45 : decode cX11_leftBegins 45 = .ok (.imul, 1) := by decide +kernel
theorem dX11_leftBegins_46 : decode cX11_leftBegins 46 = .ok (.iload 4, 2) := by decide +kernel
theorem dX11_leftBegins_48 : decode cX11_leftBegins 48 = .ok (.iadd, 1) := by decide +kernel
theorem dX11_leftBegins_49 : decode cX11_leftBegins 49 = .ok (.iaload, 1) := by decide +kernel
theorem dX11_leftBegins_50 : decode cX11_leftBegins 50 = .ok (.aload_n 0, 1) := by decide +kernel
theorem dX11_leftBegins_51 : decode cX11_leftBegins 51 = .ok (.getfield 16, 3) := by decide +kernel
theorem dX11_leftBegins_54 : decode cX11_leftBegins 54 = .ok (.iconst 3, 1) := by decide +kernel
theorem dX11_leftBegins_55 : decode cX11_leftBegins 55 = .ok (.iload_n 2, 1) := by decide +kernel
theorem dX11_leftBegins_56 : decode cX11_leftBegins 56 = .ok (.imul, 1) := by decide +kernel
theorem dX11_leftBegins_57 : decode cX11_leftBegins 57 = .ok (.iload 4, 2) := by decide +kernel
theorem dX11_leftBegins_59 : decode cX11_leftBegins 59 = .ok (.iadd, 1) := by decide +kernel
theorem dX11_leftBegins_60 : decode cX11_leftBegins 60 = .ok (.iaload, 1) := by decide +kernel
theorem dX11_leftBegins_61 : decode cX11_leftBegins 61 = .ok (.if_icmp .ne 7, 3) := by decide +kernel
theorem dX11_leftBegins_64 : decode cX11_leftBegins 64 = .ok (.iconst 1, 1) := by decide +kernel
theorem dX11_leftBegins_65 : decode cX11_leftBegins 65 = .ok (.goto 4, 3) := by decide +kernel
theorem dX11_leftBegins_68 : decode cX11_leftBegins 68 = .ok (.iconst 0, 1) := by decide +kernel
theorem dX11_leftBegins_69 : decode cX11_leftBegins 69 = .ok (.istore_n 3, 1) := by decide +kernel
theorem dX11_leftBegins_70 : decode cX11_leftBegins 70 = .ok (.iinc 4 1, 3) := by decide +kernel
theorem dX11_leftBegins_73 : decode cX11_leftBegins 73 = .ok (.goto (-49), 3) := by decide +kernel
theorem dX11_leftBegins_76 : decode cX11_leftBegins 76 = .ok (.iload_n 3, 1) := by decide +kernel
theorem dX11_leftBegins_77 : decode cX11_leftBegins 77 = .ok (.ireturn, 1) := by decide +kernel
theorem dX11_begunBy_0 : decode cX11_begunBy 0 = .ok (.iconst 0, 1) := by decide +kernel
theorem dX11_begunBy_1 : decode cX11_begunBy 1 = .ok (.istore_n 3, 1) := by decide +kernel
theorem dX11_begunBy_2 : decode cX11_begunBy 2 = .ok (.iconst 0, 1) := by decide +kernel
theorem dX11_begunBy_3 : decode cX11_begunBy 3 = .ok (.istore 4, 2) := by decide +kernel
theorem dX11_begunBy_5 : decode cX11_begunBy 5 = .ok (.iload 4, 2) := by decide +kernel
theorem dX11_begunBy_7 : decode cX11_begunBy 7 = .ok (.aload_n 0, 1) := by decide +kernel
theorem dX11_begunBy_8 : decode cX11_begunBy 8 = .ok (.getfield 109, 3) := by decide +kernel
theorem dX11_begunBy_11 : decode cX11_begunBy 11 = .ok (.if_icmp .ge 50, 3) := by decide +kernel
theorem dX11_begunBy_14 : decode cX11_begunBy 14 = .ok (.iload_n 3, 1) := by decide +kernel
theorem dX11_begunBy_15 : decode cX11_begunBy 15 = .ok (.iload 4, 2) := by decide +kernel
theorem dX11_begunBy_17 : decode cX11_begunBy 17 = .ok (.iload_n 1, 1) := by decide +kernel
theorem dX11_begunBy_18 : decode cX11_begunBy 18 = .ok (.if_icmp .eq 34, 3) := by decide +kernel
theorem dX11_begunBy_21 : decode cX11_begunBy 21 = .ok (.iload_n 2, 1) := by decide +kernel
theorem dX11_begunBy_22 : decode cX11_begunBy 22 = .ok (.ifCond .eq 16, 3) := by decide +kernel
theorem dX11_begunBy_25 : decode cX11_begunBy 25 = .ok (.aload_n 0, 1) := by decide +kernel
theorem dX11_begunBy_26 : decode cX11_begunBy 26 = .ok (.iload_n 1, 1) := by decide +kernel
theorem dX11_begunBy_27 : decode cX11_begunBy 27 = .ok (.iload 4, 2) := by decide +kernel
theorem dX11_begunBy_29 : decode cX11_begunBy 29 = .ok (.invokevirtual 153, 3) := by decide +kernel
theorem dX11_begunBy_32 : decode cX11_begunBy 32 = .ok (.ifCond .eq 20, 3) := by decide +kernel
theorem dX11_begunBy_35 : decode cX11_begunBy 35 = .ok (.goto 13, 3) := by decide +kernel
theorem dX11_begunBy_38 : decode cX11_begunBy 38 = .ok (.aload_n 0, 1) := by decide +kernel
theorem dX11_begunBy_39 : decode cX11_begunBy 39 = .ok (.iload_n 1, 1) := by decide +kernel
theorem dX11_begunBy_40 : decode cX11_begunBy 40 = .ok (.iload 4, 2) := by decide +kernel
theorem dX11_begunBy_42 : decode cX11_begunBy 42 = .ok (.invokevirtual 157, 3) := by decide +kernel
theorem dX11_begunBy_45 : decode cX11_begunBy 45 = .ok (.ifCond .eq 7, 3) := by decide +kernel
theorem dX11_begunBy_48 : decode cX11_begunBy 48 = .ok (.iconst 1, 1) := by decide +kernel
theorem dX11_begunBy_49 : decode cX11_begunBy 49 = .ok (.goto 4, 3) := by decide +kernel
theorem dX11_begunBy_52 : decode cX11_begunBy 52 = .ok (.iconst 0, 1) := by decide +kernel
theorem dX11_begunBy_53 : decode cX11_begunBy 53 = .ok (.iadd, 1) := by decide +kernel
theorem dX11_begunBy_54 : decode cX11_begunBy 54 = .ok (.istore_n 3, 1) := by decide +kernel
theorem dX11_begunBy_55 : decode cX11_begunBy 55 = .ok (.iinc 4 1, 3) := by decide +kernel
theorem dX11_begunBy_58 : decode cX11_begunBy 58 = .ok (.goto (-53), 3) := by decide +kernel
theorem dX11_begunBy_61 : decode cX11_begunBy 61 = .ok (.iload_n 3, 1) := by decide +kernel
theorem dX11_begunBy_62 : decode cX11_begunBy 62 = .ok (.ireturn, 1) := by decide +kernel
theorem dX11_ruleNow_0 : decode cX11_ruleNow 0 = .ok (.iload_n 2, 1) := by decide +kernel
theorem dX11_ruleNow_1 : decode cX11_ruleNow 1 = .ok (.tableswitch 61 0 3 #[31, 38, 45, 54], 31) := by decide +kernel
theorem dX11_ruleNow_32 : decode cX11_ruleNow 32 = .ok (.aload_n 0, 1) := by decide +kernel
theorem dX11_ruleNow_33 : decode cX11_ruleNow 33 = .ok (.getfield 7, 3) := by decide +kernel
theorem dX11_ruleNow_36 : decode cX11_ruleNow 36 = .ok (.iload_n 1, 1) := by decide +kernel
theorem dX11_ruleNow_37 : decode cX11_ruleNow 37 = .ok (.iaload, 1) := by decide +kernel
theorem dX11_ruleNow_38 : decode cX11_ruleNow 38 = .ok (.ireturn, 1) := by decide +kernel
theorem dX11_ruleNow_39 : decode cX11_ruleNow 39 = .ok (.aload_n 0, 1) := by decide +kernel
theorem dX11_ruleNow_40 : decode cX11_ruleNow 40 = .ok (.getfield 13, 3) := by decide +kernel
theorem dX11_ruleNow_43 : decode cX11_ruleNow 43 = .ok (.iload_n 1, 1) := by decide +kernel
theorem dX11_ruleNow_44 : decode cX11_ruleNow 44 = .ok (.iaload, 1) := by decide +kernel
theorem dX11_ruleNow_45 : decode cX11_ruleNow 45 = .ok (.ireturn, 1) := by decide +kernel
theorem dX11_ruleNow_46 : decode cX11_ruleNow 46 = .ok (.aload_n 0, 1) := by decide +kernel
theorem dX11_ruleNow_47 : decode cX11_ruleNow 47 = .ok (.getfield 112, 3) := by decide +kernel
theorem dX11_ruleNow_50 : decode cX11_ruleNow 50 = .ok (.iload_n 1, 1) := by decide +kernel
theorem dX11_ruleNow_51 : decode cX11_ruleNow 51 = .ok (.ishr, 1) := by decide +kernel
theorem dX11_ruleNow_52 : decode cX11_ruleNow 52 = .ok (.iconst 1, 1) := by decide +kernel
theorem dX11_ruleNow_53 : decode cX11_ruleNow 53 = .ok (.iand, 1) := by decide +kernel
theorem dX11_ruleNow_54 : decode cX11_ruleNow 54 = .ok (.ireturn, 1) := by decide +kernel
theorem dX11_ruleNow_55 : decode cX11_ruleNow 55 = .ok (.aload_n 0, 1) := by decide +kernel
theorem dX11_ruleNow_56 : decode cX11_ruleNow 56 = .ok (.iload_n 1, 1) := by decide +kernel
theorem dX11_ruleNow_57 : decode cX11_ruleNow 57 = .ok (.iconst 0, 1) := by decide +kernel
theorem dX11_ruleNow_58 : decode cX11_ruleNow 58 = .ok (.invokevirtual 160, 3) := by decide +kernel
theorem dX11_ruleNow_61 : decode cX11_ruleNow 61 = .ok (.ireturn, 1) := by decide +kernel
theorem dX11_ruleNow_62 : decode cX11_ruleNow 62 = .ok (.aload_n 0, 1) := by decide +kernel
theorem dX11_ruleNow_63 : decode cX11_ruleNow 63 = .ok (.iload_n 1, 1) := by decide +kernel
theorem dX11_ruleNow_64 : decode cX11_ruleNow 64 = .ok (.iconst 1, 1) := by decide +kernel
theorem dX11_ruleNow_65 : decode cX11_ruleNow 65 = .ok (.invokevirtual 160, 3) := by decide +kernel
theorem dX11_ruleNow_68 : decode cX11_ruleNow 68 = .ok (.ireturn, 1) := by decide +kernel
theorem dX11_rule_0 : decode cX11_rule 0 = .ok (.aload_n 0, 1) := by decide +kernel
theorem dX11_rule_1 : decode cX11_rule 1 = .ok (.iload_n 1, 1) := by decide +kernel
theorem dX11_rule_2 : decode cX11_rule 2 = .ok (.invokevirtual 150, 3) := by decide +kernel
theorem dX11_rule_5 : decode cX11_rule 5 = .ok (.ifCond .ne 8, 3) := by decide +kernel
theorem dX11_rule_8 : decode cX11_rule 8 = .ok (.bipush (-101), 2) := by decide +kernel
theorem dX11_rule_10 : decode cX11_rule 10 = .ok (.goto 23, 3) := by decide +kernel
theorem dX11_rule_13 : decode cX11_rule 13 = .ok (.iload_n 2, 1) := by decide +kernel
theorem dX11_rule_14 : decode cX11_rule 14 = .ok (.iconst 0, 1) := by decide +kernel
theorem dX11_rule_15 : decode cX11_rule 15 = .ok (.iconst 4, 1) := by decide +kernel
theorem dX11_rule_16 : decode cX11_rule 16 = .ok (.invokestatic 71, 3) := by decide +kernel
theorem dX11_rule_19 : decode cX11_rule 19 = .ok (.ifCond .eq 12, 3) := by decide +kernel
theorem dX11_rule_22 : decode cX11_rule 22 = .ok (.aload_n 0, 1) := by decide +kernel
theorem dX11_rule_23 : decode cX11_rule 23 = .ok (.iload_n 1, 1) := by decide +kernel
theorem dX11_rule_24 : decode cX11_rule 24 = .ok (.iload_n 2, 1) := by decide +kernel
theorem dX11_rule_25 : decode cX11_rule 25 = .ok (.invokevirtual 164, 3) := by decide +kernel
theorem dX11_rule_28 : decode cX11_rule 28 = .ok (.goto 5, 3) := by decide +kernel
theorem dX11_rule_31 : decode cX11_rule 31 = .ok (.bipush (-102), 2) := by decide +kernel
theorem dX11_rule_33 : decode cX11_rule 33 = .ok (.ireturn, 1) := by decide +kernel
theorem dX11_sign_0 : decode cX11_sign 0 = .ok (.aload_n 0, 1) := by decide +kernel
theorem dX11_sign_1 : decode cX11_sign 1 = .ok (.iload_n 1, 1) := by decide +kernel
theorem dX11_sign_2 : decode cX11_sign 2 = .ok (.invokevirtual 150, 3) := by decide +kernel
theorem dX11_sign_5 : decode cX11_sign 5 = .ok (.ifCond .ne 6, 3) := by decide +kernel
theorem dX11_sign_8 : decode cX11_sign 8 = .ok (.bipush (-101), 2) := by decide +kernel
theorem dX11_sign_10 : decode cX11_sign 10 = .ok (.ireturn, 1) := by decide +kernel
theorem dX11_sign_11 : decode cX11_sign 11 = .ok (.iload_n 2, 1) := by decide +kernel
theorem dX11_sign_12 : decode cX11_sign 12 = .ok (.iconst 0, 1) := by decide +kernel
theorem dX11_sign_13 : decode cX11_sign 13 = .ok (.iconst 1, 1) := by decide +kernel
theorem dX11_sign_14 : decode cX11_sign 14 = .ok (.invokestatic 71, 3) := by decide +kernel
theorem dX11_sign_17 : decode cX11_sign 17 = .ok (.ifCond .ne 6, 3) := by decide +kernel
theorem dX11_sign_20 : decode cX11_sign 20 = .ok (.bipush (-102), 2) := by decide +kernel
theorem dX11_sign_22 : decode cX11_sign 22 = .ok (.ireturn, 1) := by decide +kernel
theorem dX11_sign_23 : decode cX11_sign 23 = .ok (.iload_n 3, 1) := by decide +kernel
theorem dX11_sign_24 : decode cX11_sign 24 = .ok (.iconst 0, 1) := by decide +kernel
theorem dX11_sign_25 : decode cX11_sign 25 = .ok (.iload_n 2, 1) := by decide +kernel
theorem dX11_sign_26 : decode cX11_sign 26 = .ok (.ifCond .ne 12, 3) := by decide +kernel
theorem dX11_sign_29 : decode cX11_sign 29 = .ok (.aload_n 0, 1) := by decide +kernel
theorem dX11_sign_30 : decode cX11_sign 30 = .ok (.getfield 7, 3) := by decide +kernel
theorem dX11_sign_33 : decode cX11_sign 33 = .ok (.iload_n 1, 1) := by decide +kernel
theorem dX11_sign_34 : decode cX11_sign 34 = .ok (.iaload, 1) := by decide +kernel
theorem dX11_sign_35 : decode cX11_sign 35 = .ok (.goto 8, 3) := by decide +kernel
theorem dX11_sign_38 : decode cX11_sign 38 = .ok (.aload_n 0, 1) := by decide +kernel
theorem dX11_sign_39 : decode cX11_sign 39 = .ok (.iload_n 1, 1) := by decide +kernel
theorem dX11_sign_40 : decode cX11_sign 40 = .ok (.invokevirtual 137, 3) := by decide +kernel
theorem dX11_sign_43 : decode cX11_sign 43 = .ok (.iconst 1, 1) := by decide +kernel
theorem dX11_sign_44 : decode cX11_sign 44 = .ok (.isub, 1) := by decide +kernel
theorem dX11_sign_45 : decode cX11_sign 45 = .ok (.invokestatic 71, 3) := by decide +kernel
theorem dX11_sign_48 : decode cX11_sign 48 = .ok (.ifCond .ne 6, 3) := by decide +kernel
theorem dX11_sign_51 : decode cX11_sign 51 = .ok (.bipush (-101), 2) := by decide +kernel
theorem dX11_sign_53 : decode cX11_sign 53 = .ok (.ireturn, 1) := by decide +kernel
theorem dX11_sign_54 : decode cX11_sign 54 = .ok (.iload_n 2, 1) := by decide +kernel
theorem dX11_sign_55 : decode cX11_sign 55 = .ok (.ifCond .ne 16, 3) := by decide +kernel
theorem dX11_sign_58 : decode cX11_sign 58 = .ok (.aload_n 0, 1) := by decide +kernel
theorem dX11_sign_59 : decode cX11_sign 59 = .ok (.getfield 16, 3) := by decide +kernel
theorem dX11_sign_62 : decode cX11_sign 62 = .ok (.iconst 3, 1) := by decide +kernel
theorem dX11_sign_63 : decode cX11_sign 63 = .ok (.iload_n 1, 1) := by decide +kernel
theorem dX11_sign_64 : decode cX11_sign 64 = .ok (.imul, 1) := by decide +kernel
theorem dX11_sign_65 : decode cX11_sign 65 = .ok (.iload_n 3, 1) := by decide +kernel
theorem dX11_sign_66 : decode cX11_sign 66 = .ok (.iadd, 1) := by decide +kernel
theorem dX11_sign_67 : decode cX11_sign 67 = .ok (.iaload, 1) := by decide +kernel
theorem dX11_sign_68 : decode cX11_sign 68 = .ok (.goto 9, 3) := by decide +kernel
theorem dX11_sign_71 : decode cX11_sign 71 = .ok (.aload_n 0, 1) := by decide +kernel
theorem dX11_sign_72 : decode cX11_sign 72 = .ok (.iload_n 1, 1) := by decide +kernel
theorem dX11_sign_73 : decode cX11_sign 73 = .ok (.iload_n 3, 1) := by decide +kernel
theorem dX11_sign_74 : decode cX11_sign 74 = .ok (.invokevirtual 140, 3) := by decide +kernel
theorem dX11_sign_77 : decode cX11_sign 77 = .ok (.ireturn, 1) := by decide +kernel
theorem dX11_lies_0 : decode cX11_lies 0 = .ok (.iload_n 2, 1) := by decide +kernel
theorem dX11_lies_1 : decode cX11_lies 1 = .ok (.aload_n 0, 1) := by decide +kernel
theorem dX11_lies_2 : decode cX11_lies 2 = .ok (.iload_n 1, 1) := by decide +kernel
theorem dX11_lies_3 : decode cX11_lies 3 = .ok (.invokevirtual 137, 3) := by decide +kernel
theorem dX11_lies_6 : decode cX11_lies 6 = .ok (.iadd, 1) := by decide +kernel
theorem dX11_lies_7 : decode cX11_lies 7 = .ok (.aload_n 0, 1) := by decide +kernel
theorem dX11_lies_8 : decode cX11_lies 8 = .ok (.getfield 167, 3) := by decide +kernel
theorem dX11_lies_11 : decode cX11_lies 11 = .ok (.if_icmp .gt 7, 3) := by decide +kernel
theorem dX11_lies_14 : decode cX11_lies 14 = .ok (.iconst 1, 1) := by decide +kernel
theorem dX11_lies_15 : decode cX11_lies 15 = .ok (.goto 4, 3) := by decide +kernel
theorem dX11_lies_18 : decode cX11_lies 18 = .ok (.iconst 0, 1) := by decide +kernel
theorem dX11_lies_19 : decode cX11_lies 19 = .ok (.istore_n 3, 1) := by decide +kernel
theorem dX11_lies_20 : decode cX11_lies 20 = .ok (.iconst 0, 1) := by decide +kernel
theorem dX11_lies_21 : decode cX11_lies 21 = .ok (.istore 4, 2) := by decide +kernel
theorem dX11_lies_23 : decode cX11_lies 23 = .ok (.iload 4, 2) := by decide +kernel
theorem dX11_lies_25 : decode cX11_lies 25 = .ok (.aload_n 0, 1) := by decide +kernel
theorem dX11_lies_26 : decode cX11_lies 26 = .ok (.iload_n 1, 1) := by decide +kernel
theorem dX11_lies_27 : decode cX11_lies 27 = .ok (.invokevirtual 137, 3) := by decide +kernel
theorem dX11_lies_30 : decode cX11_lies 30 = .ok (.if_icmp .ge 38, 3) := by decide +kernel
theorem dX11_lies_33 : decode cX11_lies 33 = .ok (.iload_n 3, 1) := by decide +kernel
theorem dX11_lies_34 : decode cX11_lies 34 = .ok (.ifCond .eq 34, 3) := by decide +kernel
theorem dX11_lies_37 : decode cX11_lies 37 = .ok (.aload_n 0, 1) := by decide +kernel
theorem dX11_lies_38 : decode cX11_lies 38 = .ok (.getfield 43, 3) := by decide +kernel
theorem dX11_lies_41 : decode cX11_lies 41 = .ok (.iload_n 2, 1) := by decide +kernel
theorem dX11_lies_42 : decode cX11_lies 42 = .ok (.iload 4, 2) := by decide +kernel
theorem dX11_lies_44 : decode cX11_lies 44 = .ok (.iadd, 1) := by decide +kernel
theorem dX11_lies_45 : decode cX11_lies 45 = .ok (.iaload, 1) := by decide +kernel
theorem dX11_lies_46 : decode cX11_lies 46 = .ok (.aload_n 0, 1) := by decide +kernel
theorem dX11_lies_47 : decode cX11_lies 47 = .ok (.iload_n 1, 1) := by decide +kernel
theorem dX11_lies_48 : decode cX11_lies 48 = .ok (.iload 4, 2) := by decide +kernel
theorem dX11_lies_50 : decode cX11_lies 50 = .ok (.invokevirtual 140, 3) := by decide +kernel
theorem dX11_lies_53 : decode cX11_lies 53 = .ok (.if_icmp .ne 7, 3) := by decide +kernel
theorem dX11_lies_56 : decode cX11_lies 56 = .ok (.iconst 1, 1) := by decide +kernel
theorem dX11_lies_57 : decode cX11_lies 57 = .ok (.goto 4, 3) := by decide +kernel
theorem dX11_lies_60 : decode cX11_lies 60 = .ok (.iconst 0, 1) := by decide +kernel
theorem dX11_lies_61 : decode cX11_lies 61 = .ok (.istore_n 3, 1) := by decide +kernel
theorem dX11_lies_62 : decode cX11_lies 62 = .ok (.iinc 4 1, 3) := by decide +kernel
theorem dX11_lies_65 : decode cX11_lies 65 = .ok (.goto (-42), 3) := by decide +kernel
theorem dX11_lies_68 : decode cX11_lies 68 = .ok (.iload_n 3, 1) := by decide +kernel
theorem dX11_lies_69 : decode cX11_lies 69 = .ok (.ireturn, 1) := by decide +kernel
theorem dX11_longestSign_0 : decode cX11_longestSign 0 = .ok (.iconst (-1), 1) := by decide +kernel
theorem dX11_longestSign_1 : decode cX11_longestSign 1 = .ok (.istore_n 2, 1) := by decide +kernel
theorem dX11_longestSign_2 : decode cX11_longestSign 2 = .ok (.iconst 0, 1) := by decide +kernel
theorem dX11_longestSign_3 : decode cX11_longestSign 3 = .ok (.istore_n 3, 1) := by decide +kernel
theorem dX11_longestSign_4 : decode cX11_longestSign 4 = .ok (.iload_n 3, 1) := by decide +kernel
theorem dX11_longestSign_5 : decode cX11_longestSign 5 = .ok (.aload_n 0, 1) := by decide +kernel
theorem dX11_longestSign_6 : decode cX11_longestSign 6 = .ok (.getfield 109, 3) := by decide +kernel
theorem dX11_longestSign_9 : decode cX11_longestSign 9 = .ok (.if_icmp .ge 54, 3) := by decide +kernel
theorem dX11_longestSign_12 : decode cX11_longestSign 12 = .ok (.aload_n 0, 1) := by decide +kernel
theorem dX11_longestSign_13 : decode cX11_longestSign 13 = .ok (.iload_n 3, 1) := by decide +kernel
theorem dX11_longestSign_14 : decode cX11_longestSign 14 = .ok (.iload_n 1, 1) := by decide +kernel
theorem dX11_longestSign_15 : decode cX11_longestSign 15 = .ok (.invokevirtual 170, 3) := by decide +kernel
theorem dX11_longestSign_18 : decode cX11_longestSign 18 = .ok (.ifCond .eq 25, 3) := by decide +kernel
theorem dX11_longestSign_21 : decode cX11_longestSign 21 = .ok (.iload_n 2, 1) := by decide +kernel
theorem dX11_longestSign_22 : decode cX11_longestSign 22 = .ok (.iconst (-1), 1) := by decide +kernel
theorem dX11_longestSign_23 : decode cX11_longestSign 23 = .ok (.if_icmp .eq 16, 3) := by decide +kernel
theorem dX11_longestSign_26 : decode cX11_longestSign 26 = .ok (.aload_n 0, 1) := by decide +kernel
theorem dX11_longestSign_27 : decode cX11_longestSign 27 = .ok (.iload_n 3, 1) := by decide +kernel
theorem dX11_longestSign_28 : decode cX11_longestSign 28 = .ok (.invokevirtual 137, 3) := by decide +kernel
theorem dX11_longestSign_31 : decode cX11_longestSign 31 = .ok (.aload_n 0, 1) := by decide +kernel
theorem dX11_longestSign_32 : decode cX11_longestSign 32 = .ok (.iload_n 2, 1) := by decide +kernel
theorem dX11_longestSign_33 : decode cX11_longestSign 33 = .ok (.invokevirtual 137, 3) := by decide +kernel
theorem dX11_longestSign_36 : decode cX11_longestSign 36 = .ok (.if_icmp .le 7, 3) := by decide +kernel
theorem dX11_longestSign_39 : decode cX11_longestSign 39 = .ok (.iconst 1, 1) := by decide +kernel
theorem dX11_longestSign_40 : decode cX11_longestSign 40 = .ok (.goto 4, 3) := by decide +kernel
theorem dX11_longestSign_43 : decode cX11_longestSign 43 = .ok (.iconst 0, 1) := by decide +kernel
theorem dX11_longestSign_44 : decode cX11_longestSign 44 = .ok (.istore 4, 2) := by decide +kernel
theorem dX11_longestSign_46 : decode cX11_longestSign 46 = .ok (.iload 4, 2) := by decide +kernel
theorem dX11_longestSign_48 : decode cX11_longestSign 48 = .ok (.ifCond .eq 7, 3) := by decide +kernel
theorem dX11_longestSign_51 : decode cX11_longestSign 51 = .ok (.iload_n 3, 1) := by decide +kernel
theorem dX11_longestSign_52 : decode cX11_longestSign 52 = .ok (.goto 4, 3) := by decide +kernel
theorem dX11_longestSign_55 : decode cX11_longestSign 55 = .ok (.iload_n 2, 1) := by decide +kernel
theorem dX11_longestSign_56 : decode cX11_longestSign 56 = .ok (.istore_n 2, 1) := by decide +kernel
theorem dX11_longestSign_57 : decode cX11_longestSign 57 = .ok (.iinc 3 1, 3) := by decide +kernel
theorem dX11_longestSign_60 : decode cX11_longestSign 60 = .ok (.goto (-56), 3) := by decide +kernel
theorem dX11_longestSign_63 : decode cX11_longestSign 63 = .ok (.iload_n 2, 1) := by decide +kernel
theorem dX11_longestSign_64 : decode cX11_longestSign 64 = .ok (.ireturn, 1) := by decide +kernel
theorem dX11_workText_0 : decode cX11_workText 0 = .ok (.aload_n 0, 1) := by decide +kernel
theorem dX11_workText_1 : decode cX11_workText 1 = .ok (.aload_n 0, 1) := by decide +kernel
theorem dX11_workText_2 : decode cX11_workText 2 = .ok (.getfield 118, 3) := by decide +kernel
theorem dX11_workText_5 : decode cX11_workText 5 = .ok (.putfield 167, 3) := by decide +kernel
theorem dX11_workText_8 : decode cX11_workText 8 = .ok (.iconst 0, 1) := by decide +kernel
theorem dX11_workText_9 : decode cX11_workText 9 = .ok (.istore_n 1, 1) := by decide +kernel
theorem dX11_workText_10 : decode cX11_workText 10 = .ok (.iload_n 1, 1) := by decide +kernel
theorem dX11_workText_11 : decode cX11_workText 11 = .ok (.aload_n 0, 1) := by decide +kernel
theorem dX11_workText_12 : decode cX11_workText 12 = .ok (.getfield 118, 3) := by decide +kernel
theorem dX11_workText_15 : decode cX11_workText 15 = .ok (.if_icmp .ge 21, 3) := by decide +kernel
theorem dX11_workText_18 : decode cX11_workText 18 = .ok (.aload_n 0, 1) := by decide +kernel
theorem dX11_workText_19 : decode cX11_workText 19 = .ok (.getfield 43, 3) := by decide +kernel
theorem dX11_workText_22 : decode cX11_workText 22 = .ok (.iload_n 1, 1) := by decide +kernel
theorem dX11_workText_23 : decode cX11_workText 23 = .ok (.aload_n 0, 1) := by decide +kernel
theorem dX11_workText_24 : decode cX11_workText 24 = .ok (.getfield 22, 3) := by decide +kernel
theorem dX11_workText_27 : decode cX11_workText 27 = .ok (.iload_n 1, 1) := by decide +kernel
theorem dX11_workText_28 : decode cX11_workText 28 = .ok (.iaload, 1) := by decide +kernel
theorem dX11_workText_29 : decode cX11_workText 29 = .ok (.iastore, 1) := by decide +kernel
theorem dX11_workText_30 : decode cX11_workText 30 = .ok (.iinc 1 1, 3) := by decide +kernel
theorem dX11_workText_33 : decode cX11_workText 33 = .ok (.goto (-23), 3) := by decide +kernel
theorem dX11_workText_36 : decode cX11_workText 36 = .ok (.return_, 1) := by decide +kernel
theorem dX11_layWays_0 : decode cX11_layWays 0 = .ok (.aload_n 0, 1) := by decide +kernel
theorem dX11_layWays_1 : decode cX11_layWays 1 = .ok (.getfield 46, 3) := by decide +kernel
theorem dX11_layWays_4 : decode cX11_layWays 4 = .ok (.aload_n 0, 1) := by decide +kernel
theorem dX11_layWays_5 : decode cX11_layWays 5 = .ok (.getfield 167, 3) := by decide +kernel
theorem dX11_layWays_8 : decode cX11_layWays 8 = .ok (.iconst 1, 1) := by decide +kernel
theorem dX11_layWays_9 : decode cX11_layWays 9 = .ok (.iastore, 1) := by decide +kernel
theorem dX11_layWays_10 : decode cX11_layWays 10 = .ok (.aload_n 0, 1) := by decide +kernel
theorem dX11_layWays_11 : decode cX11_layWays 11 = .ok (.getfield 49, 3) := by decide +kernel
theorem dX11_layWays_14 : decode cX11_layWays 14 = .ok (.aload_n 0, 1) := by decide +kernel
theorem dX11_layWays_15 : decode cX11_layWays 15 = .ok (.getfield 167, 3) := by decide +kernel
theorem dX11_layWays_18 : decode cX11_layWays 18 = .ok (.iconst 1, 1) := by decide +kernel
theorem dX11_layWays_19 : decode cX11_layWays 19 = .ok (.iastore, 1) := by decide +kernel
theorem dX11_layWays_20 : decode cX11_layWays 20 = .ok (.aload_n 0, 1) := by decide +kernel
theorem dX11_layWays_21 : decode cX11_layWays 21 = .ok (.getfield 167, 3) := by decide +kernel
theorem dX11_layWays_24 : decode cX11_layWays 24 = .ok (.iconst 1, 1) := by decide +kernel
theorem dX11_layWays_25 : decode cX11_layWays 25 = .ok (.isub, 1) := by decide +kernel
theorem dX11_layWays_26 : decode cX11_layWays 26 = .ok (.istore_n 1, 1) := by decide +kernel
theorem dX11_layWays_27 : decode cX11_layWays 27 = .ok (.iload_n 1, 1) := by decide +kernel
theorem dX11_layWays_28 : decode cX11_layWays 28 = .ok (.ifCond .lt 123, 3) := by decide +kernel
theorem dX11_layWays_31 : decode cX11_layWays 31 = .ok (.aload_n 0, 1) := by decide +kernel
theorem dX11_layWays_32 : decode cX11_layWays 32 = .ok (.getfield 46, 3) := by decide +kernel
theorem dX11_layWays_35 : decode cX11_layWays 35 = .ok (.iload_n 1, 1) := by decide +kernel
theorem dX11_layWays_36 : decode cX11_layWays 36 = .ok (.iconst 0, 1) := by decide +kernel
theorem dX11_layWays_37 : decode cX11_layWays 37 = .ok (.iastore, 1) := by decide +kernel
theorem dX11_layWays_38 : decode cX11_layWays 38 = .ok (.aload_n 0, 1) := by decide +kernel
theorem dX11_layWays_39 : decode cX11_layWays 39 = .ok (.getfield 49, 3) := by decide +kernel
theorem dX11_layWays_42 : decode cX11_layWays 42 = .ok (.iload_n 1, 1) := by decide +kernel
theorem dX11_layWays_43 : decode cX11_layWays 43 = .ok (.iconst 0, 1) := by decide +kernel
theorem dX11_layWays_44 : decode cX11_layWays 44 = .ok (.iastore, 1) := by decide +kernel
theorem dX11_layWays_45 : decode cX11_layWays 45 = .ok (.iconst 0, 1) := by decide +kernel
theorem dX11_layWays_46 : decode cX11_layWays 46 = .ok (.istore_n 2, 1) := by decide +kernel
theorem dX11_layWays_47 : decode cX11_layWays 47 = .ok (.iload_n 2, 1) := by decide +kernel
theorem dX11_layWays_48 : decode cX11_layWays 48 = .ok (.aload_n 0, 1) := by decide +kernel
theorem dX11_layWays_49 : decode cX11_layWays 49 = .ok (.getfield 109, 3) := by decide +kernel
theorem dX11_layWays_52 : decode cX11_layWays 52 = .ok (.if_icmp .ge 67, 3) := by decide +kernel
theorem dX11_layWays_55 : decode cX11_layWays 55 = .ok (.aload_n 0, 1) := by decide +kernel
theorem dX11_layWays_56 : decode cX11_layWays 56 = .ok (.iload_n 2, 1) := by decide +kernel
theorem dX11_layWays_57 : decode cX11_layWays 57 = .ok (.iload_n 1, 1) := by decide +kernel
theorem dX11_layWays_58 : decode cX11_layWays 58 = .ok (.invokevirtual 170, 3) := by decide +kernel
theorem dX11_layWays_61 : decode cX11_layWays 61 = .ok (.ifCond .eq 52, 3) := by decide +kernel
theorem dX11_layWays_64 : decode cX11_layWays 64 = .ok (.aload_n 0, 1) := by decide +kernel
theorem dX11_layWays_65 : decode cX11_layWays 65 = .ok (.getfield 46, 3) := by decide +kernel
theorem dX11_layWays_68 : decode cX11_layWays 68 = .ok (.iload_n 1, 1) := by decide +kernel
theorem dX11_layWays_69 : decode cX11_layWays 69 = .ok (.aload_n 0, 1) := by decide +kernel
theorem dX11_layWays_70 : decode cX11_layWays 70 = .ok (.getfield 46, 3) := by decide +kernel
theorem dX11_layWays_73 : decode cX11_layWays 73 = .ok (.iload_n 1, 1) := by decide +kernel
theorem dX11_layWays_74 : decode cX11_layWays 74 = .ok (.iaload, 1) := by decide +kernel
theorem dX11_layWays_75 : decode cX11_layWays 75 = .ok (.aload_n 0, 1) := by decide +kernel
theorem dX11_layWays_76 : decode cX11_layWays 76 = .ok (.getfield 46, 3) := by decide +kernel
theorem dX11_layWays_79 : decode cX11_layWays 79 = .ok (.iload_n 1, 1) := by decide +kernel
theorem dX11_layWays_80 : decode cX11_layWays 80 = .ok (.aload_n 0, 1) := by decide +kernel
theorem dX11_layWays_81 : decode cX11_layWays 81 = .ok (.iload_n 2, 1) := by decide +kernel
theorem dX11_layWays_82 : decode cX11_layWays 82 = .ok (.invokevirtual 137, 3) := by decide +kernel
theorem dX11_layWays_85 : decode cX11_layWays 85 = .ok (.iadd, 1) := by decide +kernel
theorem dX11_layWays_86 : decode cX11_layWays 86 = .ok (.iaload, 1) := by decide +kernel
theorem dX11_layWays_87 : decode cX11_layWays 87 = .ok (.iadd, 1) := by decide +kernel
theorem dX11_layWays_88 : decode cX11_layWays 88 = .ok (.ldc 173, 2) := by decide +kernel
theorem dX11_layWays_90 : decode cX11_layWays 90 = .ok (.irem, 1) := by decide +kernel
theorem dX11_layWays_91 : decode cX11_layWays 91 = .ok (.iastore, 1) := by decide +kernel
theorem dX11_layWays_92 : decode cX11_layWays 92 = .ok (.aload_n 0, 1) := by decide +kernel
theorem dX11_layWays_93 : decode cX11_layWays 93 = .ok (.getfield 49, 3) := by decide +kernel
theorem dX11_layWays_96 : decode cX11_layWays 96 = .ok (.iload_n 1, 1) := by decide +kernel
theorem dX11_layWays_97 : decode cX11_layWays 97 = .ok (.dup2, 1) := by decide +kernel
theorem dX11_layWays_98 : decode cX11_layWays 98 = .ok (.iaload, 1) := by decide +kernel
theorem dX11_layWays_99 : decode cX11_layWays 99 = .ok (.aload_n 0, 1) := by decide +kernel
theorem dX11_layWays_100 : decode cX11_layWays 100 = .ok (.getfield 49, 3) := by decide +kernel
theorem dX11_layWays_103 : decode cX11_layWays 103 = .ok (.iload_n 1, 1) := by decide +kernel
theorem dX11_layWays_104 : decode cX11_layWays 104 = .ok (.aload_n 0, 1) := by decide +kernel
theorem dX11_layWays_105 : decode cX11_layWays 105 = .ok (.iload_n 2, 1) := by decide +kernel
theorem dX11_layWays_106 : decode cX11_layWays 106 = .ok (.invokevirtual 137, 3) := by decide +kernel
theorem dX11_layWays_109 : decode cX11_layWays 109 = .ok (.iadd, 1) := by decide +kernel
theorem dX11_layWays_110 : decode cX11_layWays 110 = .ok (.iaload, 1) := by decide +kernel
theorem dX11_layWays_111 : decode cX11_layWays 111 = .ok (.iadd, 1) := by decide +kernel
theorem dX11_layWays_112 : decode cX11_layWays 112 = .ok (.iastore, 1) := by decide +kernel
theorem dX11_layWays_113 : decode cX11_layWays 113 = .ok (.iinc 2 1, 3) := by decide +kernel
theorem dX11_layWays_116 : decode cX11_layWays 116 = .ok (.goto (-69), 3) := by decide +kernel
theorem dX11_layWays_119 : decode cX11_layWays 119 = .ok (.aload_n 0, 1) := by decide +kernel
theorem dX11_layWays_120 : decode cX11_layWays 120 = .ok (.getfield 49, 3) := by decide +kernel
theorem dX11_layWays_123 : decode cX11_layWays 123 = .ok (.iload_n 1, 1) := by decide +kernel
theorem dX11_layWays_124 : decode cX11_layWays 124 = .ok (.aload_n 0, 1) := by decide +kernel
theorem dX11_layWays_125 : decode cX11_layWays 125 = .ok (.getfield 49, 3) := by decide +kernel
theorem dX11_layWays_128 : decode cX11_layWays 128 = .ok (.iload_n 1, 1) := by decide +kernel
theorem dX11_layWays_129 : decode cX11_layWays 129 = .ok (.iaload, 1) := by decide +kernel
theorem dX11_layWays_130 : decode cX11_layWays 130 = .ok (.iconst 2, 1) := by decide +kernel
theorem dX11_layWays_131 : decode cX11_layWays 131 = .ok (.if_icmp .le 7, 3) := by decide +kernel
theorem dX11_layWays_134 : decode cX11_layWays 134 = .ok (.iconst 2, 1) := by decide +kernel
theorem dX11_layWays_135 : decode cX11_layWays 135 = .ok (.goto 9, 3) := by decide +kernel
theorem dX11_layWays_138 : decode cX11_layWays 138 = .ok (.aload_n 0, 1) := by decide +kernel
theorem dX11_layWays_139 : decode cX11_layWays 139 = .ok (.getfield 49, 3) := by decide +kernel
theorem dX11_layWays_142 : decode cX11_layWays 142 = .ok (.iload_n 1, 1) := by decide +kernel
theorem dX11_layWays_143 : decode cX11_layWays 143 = .ok (.iaload, 1) := by decide +kernel
theorem dX11_layWays_144 : decode cX11_layWays 144 = .ok (.iastore, 1) := by decide +kernel
theorem dX11_layWays_145 : decode cX11_layWays 145 = .ok (.iinc 1 (-1), 3) := by decide +kernel
theorem dX11_layWays_148 : decode cX11_layWays 148 = .ok (.goto (-121), 3) := by decide +kernel
theorem dX11_layWays_151 : decode cX11_layWays 151 = .ok (.return_, 1) := by decide +kernel
theorem dX11_ink_0 : decode cX11_ink 0 = .ok (.iload_n 1, 1) := by decide +kernel
theorem dX11_ink_1 : decode cX11_ink 1 = .ok (.iconst 0, 1) := by decide +kernel
theorem dX11_ink_2 : decode cX11_ink 2 = .ok (.aload_n 0, 1) := by decide +kernel
theorem dX11_ink_3 : decode cX11_ink 3 = .ok (.getfield 118, 3) := by decide +kernel
theorem dX11_ink_6 : decode cX11_ink 6 = .ok (.iconst 1, 1) := by decide +kernel
theorem dX11_ink_7 : decode cX11_ink 7 = .ok (.isub, 1) := by decide +kernel
theorem dX11_ink_8 : decode cX11_ink 8 = .ok (.invokestatic 71, 3) := by decide +kernel
theorem dX11_ink_11 : decode cX11_ink 11 = .ok (.ifCond .eq 12, 3) := by decide +kernel
theorem dX11_ink_14 : decode cX11_ink 14 = .ok (.aload_n 0, 1) := by decide +kernel
theorem dX11_ink_15 : decode cX11_ink 15 = .ok (.getfield 22, 3) := by decide +kernel
theorem dX11_ink_18 : decode cX11_ink 18 = .ok (.iload_n 1, 1) := by decide +kernel
theorem dX11_ink_19 : decode cX11_ink 19 = .ok (.iaload, 1) := by decide +kernel
theorem dX11_ink_20 : decode cX11_ink 20 = .ok (.goto 5, 3) := by decide +kernel
theorem dX11_ink_23 : decode cX11_ink 23 = .ok (.bipush (-101), 2) := by decide +kernel
theorem dX11_ink_25 : decode cX11_ink 25 = .ok (.ireturn, 1) := by decide +kernel
theorem dX11_layBack_0 : decode cX11_layBack 0 = .ok (.aload_n 0, 1) := by decide +kernel
theorem dX11_layBack_1 : decode cX11_layBack 1 = .ok (.iconst 0, 1) := by decide +kernel
theorem dX11_layBack_2 : decode cX11_layBack 2 = .ok (.putfield 174, 3) := by decide +kernel
theorem dX11_layBack_5 : decode cX11_layBack 5 = .ok (.aload_n 0, 1) := by decide +kernel
theorem dX11_layBack_6 : decode cX11_layBack 6 = .ok (.iconst (-1), 1) := by decide +kernel
theorem dX11_layBack_7 : decode cX11_layBack 7 = .ok (.putfield 177, 3) := by decide +kernel
theorem dX11_layBack_10 : decode cX11_layBack 10 = .ok (.iconst 0, 1) := by decide +kernel
theorem dX11_layBack_11 : decode cX11_layBack 11 = .ok (.istore_n 1, 1) := by decide +kernel
theorem dX11_layBack_12 : decode cX11_layBack 12 = .ok (.iload_n 1, 1) := by decide +kernel
theorem dX11_layBack_13 : decode cX11_layBack 13 = .ok (.aload_n 0, 1) := by decide +kernel
theorem dX11_layBack_14 : decode cX11_layBack 14 = .ok (.getfield 167, 3) := by decide +kernel
theorem dX11_layBack_17 : decode cX11_layBack 17 = .ok (.if_icmp .ge 61, 3) := by decide +kernel
theorem dX11_layBack_20 : decode cX11_layBack 20 = .ok (.aload_n 0, 1) := by decide +kernel
theorem dX11_layBack_21 : decode cX11_layBack 21 = .ok (.getfield 177, 3) := by decide +kernel
theorem dX11_layBack_24 : decode cX11_layBack 24 = .ok (.iconst (-1), 1) := by decide +kernel
theorem dX11_layBack_25 : decode cX11_layBack 25 = .ok (.if_icmp .ne 53, 3) := by decide +kernel
theorem dX11_layBack_28 : decode cX11_layBack 28 = .ok (.aload_n 0, 1) := by decide +kernel
theorem dX11_layBack_29 : decode cX11_layBack 29 = .ok (.iload_n 1, 1) := by decide +kernel
theorem dX11_layBack_30 : decode cX11_layBack 30 = .ok (.invokevirtual 180, 3) := by decide +kernel
theorem dX11_layBack_33 : decode cX11_layBack 33 = .ok (.istore_n 2, 1) := by decide +kernel
theorem dX11_layBack_34 : decode cX11_layBack 34 = .ok (.iload_n 2, 1) := by decide +kernel
theorem dX11_layBack_35 : decode cX11_layBack 35 = .ok (.iconst (-1), 1) := by decide +kernel
theorem dX11_layBack_36 : decode cX11_layBack 36 = .ok (.if_icmp .ne 11, 3) := by decide +kernel
theorem dX11_layBack_39 : decode cX11_layBack 39 = .ok (.aload_n 0, 1) := by decide +kernel
theorem dX11_layBack_40 : decode cX11_layBack 40 = .ok (.iload_n 1, 1) := by decide +kernel
theorem dX11_layBack_41 : decode cX11_layBack 41 = .ok (.putfield 177, 3) := by decide +kernel
theorem dX11_layBack_44 : decode cX11_layBack 44 = .ok (.goto 31, 3) := by decide +kernel
theorem dX11_layBack_47 : decode cX11_layBack 47 = .ok (.aload_n 0, 1) := by decide +kernel
theorem dX11_layBack_48 : decode cX11_layBack 48 = .ok (.getfield 52, 3) := by decide +kernel
theorem dX11_layBack_51 : decode cX11_layBack 51 = .ok (.aload_n 0, 1) := by decide +kernel
theorem dX11_layBack_52 : decode cX11_layBack 52 = .ok (.getfield 174, 3) := by decide +kernel
theorem dX11_layBack_55 : decode cX11_layBack 55 = .ok (.iload_n 2, 1) := by decide +kernel
theorem dX11_layBack_56 : decode cX11_layBack 56 = .ok (.iastore, 1) := by decide +kernel
theorem dX11_layBack_57 : decode cX11_layBack 57 = .ok (.aload_n 0, 1) := by decide +kernel
theorem dX11_layBack_58 : decode cX11_layBack 58 = .ok (.dup, 1) := by decide +kernel
theorem dX11_layBack_59 : decode cX11_layBack 59 = .ok (.getfield 174, 3) := by decide +kernel
theorem dX11_layBack_62 : decode cX11_layBack 62 = .ok (.iconst 1, 1) := by decide +kernel
theorem dX11_layBack_63 : decode cX11_layBack 63 = .ok (.iadd, 1) := by decide +kernel
theorem dX11_layBack_64 : decode cX11_layBack 64 = .ok (.putfield 174, 3) := by decide +kernel
theorem dX11_layBack_67 : decode cX11_layBack 67 = .ok (.iload_n 1, 1) := by decide +kernel
theorem dX11_layBack_68 : decode cX11_layBack 68 = .ok (.aload_n 0, 1) := by decide +kernel
theorem dX11_layBack_69 : decode cX11_layBack 69 = .ok (.iload_n 2, 1) := by decide +kernel
theorem dX11_layBack_70 : decode cX11_layBack 70 = .ok (.invokevirtual 137, 3) := by decide +kernel
theorem dX11_layBack_73 : decode cX11_layBack 73 = .ok (.iadd, 1) := by decide +kernel
theorem dX11_layBack_74 : decode cX11_layBack 74 = .ok (.istore_n 1, 1) := by decide +kernel
theorem dX11_layBack_75 : decode cX11_layBack 75 = .ok (.goto (-63), 3) := by decide +kernel
theorem dX11_layBack_78 : decode cX11_layBack 78 = .ok (.return_, 1) := by decide +kernel
theorem dX11_backNow_0 : decode cX11_backNow 0 = .ok (.aload_n 0, 1) := by decide +kernel
theorem dX11_backNow_1 : decode cX11_backNow 1 = .ok (.invokevirtual 183, 3) := by decide +kernel
theorem dX11_backNow_4 : decode cX11_backNow 4 = .ok (.aload_n 0, 1) := by decide +kernel
theorem dX11_backNow_5 : decode cX11_backNow 5 = .ok (.invokevirtual 186, 3) := by decide +kernel
theorem dX11_backNow_8 : decode cX11_backNow 8 = .ok (.iload_n 1, 1) := by decide +kernel
theorem dX11_backNow_9 : decode cX11_backNow 9 = .ok (.ifCond .ne 10, 3) := by decide +kernel
theorem dX11_backNow_12 : decode cX11_backNow 12 = .ok (.aload_n 0, 1) := by decide +kernel
theorem dX11_backNow_13 : decode cX11_backNow 13 = .ok (.getfield 174, 3) := by decide +kernel
theorem dX11_backNow_16 : decode cX11_backNow 16 = .ok (.goto 7, 3) := by decide +kernel
theorem dX11_backNow_19 : decode cX11_backNow 19 = .ok (.aload_n 0, 1) := by decide +kernel
theorem dX11_backNow_20 : decode cX11_backNow 20 = .ok (.getfield 177, 3) := by decide +kernel
theorem dX11_backNow_23 : decode cX11_backNow 23 = .ok (.ireturn, 1) := by decide +kernel
theorem dX11_back_0 : decode cX11_back 0 = .ok (.iload_n 1, 1) := by decide +kernel
theorem dX11_back_1 : decode cX11_back 1 = .ok (.iconst 0, 1) := by decide +kernel
theorem dX11_back_2 : decode cX11_back 2 = .ok (.iconst 1, 1) := by decide +kernel
theorem dX11_back_3 : decode cX11_back 3 = .ok (.invokestatic 71, 3) := by decide +kernel
theorem dX11_back_6 : decode cX11_back 6 = .ok (.ifCond .eq 11, 3) := by decide +kernel
theorem dX11_back_9 : decode cX11_back 9 = .ok (.aload_n 0, 1) := by decide +kernel
theorem dX11_back_10 : decode cX11_back 10 = .ok (.iload_n 1, 1) := by decide +kernel
theorem dX11_back_11 : decode cX11_back 11 = .ok (.invokevirtual 189, 3) := by decide +kernel
theorem dX11_back_14 : decode cX11_back 14 = .ok (.goto 5, 3) := by decide +kernel
theorem dX11_back_17 : decode cX11_back 17 = .ok (.bipush (-102), 2) := by decide +kernel
theorem dX11_back_19 : decode cX11_back 19 = .ok (.ireturn, 1) := by decide +kernel
theorem dX11_backAtNow_0 : decode cX11_backAtNow 0 = .ok (.aload_n 0, 1) := by decide +kernel
theorem dX11_backAtNow_1 : decode cX11_backAtNow 1 = .ok (.iconst 0, 1) := by decide +kernel
theorem dX11_backAtNow_2 : decode cX11_backAtNow 2 = .ok (.invokevirtual 189, 3) := by decide +kernel
theorem dX11_backAtNow_5 : decode cX11_backAtNow 5 = .ok (.pop, 1) := by decide +kernel
theorem dX11_backAtNow_6 : decode cX11_backAtNow 6 = .ok (.iload_n 1, 1) := by decide +kernel
theorem dX11_backAtNow_7 : decode cX11_backAtNow 7 = .ok (.iconst 0, 1) := by decide +kernel
theorem dX11_backAtNow_8 : decode cX11_backAtNow 8 = .ok (.aload_n 0, 1) := by decide +kernel
theorem dX11_backAtNow_9 : decode cX11_backAtNow 9 = .ok (.getfield 174, 3) := by decide +kernel
theorem dX11_backAtNow_12 : decode cX11_backAtNow 12 = .ok (.iconst 1, 1) := by decide +kernel
theorem dX11_backAtNow_13 : decode cX11_backAtNow 13 = .ok (.isub, 1) := by decide +kernel
theorem dX11_backAtNow_14 : decode cX11_backAtNow 14 = .ok (.invokestatic 71, 3) := by decide +kernel
theorem dX11_backAtNow_17 : decode cX11_backAtNow 17 = .ok (.ifCond .eq 12, 3) := by decide +kernel
theorem dX11_backAtNow_20 : decode cX11_backAtNow 20 = .ok (.aload_n 0, 1) := by decide +kernel
theorem dX11_backAtNow_21 : decode cX11_backAtNow 21 = .ok (.getfield 52, 3) := by decide +kernel
theorem dX11_backAtNow_24 : decode cX11_backAtNow 24 = .ok (.iload_n 1, 1) := by decide +kernel
theorem dX11_backAtNow_25 : decode cX11_backAtNow 25 = .ok (.iaload, 1) := by decide +kernel
theorem dX11_backAtNow_26 : decode cX11_backAtNow 26 = .ok (.goto 5, 3) := by decide +kernel
theorem dX11_backAtNow_29 : decode cX11_backAtNow 29 = .ok (.bipush (-101), 2) := by decide +kernel
theorem dX11_backAtNow_31 : decode cX11_backAtNow 31 = .ok (.ireturn, 1) := by decide +kernel
theorem dX11_backAt_0 : decode cX11_backAt 0 = .ok (.aload_n 0, 1) := by decide +kernel
theorem dX11_backAt_1 : decode cX11_backAt 1 = .ok (.iload_n 1, 1) := by decide +kernel
theorem dX11_backAt_2 : decode cX11_backAt 2 = .ok (.invokevirtual 192, 3) := by decide +kernel
theorem dX11_backAt_5 : decode cX11_backAt 5 = .ok (.ireturn, 1) := by decide +kernel
theorem dX11_waysNow_0 : decode cX11_waysNow 0 = .ok (.aload_n 0, 1) := by decide +kernel
theorem dX11_waysNow_1 : decode cX11_waysNow 1 = .ok (.invokevirtual 183, 3) := by decide +kernel
theorem dX11_waysNow_4 : decode cX11_waysNow 4 = .ok (.aload_n 0, 1) := by decide +kernel
theorem dX11_waysNow_5 : decode cX11_waysNow 5 = .ok (.invokevirtual 195, 3) := by decide +kernel
theorem dX11_waysNow_8 : decode cX11_waysNow 8 = .ok (.aload_n 0, 1) := by decide +kernel
theorem dX11_waysNow_9 : decode cX11_waysNow 9 = .ok (.getfield 46, 3) := by decide +kernel
theorem dX11_waysNow_12 : decode cX11_waysNow 12 = .ok (.iconst 0, 1) := by decide +kernel
theorem dX11_waysNow_13 : decode cX11_waysNow 13 = .ok (.iaload, 1) := by decide +kernel
theorem dX11_waysNow_14 : decode cX11_waysNow 14 = .ok (.ireturn, 1) := by decide +kernel
theorem dX11_ways_0 : decode cX11_ways 0 = .ok (.aload_n 0, 1) := by decide +kernel
theorem dX11_ways_1 : decode cX11_ways 1 = .ok (.invokevirtual 198, 3) := by decide +kernel
theorem dX11_ways_4 : decode cX11_ways 4 = .ok (.ireturn, 1) := by decide +kernel
theorem dX11_ruleIn_0 : decode cX11_ruleIn 0 = .ok (.aload_n 0, 1) := by decide +kernel
theorem dX11_ruleIn_1 : decode cX11_ruleIn 1 = .ok (.getfield 49, 3) := by decide +kernel
theorem dX11_ruleIn_4 : decode cX11_ruleIn 4 = .ok (.iconst 0, 1) := by decide +kernel
theorem dX11_ruleIn_5 : decode cX11_ruleIn 5 = .ok (.iaload, 1) := by decide +kernel
theorem dX11_ruleIn_6 : decode cX11_ruleIn 6 = .ok (.iload_n 1, 1) := by decide +kernel
theorem dX11_ruleIn_7 : decode cX11_ruleIn 7 = .ok (.if_icmp .le 7, 3) := by decide +kernel
theorem dX11_ruleIn_10 : decode cX11_ruleIn 10 = .ok (.iload_n 2, 1) := by decide +kernel
theorem dX11_ruleIn_11 : decode cX11_ruleIn 11 = .ok (.ifCond .ge 5, 3) := by decide +kernel
theorem dX11_ruleIn_14 : decode cX11_ruleIn 14 = .ok (.iconst (-1), 1) := by decide +kernel
theorem dX11_ruleIn_15 : decode cX11_ruleIn 15 = .ok (.ireturn, 1) := by decide +kernel
theorem dX11_ruleIn_16 : decode cX11_ruleIn 16 = .ok (.iconst 0, 1) := by decide +kernel
theorem dX11_ruleIn_17 : decode cX11_ruleIn 17 = .ok (.istore_n 3, 1) := by decide +kernel
theorem dX11_ruleIn_18 : decode cX11_ruleIn 18 = .ok (.iload_n 1, 1) := by decide +kernel
theorem dX11_ruleIn_19 : decode cX11_ruleIn 19 = .ok (.istore 4, 2) := by decide +kernel
theorem dX11_ruleIn_21 : decode cX11_ruleIn 21 = .ok (.iconst (-1), 1) := by decide +kernel
theorem dX11_ruleIn_22 : decode cX11_ruleIn 22 = .ok (.istore 5, 2) := by decide +kernel
theorem dX11_ruleIn_24 : decode cX11_ruleIn 24 = .ok (.iconst 0, 1) := by decide +kernel
theorem dX11_ruleIn_25 : decode cX11_ruleIn 25 = .ok (.istore 6, 2) := by decide +kernel
theorem dX11_ruleIn_27 : decode cX11_ruleIn 27 = .ok (.iload 6, 2) := by decide +kernel
theorem dX11_ruleIn_29 : decode cX11_ruleIn 29 = .ok (.iload_n 2, 1) := by decide +kernel
theorem dX11_ruleIn_30 : decode cX11_ruleIn 30 = .ok (.if_icmp .gt 116, 3) := by decide +kernel
theorem dX11_ruleIn_33 : decode cX11_ruleIn 33 = .ok (.iload_n 3, 1) := by decide +kernel
theorem dX11_ruleIn_34 : decode cX11_ruleIn 34 = .ok (.aload_n 0, 1) := by decide +kernel
theorem dX11_ruleIn_35 : decode cX11_ruleIn 35 = .ok (.getfield 167, 3) := by decide +kernel
theorem dX11_ruleIn_38 : decode cX11_ruleIn 38 = .ok (.if_icmp .ne 5, 3) := by decide +kernel
theorem dX11_ruleIn_41 : decode cX11_ruleIn 41 = .ok (.iconst (-1), 1) := by decide +kernel
theorem dX11_ruleIn_42 : decode cX11_ruleIn 42 = .ok (.ireturn, 1) := by decide +kernel
theorem dX11_ruleIn_43 : decode cX11_ruleIn 43 = .ok (.iconst (-1), 1) := by decide +kernel
theorem dX11_ruleIn_44 : decode cX11_ruleIn 44 = .ok (.istore 5, 2) := by decide +kernel
theorem dX11_ruleIn_46 : decode cX11_ruleIn 46 = .ok (.iconst 0, 1) := by decide +kernel
theorem dX11_ruleIn_47 : decode cX11_ruleIn 47 = .ok (.istore 7, 2) := by decide +kernel
theorem dX11_ruleIn_49 : decode cX11_ruleIn 49 = .ok (.iload 7, 2) := by decide +kernel
theorem dX11_ruleIn_51 : decode cX11_ruleIn 51 = .ok (.aload_n 0, 1) := by decide +kernel
theorem dX11_ruleIn_52 : decode cX11_ruleIn 52 = .ok (.getfield 109, 3) := by decide +kernel
theorem dX11_ruleIn_55 : decode cX11_ruleIn 55 = .ok (.if_icmp .ge 76, 3) := by decide +kernel
theorem dX11_ruleIn_58 : decode cX11_ruleIn 58 = .ok (.iload 5, 2) := by decide +kernel
theorem dX11_ruleIn_60 : decode cX11_ruleIn 60 = .ok (.iconst (-1), 1) := by decide +kernel
theorem dX11_ruleIn_61 : decode cX11_ruleIn 61 = .ok (.if_icmp .ne 70, 3) := by decide +kernel
theorem dX11_ruleIn_64 : decode cX11_ruleIn 64 = .ok (.aload_n 0, 1) := by decide +kernel
theorem dX11_ruleIn_65 : decode cX11_ruleIn 65 = .ok (.iload 7, 2) := by decide +kernel
theorem dX11_ruleIn_67 : decode cX11_ruleIn 67 = .ok (.iload_n 3, 1) := by decide +kernel
theorem dX11_ruleIn_68 : decode cX11_ruleIn 68 = .ok (.invokevirtual 170, 3) := by decide +kernel
theorem dX11_ruleIn_71 : decode cX11_ruleIn 71 = .ok (.ifCond .eq 19, 3) := by decide +kernel
theorem dX11_ruleIn_74 : decode cX11_ruleIn 74 = .ok (.aload_n 0, 1) := by decide +kernel
theorem dX11_ruleIn_75 : decode cX11_ruleIn 75 = .ok (.getfield 49, 3) := by decide +kernel
theorem dX11_ruleIn_78 : decode cX11_ruleIn 78 = .ok (.iload_n 3, 1) := by decide +kernel
theorem dX11_ruleIn_79 : decode cX11_ruleIn 79 = .ok (.aload_n 0, 1) := by decide +kernel
theorem dX11_ruleIn_80 : decode cX11_ruleIn 80 = .ok (.iload 7, 2) := by decide +kernel
theorem dX11_ruleIn_82 : decode cX11_ruleIn 82 = .ok (.invokevirtual 137, 3) := by decide +kernel
theorem dX11_ruleIn_85 : decode cX11_ruleIn 85 = .ok (.iadd, 1) := by decide +kernel
theorem dX11_ruleIn_86 : decode cX11_ruleIn 86 = .ok (.iaload, 1) := by decide +kernel
theorem dX11_ruleIn_87 : decode cX11_ruleIn 87 = .ok (.goto 4, 3) := by decide +kernel
theorem dX11_ruleIn_90 : decode cX11_ruleIn 90 = .ok (.iconst 0, 1) := by decide +kernel
theorem dX11_ruleIn_91 : decode cX11_ruleIn 91 = .ok (.istore 8, 2) := by decide +kernel
theorem dX11_ruleIn_93 : decode cX11_ruleIn 93 = .ok (.iload 4, 2) := by decide +kernel
theorem dX11_ruleIn_95 : decode cX11_ruleIn 95 = .ok (.iload 8, 2) := by decide +kernel
theorem dX11_ruleIn_97 : decode cX11_ruleIn 97 = .ok (.if_icmp .ge 8, 3) := by decide +kernel
theorem dX11_ruleIn_100 : decode cX11_ruleIn 100 = .ok (.iload 7, 2) := by decide +kernel
theorem dX11_ruleIn_102 : decode cX11_ruleIn 102 = .ok (.goto 4, 3) := by decide +kernel
theorem dX11_ruleIn_105 : decode cX11_ruleIn 105 = .ok (.iconst (-1), 1) := by decide +kernel
theorem dX11_ruleIn_106 : decode cX11_ruleIn 106 = .ok (.istore 5, 2) := by decide +kernel
theorem dX11_ruleIn_108 : decode cX11_ruleIn 108 = .ok (.iload 4, 2) := by decide +kernel
theorem dX11_ruleIn_110 : decode cX11_ruleIn 110 = .ok (.iload 5, 2) := by decide +kernel
theorem dX11_ruleIn_112 : decode cX11_ruleIn 112 = .ok (.iconst (-1), 1) := by decide +kernel
theorem dX11_ruleIn_113 : decode cX11_ruleIn 113 = .ok (.if_icmp .ne 8, 3) := by decide +kernel
theorem dX11_ruleIn_116 : decode cX11_ruleIn 116 = .ok (.iload 8, 2) := by decide +kernel
theorem dX11_ruleIn_118 : decode cX11_ruleIn 118 = .ok (.goto 4, 3) := by decide +kernel
theorem dX11_ruleIn_121 : decode cX11_ruleIn 121 = .ok (.iconst 0, 1) := by decide +kernel
theorem dX11_ruleIn_122 : decode cX11_ruleIn 122 = .ok (.isub, 1) := by decide +kernel
theorem dX11_ruleIn_123 : decode cX11_ruleIn 123 = .ok (.istore 4, 2) := by decide +kernel
theorem dX11_ruleIn_125 : decode cX11_ruleIn 125 = .ok (.iinc 7 1, 3) := by decide +kernel
theorem dX11_ruleIn_128 : decode cX11_ruleIn 128 = .ok (.goto (-79), 3) := by decide +kernel
theorem dX11_ruleIn_131 : decode cX11_ruleIn 131 = .ok (.iload_n 3, 1) := by decide +kernel
theorem dX11_ruleIn_132 : decode cX11_ruleIn 132 = .ok (.aload_n 0, 1) := by decide +kernel
theorem dX11_ruleIn_133 : decode cX11_ruleIn 133 = .ok (.iload 5, 2) := by decide +kernel
theorem dX11_ruleIn_135 : decode cX11_ruleIn 135 = .ok (.invokevirtual 137, 3) := by decide +kernel
theorem dX11_ruleIn_138 : decode cX11_ruleIn 138 = .ok (.iadd, 1) := by decide +kernel
theorem dX11_ruleIn_139 : decode cX11_ruleIn 139 = .ok (.istore_n 3, 1) := by decide +kernel
theorem dX11_ruleIn_140 : decode cX11_ruleIn 140 = .ok (.iinc 6 1, 3) := by decide +kernel
theorem dX11_ruleIn_143 : decode cX11_ruleIn 143 = .ok (.goto (-116), 3) := by decide +kernel
theorem dX11_ruleIn_146 : decode cX11_ruleIn 146 = .ok (.iload 5, 2) := by decide +kernel
theorem dX11_ruleIn_148 : decode cX11_ruleIn 148 = .ok (.ireturn, 1) := by decide +kernel
theorem dX11_firstNow_0 : decode cX11_firstNow 0 = .ok (.aload_n 0, 1) := by decide +kernel
theorem dX11_firstNow_1 : decode cX11_firstNow 1 = .ok (.invokevirtual 183, 3) := by decide +kernel
theorem dX11_firstNow_4 : decode cX11_firstNow 4 = .ok (.aload_n 0, 1) := by decide +kernel
theorem dX11_firstNow_5 : decode cX11_firstNow 5 = .ok (.invokevirtual 195, 3) := by decide +kernel
theorem dX11_firstNow_8 : decode cX11_firstNow 8 = .ok (.aload_n 0, 1) := by decide +kernel
theorem dX11_firstNow_9 : decode cX11_firstNow 9 = .ok (.iconst 0, 1) := by decide +kernel
theorem dX11_firstNow_10 : decode cX11_firstNow 10 = .ok (.iload_n 1, 1) := by decide +kernel
theorem dX11_firstNow_11 : decode cX11_firstNow 11 = .ok (.invokevirtual 201, 3) := by decide +kernel
theorem dX11_firstNow_14 : decode cX11_firstNow 14 = .ok (.istore_n 2, 1) := by decide +kernel
theorem dX11_firstNow_15 : decode cX11_firstNow 15 = .ok (.iload_n 2, 1) := by decide +kernel
theorem dX11_firstNow_16 : decode cX11_firstNow 16 = .ok (.iconst (-1), 1) := by decide +kernel
theorem dX11_firstNow_17 : decode cX11_firstNow 17 = .ok (.if_icmp .ne 8, 3) := by decide +kernel
theorem dX11_firstNow_20 : decode cX11_firstNow 20 = .ok (.bipush (-101), 2) := by decide +kernel
theorem dX11_firstNow_22 : decode cX11_firstNow 22 = .ok (.goto 4, 3) := by decide +kernel
theorem dX11_firstNow_25 : decode cX11_firstNow 25 = .ok (.iload_n 2, 1) := by decide +kernel
theorem dX11_firstNow_26 : decode cX11_firstNow 26 = .ok (.ireturn, 1) := by decide +kernel
theorem dX11_first_0 : decode cX11_first 0 = .ok (.aload_n 0, 1) := by decide +kernel
theorem dX11_first_1 : decode cX11_first 1 = .ok (.iload_n 1, 1) := by decide +kernel
theorem dX11_first_2 : decode cX11_first 2 = .ok (.invokevirtual 204, 3) := by decide +kernel
theorem dX11_first_5 : decode cX11_first 5 = .ok (.ireturn, 1) := by decide +kernel
theorem dX11_lengthOf_0 : decode cX11_lengthOf 0 = .ok (.aload_n 0, 1) := by decide +kernel
theorem dX11_lengthOf_1 : decode cX11_lengthOf 1 = .ok (.iload_n 1, 1) := by decide +kernel
theorem dX11_lengthOf_2 : decode cX11_lengthOf 2 = .ok (.iconst 5, 1) := by decide +kernel
theorem dX11_lengthOf_3 : decode cX11_lengthOf 3 = .ok (.idiv, 1) := by decide +kernel
theorem dX11_lengthOf_4 : decode cX11_lengthOf 4 = .ok (.invokevirtual 137, 3) := by decide +kernel
theorem dX11_lengthOf_7 : decode cX11_lengthOf 7 = .ok (.iload_n 1, 1) := by decide +kernel
theorem dX11_lengthOf_8 : decode cX11_lengthOf 8 = .ok (.iconst 5, 1) := by decide +kernel
theorem dX11_lengthOf_9 : decode cX11_lengthOf 9 = .ok (.irem, 1) := by decide +kernel
theorem dX11_lengthOf_10 : decode cX11_lengthOf 10 = .ok (.isub, 1) := by decide +kernel
theorem dX11_lengthOf_11 : decode cX11_lengthOf 11 = .ok (.ireturn, 1) := by decide +kernel
theorem dX11_letterOf_0 : decode cX11_letterOf 0 = .ok (.aload_n 0, 1) := by decide +kernel
theorem dX11_letterOf_1 : decode cX11_letterOf 1 = .ok (.iload_n 1, 1) := by decide +kernel
theorem dX11_letterOf_2 : decode cX11_letterOf 2 = .ok (.iconst 5, 1) := by decide +kernel
theorem dX11_letterOf_3 : decode cX11_letterOf 3 = .ok (.idiv, 1) := by decide +kernel
theorem dX11_letterOf_4 : decode cX11_letterOf 4 = .ok (.iload_n 1, 1) := by decide +kernel
theorem dX11_letterOf_5 : decode cX11_letterOf 5 = .ok (.iconst 5, 1) := by decide +kernel
theorem dX11_letterOf_6 : decode cX11_letterOf 6 = .ok (.irem, 1) := by decide +kernel
theorem dX11_letterOf_7 : decode cX11_letterOf 7 = .ok (.iload_n 2, 1) := by decide +kernel
theorem dX11_letterOf_8 : decode cX11_letterOf 8 = .ok (.iadd, 1) := by decide +kernel
theorem dX11_letterOf_9 : decode cX11_letterOf 9 = .ok (.invokevirtual 140, 3) := by decide +kernel
theorem dX11_letterOf_12 : decode cX11_letterOf 12 = .ok (.ireturn, 1) := by decide +kernel
theorem dX11_isPart_0 : decode cX11_isPart 0 = .ok (.iload_n 1, 1) := by decide +kernel
theorem dX11_isPart_1 : decode cX11_isPart 1 = .ok (.iconst 5, 1) := by decide +kernel
theorem dX11_isPart_2 : decode cX11_isPart 2 = .ok (.idiv, 1) := by decide +kernel
theorem dX11_isPart_3 : decode cX11_isPart 3 = .ok (.aload_n 0, 1) := by decide +kernel
theorem dX11_isPart_4 : decode cX11_isPart 4 = .ok (.getfield 109, 3) := by decide +kernel
theorem dX11_isPart_7 : decode cX11_isPart 7 = .ok (.if_icmp .ge 20, 3) := by decide +kernel
theorem dX11_isPart_10 : decode cX11_isPart 10 = .ok (.iload_n 1, 1) := by decide +kernel
theorem dX11_isPart_11 : decode cX11_isPart 11 = .ok (.iconst 5, 1) := by decide +kernel
theorem dX11_isPart_12 : decode cX11_isPart 12 = .ok (.irem, 1) := by decide +kernel
theorem dX11_isPart_13 : decode cX11_isPart 13 = .ok (.aload_n 0, 1) := by decide +kernel
theorem dX11_isPart_14 : decode cX11_isPart 14 = .ok (.iload_n 1, 1) := by decide +kernel
theorem dX11_isPart_15 : decode cX11_isPart 15 = .ok (.iconst 5, 1) := by decide +kernel
theorem dX11_isPart_16 : decode cX11_isPart 16 = .ok (.idiv, 1) := by decide +kernel
theorem dX11_isPart_17 : decode cX11_isPart 17 = .ok (.invokevirtual 137, 3) := by decide +kernel
theorem dX11_isPart_20 : decode cX11_isPart 20 = .ok (.if_icmp .gt 7, 3) := by decide +kernel
theorem dX11_isPart_23 : decode cX11_isPart 23 = .ok (.iconst 1, 1) := by decide +kernel
theorem dX11_isPart_24 : decode cX11_isPart 24 = .ok (.goto 4, 3) := by decide +kernel
theorem dX11_isPart_27 : decode cX11_isPart 27 = .ok (.iconst 0, 1) := by decide +kernel
theorem dX11_isPart_28 : decode cX11_isPart 28 = .ok (.ireturn, 1) := by decide +kernel
theorem dX11_areAlike_0 : decode cX11_areAlike 0 = .ok (.aload_n 0, 1) := by decide +kernel
theorem dX11_areAlike_1 : decode cX11_areAlike 1 = .ok (.iload_n 1, 1) := by decide +kernel
theorem dX11_areAlike_2 : decode cX11_areAlike 2 = .ok (.invokevirtual 207, 3) := by decide +kernel
theorem dX11_areAlike_5 : decode cX11_areAlike 5 = .ok (.aload_n 0, 1) := by decide +kernel
theorem dX11_areAlike_6 : decode cX11_areAlike 6 = .ok (.iload_n 2, 1) := by decide +kernel
theorem dX11_areAlike_7 : decode cX11_areAlike 7 = .ok (.invokevirtual 207, 3) := by decide +kernel
theorem dX11_areAlike_10 : decode cX11_areAlike 10 = .ok (.if_icmp .ne 7, 3) := by decide +kernel
theorem dX11_areAlike_13 : decode cX11_areAlike 13 = .ok (.iconst 1, 1) := by decide +kernel
theorem dX11_areAlike_14 : decode cX11_areAlike 14 = .ok (.goto 4, 3) := by decide +kernel
theorem dX11_areAlike_17 : decode cX11_areAlike 17 = .ok (.iconst 0, 1) := by decide +kernel
theorem dX11_areAlike_18 : decode cX11_areAlike 18 = .ok (.istore_n 3, 1) := by decide +kernel
theorem dX11_areAlike_19 : decode cX11_areAlike 19 = .ok (.iconst 0, 1) := by decide +kernel
theorem dX11_areAlike_20 : decode cX11_areAlike 20 = .ok (.istore 4, 2) := by decide +kernel
theorem dX11_areAlike_22 : decode cX11_areAlike 22 = .ok (.iload 4, 2) := by decide +kernel
theorem dX11_areAlike_24 : decode cX11_areAlike 24 = .ok (.aload_n 0, 1) := by decide +kernel
theorem dX11_areAlike_25 : decode cX11_areAlike 25 = .ok (.iload_n 1, 1) := by decide +kernel
theorem dX11_areAlike_26 : decode cX11_areAlike 26 = .ok (.invokevirtual 207, 3) := by decide +kernel
theorem dX11_areAlike_29 : decode cX11_areAlike 29 = .ok (.if_icmp .ge 36, 3) := by decide +kernel
theorem dX11_areAlike_32 : decode cX11_areAlike 32 = .ok (.iload_n 3, 1) := by decide +kernel
theorem dX11_areAlike_33 : decode cX11_areAlike 33 = .ok (.ifCond .eq 32, 3) := by decide +kernel
theorem dX11_areAlike_36 : decode cX11_areAlike 36 = .ok (.aload_n 0, 1) := by decide +kernel
theorem dX11_areAlike_37 : decode cX11_areAlike 37 = .ok (.iload_n 1, 1) := by decide +kernel
theorem dX11_areAlike_38 : decode cX11_areAlike 38 = .ok (.iload 4, 2) := by decide +kernel
theorem dX11_areAlike_40 : decode cX11_areAlike 40 = .ok (.invokevirtual 210, 3) := by decide +kernel
theorem dX11_areAlike_43 : decode cX11_areAlike 43 = .ok (.aload_n 0, 1) := by decide +kernel
theorem dX11_areAlike_44 : decode cX11_areAlike 44 = .ok (.iload_n 2, 1) := by decide +kernel
theorem dX11_areAlike_45 : decode cX11_areAlike 45 = .ok (.iload 4, 2) := by decide +kernel
theorem dX11_areAlike_47 : decode cX11_areAlike 47 = .ok (.invokevirtual 210, 3) := by decide +kernel
theorem dX11_areAlike_50 : decode cX11_areAlike 50 = .ok (.if_icmp .ne 7, 3) := by decide +kernel
theorem dX11_areAlike_53 : decode cX11_areAlike 53 = .ok (.iconst 1, 1) := by decide +kernel
theorem dX11_areAlike_54 : decode cX11_areAlike 54 = .ok (.goto 4, 3) := by decide +kernel
theorem dX11_areAlike_57 : decode cX11_areAlike 57 = .ok (.iconst 0, 1) := by decide +kernel
theorem dX11_areAlike_58 : decode cX11_areAlike 58 = .ok (.istore_n 3, 1) := by decide +kernel
theorem dX11_areAlike_59 : decode cX11_areAlike 59 = .ok (.iinc 4 1, 3) := by decide +kernel
theorem dX11_areAlike_62 : decode cX11_areAlike 62 = .ok (.goto (-40), 3) := by decide +kernel
theorem dX11_areAlike_65 : decode cX11_areAlike 65 = .ok (.iload_n 3, 1) := by decide +kernel
theorem dX11_areAlike_66 : decode cX11_areAlike 66 = .ok (.ireturn, 1) := by decide +kernel
theorem dX11_leastOf_0 : decode cX11_leastOf 0 = .ok (.iconst 0, 1) := by decide +kernel
theorem dX11_leastOf_1 : decode cX11_leastOf 1 = .ok (.istore_n 2, 1) := by decide +kernel
theorem dX11_leastOf_2 : decode cX11_leastOf 2 = .ok (.aload_n 0, 1) := by decide +kernel
theorem dX11_leastOf_3 : decode cX11_leastOf 3 = .ok (.iload_n 2, 1) := by decide +kernel
theorem dX11_leastOf_4 : decode cX11_leastOf 4 = .ok (.invokevirtual 213, 3) := by decide +kernel
theorem dX11_leastOf_7 : decode cX11_leastOf 7 = .ok (.ifCond .eq 12, 3) := by decide +kernel
theorem dX11_leastOf_10 : decode cX11_leastOf 10 = .ok (.aload_n 0, 1) := by decide +kernel
theorem dX11_leastOf_11 : decode cX11_leastOf 11 = .ok (.iload_n 2, 1) := by decide +kernel
theorem dX11_leastOf_12 : decode cX11_leastOf 12 = .ok (.iload_n 1, 1) := by decide +kernel
theorem dX11_leastOf_13 : decode cX11_leastOf 13 = .ok (.invokevirtual 216, 3) := by decide +kernel
theorem dX11_leastOf_16 : decode cX11_leastOf 16 = .ok (.ifCond .ne 9, 3) := by decide +kernel
theorem dX11_leastOf_19 : decode cX11_leastOf 19 = .ok (.iinc 2 1, 3) := by decide +kernel
theorem dX11_leastOf_22 : decode cX11_leastOf 22 = .ok (.goto (-20), 3) := by decide +kernel
theorem dX11_leastOf_25 : decode cX11_leastOf 25 = .ok (.iload_n 2, 1) := by decide +kernel
theorem dX11_leastOf_26 : decode cX11_leastOf 26 = .ok (.ireturn, 1) := by decide +kernel
theorem dX11_partBegins_0 : decode cX11_partBegins 0 = .ok (.aload_n 0, 1) := by decide +kernel
theorem dX11_partBegins_1 : decode cX11_partBegins 1 = .ok (.iload_n 1, 1) := by decide +kernel
theorem dX11_partBegins_2 : decode cX11_partBegins 2 = .ok (.invokevirtual 207, 3) := by decide +kernel
theorem dX11_partBegins_5 : decode cX11_partBegins 5 = .ok (.aload_n 0, 1) := by decide +kernel
theorem dX11_partBegins_6 : decode cX11_partBegins 6 = .ok (.iload_n 2, 1) := by decide +kernel
theorem dX11_partBegins_7 : decode cX11_partBegins 7 = .ok (.invokevirtual 137, 3) := by decide +kernel
theorem dX11_partBegins_10 : decode cX11_partBegins 10 = .ok (.if_icmp .gt 7, 3) := by decide +kernel
theorem dX11_partBegins_13 : decode cX11_partBegins 13 = .ok (.iconst 1, 1) := by decide +kernel
theorem dX11_partBegins_14 : decode cX11_partBegins 14 = .ok (.goto 4, 3) := by decide +kernel
theorem dX11_partBegins_17 : decode cX11_partBegins 17 = .ok (.iconst 0, 1) := by decide +kernel
theorem dX11_partBegins_18 : decode cX11_partBegins 18 = .ok (.istore_n 3, 1) := by decide +kernel
theorem dX11_partBegins_19 : decode cX11_partBegins 19 = .ok (.iconst 0, 1) := by decide +kernel
theorem dX11_partBegins_20 : decode cX11_partBegins 20 = .ok (.istore 4, 2) := by decide +kernel
theorem dX11_partBegins_22 : decode cX11_partBegins 22 = .ok (.iload 4, 2) := by decide +kernel
theorem dX11_partBegins_24 : decode cX11_partBegins 24 = .ok (.aload_n 0, 1) := by decide +kernel
theorem dX11_partBegins_25 : decode cX11_partBegins 25 = .ok (.iload_n 1, 1) := by decide +kernel
theorem dX11_partBegins_26 : decode cX11_partBegins 26 = .ok (.invokevirtual 207, 3) := by decide +kernel
theorem dX11_partBegins_29 : decode cX11_partBegins 29 = .ok (.if_icmp .ge 36, 3) := by decide +kernel
theorem dX11_partBegins_32 : decode cX11_partBegins 32 = .ok (.iload_n 3, 1) := by decide +kernel
theorem dX11_partBegins_33 : decode cX11_partBegins 33 = .ok (.ifCond .eq 32, 3) := by decide +kernel
theorem dX11_partBegins_36 : decode cX11_partBegins 36 = .ok (.aload_n 0, 1) := by decide +kernel
theorem dX11_partBegins_37 : decode cX11_partBegins 37 = .ok (.iload_n 1, 1) := by decide +kernel
theorem dX11_partBegins_38 : decode cX11_partBegins 38 = .ok (.iload 4, 2) := by decide +kernel
theorem dX11_partBegins_40 : decode cX11_partBegins 40 = .ok (.invokevirtual 210, 3) := by decide +kernel
theorem dX11_partBegins_43 : decode cX11_partBegins 43 = .ok (.aload_n 0, 1) := by decide +kernel
theorem dX11_partBegins_44 : decode cX11_partBegins 44 = .ok (.iload_n 2, 1) := by decide +kernel
theorem dX11_partBegins_45 : decode cX11_partBegins 45 = .ok (.iload 4, 2) := by decide +kernel
theorem dX11_partBegins_47 : decode cX11_partBegins 47 = .ok (.invokevirtual 140, 3) := by decide +kernel
theorem dX11_partBegins_50 : decode cX11_partBegins 50 = .ok (.if_icmp .ne 7, 3) := by decide +kernel
theorem dX11_partBegins_53 : decode cX11_partBegins 53 = .ok (.iconst 1, 1) := by decide +kernel
theorem dX11_partBegins_54 : decode cX11_partBegins 54 = .ok (.goto 4, 3) := by decide +kernel
theorem dX11_partBegins_57 : decode cX11_partBegins 57 = .ok (.iconst 0, 1) := by decide +kernel
theorem dX11_partBegins_58 : decode cX11_partBegins 58 = .ok (.istore_n 3, 1) := by decide +kernel
theorem dX11_partBegins_59 : decode cX11_partBegins 59 = .ok (.iinc 4 1, 3) := by decide +kernel
theorem dX11_partBegins_62 : decode cX11_partBegins 62 = .ok (.goto (-40), 3) := by decide +kernel
theorem dX11_partBegins_65 : decode cX11_partBegins 65 = .ok (.iload_n 3, 1) := by decide +kernel
theorem dX11_partBegins_66 : decode cX11_partBegins 66 = .ok (.ireturn, 1) := by decide +kernel
theorem dX11_signBegins_0 : decode cX11_signBegins 0 = .ok (.aload_n 0, 1) := by decide +kernel
theorem dX11_signBegins_1 : decode cX11_signBegins 1 = .ok (.iload_n 1, 1) := by decide +kernel
theorem dX11_signBegins_2 : decode cX11_signBegins 2 = .ok (.invokevirtual 137, 3) := by decide +kernel
theorem dX11_signBegins_5 : decode cX11_signBegins 5 = .ok (.aload_n 0, 1) := by decide +kernel
theorem dX11_signBegins_6 : decode cX11_signBegins 6 = .ok (.iload_n 2, 1) := by decide +kernel
theorem dX11_signBegins_7 : decode cX11_signBegins 7 = .ok (.invokevirtual 207, 3) := by decide +kernel
theorem dX11_signBegins_10 : decode cX11_signBegins 10 = .ok (.if_icmp .gt 7, 3) := by decide +kernel
theorem dX11_signBegins_13 : decode cX11_signBegins 13 = .ok (.iconst 1, 1) := by decide +kernel
theorem dX11_signBegins_14 : decode cX11_signBegins 14 = .ok (.goto 4, 3) := by decide +kernel
theorem dX11_signBegins_17 : decode cX11_signBegins 17 = .ok (.iconst 0, 1) := by decide +kernel
theorem dX11_signBegins_18 : decode cX11_signBegins 18 = .ok (.istore_n 3, 1) := by decide +kernel
theorem dX11_signBegins_19 : decode cX11_signBegins 19 = .ok (.iconst 0, 1) := by decide +kernel
theorem dX11_signBegins_20 : decode cX11_signBegins 20 = .ok (.istore 4, 2) := by decide +kernel
theorem dX11_signBegins_22 : decode cX11_signBegins 22 = .ok (.iload 4, 2) := by decide +kernel
theorem dX11_signBegins_24 : decode cX11_signBegins 24 = .ok (.aload_n 0, 1) := by decide +kernel
theorem dX11_signBegins_25 : decode cX11_signBegins 25 = .ok (.iload_n 1, 1) := by decide +kernel
theorem dX11_signBegins_26 : decode cX11_signBegins 26 = .ok (.invokevirtual 137, 3) := by decide +kernel
theorem dX11_signBegins_29 : decode cX11_signBegins 29 = .ok (.if_icmp .ge 36, 3) := by decide +kernel
theorem dX11_signBegins_32 : decode cX11_signBegins 32 = .ok (.iload_n 3, 1) := by decide +kernel
theorem dX11_signBegins_33 : decode cX11_signBegins 33 = .ok (.ifCond .eq 32, 3) := by decide +kernel
theorem dX11_signBegins_36 : decode cX11_signBegins 36 = .ok (.aload_n 0, 1) := by decide +kernel
theorem dX11_signBegins_37 : decode cX11_signBegins 37 = .ok (.iload_n 1, 1) := by decide +kernel
theorem dX11_signBegins_38 : decode cX11_signBegins 38 = .ok (.iload 4, 2) := by decide +kernel
theorem dX11_signBegins_40 : decode cX11_signBegins 40 = .ok (.invokevirtual 140, 3) := by decide +kernel
theorem dX11_signBegins_43 : decode cX11_signBegins 43 = .ok (.aload_n 0, 1) := by decide +kernel
theorem dX11_signBegins_44 : decode cX11_signBegins 44 = .ok (.iload_n 2, 1) := by decide +kernel
theorem dX11_signBegins_45 : decode cX11_signBegins 45 = .ok (.iload 4, 2) := by decide +kernel
theorem dX11_signBegins_47 : decode cX11_signBegins 47 = .ok (.invokevirtual 210, 3) := by decide +kernel
theorem dX11_signBegins_50 : decode cX11_signBegins 50 = .ok (.if_icmp .ne 7, 3) := by decide +kernel
theorem dX11_signBegins_53 : decode cX11_signBegins 53 = .ok (.iconst 1, 1) := by decide +kernel
theorem dX11_signBegins_54 : decode cX11_signBegins 54 = .ok (.goto 4, 3) := by decide +kernel
theorem dX11_signBegins_57 : decode cX11_signBegins 57 = .ok (.iconst 0, 1) := by decide +kernel
theorem dX11_signBegins_58 : decode cX11_signBegins 58 = .ok (.istore_n 3, 1) := by decide +kernel
theorem dX11_signBegins_59 : decode cX11_signBegins 59 = .ok (.iinc 4 1, 3) := by decide +kernel
theorem dX11_signBegins_62 : decode cX11_signBegins 62 = .ok (.goto (-40), 3) := by decide +kernel
theorem dX11_signBegins_65 : decode cX11_signBegins 65 = .ok (.iload_n 3, 1) := by decide +kernel
theorem dX11_signBegins_66 : decode cX11_signBegins 66 = .ok (.ireturn, 1) := by decide +kernel
theorem dX11_comesAhead_0 : decode cX11_comesAhead 0 = .ok (.aload_n 0, 1) := by decide +kernel
theorem dX11_comesAhead_1 : decode cX11_comesAhead 1 = .ok (.iload_n 1, 1) := by decide +kernel
theorem dX11_comesAhead_2 : decode cX11_comesAhead 2 = .ok (.invokevirtual 219, 3) := by decide +kernel
theorem dX11_comesAhead_5 : decode cX11_comesAhead 5 = .ok (.istore_n 2, 1) := by decide +kernel
theorem dX11_comesAhead_6 : decode cX11_comesAhead 6 = .ok (.aload_n 0, 1) := by decide +kernel
theorem dX11_comesAhead_7 : decode cX11_comesAhead 7 = .ok (.aload_n 0, 1) := by decide +kernel
theorem dX11_comesAhead_8 : decode cX11_comesAhead 8 = .ok (.getfield 222, 3) := by decide +kernel
theorem dX11_comesAhead_11 : decode cX11_comesAhead 11 = .ok (.ifCond .ne 12, 3) := by decide +kernel
theorem dX11_comesAhead_14 : decode cX11_comesAhead 14 = .ok (.aload_n 0, 1) := by decide +kernel
theorem dX11_comesAhead_15 : decode cX11_comesAhead 15 = .ok (.getfield 55, 3) := by decide +kernel
theorem dX11_comesAhead_18 : decode cX11_comesAhead 18 = .ok (.iload_n 2, 1) := by decide +kernel
theorem dX11_comesAhead_19 : decode cX11_comesAhead 19 = .ok (.baload, 1) := by decide +kernel
theorem dX11_comesAhead_20 : decode cX11_comesAhead 20 = .ok (.ifCond .ne 7, 3) := by decide +kernel
theorem dX11_comesAhead_23 : decode cX11_comesAhead 23 = .ok (.iconst 1, 1) := by decide +kernel
theorem dX11_comesAhead_24 : decode cX11_comesAhead 24 = .ok (.goto 4, 3) := by decide +kernel
theorem dX11_comesAhead_27 : decode cX11_comesAhead 27 = .ok (.iconst 0, 1) := by decide +kernel
theorem dX11_comesAhead_28 : decode cX11_comesAhead 28 = .ok (.putfield 222, 3) := by decide +kernel
theorem dX11_comesAhead_31 : decode cX11_comesAhead 31 = .ok (.aload_n 0, 1) := by decide +kernel
theorem dX11_comesAhead_32 : decode cX11_comesAhead 32 = .ok (.getfield 55, 3) := by decide +kernel
theorem dX11_comesAhead_35 : decode cX11_comesAhead 35 = .ok (.iload_n 2, 1) := by decide +kernel
theorem dX11_comesAhead_36 : decode cX11_comesAhead 36 = .ok (.iconst 1, 1) := by decide +kernel
theorem dX11_comesAhead_37 : decode cX11_comesAhead 37 = .ok (.bastore, 1) := by decide +kernel
theorem dX11_comesAhead_38 : decode cX11_comesAhead 38 = .ok (.return_, 1) := by decide +kernel
theorem dX11_goOnFrom_0 : decode cX11_goOnFrom 0 = .ok (.iconst 0, 1) := by decide +kernel
theorem dX11_goOnFrom_1 : decode cX11_goOnFrom 1 = .ok (.istore_n 2, 1) := by decide +kernel
theorem dX11_goOnFrom_2 : decode cX11_goOnFrom 2 = .ok (.iload_n 2, 1) := by decide +kernel
theorem dX11_goOnFrom_3 : decode cX11_goOnFrom 3 = .ok (.aload_n 0, 1) := by decide +kernel
theorem dX11_goOnFrom_4 : decode cX11_goOnFrom 4 = .ok (.getfield 109, 3) := by decide +kernel
theorem dX11_goOnFrom_7 : decode cX11_goOnFrom 7 = .ok (.if_icmp .ge 51, 3) := by decide +kernel
theorem dX11_goOnFrom_10 : decode cX11_goOnFrom 10 = .ok (.aload_n 0, 1) := by decide +kernel
theorem dX11_goOnFrom_11 : decode cX11_goOnFrom 11 = .ok (.iload_n 1, 1) := by decide +kernel
theorem dX11_goOnFrom_12 : decode cX11_goOnFrom 12 = .ok (.iload_n 2, 1) := by decide +kernel
theorem dX11_goOnFrom_13 : decode cX11_goOnFrom 13 = .ok (.invokevirtual 226, 3) := by decide +kernel
theorem dX11_goOnFrom_16 : decode cX11_goOnFrom 16 = .ok (.ifCond .eq 16, 3) := by decide +kernel
theorem dX11_goOnFrom_19 : decode cX11_goOnFrom 19 = .ok (.aload_n 0, 1) := by decide +kernel
theorem dX11_goOnFrom_20 : decode cX11_goOnFrom 20 = .ok (.iconst 5, 1) := by decide +kernel
theorem dX11_goOnFrom_21 : decode cX11_goOnFrom 21 = .ok (.iload_n 2, 1) := by decide +kernel
theorem dX11_goOnFrom_22 : decode cX11_goOnFrom 22 = .ok (.imul, 1) := by decide +kernel
theorem dX11_goOnFrom_23 : decode cX11_goOnFrom 23 = .ok (.aload_n 0, 1) := by decide +kernel
theorem dX11_goOnFrom_24 : decode cX11_goOnFrom 24 = .ok (.iload_n 1, 1) := by decide +kernel
theorem dX11_goOnFrom_25 : decode cX11_goOnFrom 25 = .ok (.invokevirtual 207, 3) := by decide +kernel
theorem dX11_goOnFrom_28 : decode cX11_goOnFrom 28 = .ok (.iadd, 1) := by decide +kernel
theorem dX11_goOnFrom_29 : decode cX11_goOnFrom 29 = .ok (.invokevirtual 229, 3) := by decide +kernel
theorem dX11_goOnFrom_32 : decode cX11_goOnFrom 32 = .ok (.aload_n 0, 1) := by decide +kernel
theorem dX11_goOnFrom_33 : decode cX11_goOnFrom 33 = .ok (.iload_n 2, 1) := by decide +kernel
theorem dX11_goOnFrom_34 : decode cX11_goOnFrom 34 = .ok (.iload_n 1, 1) := by decide +kernel
theorem dX11_goOnFrom_35 : decode cX11_goOnFrom 35 = .ok (.invokevirtual 233, 3) := by decide +kernel
theorem dX11_goOnFrom_38 : decode cX11_goOnFrom 38 = .ok (.ifCond .eq 14, 3) := by decide +kernel
theorem dX11_goOnFrom_41 : decode cX11_goOnFrom 41 = .ok (.aload_n 0, 1) := by decide +kernel
theorem dX11_goOnFrom_42 : decode cX11_goOnFrom 42 = .ok (.iload_n 1, 1) := by decide +kernel
theorem dX11_goOnFrom_43 : decode cX11_goOnFrom 43 = .ok (.aload_n 0, 1) := by decide +kernel
theorem dX11_goOnFrom_44 : decode cX11_goOnFrom 44 = .ok (.iload_n 2, 1) := by decide +kernel
theorem dX11_goOnFrom_45 : decode cX11_goOnFrom 45 = .ok (.invokevirtual 137, 3) := by decide +kernel
theorem dX11_goOnFrom_48 : decode cX11_goOnFrom 48 = .ok (.iadd, 1) := by decide +kernel
theorem dX11_goOnFrom_49 : decode cX11_goOnFrom 49 = .ok (.invokevirtual 229, 3) := by decide +kernel
theorem dX11_goOnFrom_52 : decode cX11_goOnFrom 52 = .ok (.iinc 2 1, 3) := by decide +kernel
theorem dX11_goOnFrom_55 : decode cX11_goOnFrom 55 = .ok (.goto (-53), 3) := by decide +kernel
theorem dX11_goOnFrom_58 : decode cX11_goOnFrom 58 = .ok (.return_, 1) := by decide +kernel
theorem dX11_layAheads_0 : decode cX11_layAheads 0 = .ok (.iconst 0, 1) := by decide +kernel
theorem dX11_layAheads_1 : decode cX11_layAheads 1 = .ok (.istore_n 1, 1) := by decide +kernel
theorem dX11_layAheads_2 : decode cX11_layAheads 2 = .ok (.iload_n 1, 1) := by decide +kernel
theorem dX11_layAheads_3 : decode cX11_layAheads 3 = .ok (.bipush 40, 2) := by decide +kernel
theorem dX11_layAheads_5 : decode cX11_layAheads 5 = .ok (.if_icmp .ge 16, 3) := by decide +kernel
theorem dX11_layAheads_8 : decode cX11_layAheads 8 = .ok (.aload_n 0, 1) := by decide +kernel
theorem dX11_layAheads_9 : decode cX11_layAheads 9 = .ok (.getfield 55, 3) := by decide +kernel
theorem dX11_layAheads_12 : decode cX11_layAheads 12 = .ok (.iload_n 1, 1) := by decide +kernel
theorem dX11_layAheads_13 : decode cX11_layAheads 13 = .ok (.iconst 0, 1) := by decide +kernel
theorem dX11_layAheads_14 : decode cX11_layAheads 14 = .ok (.bastore, 1) := by decide +kernel
theorem dX11_layAheads_15 : decode cX11_layAheads 15 = .ok (.iinc 1 1, 3) := by decide +kernel
theorem dX11_layAheads_18 : decode cX11_layAheads 18 = .ok (.goto (-16), 3) := by decide +kernel
theorem dX11_layAheads_21 : decode cX11_layAheads 21 = .ok (.iconst 0, 1) := by decide +kernel
end
section
theorem dX11_layAheads_22 : decode cX11_layAheads 22 = .ok (.istore_n 1, 1) := by decide +kernel
theorem dX11_layAheads_23 : decode cX11_layAheads 23 = .ok (.iload_n 1, 1) := by decide +kernel
theorem dX11_layAheads_24 : decode cX11_layAheads 24 = .ok (.aload_n 0, 1) := by decide +kernel
theorem dX11_layAheads_25 : decode cX11_layAheads 25 = .ok (.getfield 109, 3) := by decide +kernel
theorem dX11_layAheads_28 : decode cX11_layAheads 28 = .ok (.if_icmp .ge 52, 3) := by decide +kernel
theorem dX11_layAheads_31 : decode cX11_layAheads 31 = .ok (.iconst 0, 1) := by decide +kernel
theorem dX11_layAheads_32 : decode cX11_layAheads 32 = .ok (.istore_n 2, 1) := by decide +kernel
theorem dX11_layAheads_33 : decode cX11_layAheads 33 = .ok (.iload_n 2, 1) := by decide +kernel
theorem dX11_layAheads_34 : decode cX11_layAheads 34 = .ok (.aload_n 0, 1) := by decide +kernel
theorem dX11_layAheads_35 : decode cX11_layAheads 35 = .ok (.getfield 109, 3) := by decide +kernel
theorem dX11_layAheads_38 : decode cX11_layAheads 38 = .ok (.if_icmp .ge 36, 3) := by decide +kernel
theorem dX11_layAheads_41 : decode cX11_layAheads 41 = .ok (.iload_n 1, 1) := by decide +kernel
theorem dX11_layAheads_42 : decode cX11_layAheads 42 = .ok (.iload_n 2, 1) := by decide +kernel
theorem dX11_layAheads_43 : decode cX11_layAheads 43 = .ok (.if_icmp .eq 25, 3) := by decide +kernel
theorem dX11_layAheads_46 : decode cX11_layAheads 46 = .ok (.aload_n 0, 1) := by decide +kernel
theorem dX11_layAheads_47 : decode cX11_layAheads 47 = .ok (.iload_n 1, 1) := by decide +kernel
theorem dX11_layAheads_48 : decode cX11_layAheads 48 = .ok (.iload_n 2, 1) := by decide +kernel
theorem dX11_layAheads_49 : decode cX11_layAheads 49 = .ok (.invokevirtual 157, 3) := by decide +kernel
theorem dX11_layAheads_52 : decode cX11_layAheads 52 = .ok (.ifCond .eq 16, 3) := by decide +kernel
theorem dX11_layAheads_55 : decode cX11_layAheads 55 = .ok (.aload_n 0, 1) := by decide +kernel
theorem dX11_layAheads_56 : decode cX11_layAheads 56 = .ok (.iconst 5, 1) := by decide +kernel
theorem dX11_layAheads_57 : decode cX11_layAheads 57 = .ok (.iload_n 2, 1) := by decide +kernel
theorem dX11_layAheads_58 : decode cX11_layAheads 58 = .ok (.imul, 1) := by decide +kernel
theorem dX11_layAheads_59 : decode cX11_layAheads 59 = .ok (.aload_n 0, 1) := by decide +kernel
theorem dX11_layAheads_60 : decode cX11_layAheads 60 = .ok (.iload_n 1, 1) := by decide +kernel
theorem dX11_layAheads_61 : decode cX11_layAheads 61 = .ok (.invokevirtual 137, 3) := by decide +kernel
theorem dX11_layAheads_64 : decode cX11_layAheads 64 = .ok (.iadd, 1) := by decide +kernel
theorem dX11_layAheads_65 : decode cX11_layAheads 65 = .ok (.invokevirtual 229, 3) := by decide +kernel
theorem dX11_layAheads_68 : decode cX11_layAheads 68 = .ok (.iinc 2 1, 3) := by decide +kernel
theorem dX11_layAheads_71 : decode cX11_layAheads 71 = .ok (.goto (-38), 3) := by decide +kernel
theorem dX11_layAheads_74 : decode cX11_layAheads 74 = .ok (.iinc 1 1, 3) := by decide +kernel
theorem dX11_layAheads_77 : decode cX11_layAheads 77 = .ok (.goto (-54), 3) := by decide +kernel
theorem dX11_layAheads_80 : decode cX11_layAheads 80 = .ok (.aload_n 0, 1) := by decide +kernel
theorem dX11_layAheads_81 : decode cX11_layAheads 81 = .ok (.iconst 1, 1) := by decide +kernel
theorem dX11_layAheads_82 : decode cX11_layAheads 82 = .ok (.putfield 222, 3) := by decide +kernel
theorem dX11_layAheads_85 : decode cX11_layAheads 85 = .ok (.aload_n 0, 1) := by decide +kernel
theorem dX11_layAheads_86 : decode cX11_layAheads 86 = .ok (.getfield 222, 3) := by decide +kernel
theorem dX11_layAheads_89 : decode cX11_layAheads 89 = .ok (.ifCond .eq 47, 3) := by decide +kernel
theorem dX11_layAheads_92 : decode cX11_layAheads 92 = .ok (.aload_n 0, 1) := by decide +kernel
theorem dX11_layAheads_93 : decode cX11_layAheads 93 = .ok (.iconst 0, 1) := by decide +kernel
theorem dX11_layAheads_94 : decode cX11_layAheads 94 = .ok (.putfield 222, 3) := by decide +kernel
theorem dX11_layAheads_97 : decode cX11_layAheads 97 = .ok (.iconst 0, 1) := by decide +kernel
theorem dX11_layAheads_98 : decode cX11_layAheads 98 = .ok (.istore_n 1, 1) := by decide +kernel
theorem dX11_layAheads_99 : decode cX11_layAheads 99 = .ok (.iload_n 1, 1) := by decide +kernel
theorem dX11_layAheads_100 : decode cX11_layAheads 100 = .ok (.bipush 40, 2) := by decide +kernel
theorem dX11_layAheads_102 : decode cX11_layAheads 102 = .ok (.if_icmp .ge 31, 3) := by decide +kernel
theorem dX11_layAheads_105 : decode cX11_layAheads 105 = .ok (.aload_n 0, 1) := by decide +kernel
theorem dX11_layAheads_106 : decode cX11_layAheads 106 = .ok (.getfield 55, 3) := by decide +kernel
theorem dX11_layAheads_109 : decode cX11_layAheads 109 = .ok (.iload_n 1, 1) := by decide +kernel
theorem dX11_layAheads_110 : decode cX11_layAheads 110 = .ok (.baload, 1) := by decide +kernel
theorem dX11_layAheads_111 : decode cX11_layAheads 111 = .ok (.ifCond .eq 16, 3) := by decide +kernel
theorem dX11_layAheads_114 : decode cX11_layAheads 114 = .ok (.aload_n 0, 1) := by decide +kernel
theorem dX11_layAheads_115 : decode cX11_layAheads 115 = .ok (.iload_n 1, 1) := by decide +kernel
theorem dX11_layAheads_116 : decode cX11_layAheads 116 = .ok (.invokevirtual 207, 3) := by decide +kernel
theorem dX11_layAheads_119 : decode cX11_layAheads 119 = .ok (.ifCond .le 8, 3) := by decide +kernel
theorem dX11_layAheads_122 : decode cX11_layAheads 122 = .ok (.aload_n 0, 1) := by decide +kernel
theorem dX11_layAheads_123 : decode cX11_layAheads 123 = .ok (.iload_n 1, 1) := by decide +kernel
theorem dX11_layAheads_124 : decode cX11_layAheads 124 = .ok (.invokevirtual 236, 3) := by decide +kernel
theorem dX11_layAheads_127 : decode cX11_layAheads 127 = .ok (.iinc 1 1, 3) := by decide +kernel
theorem dX11_layAheads_130 : decode cX11_layAheads 130 = .ok (.goto (-31), 3) := by decide +kernel
theorem dX11_layAheads_133 : decode cX11_layAheads 133 = .ok (.goto (-48), 3) := by decide +kernel
theorem dX11_layAheads_136 : decode cX11_layAheads 136 = .ok (.return_, 1) := by decide +kernel
theorem dX11_isClean_0 : decode cX11_isClean 0 = .ok (.aload_n 0, 1) := by decide +kernel
theorem dX11_isClean_1 : decode cX11_isClean 1 = .ok (.invokevirtual 239, 3) := by decide +kernel
theorem dX11_isClean_4 : decode cX11_isClean 4 = .ok (.iconst 1, 1) := by decide +kernel
theorem dX11_isClean_5 : decode cX11_isClean 5 = .ok (.istore_n 1, 1) := by decide +kernel
theorem dX11_isClean_6 : decode cX11_isClean 6 = .ok (.iconst 0, 1) := by decide +kernel
theorem dX11_isClean_7 : decode cX11_isClean 7 = .ok (.istore_n 2, 1) := by decide +kernel
theorem dX11_isClean_8 : decode cX11_isClean 8 = .ok (.iload_n 2, 1) := by decide +kernel
theorem dX11_isClean_9 : decode cX11_isClean 9 = .ok (.bipush 40, 2) := by decide +kernel
theorem dX11_isClean_11 : decode cX11_isClean 11 = .ok (.if_icmp .ge 36, 3) := by decide +kernel
theorem dX11_isClean_14 : decode cX11_isClean 14 = .ok (.iload_n 1, 1) := by decide +kernel
theorem dX11_isClean_15 : decode cX11_isClean 15 = .ok (.ifCond .eq 24, 3) := by decide +kernel
theorem dX11_isClean_18 : decode cX11_isClean 18 = .ok (.aload_n 0, 1) := by decide +kernel
theorem dX11_isClean_19 : decode cX11_isClean 19 = .ok (.getfield 55, 3) := by decide +kernel
theorem dX11_isClean_22 : decode cX11_isClean 22 = .ok (.iload_n 2, 1) := by decide +kernel
theorem dX11_isClean_23 : decode cX11_isClean 23 = .ok (.baload, 1) := by decide +kernel
theorem dX11_isClean_24 : decode cX11_isClean 24 = .ok (.ifCond .eq 11, 3) := by decide +kernel
theorem dX11_isClean_27 : decode cX11_isClean 27 = .ok (.aload_n 0, 1) := by decide +kernel
theorem dX11_isClean_28 : decode cX11_isClean 28 = .ok (.iload_n 2, 1) := by decide +kernel
theorem dX11_isClean_29 : decode cX11_isClean 29 = .ok (.invokevirtual 207, 3) := by decide +kernel
theorem dX11_isClean_32 : decode cX11_isClean 32 = .ok (.ifCond .eq 7, 3) := by decide +kernel
theorem dX11_isClean_35 : decode cX11_isClean 35 = .ok (.iconst 1, 1) := by decide +kernel
theorem dX11_isClean_36 : decode cX11_isClean 36 = .ok (.goto 4, 3) := by decide +kernel
theorem dX11_isClean_39 : decode cX11_isClean 39 = .ok (.iconst 0, 1) := by decide +kernel
theorem dX11_isClean_40 : decode cX11_isClean 40 = .ok (.istore_n 1, 1) := by decide +kernel
theorem dX11_isClean_41 : decode cX11_isClean 41 = .ok (.iinc 2 1, 3) := by decide +kernel
theorem dX11_isClean_44 : decode cX11_isClean 44 = .ok (.goto (-36), 3) := by decide +kernel
theorem dX11_isClean_47 : decode cX11_isClean 47 = .ok (.iload_n 1, 1) := by decide +kernel
theorem dX11_isClean_48 : decode cX11_isClean 48 = .ok (.ireturn, 1) := by decide +kernel
theorem dX11_aheadsMany_0 : decode cX11_aheadsMany 0 = .ok (.aload_n 0, 1) := by decide +kernel
theorem dX11_aheadsMany_1 : decode cX11_aheadsMany 1 = .ok (.invokevirtual 239, 3) := by decide +kernel
theorem dX11_aheadsMany_4 : decode cX11_aheadsMany 4 = .ok (.iconst 0, 1) := by decide +kernel
theorem dX11_aheadsMany_5 : decode cX11_aheadsMany 5 = .ok (.istore_n 1, 1) := by decide +kernel
theorem dX11_aheadsMany_6 : decode cX11_aheadsMany 6 = .ok (.iconst 0, 1) := by decide +kernel
theorem dX11_aheadsMany_7 : decode cX11_aheadsMany 7 = .ok (.istore_n 2, 1) := by decide +kernel
theorem dX11_aheadsMany_8 : decode cX11_aheadsMany 8 = .ok (.iload_n 2, 1) := by decide +kernel
theorem dX11_aheadsMany_9 : decode cX11_aheadsMany 9 = .ok (.bipush 40, 2) := by decide +kernel
theorem dX11_aheadsMany_11 : decode cX11_aheadsMany 11 = .ok (.if_icmp .ge 26, 3) := by decide +kernel
theorem dX11_aheadsMany_14 : decode cX11_aheadsMany 14 = .ok (.iload_n 1, 1) := by decide +kernel
theorem dX11_aheadsMany_15 : decode cX11_aheadsMany 15 = .ok (.aload_n 0, 1) := by decide +kernel
theorem dX11_aheadsMany_16 : decode cX11_aheadsMany 16 = .ok (.getfield 55, 3) := by decide +kernel
theorem dX11_aheadsMany_19 : decode cX11_aheadsMany 19 = .ok (.iload_n 2, 1) := by decide +kernel
theorem dX11_aheadsMany_20 : decode cX11_aheadsMany 20 = .ok (.baload, 1) := by decide +kernel
theorem dX11_aheadsMany_21 : decode cX11_aheadsMany 21 = .ok (.ifCond .eq 7, 3) := by decide +kernel
theorem dX11_aheadsMany_24 : decode cX11_aheadsMany 24 = .ok (.iconst 1, 1) := by decide +kernel
theorem dX11_aheadsMany_25 : decode cX11_aheadsMany 25 = .ok (.goto 4, 3) := by decide +kernel
theorem dX11_aheadsMany_28 : decode cX11_aheadsMany 28 = .ok (.iconst 0, 1) := by decide +kernel
theorem dX11_aheadsMany_29 : decode cX11_aheadsMany 29 = .ok (.iadd, 1) := by decide +kernel
theorem dX11_aheadsMany_30 : decode cX11_aheadsMany 30 = .ok (.istore_n 1, 1) := by decide +kernel
theorem dX11_aheadsMany_31 : decode cX11_aheadsMany 31 = .ok (.iinc 2 1, 3) := by decide +kernel
theorem dX11_aheadsMany_34 : decode cX11_aheadsMany 34 = .ok (.goto (-26), 3) := by decide +kernel
theorem dX11_aheadsMany_37 : decode cX11_aheadsMany 37 = .ok (.iload_n 1, 1) := by decide +kernel
theorem dX11_aheadsMany_38 : decode cX11_aheadsMany 38 = .ok (.ireturn, 1) := by decide +kernel
theorem dX11_isBefore_0 : decode cX11_isBefore 0 = .ok (.aload_n 0, 1) := by decide +kernel
theorem dX11_isBefore_1 : decode cX11_isBefore 1 = .ok (.iload_n 1, 1) := by decide +kernel
theorem dX11_isBefore_2 : decode cX11_isBefore 2 = .ok (.invokevirtual 207, 3) := by decide +kernel
theorem dX11_isBefore_5 : decode cX11_isBefore 5 = .ok (.aload_n 0, 1) := by decide +kernel
theorem dX11_isBefore_6 : decode cX11_isBefore 6 = .ok (.iload_n 2, 1) := by decide +kernel
theorem dX11_isBefore_7 : decode cX11_isBefore 7 = .ok (.invokevirtual 207, 3) := by decide +kernel
theorem dX11_isBefore_10 : decode cX11_isBefore 10 = .ok (.if_icmp .eq 22, 3) := by decide +kernel
theorem dX11_isBefore_13 : decode cX11_isBefore 13 = .ok (.aload_n 0, 1) := by decide +kernel
theorem dX11_isBefore_14 : decode cX11_isBefore 14 = .ok (.iload_n 1, 1) := by decide +kernel
theorem dX11_isBefore_15 : decode cX11_isBefore 15 = .ok (.invokevirtual 207, 3) := by decide +kernel
theorem dX11_isBefore_18 : decode cX11_isBefore 18 = .ok (.aload_n 0, 1) := by decide +kernel
theorem dX11_isBefore_19 : decode cX11_isBefore 19 = .ok (.iload_n 2, 1) := by decide +kernel
theorem dX11_isBefore_20 : decode cX11_isBefore 20 = .ok (.invokevirtual 207, 3) := by decide +kernel
theorem dX11_isBefore_23 : decode cX11_isBefore 23 = .ok (.if_icmp .ge 7, 3) := by decide +kernel
theorem dX11_isBefore_26 : decode cX11_isBefore 26 = .ok (.iconst 1, 1) := by decide +kernel
theorem dX11_isBefore_27 : decode cX11_isBefore 27 = .ok (.goto 4, 3) := by decide +kernel
theorem dX11_isBefore_30 : decode cX11_isBefore 30 = .ok (.iconst 0, 1) := by decide +kernel
theorem dX11_isBefore_31 : decode cX11_isBefore 31 = .ok (.ireturn, 1) := by decide +kernel
theorem dX11_isBefore_32 : decode cX11_isBefore 32 = .ok (.iconst 0, 1) := by decide +kernel
theorem dX11_isBefore_33 : decode cX11_isBefore 33 = .ok (.istore_n 3, 1) := by decide +kernel
theorem dX11_isBefore_34 : decode cX11_isBefore 34 = .ok (.iload_n 3, 1) := by decide +kernel
theorem dX11_isBefore_35 : decode cX11_isBefore 35 = .ok (.aload_n 0, 1) := by decide +kernel
theorem dX11_isBefore_36 : decode cX11_isBefore 36 = .ok (.iload_n 1, 1) := by decide +kernel
theorem dX11_isBefore_37 : decode cX11_isBefore 37 = .ok (.invokevirtual 207, 3) := by decide +kernel
theorem dX11_isBefore_40 : decode cX11_isBefore 40 = .ok (.if_icmp .ge 45, 3) := by decide +kernel
theorem dX11_isBefore_43 : decode cX11_isBefore 43 = .ok (.aload_n 0, 1) := by decide +kernel
theorem dX11_isBefore_44 : decode cX11_isBefore 44 = .ok (.iload_n 1, 1) := by decide +kernel
theorem dX11_isBefore_45 : decode cX11_isBefore 45 = .ok (.iload_n 3, 1) := by decide +kernel
theorem dX11_isBefore_46 : decode cX11_isBefore 46 = .ok (.invokevirtual 210, 3) := by decide +kernel
theorem dX11_isBefore_49 : decode cX11_isBefore 49 = .ok (.aload_n 0, 1) := by decide +kernel
theorem dX11_isBefore_50 : decode cX11_isBefore 50 = .ok (.iload_n 2, 1) := by decide +kernel
theorem dX11_isBefore_51 : decode cX11_isBefore 51 = .ok (.iload_n 3, 1) := by decide +kernel
theorem dX11_isBefore_52 : decode cX11_isBefore 52 = .ok (.invokevirtual 210, 3) := by decide +kernel
theorem dX11_isBefore_55 : decode cX11_isBefore 55 = .ok (.if_icmp .eq 24, 3) := by decide +kernel
theorem dX11_isBefore_58 : decode cX11_isBefore 58 = .ok (.aload_n 0, 1) := by decide +kernel
theorem dX11_isBefore_59 : decode cX11_isBefore 59 = .ok (.iload_n 1, 1) := by decide +kernel
theorem dX11_isBefore_60 : decode cX11_isBefore 60 = .ok (.iload_n 3, 1) := by decide +kernel
theorem dX11_isBefore_61 : decode cX11_isBefore 61 = .ok (.invokevirtual 210, 3) := by decide +kernel
theorem dX11_isBefore_64 : decode cX11_isBefore 64 = .ok (.aload_n 0, 1) := by decide +kernel
theorem dX11_isBefore_65 : decode cX11_isBefore 65 = .ok (.iload_n 2, 1) := by decide +kernel
theorem dX11_isBefore_66 : decode cX11_isBefore 66 = .ok (.iload_n 3, 1) := by decide +kernel
theorem dX11_isBefore_67 : decode cX11_isBefore 67 = .ok (.invokevirtual 210, 3) := by decide +kernel
theorem dX11_isBefore_70 : decode cX11_isBefore 70 = .ok (.if_icmp .ge 7, 3) := by decide +kernel
theorem dX11_isBefore_73 : decode cX11_isBefore 73 = .ok (.iconst 1, 1) := by decide +kernel
theorem dX11_isBefore_74 : decode cX11_isBefore 74 = .ok (.goto 4, 3) := by decide +kernel
theorem dX11_isBefore_77 : decode cX11_isBefore 77 = .ok (.iconst 0, 1) := by decide +kernel
theorem dX11_isBefore_78 : decode cX11_isBefore 78 = .ok (.ireturn, 1) := by decide +kernel
theorem dX11_isBefore_79 : decode cX11_isBefore 79 = .ok (.iinc 3 1, 3) := by decide +kernel
theorem dX11_isBefore_82 : decode cX11_isBefore 82 = .ok (.goto (-48), 3) := by decide +kernel
theorem dX11_isBefore_85 : decode cX11_isBefore 85 = .ok (.iconst 0, 1) := by decide +kernel
theorem dX11_isBefore_86 : decode cX11_isBefore 86 = .ok (.ireturn, 1) := by decide +kernel
theorem dX11_aheadOf_0 : decode cX11_aheadOf 0 = .ok (.iconst 0, 1) := by decide +kernel
theorem dX11_aheadOf_1 : decode cX11_aheadOf 1 = .ok (.istore_n 2, 1) := by decide +kernel
theorem dX11_aheadOf_2 : decode cX11_aheadOf 2 = .ok (.iload_n 2, 1) := by decide +kernel
theorem dX11_aheadOf_3 : decode cX11_aheadOf 3 = .ok (.bipush 40, 2) := by decide +kernel
theorem dX11_aheadOf_5 : decode cX11_aheadOf 5 = .ok (.if_icmp .ge 80, 3) := by decide +kernel
theorem dX11_aheadOf_8 : decode cX11_aheadOf 8 = .ok (.iconst 0, 1) := by decide +kernel
theorem dX11_aheadOf_9 : decode cX11_aheadOf 9 = .ok (.istore_n 3, 1) := by decide +kernel
theorem dX11_aheadOf_10 : decode cX11_aheadOf 10 = .ok (.iconst 0, 1) := by decide +kernel
theorem dX11_aheadOf_11 : decode cX11_aheadOf 11 = .ok (.istore 4, 2) := by decide +kernel
theorem dX11_aheadOf_13 : decode cX11_aheadOf 13 = .ok (.iload 4, 2) := by decide +kernel
theorem dX11_aheadOf_15 : decode cX11_aheadOf 15 = .ok (.bipush 40, 2) := by decide +kernel
theorem dX11_aheadOf_17 : decode cX11_aheadOf 17 = .ok (.if_icmp .ge 46, 3) := by decide +kernel
theorem dX11_aheadOf_20 : decode cX11_aheadOf 20 = .ok (.aload_n 0, 1) := by decide +kernel
theorem dX11_aheadOf_21 : decode cX11_aheadOf 21 = .ok (.getfield 55, 3) := by decide +kernel
theorem dX11_aheadOf_24 : decode cX11_aheadOf 24 = .ok (.iload_n 2, 1) := by decide +kernel
theorem dX11_aheadOf_25 : decode cX11_aheadOf 25 = .ok (.baload, 1) := by decide +kernel
theorem dX11_aheadOf_26 : decode cX11_aheadOf 26 = .ok (.ifCond .eq 37, 3) := by decide +kernel
theorem dX11_aheadOf_29 : decode cX11_aheadOf 29 = .ok (.iload_n 3, 1) := by decide +kernel
theorem dX11_aheadOf_30 : decode cX11_aheadOf 30 = .ok (.aload_n 0, 1) := by decide +kernel
theorem dX11_aheadOf_31 : decode cX11_aheadOf 31 = .ok (.getfield 55, 3) := by decide +kernel
theorem dX11_aheadOf_34 : decode cX11_aheadOf 34 = .ok (.iload 4, 2) := by decide +kernel
theorem dX11_aheadOf_36 : decode cX11_aheadOf 36 = .ok (.baload, 1) := by decide +kernel
theorem dX11_aheadOf_37 : decode cX11_aheadOf 37 = .ok (.ifCond .eq 17, 3) := by decide +kernel
theorem dX11_aheadOf_40 : decode cX11_aheadOf 40 = .ok (.aload_n 0, 1) := by decide +kernel
theorem dX11_aheadOf_41 : decode cX11_aheadOf 41 = .ok (.iload 4, 2) := by decide +kernel
theorem dX11_aheadOf_43 : decode cX11_aheadOf 43 = .ok (.iload_n 2, 1) := by decide +kernel
theorem dX11_aheadOf_44 : decode cX11_aheadOf 44 = .ok (.invokevirtual 242, 3) := by decide +kernel
theorem dX11_aheadOf_47 : decode cX11_aheadOf 47 = .ok (.ifCond .eq 7, 3) := by decide +kernel
theorem dX11_aheadOf_50 : decode cX11_aheadOf 50 = .ok (.iconst 1, 1) := by decide +kernel
theorem dX11_aheadOf_51 : decode cX11_aheadOf 51 = .ok (.goto 4, 3) := by decide +kernel
theorem dX11_aheadOf_54 : decode cX11_aheadOf 54 = .ok (.iconst 0, 1) := by decide +kernel
theorem dX11_aheadOf_55 : decode cX11_aheadOf 55 = .ok (.iadd, 1) := by decide +kernel
theorem dX11_aheadOf_56 : decode cX11_aheadOf 56 = .ok (.istore_n 3, 1) := by decide +kernel
theorem dX11_aheadOf_57 : decode cX11_aheadOf 57 = .ok (.iinc 4 1, 3) := by decide +kernel
theorem dX11_aheadOf_60 : decode cX11_aheadOf 60 = .ok (.goto (-47), 3) := by decide +kernel
theorem dX11_aheadOf_63 : decode cX11_aheadOf 63 = .ok (.aload_n 0, 1) := by decide +kernel
theorem dX11_aheadOf_64 : decode cX11_aheadOf 64 = .ok (.getfield 55, 3) := by decide +kernel
theorem dX11_aheadOf_67 : decode cX11_aheadOf 67 = .ok (.iload_n 2, 1) := by decide +kernel
theorem dX11_aheadOf_68 : decode cX11_aheadOf 68 = .ok (.baload, 1) := by decide +kernel
theorem dX11_aheadOf_69 : decode cX11_aheadOf 69 = .ok (.ifCond .eq 10, 3) := by decide +kernel
theorem dX11_aheadOf_72 : decode cX11_aheadOf 72 = .ok (.iload_n 3, 1) := by decide +kernel
theorem dX11_aheadOf_73 : decode cX11_aheadOf 73 = .ok (.iload_n 1, 1) := by decide +kernel
theorem dX11_aheadOf_74 : decode cX11_aheadOf 74 = .ok (.if_icmp .ne 5, 3) := by decide +kernel
theorem dX11_aheadOf_77 : decode cX11_aheadOf 77 = .ok (.iload_n 2, 1) := by decide +kernel
theorem dX11_aheadOf_78 : decode cX11_aheadOf 78 = .ok (.ireturn, 1) := by decide +kernel
theorem dX11_aheadOf_79 : decode cX11_aheadOf 79 = .ok (.iinc 2 1, 3) := by decide +kernel
theorem dX11_aheadOf_82 : decode cX11_aheadOf 82 = .ok (.goto (-80), 3) := by decide +kernel
theorem dX11_aheadOf_85 : decode cX11_aheadOf 85 = .ok (.iconst (-1), 1) := by decide +kernel
theorem dX11_aheadOf_86 : decode cX11_aheadOf 86 = .ok (.ireturn, 1) := by decide +kernel
theorem dX11_ahead_0 : decode cX11_ahead 0 = .ok (.aload_n 0, 1) := by decide +kernel
theorem dX11_ahead_1 : decode cX11_ahead 1 = .ok (.invokevirtual 239, 3) := by decide +kernel
theorem dX11_ahead_4 : decode cX11_ahead 4 = .ok (.aload_n 0, 1) := by decide +kernel
theorem dX11_ahead_5 : decode cX11_ahead 5 = .ok (.iload_n 1, 1) := by decide +kernel
theorem dX11_ahead_6 : decode cX11_ahead 6 = .ok (.invokevirtual 245, 3) := by decide +kernel
theorem dX11_ahead_9 : decode cX11_ahead 9 = .ok (.istore_n 2, 1) := by decide +kernel
theorem dX11_ahead_10 : decode cX11_ahead 10 = .ok (.iload_n 2, 1) := by decide +kernel
theorem dX11_ahead_11 : decode cX11_ahead 11 = .ok (.iconst (-1), 1) := by decide +kernel
theorem dX11_ahead_12 : decode cX11_ahead 12 = .ok (.if_icmp .ne 8, 3) := by decide +kernel
theorem dX11_ahead_15 : decode cX11_ahead 15 = .ok (.bipush (-101), 2) := by decide +kernel
theorem dX11_ahead_17 : decode cX11_ahead 17 = .ok (.goto 8, 3) := by decide +kernel
theorem dX11_ahead_20 : decode cX11_ahead 20 = .ok (.aload_n 0, 1) := by decide +kernel
theorem dX11_ahead_21 : decode cX11_ahead 21 = .ok (.iload_n 2, 1) := by decide +kernel
theorem dX11_ahead_22 : decode cX11_ahead 22 = .ok (.invokevirtual 207, 3) := by decide +kernel
theorem dX11_ahead_25 : decode cX11_ahead 25 = .ok (.ireturn, 1) := by decide +kernel
theorem dX11_aheadAt_0 : decode cX11_aheadAt 0 = .ok (.aload_n 0, 1) := by decide +kernel
theorem dX11_aheadAt_1 : decode cX11_aheadAt 1 = .ok (.invokevirtual 239, 3) := by decide +kernel
theorem dX11_aheadAt_4 : decode cX11_aheadAt 4 = .ok (.aload_n 0, 1) := by decide +kernel
theorem dX11_aheadAt_5 : decode cX11_aheadAt 5 = .ok (.iload_n 1, 1) := by decide +kernel
theorem dX11_aheadAt_6 : decode cX11_aheadAt 6 = .ok (.invokevirtual 245, 3) := by decide +kernel
theorem dX11_aheadAt_9 : decode cX11_aheadAt 9 = .ok (.istore_n 3, 1) := by decide +kernel
theorem dX11_aheadAt_10 : decode cX11_aheadAt 10 = .ok (.iload_n 3, 1) := by decide +kernel
theorem dX11_aheadAt_11 : decode cX11_aheadAt 11 = .ok (.iconst (-1), 1) := by decide +kernel
theorem dX11_aheadAt_12 : decode cX11_aheadAt 12 = .ok (.if_icmp .eq 27, 3) := by decide +kernel
theorem dX11_aheadAt_15 : decode cX11_aheadAt 15 = .ok (.iload_n 2, 1) := by decide +kernel
theorem dX11_aheadAt_16 : decode cX11_aheadAt 16 = .ok (.iconst 0, 1) := by decide +kernel
theorem dX11_aheadAt_17 : decode cX11_aheadAt 17 = .ok (.aload_n 0, 1) := by decide +kernel
theorem dX11_aheadAt_18 : decode cX11_aheadAt 18 = .ok (.iload_n 3, 1) := by decide +kernel
theorem dX11_aheadAt_19 : decode cX11_aheadAt 19 = .ok (.invokevirtual 207, 3) := by decide +kernel
theorem dX11_aheadAt_22 : decode cX11_aheadAt 22 = .ok (.iconst 1, 1) := by decide +kernel
theorem dX11_aheadAt_23 : decode cX11_aheadAt 23 = .ok (.isub, 1) := by decide +kernel
theorem dX11_aheadAt_24 : decode cX11_aheadAt 24 = .ok (.invokestatic 71, 3) := by decide +kernel
theorem dX11_aheadAt_27 : decode cX11_aheadAt 27 = .ok (.ifCond .eq 12, 3) := by decide +kernel
theorem dX11_aheadAt_30 : decode cX11_aheadAt 30 = .ok (.aload_n 0, 1) := by decide +kernel
theorem dX11_aheadAt_31 : decode cX11_aheadAt 31 = .ok (.iload_n 3, 1) := by decide +kernel
theorem dX11_aheadAt_32 : decode cX11_aheadAt 32 = .ok (.iload_n 2, 1) := by decide +kernel
theorem dX11_aheadAt_33 : decode cX11_aheadAt 33 = .ok (.invokevirtual 210, 3) := by decide +kernel
theorem dX11_aheadAt_36 : decode cX11_aheadAt 36 = .ok (.goto 5, 3) := by decide +kernel
theorem dX11_aheadAt_39 : decode cX11_aheadAt 39 = .ok (.bipush (-101), 2) := by decide +kernel
theorem dX11_aheadAt_41 : decode cX11_aheadAt 41 = .ok (.ireturn, 1) := by decide +kernel
theorem dX11_tryLetter_0 : decode cX11_tryLetter 0 = .ok (.aload_n 0, 1) := by decide +kernel
theorem dX11_tryLetter_1 : decode cX11_tryLetter 1 = .ok (.getfield 65, 3) := by decide +kernel
theorem dX11_tryLetter_4 : decode cX11_tryLetter 4 = .ok (.aload_n 0, 1) := by decide +kernel
theorem dX11_tryLetter_5 : decode cX11_tryLetter 5 = .ok (.getfield 248, 3) := by decide +kernel
theorem dX11_tryLetter_8 : decode cX11_tryLetter 8 = .ok (.iload_n 1, 1) := by decide +kernel
theorem dX11_tryLetter_9 : decode cX11_tryLetter 9 = .ok (.iastore, 1) := by decide +kernel
theorem dX11_tryLetter_10 : decode cX11_tryLetter 10 = .ok (.aload_n 0, 1) := by decide +kernel
theorem dX11_tryLetter_11 : decode cX11_tryLetter 11 = .ok (.dup, 1) := by decide +kernel
theorem dX11_tryLetter_12 : decode cX11_tryLetter 12 = .ok (.getfield 248, 3) := by decide +kernel
theorem dX11_tryLetter_15 : decode cX11_tryLetter 15 = .ok (.iconst 1, 1) := by decide +kernel
theorem dX11_tryLetter_16 : decode cX11_tryLetter 16 = .ok (.iadd, 1) := by decide +kernel
theorem dX11_tryLetter_17 : decode cX11_tryLetter 17 = .ok (.putfield 248, 3) := by decide +kernel
theorem dX11_tryLetter_20 : decode cX11_tryLetter 20 = .ok (.return_, 1) := by decide +kernel
theorem dX11_tryBehind_0 : decode cX11_tryBehind 0 = .ok (.iconst 0, 1) := by decide +kernel
theorem dX11_tryBehind_1 : decode cX11_tryBehind 1 = .ok (.istore_n 2, 1) := by decide +kernel
theorem dX11_tryBehind_2 : decode cX11_tryBehind 2 = .ok (.iload_n 2, 1) := by decide +kernel
theorem dX11_tryBehind_3 : decode cX11_tryBehind 3 = .ok (.aload_n 0, 1) := by decide +kernel
theorem dX11_tryBehind_4 : decode cX11_tryBehind 4 = .ok (.getfield 59, 3) := by decide +kernel
theorem dX11_tryBehind_7 : decode cX11_tryBehind 7 = .ok (.iload_n 1, 1) := by decide +kernel
theorem dX11_tryBehind_8 : decode cX11_tryBehind 8 = .ok (.iaload, 1) := by decide +kernel
theorem dX11_tryBehind_9 : decode cX11_tryBehind 9 = .ok (.if_icmp .ge 25, 3) := by decide +kernel
theorem dX11_tryBehind_12 : decode cX11_tryBehind 12 = .ok (.aload_n 0, 1) := by decide +kernel
theorem dX11_tryBehind_13 : decode cX11_tryBehind 13 = .ok (.aload_n 0, 1) := by decide +kernel
theorem dX11_tryBehind_14 : decode cX11_tryBehind 14 = .ok (.getfield 62, 3) := by decide +kernel
theorem dX11_tryBehind_17 : decode cX11_tryBehind 17 = .ok (.sipush 200, 3) := by decide +kernel
theorem dX11_tryBehind_20 : decode cX11_tryBehind 20 = .ok (.iload_n 1, 1) := by decide +kernel
theorem dX11_tryBehind_21 : decode cX11_tryBehind 21 = .ok (.imul, 1) := by decide +kernel
theorem dX11_tryBehind_22 : decode cX11_tryBehind 22 = .ok (.iload_n 2, 1) := by decide +kernel
theorem dX11_tryBehind_23 : decode cX11_tryBehind 23 = .ok (.iadd, 1) := by decide +kernel
theorem dX11_tryBehind_24 : decode cX11_tryBehind 24 = .ok (.iaload, 1) := by decide +kernel
theorem dX11_tryBehind_25 : decode cX11_tryBehind 25 = .ok (.invokevirtual 251, 3) := by decide +kernel
theorem dX11_tryBehind_28 : decode cX11_tryBehind 28 = .ok (.iinc 2 1, 3) := by decide +kernel
theorem dX11_tryBehind_31 : decode cX11_tryBehind 31 = .ok (.goto (-29), 3) := by decide +kernel
theorem dX11_tryBehind_34 : decode cX11_tryBehind 34 = .ok (.return_, 1) := by decide +kernel
theorem dX11_isTriedLess_0 : decode cX11_isTriedLess 0 = .ok (.aload_n 0, 1) := by decide +kernel
theorem dX11_isTriedLess_1 : decode cX11_isTriedLess 1 = .ok (.getfield 248, 3) := by decide +kernel
theorem dX11_isTriedLess_4 : decode cX11_isTriedLess 4 = .ok (.aload_n 0, 1) := by decide +kernel
theorem dX11_isTriedLess_5 : decode cX11_isTriedLess 5 = .ok (.getfield 59, 3) := by decide +kernel
theorem dX11_isTriedLess_8 : decode cX11_isTriedLess 8 = .ok (.iload_n 1, 1) := by decide +kernel
theorem dX11_isTriedLess_9 : decode cX11_isTriedLess 9 = .ok (.iaload, 1) := by decide +kernel
theorem dX11_isTriedLess_10 : decode cX11_isTriedLess 10 = .ok (.if_icmp .eq 22, 3) := by decide +kernel
theorem dX11_isTriedLess_13 : decode cX11_isTriedLess 13 = .ok (.aload_n 0, 1) := by decide +kernel
theorem dX11_isTriedLess_14 : decode cX11_isTriedLess 14 = .ok (.getfield 248, 3) := by decide +kernel
theorem dX11_isTriedLess_17 : decode cX11_isTriedLess 17 = .ok (.aload_n 0, 1) := by decide +kernel
theorem dX11_isTriedLess_18 : decode cX11_isTriedLess 18 = .ok (.getfield 59, 3) := by decide +kernel
theorem dX11_isTriedLess_21 : decode cX11_isTriedLess 21 = .ok (.iload_n 1, 1) := by decide +kernel
theorem dX11_isTriedLess_22 : decode cX11_isTriedLess 22 = .ok (.iaload, 1) := by decide +kernel
theorem dX11_isTriedLess_23 : decode cX11_isTriedLess 23 = .ok (.if_icmp .ge 7, 3) := by decide +kernel
theorem dX11_isTriedLess_26 : decode cX11_isTriedLess 26 = .ok (.iconst 1, 1) := by decide +kernel
theorem dX11_isTriedLess_27 : decode cX11_isTriedLess 27 = .ok (.goto 4, 3) := by decide +kernel
theorem dX11_isTriedLess_30 : decode cX11_isTriedLess 30 = .ok (.iconst 0, 1) := by decide +kernel
theorem dX11_isTriedLess_31 : decode cX11_isTriedLess 31 = .ok (.ireturn, 1) := by decide +kernel
theorem dX11_isTriedLess_32 : decode cX11_isTriedLess 32 = .ok (.iconst 0, 1) := by decide +kernel
theorem dX11_isTriedLess_33 : decode cX11_isTriedLess 33 = .ok (.istore_n 2, 1) := by decide +kernel
theorem dX11_isTriedLess_34 : decode cX11_isTriedLess 34 = .ok (.iload_n 2, 1) := by decide +kernel
theorem dX11_isTriedLess_35 : decode cX11_isTriedLess 35 = .ok (.aload_n 0, 1) := by decide +kernel
theorem dX11_isTriedLess_36 : decode cX11_isTriedLess 36 = .ok (.getfield 248, 3) := by decide +kernel
theorem dX11_isTriedLess_39 : decode cX11_isTriedLess 39 = .ok (.if_icmp .ge 57, 3) := by decide +kernel
theorem dX11_isTriedLess_42 : decode cX11_isTriedLess 42 = .ok (.aload_n 0, 1) := by decide +kernel
theorem dX11_isTriedLess_43 : decode cX11_isTriedLess 43 = .ok (.getfield 65, 3) := by decide +kernel
theorem dX11_isTriedLess_46 : decode cX11_isTriedLess 46 = .ok (.iload_n 2, 1) := by decide +kernel
theorem dX11_isTriedLess_47 : decode cX11_isTriedLess 47 = .ok (.iaload, 1) := by decide +kernel
theorem dX11_isTriedLess_48 : decode cX11_isTriedLess 48 = .ok (.aload_n 0, 1) := by decide +kernel
theorem dX11_isTriedLess_49 : decode cX11_isTriedLess 49 = .ok (.getfield 62, 3) := by decide +kernel
theorem dX11_isTriedLess_52 : decode cX11_isTriedLess 52 = .ok (.sipush 200, 3) := by decide +kernel
theorem dX11_isTriedLess_55 : decode cX11_isTriedLess 55 = .ok (.iload_n 1, 1) := by decide +kernel
theorem dX11_isTriedLess_56 : decode cX11_isTriedLess 56 = .ok (.imul, 1) := by decide +kernel
theorem dX11_isTriedLess_57 : decode cX11_isTriedLess 57 = .ok (.iload_n 2, 1) := by decide +kernel
theorem dX11_isTriedLess_58 : decode cX11_isTriedLess 58 = .ok (.iadd, 1) := by decide +kernel
theorem dX11_isTriedLess_59 : decode cX11_isTriedLess 59 = .ok (.iaload, 1) := by decide +kernel
theorem dX11_isTriedLess_60 : decode cX11_isTriedLess 60 = .ok (.if_icmp .eq 30, 3) := by decide +kernel
theorem dX11_isTriedLess_63 : decode cX11_isTriedLess 63 = .ok (.aload_n 0, 1) := by decide +kernel
theorem dX11_isTriedLess_64 : decode cX11_isTriedLess 64 = .ok (.getfield 65, 3) := by decide +kernel
theorem dX11_isTriedLess_67 : decode cX11_isTriedLess 67 = .ok (.iload_n 2, 1) := by decide +kernel
theorem dX11_isTriedLess_68 : decode cX11_isTriedLess 68 = .ok (.iaload, 1) := by decide +kernel
theorem dX11_isTriedLess_69 : decode cX11_isTriedLess 69 = .ok (.aload_n 0, 1) := by decide +kernel
theorem dX11_isTriedLess_70 : decode cX11_isTriedLess 70 = .ok (.getfield 62, 3) := by decide +kernel
theorem dX11_isTriedLess_73 : decode cX11_isTriedLess 73 = .ok (.sipush 200, 3) := by decide +kernel
theorem dX11_isTriedLess_76 : decode cX11_isTriedLess 76 = .ok (.iload_n 1, 1) := by decide +kernel
theorem dX11_isTriedLess_77 : decode cX11_isTriedLess 77 = .ok (.imul, 1) := by decide +kernel
theorem dX11_isTriedLess_78 : decode cX11_isTriedLess 78 = .ok (.iload_n 2, 1) := by decide +kernel
theorem dX11_isTriedLess_79 : decode cX11_isTriedLess 79 = .ok (.iadd, 1) := by decide +kernel
theorem dX11_isTriedLess_80 : decode cX11_isTriedLess 80 = .ok (.iaload, 1) := by decide +kernel
theorem dX11_isTriedLess_81 : decode cX11_isTriedLess 81 = .ok (.if_icmp .ge 7, 3) := by decide +kernel
theorem dX11_isTriedLess_84 : decode cX11_isTriedLess 84 = .ok (.iconst 1, 1) := by decide +kernel
theorem dX11_isTriedLess_85 : decode cX11_isTriedLess 85 = .ok (.goto 4, 3) := by decide +kernel
theorem dX11_isTriedLess_88 : decode cX11_isTriedLess 88 = .ok (.iconst 0, 1) := by decide +kernel
theorem dX11_isTriedLess_89 : decode cX11_isTriedLess 89 = .ok (.ireturn, 1) := by decide +kernel
theorem dX11_isTriedLess_90 : decode cX11_isTriedLess 90 = .ok (.iinc 2 1, 3) := by decide +kernel
theorem dX11_isTriedLess_93 : decode cX11_isTriedLess 93 = .ok (.goto (-59), 3) := by decide +kernel
theorem dX11_isTriedLess_96 : decode cX11_isTriedLess 96 = .ok (.iconst 0, 1) := by decide +kernel
theorem dX11_isTriedLess_97 : decode cX11_isTriedLess 97 = .ok (.ireturn, 1) := by decide +kernel
theorem dX11_takesTried_0 : decode cX11_takesTried 0 = .ok (.aload_n 0, 1) := by decide +kernel
theorem dX11_takesTried_1 : decode cX11_takesTried 1 = .ok (.iload_n 1, 1) := by decide +kernel
theorem dX11_takesTried_2 : decode cX11_takesTried 2 = .ok (.invokevirtual 254, 3) := by decide +kernel
theorem dX11_takesTried_5 : decode cX11_takesTried 5 = .ok (.ifCond .ne 5, 3) := by decide +kernel
theorem dX11_takesTried_8 : decode cX11_takesTried 8 = .ok (.iconst 0, 1) := by decide +kernel
theorem dX11_takesTried_9 : decode cX11_takesTried 9 = .ok (.ireturn, 1) := by decide +kernel
theorem dX11_takesTried_10 : decode cX11_takesTried 10 = .ok (.aload_n 0, 1) := by decide +kernel
theorem dX11_takesTried_11 : decode cX11_takesTried 11 = .ok (.getfield 59, 3) := by decide +kernel
theorem dX11_takesTried_14 : decode cX11_takesTried 14 = .ok (.iload_n 1, 1) := by decide +kernel
theorem dX11_takesTried_15 : decode cX11_takesTried 15 = .ok (.aload_n 0, 1) := by decide +kernel
theorem dX11_takesTried_16 : decode cX11_takesTried 16 = .ok (.getfield 248, 3) := by decide +kernel
theorem dX11_takesTried_19 : decode cX11_takesTried 19 = .ok (.iastore, 1) := by decide +kernel
theorem dX11_takesTried_20 : decode cX11_takesTried 20 = .ok (.iconst 0, 1) := by decide +kernel
theorem dX11_takesTried_21 : decode cX11_takesTried 21 = .ok (.istore_n 2, 1) := by decide +kernel
theorem dX11_takesTried_22 : decode cX11_takesTried 22 = .ok (.iload_n 2, 1) := by decide +kernel
theorem dX11_takesTried_23 : decode cX11_takesTried 23 = .ok (.aload_n 0, 1) := by decide +kernel
theorem dX11_takesTried_24 : decode cX11_takesTried 24 = .ok (.getfield 248, 3) := by decide +kernel
theorem dX11_takesTried_27 : decode cX11_takesTried 27 = .ok (.if_icmp .ge 27, 3) := by decide +kernel
theorem dX11_takesTried_30 : decode cX11_takesTried 30 = .ok (.aload_n 0, 1) := by decide +kernel
theorem dX11_takesTried_31 : decode cX11_takesTried 31 = .ok (.getfield 62, 3) := by decide +kernel
theorem dX11_takesTried_34 : decode cX11_takesTried 34 = .ok (.sipush 200, 3) := by decide +kernel
theorem dX11_takesTried_37 : decode cX11_takesTried 37 = .ok (.iload_n 1, 1) := by decide +kernel
theorem dX11_takesTried_38 : decode cX11_takesTried 38 = .ok (.imul, 1) := by decide +kernel
theorem dX11_takesTried_39 : decode cX11_takesTried 39 = .ok (.iload_n 2, 1) := by decide +kernel
theorem dX11_takesTried_40 : decode cX11_takesTried 40 = .ok (.iadd, 1) := by decide +kernel
theorem dX11_takesTried_41 : decode cX11_takesTried 41 = .ok (.aload_n 0, 1) := by decide +kernel
theorem dX11_takesTried_42 : decode cX11_takesTried 42 = .ok (.getfield 65, 3) := by decide +kernel
theorem dX11_takesTried_45 : decode cX11_takesTried 45 = .ok (.iload_n 2, 1) := by decide +kernel
theorem dX11_takesTried_46 : decode cX11_takesTried 46 = .ok (.iaload, 1) := by decide +kernel
theorem dX11_takesTried_47 : decode cX11_takesTried 47 = .ok (.iastore, 1) := by decide +kernel
theorem dX11_takesTried_48 : decode cX11_takesTried 48 = .ok (.iinc 2 1, 3) := by decide +kernel
theorem dX11_takesTried_51 : decode cX11_takesTried 51 = .ok (.goto (-29), 3) := by decide +kernel
theorem dX11_takesTried_54 : decode cX11_takesTried 54 = .ok (.iconst 1, 1) := by decide +kernel
theorem dX11_takesTried_55 : decode cX11_takesTried 55 = .ok (.ireturn, 1) := by decide +kernel
theorem dX11_goesOnBy_0 : decode cX11_goesOnBy 0 = .ok (.aload_n 0, 1) := by decide +kernel
theorem dX11_goesOnBy_1 : decode cX11_goesOnBy 1 = .ok (.iconst 0, 1) := by decide +kernel
theorem dX11_goesOnBy_2 : decode cX11_goesOnBy 2 = .ok (.putfield 248, 3) := by decide +kernel
theorem dX11_goesOnBy_5 : decode cX11_goesOnBy 5 = .ok (.aload_n 0, 1) := by decide +kernel
theorem dX11_goesOnBy_6 : decode cX11_goesOnBy 6 = .ok (.iload_n 2, 1) := by decide +kernel
theorem dX11_goesOnBy_7 : decode cX11_goesOnBy 7 = .ok (.iload_n 1, 1) := by decide +kernel
theorem dX11_goesOnBy_8 : decode cX11_goesOnBy 8 = .ok (.invokevirtual 233, 3) := by decide +kernel
theorem dX11_goesOnBy_11 : decode cX11_goesOnBy 11 = .ok (.ifCond .eq 56, 3) := by decide +kernel
theorem dX11_goesOnBy_14 : decode cX11_goesOnBy 14 = .ok (.aload_n 0, 1) := by decide +kernel
theorem dX11_goesOnBy_15 : decode cX11_goesOnBy 15 = .ok (.iload_n 1, 1) := by decide +kernel
theorem dX11_goesOnBy_16 : decode cX11_goesOnBy 16 = .ok (.aload_n 0, 1) := by decide +kernel
theorem dX11_goesOnBy_17 : decode cX11_goesOnBy 17 = .ok (.iload_n 2, 1) := by decide +kernel
theorem dX11_goesOnBy_18 : decode cX11_goesOnBy 18 = .ok (.invokevirtual 137, 3) := by decide +kernel
theorem dX11_goesOnBy_21 : decode cX11_goesOnBy 21 = .ok (.iadd, 1) := by decide +kernel
theorem dX11_goesOnBy_22 : decode cX11_goesOnBy 22 = .ok (.invokevirtual 219, 3) := by decide +kernel
theorem dX11_goesOnBy_25 : decode cX11_goesOnBy 25 = .ok (.istore_n 3, 1) := by decide +kernel
theorem dX11_goesOnBy_26 : decode cX11_goesOnBy 26 = .ok (.aload_n 0, 1) := by decide +kernel
theorem dX11_goesOnBy_27 : decode cX11_goesOnBy 27 = .ok (.iload_n 3, 1) := by decide +kernel
theorem dX11_goesOnBy_28 : decode cX11_goesOnBy 28 = .ok (.invokevirtual 207, 3) := by decide +kernel
theorem dX11_goesOnBy_31 : decode cX11_goesOnBy 31 = .ok (.ifCond .le 17, 3) := by decide +kernel
theorem dX11_goesOnBy_34 : decode cX11_goesOnBy 34 = .ok (.aload_n 0, 1) := by decide +kernel
theorem dX11_goesOnBy_35 : decode cX11_goesOnBy 35 = .ok (.getfield 59, 3) := by decide +kernel
theorem dX11_goesOnBy_38 : decode cX11_goesOnBy 38 = .ok (.iload_n 3, 1) := by decide +kernel
theorem dX11_goesOnBy_39 : decode cX11_goesOnBy 39 = .ok (.iaload, 1) := by decide +kernel
theorem dX11_goesOnBy_40 : decode cX11_goesOnBy 40 = .ok (.sipush 1000, 3) := by decide +kernel
theorem dX11_goesOnBy_43 : decode cX11_goesOnBy 43 = .ok (.if_icmp .ne 5, 3) := by decide +kernel
theorem dX11_goesOnBy_46 : decode cX11_goesOnBy 46 = .ok (.iconst 0, 1) := by decide +kernel
theorem dX11_goesOnBy_47 : decode cX11_goesOnBy 47 = .ok (.ireturn, 1) := by decide +kernel
theorem dX11_goesOnBy_48 : decode cX11_goesOnBy 48 = .ok (.aload_n 0, 1) := by decide +kernel
theorem dX11_goesOnBy_49 : decode cX11_goesOnBy 49 = .ok (.iload_n 3, 1) := by decide +kernel
theorem dX11_goesOnBy_50 : decode cX11_goesOnBy 50 = .ok (.invokevirtual 207, 3) := by decide +kernel
theorem dX11_goesOnBy_53 : decode cX11_goesOnBy 53 = .ok (.ifCond .le 8, 3) := by decide +kernel
theorem dX11_goesOnBy_56 : decode cX11_goesOnBy 56 = .ok (.aload_n 0, 1) := by decide +kernel
theorem dX11_goesOnBy_57 : decode cX11_goesOnBy 57 = .ok (.iload_n 3, 1) := by decide +kernel
theorem dX11_goesOnBy_58 : decode cX11_goesOnBy 58 = .ok (.invokevirtual 257, 3) := by decide +kernel
theorem dX11_goesOnBy_61 : decode cX11_goesOnBy 61 = .ok (.aload_n 0, 1) := by decide +kernel
theorem dX11_goesOnBy_62 : decode cX11_goesOnBy 62 = .ok (.iload_n 1, 1) := by decide +kernel
theorem dX11_goesOnBy_63 : decode cX11_goesOnBy 63 = .ok (.invokevirtual 260, 3) := by decide +kernel
theorem dX11_goesOnBy_66 : decode cX11_goesOnBy 66 = .ok (.ireturn, 1) := by decide +kernel
theorem dX11_goesOnBy_67 : decode cX11_goesOnBy 67 = .ok (.aload_n 0, 1) := by decide +kernel
theorem dX11_goesOnBy_68 : decode cX11_goesOnBy 68 = .ok (.iload_n 1, 1) := by decide +kernel
theorem dX11_goesOnBy_69 : decode cX11_goesOnBy 69 = .ok (.iload_n 2, 1) := by decide +kernel
theorem dX11_goesOnBy_70 : decode cX11_goesOnBy 70 = .ok (.invokevirtual 226, 3) := by decide +kernel
theorem dX11_goesOnBy_73 : decode cX11_goesOnBy 73 = .ok (.ifCond .eq 76, 3) := by decide +kernel
theorem dX11_goesOnBy_76 : decode cX11_goesOnBy 76 = .ok (.aload_n 0, 1) := by decide +kernel
theorem dX11_goesOnBy_77 : decode cX11_goesOnBy 77 = .ok (.iconst 5, 1) := by decide +kernel
theorem dX11_goesOnBy_78 : decode cX11_goesOnBy 78 = .ok (.iload_n 2, 1) := by decide +kernel
theorem dX11_goesOnBy_79 : decode cX11_goesOnBy 79 = .ok (.imul, 1) := by decide +kernel
theorem dX11_goesOnBy_80 : decode cX11_goesOnBy 80 = .ok (.aload_n 0, 1) := by decide +kernel
theorem dX11_goesOnBy_81 : decode cX11_goesOnBy 81 = .ok (.iload_n 1, 1) := by decide +kernel
theorem dX11_goesOnBy_82 : decode cX11_goesOnBy 82 = .ok (.invokevirtual 207, 3) := by decide +kernel
theorem dX11_goesOnBy_85 : decode cX11_goesOnBy 85 = .ok (.iadd, 1) := by decide +kernel
theorem dX11_goesOnBy_86 : decode cX11_goesOnBy 86 = .ok (.invokevirtual 219, 3) := by decide +kernel
theorem dX11_goesOnBy_89 : decode cX11_goesOnBy 89 = .ok (.istore_n 3, 1) := by decide +kernel
theorem dX11_goesOnBy_90 : decode cX11_goesOnBy 90 = .ok (.aload_n 0, 1) := by decide +kernel
theorem dX11_goesOnBy_91 : decode cX11_goesOnBy 91 = .ok (.getfield 59, 3) := by decide +kernel
theorem dX11_goesOnBy_94 : decode cX11_goesOnBy 94 = .ok (.iload_n 3, 1) := by decide +kernel
theorem dX11_goesOnBy_95 : decode cX11_goesOnBy 95 = .ok (.iaload, 1) := by decide +kernel
theorem dX11_goesOnBy_96 : decode cX11_goesOnBy 96 = .ok (.sipush 1000, 3) := by decide +kernel
theorem dX11_goesOnBy_99 : decode cX11_goesOnBy 99 = .ok (.if_icmp .ne 5, 3) := by decide +kernel
theorem dX11_goesOnBy_102 : decode cX11_goesOnBy 102 = .ok (.iconst 0, 1) := by decide +kernel
theorem dX11_goesOnBy_103 : decode cX11_goesOnBy 103 = .ok (.ireturn, 1) := by decide +kernel
theorem dX11_goesOnBy_104 : decode cX11_goesOnBy 104 = .ok (.aload_n 0, 1) := by decide +kernel
theorem dX11_goesOnBy_105 : decode cX11_goesOnBy 105 = .ok (.iload_n 1, 1) := by decide +kernel
theorem dX11_goesOnBy_106 : decode cX11_goesOnBy 106 = .ok (.invokevirtual 207, 3) := by decide +kernel
theorem dX11_goesOnBy_109 : decode cX11_goesOnBy 109 = .ok (.istore 4, 2) := by decide +kernel
theorem dX11_goesOnBy_111 : decode cX11_goesOnBy 111 = .ok (.iload 4, 2) := by decide +kernel
theorem dX11_goesOnBy_113 : decode cX11_goesOnBy 113 = .ok (.aload_n 0, 1) := by decide +kernel
theorem dX11_goesOnBy_114 : decode cX11_goesOnBy 114 = .ok (.iload_n 2, 1) := by decide +kernel
theorem dX11_goesOnBy_115 : decode cX11_goesOnBy 115 = .ok (.invokevirtual 137, 3) := by decide +kernel
theorem dX11_goesOnBy_118 : decode cX11_goesOnBy 118 = .ok (.if_icmp .ge 20, 3) := by decide +kernel
theorem dX11_goesOnBy_121 : decode cX11_goesOnBy 121 = .ok (.aload_n 0, 1) := by decide +kernel
theorem dX11_goesOnBy_122 : decode cX11_goesOnBy 122 = .ok (.aload_n 0, 1) := by decide +kernel
theorem dX11_goesOnBy_123 : decode cX11_goesOnBy 123 = .ok (.iload_n 2, 1) := by decide +kernel
theorem dX11_goesOnBy_124 : decode cX11_goesOnBy 124 = .ok (.iload 4, 2) := by decide +kernel
theorem dX11_goesOnBy_126 : decode cX11_goesOnBy 126 = .ok (.invokevirtual 140, 3) := by decide +kernel
theorem dX11_goesOnBy_129 : decode cX11_goesOnBy 129 = .ok (.invokevirtual 251, 3) := by decide +kernel
theorem dX11_goesOnBy_132 : decode cX11_goesOnBy 132 = .ok (.iinc 4 1, 3) := by decide +kernel
theorem dX11_goesOnBy_135 : decode cX11_goesOnBy 135 = .ok (.goto (-24), 3) := by decide +kernel
theorem dX11_goesOnBy_138 : decode cX11_goesOnBy 138 = .ok (.aload_n 0, 1) := by decide +kernel
theorem dX11_goesOnBy_139 : decode cX11_goesOnBy 139 = .ok (.iload_n 3, 1) := by decide +kernel
theorem dX11_goesOnBy_140 : decode cX11_goesOnBy 140 = .ok (.invokevirtual 257, 3) := by decide +kernel
theorem dX11_goesOnBy_143 : decode cX11_goesOnBy 143 = .ok (.aload_n 0, 1) := by decide +kernel
theorem dX11_goesOnBy_144 : decode cX11_goesOnBy 144 = .ok (.iload_n 1, 1) := by decide +kernel
theorem dX11_goesOnBy_145 : decode cX11_goesOnBy 145 = .ok (.invokevirtual 260, 3) := by decide +kernel
theorem dX11_goesOnBy_148 : decode cX11_goesOnBy 148 = .ok (.ireturn, 1) := by decide +kernel
theorem dX11_goesOnBy_149 : decode cX11_goesOnBy 149 = .ok (.iconst 0, 1) := by decide +kernel
theorem dX11_goesOnBy_150 : decode cX11_goesOnBy 150 = .ok (.ireturn, 1) := by decide +kernel
theorem dX11_goesOn_0 : decode cX11_goesOn 0 = .ok (.iconst 0, 1) := by decide +kernel
theorem dX11_goesOn_1 : decode cX11_goesOn 1 = .ok (.istore_n 2, 1) := by decide +kernel
theorem dX11_goesOn_2 : decode cX11_goesOn 2 = .ok (.iconst 0, 1) := by decide +kernel
theorem dX11_goesOn_3 : decode cX11_goesOn 3 = .ok (.istore_n 3, 1) := by decide +kernel
theorem dX11_goesOn_4 : decode cX11_goesOn 4 = .ok (.iload_n 3, 1) := by decide +kernel
theorem dX11_goesOn_5 : decode cX11_goesOn 5 = .ok (.aload_n 0, 1) := by decide +kernel
theorem dX11_goesOn_6 : decode cX11_goesOn 6 = .ok (.getfield 109, 3) := by decide +kernel
theorem dX11_goesOn_9 : decode cX11_goesOn 9 = .ok (.if_icmp .ge 28, 3) := by decide +kernel
theorem dX11_goesOn_12 : decode cX11_goesOn 12 = .ok (.aload_n 0, 1) := by decide +kernel
theorem dX11_goesOn_13 : decode cX11_goesOn 13 = .ok (.iload_n 1, 1) := by decide +kernel
theorem dX11_goesOn_14 : decode cX11_goesOn 14 = .ok (.iload_n 3, 1) := by decide +kernel
theorem dX11_goesOn_15 : decode cX11_goesOn 15 = .ok (.invokevirtual 263, 3) := by decide +kernel
theorem dX11_goesOn_18 : decode cX11_goesOn 18 = .ok (.ifCond .ne 7, 3) := by decide +kernel
theorem dX11_goesOn_21 : decode cX11_goesOn 21 = .ok (.iload_n 2, 1) := by decide +kernel
theorem dX11_goesOn_22 : decode cX11_goesOn 22 = .ok (.ifCond .eq 7, 3) := by decide +kernel
theorem dX11_goesOn_25 : decode cX11_goesOn 25 = .ok (.iconst 1, 1) := by decide +kernel
theorem dX11_goesOn_26 : decode cX11_goesOn 26 = .ok (.goto 4, 3) := by decide +kernel
theorem dX11_goesOn_29 : decode cX11_goesOn 29 = .ok (.iconst 0, 1) := by decide +kernel
theorem dX11_goesOn_30 : decode cX11_goesOn 30 = .ok (.istore_n 2, 1) := by decide +kernel
theorem dX11_goesOn_31 : decode cX11_goesOn 31 = .ok (.iinc 3 1, 3) := by decide +kernel
theorem dX11_goesOn_34 : decode cX11_goesOn 34 = .ok (.goto (-30), 3) := by decide +kernel
theorem dX11_goesOn_37 : decode cX11_goesOn 37 = .ok (.iload_n 2, 1) := by decide +kernel
theorem dX11_goesOn_38 : decode cX11_goesOn 38 = .ok (.ireturn, 1) := by decide +kernel
theorem dX11_layBehind_0 : decode cX11_layBehind 0 = .ok (.iconst 0, 1) := by decide +kernel
theorem dX11_layBehind_1 : decode cX11_layBehind 1 = .ok (.istore_n 1, 1) := by decide +kernel
theorem dX11_layBehind_2 : decode cX11_layBehind 2 = .ok (.iload_n 1, 1) := by decide +kernel
theorem dX11_layBehind_3 : decode cX11_layBehind 3 = .ok (.bipush 40, 2) := by decide +kernel
theorem dX11_layBehind_5 : decode cX11_layBehind 5 = .ok (.if_icmp .ge 18, 3) := by decide +kernel
theorem dX11_layBehind_8 : decode cX11_layBehind 8 = .ok (.aload_n 0, 1) := by decide +kernel
theorem dX11_layBehind_9 : decode cX11_layBehind 9 = .ok (.getfield 59, 3) := by decide +kernel
theorem dX11_layBehind_12 : decode cX11_layBehind 12 = .ok (.iload_n 1, 1) := by decide +kernel
theorem dX11_layBehind_13 : decode cX11_layBehind 13 = .ok (.sipush 1000, 3) := by decide +kernel
theorem dX11_layBehind_16 : decode cX11_layBehind 16 = .ok (.iastore, 1) := by decide +kernel
theorem dX11_layBehind_17 : decode cX11_layBehind 17 = .ok (.iinc 1 1, 3) := by decide +kernel
theorem dX11_layBehind_20 : decode cX11_layBehind 20 = .ok (.goto (-18), 3) := by decide +kernel
theorem dX11_layBehind_23 : decode cX11_layBehind 23 = .ok (.iconst 1, 1) := by decide +kernel
theorem dX11_layBehind_24 : decode cX11_layBehind 24 = .ok (.istore_n 1, 1) := by decide +kernel
theorem dX11_layBehind_25 : decode cX11_layBehind 25 = .ok (.iload_n 1, 1) := by decide +kernel
theorem dX11_layBehind_26 : decode cX11_layBehind 26 = .ok (.ifCond .eq 75, 3) := by decide +kernel
theorem dX11_layBehind_29 : decode cX11_layBehind 29 = .ok (.iconst 0, 1) := by decide +kernel
theorem dX11_layBehind_30 : decode cX11_layBehind 30 = .ok (.istore_n 1, 1) := by decide +kernel
theorem dX11_layBehind_31 : decode cX11_layBehind 31 = .ok (.iconst 0, 1) := by decide +kernel
theorem dX11_layBehind_32 : decode cX11_layBehind 32 = .ok (.istore_n 2, 1) := by decide +kernel
theorem dX11_layBehind_33 : decode cX11_layBehind 33 = .ok (.iload_n 2, 1) := by decide +kernel
theorem dX11_layBehind_34 : decode cX11_layBehind 34 = .ok (.bipush 40, 2) := by decide +kernel
theorem dX11_layBehind_36 : decode cX11_layBehind 36 = .ok (.if_icmp .ge 62, 3) := by decide +kernel
theorem dX11_layBehind_39 : decode cX11_layBehind 39 = .ok (.aload_n 0, 1) := by decide +kernel
theorem dX11_layBehind_40 : decode cX11_layBehind 40 = .ok (.iload_n 2, 1) := by decide +kernel
theorem dX11_layBehind_41 : decode cX11_layBehind 41 = .ok (.invokevirtual 213, 3) := by decide +kernel
theorem dX11_layBehind_44 : decode cX11_layBehind 44 = .ok (.ifCond .eq 24, 3) := by decide +kernel
theorem dX11_layBehind_47 : decode cX11_layBehind 47 = .ok (.aload_n 0, 1) := by decide +kernel
theorem dX11_layBehind_48 : decode cX11_layBehind 48 = .ok (.iload_n 2, 1) := by decide +kernel
theorem dX11_layBehind_49 : decode cX11_layBehind 49 = .ok (.invokevirtual 207, 3) := by decide +kernel
theorem dX11_layBehind_52 : decode cX11_layBehind 52 = .ok (.ifCond .le 16, 3) := by decide +kernel
theorem dX11_layBehind_55 : decode cX11_layBehind 55 = .ok (.aload_n 0, 1) := by decide +kernel
theorem dX11_layBehind_56 : decode cX11_layBehind 56 = .ok (.iload_n 2, 1) := by decide +kernel
theorem dX11_layBehind_57 : decode cX11_layBehind 57 = .ok (.invokevirtual 219, 3) := by decide +kernel
theorem dX11_layBehind_60 : decode cX11_layBehind 60 = .ok (.iload_n 2, 1) := by decide +kernel
theorem dX11_layBehind_61 : decode cX11_layBehind 61 = .ok (.if_icmp .ne 7, 3) := by decide +kernel
theorem dX11_layBehind_64 : decode cX11_layBehind 64 = .ok (.iconst 1, 1) := by decide +kernel
theorem dX11_layBehind_65 : decode cX11_layBehind 65 = .ok (.goto 4, 3) := by decide +kernel
theorem dX11_layBehind_68 : decode cX11_layBehind 68 = .ok (.iconst 0, 1) := by decide +kernel
theorem dX11_layBehind_69 : decode cX11_layBehind 69 = .ok (.istore_n 3, 1) := by decide +kernel
theorem dX11_layBehind_70 : decode cX11_layBehind 70 = .ok (.iload_n 3, 1) := by decide +kernel
theorem dX11_layBehind_71 : decode cX11_layBehind 71 = .ok (.ifCond .eq 11, 3) := by decide +kernel
theorem dX11_layBehind_74 : decode cX11_layBehind 74 = .ok (.aload_n 0, 1) := by decide +kernel
theorem dX11_layBehind_75 : decode cX11_layBehind 75 = .ok (.iload_n 2, 1) := by decide +kernel
theorem dX11_layBehind_76 : decode cX11_layBehind 76 = .ok (.invokevirtual 266, 3) := by decide +kernel
theorem dX11_layBehind_79 : decode cX11_layBehind 79 = .ok (.ifCond .ne 7, 3) := by decide +kernel
theorem dX11_layBehind_82 : decode cX11_layBehind 82 = .ok (.iload_n 1, 1) := by decide +kernel
theorem dX11_layBehind_83 : decode cX11_layBehind 83 = .ok (.ifCond .eq 7, 3) := by decide +kernel
theorem dX11_layBehind_86 : decode cX11_layBehind 86 = .ok (.iconst 1, 1) := by decide +kernel
theorem dX11_layBehind_87 : decode cX11_layBehind 87 = .ok (.goto 4, 3) := by decide +kernel
theorem dX11_layBehind_90 : decode cX11_layBehind 90 = .ok (.iconst 0, 1) := by decide +kernel
theorem dX11_layBehind_91 : decode cX11_layBehind 91 = .ok (.istore_n 1, 1) := by decide +kernel
theorem dX11_layBehind_92 : decode cX11_layBehind 92 = .ok (.iinc 2 1, 3) := by decide +kernel
theorem dX11_layBehind_95 : decode cX11_layBehind 95 = .ok (.goto (-62), 3) := by decide +kernel
theorem dX11_layBehind_98 : decode cX11_layBehind 98 = .ok (.goto (-73), 3) := by decide +kernel
theorem dX11_layBehind_101 : decode cX11_layBehind 101 = .ok (.return_, 1) := by decide +kernel
theorem dX11_isClashLess_0 : decode cX11_isClashLess 0 = .ok (.aload_n 0, 1) := by decide +kernel
theorem dX11_isClashLess_1 : decode cX11_isClashLess 1 = .ok (.getfield 269, 3) := by decide +kernel
theorem dX11_isClashLess_4 : decode cX11_isClashLess 4 = .ok (.iconst (-1), 1) := by decide +kernel
theorem dX11_isClashLess_5 : decode cX11_isClashLess 5 = .ok (.if_icmp .eq 14, 3) := by decide +kernel
theorem dX11_isClashLess_8 : decode cX11_isClashLess 8 = .ok (.aload_n 0, 1) := by decide +kernel
theorem dX11_isClashLess_9 : decode cX11_isClashLess 9 = .ok (.getfield 248, 3) := by decide +kernel
theorem dX11_isClashLess_12 : decode cX11_isClashLess 12 = .ok (.aload_n 0, 1) := by decide +kernel
theorem dX11_isClashLess_13 : decode cX11_isClashLess 13 = .ok (.getfield 269, 3) := by decide +kernel
theorem dX11_isClashLess_16 : decode cX11_isClashLess 16 = .ok (.if_icmp .eq 28, 3) := by decide +kernel
theorem dX11_isClashLess_19 : decode cX11_isClashLess 19 = .ok (.aload_n 0, 1) := by decide +kernel
theorem dX11_isClashLess_20 : decode cX11_isClashLess 20 = .ok (.getfield 269, 3) := by decide +kernel
theorem dX11_isClashLess_23 : decode cX11_isClashLess 23 = .ok (.iconst (-1), 1) := by decide +kernel
theorem dX11_isClashLess_24 : decode cX11_isClashLess 24 = .ok (.if_icmp .eq 14, 3) := by decide +kernel
theorem dX11_isClashLess_27 : decode cX11_isClashLess 27 = .ok (.aload_n 0, 1) := by decide +kernel
theorem dX11_isClashLess_28 : decode cX11_isClashLess 28 = .ok (.getfield 248, 3) := by decide +kernel
theorem dX11_isClashLess_31 : decode cX11_isClashLess 31 = .ok (.aload_n 0, 1) := by decide +kernel
theorem dX11_isClashLess_32 : decode cX11_isClashLess 32 = .ok (.getfield 269, 3) := by decide +kernel
theorem dX11_isClashLess_35 : decode cX11_isClashLess 35 = .ok (.if_icmp .ge 7, 3) := by decide +kernel
theorem dX11_isClashLess_38 : decode cX11_isClashLess 38 = .ok (.iconst 1, 1) := by decide +kernel
theorem dX11_isClashLess_39 : decode cX11_isClashLess 39 = .ok (.goto 4, 3) := by decide +kernel
theorem dX11_isClashLess_42 : decode cX11_isClashLess 42 = .ok (.iconst 0, 1) := by decide +kernel
theorem dX11_isClashLess_43 : decode cX11_isClashLess 43 = .ok (.ireturn, 1) := by decide +kernel
theorem dX11_isClashLess_44 : decode cX11_isClashLess 44 = .ok (.iconst 0, 1) := by decide +kernel
theorem dX11_isClashLess_45 : decode cX11_isClashLess 45 = .ok (.istore_n 1, 1) := by decide +kernel
theorem dX11_isClashLess_46 : decode cX11_isClashLess 46 = .ok (.iload_n 1, 1) := by decide +kernel
theorem dX11_isClashLess_47 : decode cX11_isClashLess 47 = .ok (.aload_n 0, 1) := by decide +kernel
theorem dX11_isClashLess_48 : decode cX11_isClashLess 48 = .ok (.getfield 248, 3) := by decide +kernel
theorem dX11_isClashLess_51 : decode cX11_isClashLess 51 = .ok (.if_icmp .ge 45, 3) := by decide +kernel
theorem dX11_isClashLess_54 : decode cX11_isClashLess 54 = .ok (.aload_n 0, 1) := by decide +kernel
theorem dX11_isClashLess_55 : decode cX11_isClashLess 55 = .ok (.getfield 65, 3) := by decide +kernel
theorem dX11_isClashLess_58 : decode cX11_isClashLess 58 = .ok (.iload_n 1, 1) := by decide +kernel
theorem dX11_isClashLess_59 : decode cX11_isClashLess 59 = .ok (.iaload, 1) := by decide +kernel
theorem dX11_isClashLess_60 : decode cX11_isClashLess 60 = .ok (.aload_n 0, 1) := by decide +kernel
theorem dX11_isClashLess_61 : decode cX11_isClashLess 61 = .ok (.getfield 68, 3) := by decide +kernel
theorem dX11_isClashLess_64 : decode cX11_isClashLess 64 = .ok (.iload_n 1, 1) := by decide +kernel
theorem dX11_isClashLess_65 : decode cX11_isClashLess 65 = .ok (.iaload, 1) := by decide +kernel
theorem dX11_isClashLess_66 : decode cX11_isClashLess 66 = .ok (.if_icmp .eq 24, 3) := by decide +kernel
theorem dX11_isClashLess_69 : decode cX11_isClashLess 69 = .ok (.aload_n 0, 1) := by decide +kernel
theorem dX11_isClashLess_70 : decode cX11_isClashLess 70 = .ok (.getfield 65, 3) := by decide +kernel
theorem dX11_isClashLess_73 : decode cX11_isClashLess 73 = .ok (.iload_n 1, 1) := by decide +kernel
theorem dX11_isClashLess_74 : decode cX11_isClashLess 74 = .ok (.iaload, 1) := by decide +kernel
theorem dX11_isClashLess_75 : decode cX11_isClashLess 75 = .ok (.aload_n 0, 1) := by decide +kernel
theorem dX11_isClashLess_76 : decode cX11_isClashLess 76 = .ok (.getfield 68, 3) := by decide +kernel
theorem dX11_isClashLess_79 : decode cX11_isClashLess 79 = .ok (.iload_n 1, 1) := by decide +kernel
theorem dX11_isClashLess_80 : decode cX11_isClashLess 80 = .ok (.iaload, 1) := by decide +kernel
theorem dX11_isClashLess_81 : decode cX11_isClashLess 81 = .ok (.if_icmp .ge 7, 3) := by decide +kernel
theorem dX11_isClashLess_84 : decode cX11_isClashLess 84 = .ok (.iconst 1, 1) := by decide +kernel
theorem dX11_isClashLess_85 : decode cX11_isClashLess 85 = .ok (.goto 4, 3) := by decide +kernel
theorem dX11_isClashLess_88 : decode cX11_isClashLess 88 = .ok (.iconst 0, 1) := by decide +kernel
theorem dX11_isClashLess_89 : decode cX11_isClashLess 89 = .ok (.ireturn, 1) := by decide +kernel
theorem dX11_isClashLess_90 : decode cX11_isClashLess 90 = .ok (.iinc 1 1, 3) := by decide +kernel
theorem dX11_isClashLess_93 : decode cX11_isClashLess 93 = .ok (.goto (-47), 3) := by decide +kernel
theorem dX11_isClashLess_96 : decode cX11_isClashLess 96 = .ok (.iconst 0, 1) := by decide +kernel
theorem dX11_isClashLess_97 : decode cX11_isClashLess 97 = .ok (.ireturn, 1) := by decide +kernel
theorem dX11_clashOf_0 : decode cX11_clashOf 0 = .ok (.aload_n 0, 1) := by decide +kernel
theorem dX11_clashOf_1 : decode cX11_clashOf 1 = .ok (.iconst 5, 1) := by decide +kernel
theorem dX11_clashOf_2 : decode cX11_clashOf 2 = .ok (.iload_n 2, 1) := by decide +kernel
theorem dX11_clashOf_3 : decode cX11_clashOf 3 = .ok (.imul, 1) := by decide +kernel
theorem dX11_clashOf_4 : decode cX11_clashOf 4 = .ok (.aload_n 0, 1) := by decide +kernel
theorem dX11_clashOf_5 : decode cX11_clashOf 5 = .ok (.iload_n 1, 1) := by decide +kernel
theorem dX11_clashOf_6 : decode cX11_clashOf 6 = .ok (.invokevirtual 137, 3) := by decide +kernel
theorem dX11_clashOf_9 : decode cX11_clashOf 9 = .ok (.iadd, 1) := by decide +kernel
theorem dX11_clashOf_10 : decode cX11_clashOf 10 = .ok (.invokevirtual 219, 3) := by decide +kernel
theorem dX11_clashOf_13 : decode cX11_clashOf 13 = .ok (.istore_n 3, 1) := by decide +kernel
theorem dX11_clashOf_14 : decode cX11_clashOf 14 = .ok (.aload_n 0, 1) := by decide +kernel
theorem dX11_clashOf_15 : decode cX11_clashOf 15 = .ok (.iload_n 3, 1) := by decide +kernel
theorem dX11_clashOf_16 : decode cX11_clashOf 16 = .ok (.invokevirtual 207, 3) := by decide +kernel
theorem dX11_clashOf_19 : decode cX11_clashOf 19 = .ok (.ifCond .le 16, 3) := by decide +kernel
theorem dX11_clashOf_22 : decode cX11_clashOf 22 = .ok (.aload_n 0, 1) := by decide +kernel
theorem dX11_clashOf_23 : decode cX11_clashOf 23 = .ok (.getfield 59, 3) := by decide +kernel
theorem dX11_clashOf_26 : decode cX11_clashOf 26 = .ok (.iload_n 3, 1) := by decide +kernel
theorem dX11_clashOf_27 : decode cX11_clashOf 27 = .ok (.iaload, 1) := by decide +kernel
theorem dX11_clashOf_28 : decode cX11_clashOf 28 = .ok (.sipush 1000, 3) := by decide +kernel
theorem dX11_clashOf_31 : decode cX11_clashOf 31 = .ok (.if_icmp .ne 4, 3) := by decide +kernel
theorem dX11_clashOf_34 : decode cX11_clashOf 34 = .ok (.return_, 1) := by decide +kernel
theorem dX11_clashOf_35 : decode cX11_clashOf 35 = .ok (.aload_n 0, 1) := by decide +kernel
theorem dX11_clashOf_36 : decode cX11_clashOf 36 = .ok (.iconst 0, 1) := by decide +kernel
theorem dX11_clashOf_37 : decode cX11_clashOf 37 = .ok (.putfield 248, 3) := by decide +kernel
theorem dX11_clashOf_40 : decode cX11_clashOf 40 = .ok (.iconst 0, 1) := by decide +kernel
theorem dX11_clashOf_41 : decode cX11_clashOf 41 = .ok (.istore 4, 2) := by decide +kernel
theorem dX11_clashOf_43 : decode cX11_clashOf 43 = .ok (.iload 4, 2) := by decide +kernel
theorem dX11_clashOf_45 : decode cX11_clashOf 45 = .ok (.aload_n 0, 1) := by decide +kernel
theorem dX11_clashOf_46 : decode cX11_clashOf 46 = .ok (.iload_n 2, 1) := by decide +kernel
theorem dX11_clashOf_47 : decode cX11_clashOf 47 = .ok (.invokevirtual 137, 3) := by decide +kernel
theorem dX11_clashOf_50 : decode cX11_clashOf 50 = .ok (.if_icmp .ge 20, 3) := by decide +kernel
theorem dX11_clashOf_53 : decode cX11_clashOf 53 = .ok (.aload_n 0, 1) := by decide +kernel
theorem dX11_clashOf_54 : decode cX11_clashOf 54 = .ok (.aload_n 0, 1) := by decide +kernel
theorem dX11_clashOf_55 : decode cX11_clashOf 55 = .ok (.iload_n 2, 1) := by decide +kernel
theorem dX11_clashOf_56 : decode cX11_clashOf 56 = .ok (.iload 4, 2) := by decide +kernel
theorem dX11_clashOf_58 : decode cX11_clashOf 58 = .ok (.invokevirtual 140, 3) := by decide +kernel
theorem dX11_clashOf_61 : decode cX11_clashOf 61 = .ok (.invokevirtual 251, 3) := by decide +kernel
theorem dX11_clashOf_64 : decode cX11_clashOf 64 = .ok (.iinc 4 1, 3) := by decide +kernel
theorem dX11_clashOf_67 : decode cX11_clashOf 67 = .ok (.goto (-24), 3) := by decide +kernel
theorem dX11_clashOf_70 : decode cX11_clashOf 70 = .ok (.aload_n 0, 1) := by decide +kernel
theorem dX11_clashOf_71 : decode cX11_clashOf 71 = .ok (.iload_n 3, 1) := by decide +kernel
theorem dX11_clashOf_72 : decode cX11_clashOf 72 = .ok (.invokevirtual 207, 3) := by decide +kernel
theorem dX11_clashOf_75 : decode cX11_clashOf 75 = .ok (.ifCond .le 8, 3) := by decide +kernel
theorem dX11_clashOf_78 : decode cX11_clashOf 78 = .ok (.aload_n 0, 1) := by decide +kernel
theorem dX11_clashOf_79 : decode cX11_clashOf 79 = .ok (.iload_n 3, 1) := by decide +kernel
theorem dX11_clashOf_80 : decode cX11_clashOf 80 = .ok (.invokevirtual 257, 3) := by decide +kernel
theorem dX11_clashOf_83 : decode cX11_clashOf 83 = .ok (.aload_n 0, 1) := by decide +kernel
theorem dX11_clashOf_84 : decode cX11_clashOf 84 = .ok (.invokevirtual 272, 3) := by decide +kernel
theorem dX11_clashOf_87 : decode cX11_clashOf 87 = .ok (.ifCond .eq 43, 3) := by decide +kernel
theorem dX11_clashOf_90 : decode cX11_clashOf 90 = .ok (.aload_n 0, 1) := by decide +kernel
theorem dX11_clashOf_91 : decode cX11_clashOf 91 = .ok (.aload_n 0, 1) := by decide +kernel
theorem dX11_clashOf_92 : decode cX11_clashOf 92 = .ok (.getfield 248, 3) := by decide +kernel
theorem dX11_clashOf_95 : decode cX11_clashOf 95 = .ok (.putfield 269, 3) := by decide +kernel
theorem dX11_clashOf_98 : decode cX11_clashOf 98 = .ok (.iconst 0, 1) := by decide +kernel
theorem dX11_clashOf_99 : decode cX11_clashOf 99 = .ok (.istore 4, 2) := by decide +kernel
theorem dX11_clashOf_101 : decode cX11_clashOf 101 = .ok (.iload 4, 2) := by decide +kernel
theorem dX11_clashOf_103 : decode cX11_clashOf 103 = .ok (.aload_n 0, 1) := by decide +kernel
theorem dX11_clashOf_104 : decode cX11_clashOf 104 = .ok (.getfield 248, 3) := by decide +kernel
theorem dX11_clashOf_107 : decode cX11_clashOf 107 = .ok (.if_icmp .ge 23, 3) := by decide +kernel
theorem dX11_clashOf_110 : decode cX11_clashOf 110 = .ok (.aload_n 0, 1) := by decide +kernel
theorem dX11_clashOf_111 : decode cX11_clashOf 111 = .ok (.getfield 68, 3) := by decide +kernel
theorem dX11_clashOf_114 : decode cX11_clashOf 114 = .ok (.iload 4, 2) := by decide +kernel
theorem dX11_clashOf_116 : decode cX11_clashOf 116 = .ok (.aload_n 0, 1) := by decide +kernel
theorem dX11_clashOf_117 : decode cX11_clashOf 117 = .ok (.getfield 65, 3) := by decide +kernel
theorem dX11_clashOf_120 : decode cX11_clashOf 120 = .ok (.iload 4, 2) := by decide +kernel
theorem dX11_clashOf_122 : decode cX11_clashOf 122 = .ok (.iaload, 1) := by decide +kernel
theorem dX11_clashOf_123 : decode cX11_clashOf 123 = .ok (.iastore, 1) := by decide +kernel
theorem dX11_clashOf_124 : decode cX11_clashOf 124 = .ok (.iinc 4 1, 3) := by decide +kernel
theorem dX11_clashOf_127 : decode cX11_clashOf 127 = .ok (.goto (-26), 3) := by decide +kernel
theorem dX11_clashOf_130 : decode cX11_clashOf 130 = .ok (.return_, 1) := by decide +kernel
theorem dX11_layClash_0 : decode cX11_layClash 0 = .ok (.aload_n 0, 1) := by decide +kernel
theorem dX11_layClash_1 : decode cX11_layClash 1 = .ok (.invokevirtual 275, 3) := by decide +kernel
theorem dX11_layClash_4 : decode cX11_layClash 4 = .ok (.aload_n 0, 1) := by decide +kernel
theorem dX11_layClash_5 : decode cX11_layClash 5 = .ok (.iconst (-1), 1) := by decide +kernel
theorem dX11_layClash_6 : decode cX11_layClash 6 = .ok (.putfield 269, 3) := by decide +kernel
theorem dX11_layClash_9 : decode cX11_layClash 9 = .ok (.iconst 0, 1) := by decide +kernel
theorem dX11_layClash_10 : decode cX11_layClash 10 = .ok (.istore_n 1, 1) := by decide +kernel
theorem dX11_layClash_11 : decode cX11_layClash 11 = .ok (.iload_n 1, 1) := by decide +kernel
theorem dX11_layClash_12 : decode cX11_layClash 12 = .ok (.aload_n 0, 1) := by decide +kernel
theorem dX11_layClash_13 : decode cX11_layClash 13 = .ok (.getfield 109, 3) := by decide +kernel
theorem dX11_layClash_16 : decode cX11_layClash 16 = .ok (.if_icmp .ge 45, 3) := by decide +kernel
theorem dX11_layClash_19 : decode cX11_layClash 19 = .ok (.iconst 0, 1) := by decide +kernel
theorem dX11_layClash_20 : decode cX11_layClash 20 = .ok (.istore_n 2, 1) := by decide +kernel
theorem dX11_layClash_21 : decode cX11_layClash 21 = .ok (.iload_n 2, 1) := by decide +kernel
theorem dX11_layClash_22 : decode cX11_layClash 22 = .ok (.aload_n 0, 1) := by decide +kernel
theorem dX11_layClash_23 : decode cX11_layClash 23 = .ok (.getfield 109, 3) := by decide +kernel
theorem dX11_layClash_26 : decode cX11_layClash 26 = .ok (.if_icmp .ge 29, 3) := by decide +kernel
theorem dX11_layClash_29 : decode cX11_layClash 29 = .ok (.iload_n 1, 1) := by decide +kernel
theorem dX11_layClash_30 : decode cX11_layClash 30 = .ok (.iload_n 2, 1) := by decide +kernel
theorem dX11_layClash_31 : decode cX11_layClash 31 = .ok (.if_icmp .eq 18, 3) := by decide +kernel
theorem dX11_layClash_34 : decode cX11_layClash 34 = .ok (.aload_n 0, 1) := by decide +kernel
theorem dX11_layClash_35 : decode cX11_layClash 35 = .ok (.iload_n 1, 1) := by decide +kernel
theorem dX11_layClash_36 : decode cX11_layClash 36 = .ok (.iload_n 2, 1) := by decide +kernel
theorem dX11_layClash_37 : decode cX11_layClash 37 = .ok (.invokevirtual 157, 3) := by decide +kernel
theorem dX11_layClash_40 : decode cX11_layClash 40 = .ok (.ifCond .eq 9, 3) := by decide +kernel
theorem dX11_layClash_43 : decode cX11_layClash 43 = .ok (.aload_n 0, 1) := by decide +kernel
theorem dX11_layClash_44 : decode cX11_layClash 44 = .ok (.iload_n 1, 1) := by decide +kernel
theorem dX11_layClash_45 : decode cX11_layClash 45 = .ok (.iload_n 2, 1) := by decide +kernel
theorem dX11_layClash_46 : decode cX11_layClash 46 = .ok (.invokevirtual 278, 3) := by decide +kernel
theorem dX11_layClash_49 : decode cX11_layClash 49 = .ok (.iinc 2 1, 3) := by decide +kernel
theorem dX11_layClash_52 : decode cX11_layClash 52 = .ok (.goto (-31), 3) := by decide +kernel
theorem dX11_layClash_55 : decode cX11_layClash 55 = .ok (.iinc 1 1, 3) := by decide +kernel
theorem dX11_layClash_58 : decode cX11_layClash 58 = .ok (.goto (-47), 3) := by decide +kernel
theorem dX11_layClash_61 : decode cX11_layClash 61 = .ok (.aload_n 0, 1) := by decide +kernel
theorem dX11_layClash_62 : decode cX11_layClash 62 = .ok (.aload_n 0, 1) := by decide +kernel
theorem dX11_layClash_63 : decode cX11_layClash 63 = .ok (.getfield 269, 3) := by decide +kernel
theorem dX11_layClash_66 : decode cX11_layClash 66 = .ok (.iconst (-1), 1) := by decide +kernel
theorem dX11_layClash_67 : decode cX11_layClash 67 = .ok (.if_icmp .ne 7, 3) := by decide +kernel
theorem dX11_layClash_70 : decode cX11_layClash 70 = .ok (.iconst 0, 1) := by decide +kernel
theorem dX11_layClash_71 : decode cX11_layClash 71 = .ok (.goto 7, 3) := by decide +kernel
theorem dX11_layClash_74 : decode cX11_layClash 74 = .ok (.aload_n 0, 1) := by decide +kernel
theorem dX11_layClash_75 : decode cX11_layClash 75 = .ok (.getfield 269, 3) := by decide +kernel
theorem dX11_layClash_78 : decode cX11_layClash 78 = .ok (.putfield 167, 3) := by decide +kernel
theorem dX11_layClash_81 : decode cX11_layClash 81 = .ok (.iconst 0, 1) := by decide +kernel
theorem dX11_layClash_82 : decode cX11_layClash 82 = .ok (.istore_n 1, 1) := by decide +kernel
theorem dX11_layClash_83 : decode cX11_layClash 83 = .ok (.iload_n 1, 1) := by decide +kernel
theorem dX11_layClash_84 : decode cX11_layClash 84 = .ok (.aload_n 0, 1) := by decide +kernel
theorem dX11_layClash_85 : decode cX11_layClash 85 = .ok (.getfield 167, 3) := by decide +kernel
theorem dX11_layClash_88 : decode cX11_layClash 88 = .ok (.if_icmp .ge 21, 3) := by decide +kernel
theorem dX11_layClash_91 : decode cX11_layClash 91 = .ok (.aload_n 0, 1) := by decide +kernel
theorem dX11_layClash_92 : decode cX11_layClash 92 = .ok (.getfield 43, 3) := by decide +kernel
theorem dX11_layClash_95 : decode cX11_layClash 95 = .ok (.iload_n 1, 1) := by decide +kernel
theorem dX11_layClash_96 : decode cX11_layClash 96 = .ok (.aload_n 0, 1) := by decide +kernel
theorem dX11_layClash_97 : decode cX11_layClash 97 = .ok (.getfield 68, 3) := by decide +kernel
theorem dX11_layClash_100 : decode cX11_layClash 100 = .ok (.iload_n 1, 1) := by decide +kernel
theorem dX11_layClash_101 : decode cX11_layClash 101 = .ok (.iaload, 1) := by decide +kernel
theorem dX11_layClash_102 : decode cX11_layClash 102 = .ok (.iastore, 1) := by decide +kernel
theorem dX11_layClash_103 : decode cX11_layClash 103 = .ok (.iinc 1 1, 3) := by decide +kernel
theorem dX11_layClash_106 : decode cX11_layClash 106 = .ok (.goto (-23), 3) := by decide +kernel
theorem dX11_layClash_109 : decode cX11_layClash 109 = .ok (.aload_n 0, 1) := by decide +kernel
theorem dX11_layClash_110 : decode cX11_layClash 110 = .ok (.invokevirtual 195, 3) := by decide +kernel
theorem dX11_layClash_113 : decode cX11_layClash 113 = .ok (.return_, 1) := by decide +kernel
theorem dX11_rowMany_0 : decode cX11_rowMany 0 = .ok (.iconst 0, 1) := by decide +kernel
theorem dX11_rowMany_1 : decode cX11_rowMany 1 = .ok (.istore_n 2, 1) := by decide +kernel
theorem dX11_rowMany_2 : decode cX11_rowMany 2 = .ok (.aload_n 0, 1) := by decide +kernel
theorem dX11_rowMany_3 : decode cX11_rowMany 3 = .ok (.iload_n 1, 1) := by decide +kernel
theorem dX11_rowMany_4 : decode cX11_rowMany 4 = .ok (.iload_n 2, 1) := by decide +kernel
theorem dX11_rowMany_5 : decode cX11_rowMany 5 = .ok (.invokevirtual 201, 3) := by decide +kernel
theorem dX11_rowMany_8 : decode cX11_rowMany 8 = .ok (.iconst (-1), 1) := by decide +kernel
theorem dX11_rowMany_9 : decode cX11_rowMany 9 = .ok (.if_icmp .eq 9, 3) := by decide +kernel
theorem dX11_rowMany_12 : decode cX11_rowMany 12 = .ok (.iinc 2 1, 3) := by decide +kernel
theorem dX11_rowMany_15 : decode cX11_rowMany 15 = .ok (.goto (-13), 3) := by decide +kernel
theorem dX11_rowMany_18 : decode cX11_rowMany 18 = .ok (.iload_n 2, 1) := by decide +kernel
theorem dX11_rowMany_19 : decode cX11_rowMany 19 = .ok (.ireturn, 1) := by decide +kernel
theorem dX11_clashTold_0 : decode cX11_clashTold 0 = .ok (.aload_n 0, 1) := by decide +kernel
theorem dX11_clashTold_1 : decode cX11_clashTold 1 = .ok (.invokevirtual 282, 3) := by decide +kernel
theorem dX11_clashTold_4 : decode cX11_clashTold 4 = .ok (.aload_n 0, 1) := by decide +kernel
theorem dX11_clashTold_5 : decode cX11_clashTold 5 = .ok (.getfield 269, 3) := by decide +kernel
theorem dX11_clashTold_8 : decode cX11_clashTold 8 = .ok (.iconst (-1), 1) := by decide +kernel
theorem dX11_clashTold_9 : decode cX11_clashTold 9 = .ok (.if_icmp .ne 5, 3) := by decide +kernel
theorem dX11_clashTold_12 : decode cX11_clashTold 12 = .ok (.iconst (-1), 1) := by decide +kernel
theorem dX11_clashTold_13 : decode cX11_clashTold 13 = .ok (.ireturn, 1) := by decide +kernel
theorem dX11_clashTold_14 : decode cX11_clashTold 14 = .ok (.iload_n 1, 1) := by decide +kernel
theorem dX11_clashTold_15 : decode cX11_clashTold 15 = .ok (.iconst 1, 1) := by decide +kernel
theorem dX11_clashTold_16 : decode cX11_clashTold 16 = .ok (.if_icmp .ne 10, 3) := by decide +kernel
theorem dX11_clashTold_19 : decode cX11_clashTold 19 = .ok (.aload_n 0, 1) := by decide +kernel
theorem dX11_clashTold_20 : decode cX11_clashTold 20 = .ok (.getfield 269, 3) := by decide +kernel
theorem dX11_clashTold_23 : decode cX11_clashTold 23 = .ok (.goto 24, 3) := by decide +kernel
theorem dX11_clashTold_26 : decode cX11_clashTold 26 = .ok (.iload_n 1, 1) := by decide +kernel
theorem dX11_clashTold_27 : decode cX11_clashTold 27 = .ok (.iconst 4, 1) := by decide +kernel
theorem dX11_clashTold_28 : decode cX11_clashTold 28 = .ok (.if_icmp .ne 12, 3) := by decide +kernel
theorem dX11_clashTold_31 : decode cX11_clashTold 31 = .ok (.aload_n 0, 1) := by decide +kernel
theorem dX11_clashTold_32 : decode cX11_clashTold 32 = .ok (.getfield 46, 3) := by decide +kernel
theorem dX11_clashTold_35 : decode cX11_clashTold 35 = .ok (.iconst 0, 1) := by decide +kernel
theorem dX11_clashTold_36 : decode cX11_clashTold 36 = .ok (.iaload, 1) := by decide +kernel
theorem dX11_clashTold_37 : decode cX11_clashTold 37 = .ok (.goto 10, 3) := by decide +kernel
theorem dX11_clashTold_40 : decode cX11_clashTold 40 = .ok (.aload_n 0, 1) := by decide +kernel
theorem dX11_clashTold_41 : decode cX11_clashTold 41 = .ok (.iload_n 1, 1) := by decide +kernel
theorem dX11_clashTold_42 : decode cX11_clashTold 42 = .ok (.iconst 2, 1) := by decide +kernel
theorem dX11_clashTold_43 : decode cX11_clashTold 43 = .ok (.isub, 1) := by decide +kernel
theorem dX11_clashTold_44 : decode cX11_clashTold 44 = .ok (.invokevirtual 285, 3) := by decide +kernel
theorem dX11_clashTold_47 : decode cX11_clashTold 47 = .ok (.ireturn, 1) := by decide +kernel
theorem dX11_clashNow_0 : decode cX11_clashNow 0 = .ok (.iload_n 1, 1) := by decide +kernel
theorem dX11_clashNow_1 : decode cX11_clashNow 1 = .ok (.ifCond .ne 18, 3) := by decide +kernel
theorem dX11_clashNow_4 : decode cX11_clashNow 4 = .ok (.aload_n 0, 1) := by decide +kernel
theorem dX11_clashNow_5 : decode cX11_clashNow 5 = .ok (.invokevirtual 288, 3) := by decide +kernel
theorem dX11_clashNow_8 : decode cX11_clashNow 8 = .ok (.ifCond .eq 7, 3) := by decide +kernel
theorem dX11_clashNow_11 : decode cX11_clashNow 11 = .ok (.iconst 1, 1) := by decide +kernel
theorem dX11_clashNow_12 : decode cX11_clashNow 12 = .ok (.goto 24, 3) := by decide +kernel
theorem dX11_clashNow_15 : decode cX11_clashNow 15 = .ok (.iconst 0, 1) := by decide +kernel
theorem dX11_clashNow_16 : decode cX11_clashNow 16 = .ok (.goto 20, 3) := by decide +kernel
theorem dX11_clashNow_19 : decode cX11_clashNow 19 = .ok (.iload_n 1, 1) := by decide +kernel
theorem dX11_clashNow_20 : decode cX11_clashNow 20 = .ok (.iconst 5, 1) := by decide +kernel
theorem dX11_clashNow_21 : decode cX11_clashNow 21 = .ok (.if_icmp .ne 10, 3) := by decide +kernel
theorem dX11_clashNow_24 : decode cX11_clashNow 24 = .ok (.aload_n 0, 1) := by decide +kernel
theorem dX11_clashNow_25 : decode cX11_clashNow 25 = .ok (.invokevirtual 291, 3) := by decide +kernel
theorem dX11_clashNow_28 : decode cX11_clashNow 28 = .ok (.goto 8, 3) := by decide +kernel
theorem dX11_clashNow_31 : decode cX11_clashNow 31 = .ok (.aload_n 0, 1) := by decide +kernel
theorem dX11_clashNow_32 : decode cX11_clashNow 32 = .ok (.iload_n 1, 1) := by decide +kernel
theorem dX11_clashNow_33 : decode cX11_clashNow 33 = .ok (.invokevirtual 294, 3) := by decide +kernel
theorem dX11_clashNow_36 : decode cX11_clashNow 36 = .ok (.ireturn, 1) := by decide +kernel
theorem dX11_clash_0 : decode cX11_clash 0 = .ok (.iload_n 1, 1) := by decide +kernel
theorem dX11_clash_1 : decode cX11_clash 1 = .ok (.iconst 0, 1) := by decide +kernel
theorem dX11_clash_2 : decode cX11_clash 2 = .ok (.iconst 5, 1) := by decide +kernel
theorem dX11_clash_3 : decode cX11_clash 3 = .ok (.invokestatic 71, 3) := by decide +kernel
theorem dX11_clash_6 : decode cX11_clash 6 = .ok (.ifCond .eq 11, 3) := by decide +kernel
theorem dX11_clash_9 : decode cX11_clash 9 = .ok (.aload_n 0, 1) := by decide +kernel
theorem dX11_clash_10 : decode cX11_clash 10 = .ok (.iload_n 1, 1) := by decide +kernel
theorem dX11_clash_11 : decode cX11_clash 11 = .ok (.invokevirtual 297, 3) := by decide +kernel
theorem dX11_clash_14 : decode cX11_clash 14 = .ok (.goto 5, 3) := by decide +kernel
theorem dX11_clash_17 : decode cX11_clash 17 = .ok (.bipush (-102), 2) := by decide +kernel
theorem dX11_clash_19 : decode cX11_clash 19 = .ok (.ireturn, 1) := by decide +kernel
theorem dX11_clashAt_0 : decode cX11_clashAt 0 = .ok (.aload_n 0, 1) := by decide +kernel
theorem dX11_clashAt_1 : decode cX11_clashAt 1 = .ok (.invokevirtual 282, 3) := by decide +kernel
theorem dX11_clashAt_4 : decode cX11_clashAt 4 = .ok (.iload_n 1, 1) := by decide +kernel
theorem dX11_clashAt_5 : decode cX11_clashAt 5 = .ok (.iconst 0, 1) := by decide +kernel
theorem dX11_clashAt_6 : decode cX11_clashAt 6 = .ok (.aload_n 0, 1) := by decide +kernel
theorem dX11_clashAt_7 : decode cX11_clashAt 7 = .ok (.getfield 269, 3) := by decide +kernel
theorem dX11_clashAt_10 : decode cX11_clashAt 10 = .ok (.iconst 1, 1) := by decide +kernel
theorem dX11_clashAt_11 : decode cX11_clashAt 11 = .ok (.isub, 1) := by decide +kernel
theorem dX11_clashAt_12 : decode cX11_clashAt 12 = .ok (.invokestatic 71, 3) := by decide +kernel
theorem dX11_clashAt_15 : decode cX11_clashAt 15 = .ok (.ifCond .eq 12, 3) := by decide +kernel
theorem dX11_clashAt_18 : decode cX11_clashAt 18 = .ok (.aload_n 0, 1) := by decide +kernel
theorem dX11_clashAt_19 : decode cX11_clashAt 19 = .ok (.getfield 68, 3) := by decide +kernel
theorem dX11_clashAt_22 : decode cX11_clashAt 22 = .ok (.iload_n 1, 1) := by decide +kernel
theorem dX11_clashAt_23 : decode cX11_clashAt 23 = .ok (.iaload, 1) := by decide +kernel
theorem dX11_clashAt_24 : decode cX11_clashAt 24 = .ok (.goto 5, 3) := by decide +kernel
theorem dX11_clashAt_27 : decode cX11_clashAt 27 = .ok (.bipush (-101), 2) := by decide +kernel
theorem dX11_clashAt_29 : decode cX11_clashAt 29 = .ok (.ireturn, 1) := by decide +kernel
theorem dX11_clashingNow_0 : decode cX11_clashingNow 0 = .ok (.aload_n 0, 1) := by decide +kernel
theorem dX11_clashingNow_1 : decode cX11_clashingNow 1 = .ok (.invokevirtual 282, 3) := by decide +kernel
theorem dX11_clashingNow_4 : decode cX11_clashingNow 4 = .ok (.aload_n 0, 1) := by decide +kernel
theorem dX11_clashingNow_5 : decode cX11_clashingNow 5 = .ok (.getfield 269, 3) := by decide +kernel
theorem dX11_clashingNow_8 : decode cX11_clashingNow 8 = .ok (.iconst (-1), 1) := by decide +kernel
theorem dX11_clashingNow_9 : decode cX11_clashingNow 9 = .ok (.if_icmp .ne 7, 3) := by decide +kernel
theorem dX11_clashingNow_12 : decode cX11_clashingNow 12 = .ok (.iconst (-1), 1) := by decide +kernel
theorem dX11_clashingNow_13 : decode cX11_clashingNow 13 = .ok (.goto 9, 3) := by decide +kernel
theorem dX11_clashingNow_16 : decode cX11_clashingNow 16 = .ok (.aload_n 0, 1) := by decide +kernel
theorem dX11_clashingNow_17 : decode cX11_clashingNow 17 = .ok (.iload_n 1, 1) := by decide +kernel
theorem dX11_clashingNow_18 : decode cX11_clashingNow 18 = .ok (.iload_n 2, 1) := by decide +kernel
theorem dX11_clashingNow_19 : decode cX11_clashingNow 19 = .ok (.invokevirtual 201, 3) := by decide +kernel
theorem dX11_clashingNow_22 : decode cX11_clashingNow 22 = .ok (.istore_n 3, 1) := by decide +kernel
theorem dX11_clashingNow_23 : decode cX11_clashingNow 23 = .ok (.iload_n 3, 1) := by decide +kernel
theorem dX11_clashingNow_24 : decode cX11_clashingNow 24 = .ok (.iconst (-1), 1) := by decide +kernel
theorem dX11_clashingNow_25 : decode cX11_clashingNow 25 = .ok (.if_icmp .ne 8, 3) := by decide +kernel
theorem dX11_clashingNow_28 : decode cX11_clashingNow 28 = .ok (.bipush (-101), 2) := by decide +kernel
theorem dX11_clashingNow_30 : decode cX11_clashingNow 30 = .ok (.goto 4, 3) := by decide +kernel
theorem dX11_clashingNow_33 : decode cX11_clashingNow 33 = .ok (.iload_n 3, 1) := by decide +kernel
theorem dX11_clashingNow_34 : decode cX11_clashingNow 34 = .ok (.ireturn, 1) := by decide +kernel
theorem dX11_clashing_0 : decode cX11_clashing 0 = .ok (.iload_n 1, 1) := by decide +kernel
theorem dX11_clashing_1 : decode cX11_clashing 1 = .ok (.iconst 0, 1) := by decide +kernel
theorem dX11_clashing_2 : decode cX11_clashing 2 = .ok (.iconst 1, 1) := by decide +kernel
theorem dX11_clashing_3 : decode cX11_clashing 3 = .ok (.invokestatic 71, 3) := by decide +kernel
theorem dX11_clashing_6 : decode cX11_clashing 6 = .ok (.ifCond .eq 12, 3) := by decide +kernel
theorem dX11_clashing_9 : decode cX11_clashing 9 = .ok (.aload_n 0, 1) := by decide +kernel
theorem dX11_clashing_10 : decode cX11_clashing 10 = .ok (.iload_n 1, 1) := by decide +kernel
theorem dX11_clashing_11 : decode cX11_clashing 11 = .ok (.iload_n 2, 1) := by decide +kernel
theorem dX11_clashing_12 : decode cX11_clashing 12 = .ok (.invokevirtual 300, 3) := by decide +kernel
theorem dX11_clashing_15 : decode cX11_clashing 15 = .ok (.goto 5, 3) := by decide +kernel
theorem dX11_clashing_18 : decode cX11_clashing 18 = .ok (.bipush (-102), 2) := by decide +kernel
theorem dX11_clashing_20 : decode cX11_clashing 20 = .ok (.ireturn, 1) := by decide +kernel
theorem dX11_bits_0 : decode cX11_bits 0 = .ok (.iconst 0, 1) := by decide +kernel
theorem dX11_bits_1 : decode cX11_bits 1 = .ok (.istore_n 1, 1) := by decide +kernel
theorem dX11_bits_2 : decode cX11_bits 2 = .ok (.iconst 0, 1) := by decide +kernel
theorem dX11_bits_3 : decode cX11_bits 3 = .ok (.istore_n 2, 1) := by decide +kernel
theorem dX11_bits_4 : decode cX11_bits 4 = .ok (.iload_n 2, 1) := by decide +kernel
theorem dX11_bits_5 : decode cX11_bits 5 = .ok (.bipush 8, 2) := by decide +kernel
theorem dX11_bits_7 : decode cX11_bits 7 = .ok (.if_icmp .ge 17, 3) := by decide +kernel
theorem dX11_bits_10 : decode cX11_bits 10 = .ok (.iload_n 1, 1) := by decide +kernel
theorem dX11_bits_11 : decode cX11_bits 11 = .ok (.iload_n 0, 1) := by decide +kernel
theorem dX11_bits_12 : decode cX11_bits 12 = .ok (.iload_n 2, 1) := by decide +kernel
theorem dX11_bits_13 : decode cX11_bits 13 = .ok (.ishr, 1) := by decide +kernel
theorem dX11_bits_14 : decode cX11_bits 14 = .ok (.iconst 1, 1) := by decide +kernel
theorem dX11_bits_15 : decode cX11_bits 15 = .ok (.iand, 1) := by decide +kernel
theorem dX11_bits_16 : decode cX11_bits 16 = .ok (.iadd, 1) := by decide +kernel
theorem dX11_bits_17 : decode cX11_bits 17 = .ok (.istore_n 1, 1) := by decide +kernel
theorem dX11_bits_18 : decode cX11_bits 18 = .ok (.iinc 2 1, 3) := by decide +kernel
theorem dX11_bits_21 : decode cX11_bits 21 = .ok (.goto (-17), 3) := by decide +kernel
theorem dX11_bits_24 : decode cX11_bits 24 = .ok (.iload_n 1, 1) := by decide +kernel
theorem dX11_bits_25 : decode cX11_bits 25 = .ok (.ireturn, 1) := by decide +kernel
theorem dX11_partingSet_0 : decode cX11_partingSet 0 = .ok (.iconst (-1), 1) := by decide +kernel
theorem dX11_partingSet_1 : decode cX11_partingSet 1 = .ok (.istore_n 1, 1) := by decide +kernel
theorem dX11_partingSet_2 : decode cX11_partingSet 2 = .ok (.iconst 0, 1) := by decide +kernel
theorem dX11_partingSet_3 : decode cX11_partingSet 3 = .ok (.istore_n 2, 1) := by decide +kernel
theorem dX11_partingSet_4 : decode cX11_partingSet 4 = .ok (.iload_n 2, 1) := by decide +kernel
theorem dX11_partingSet_5 : decode cX11_partingSet 5 = .ok (.iconst 1, 1) := by decide +kernel
theorem dX11_partingSet_6 : decode cX11_partingSet 6 = .ok (.aload_n 0, 1) := by decide +kernel
theorem dX11_partingSet_7 : decode cX11_partingSet 7 = .ok (.getfield 109, 3) := by decide +kernel
theorem dX11_partingSet_10 : decode cX11_partingSet 10 = .ok (.ishl, 1) := by decide +kernel
theorem dX11_partingSet_11 : decode cX11_partingSet 11 = .ok (.if_icmp .ge 53, 3) := by decide +kernel
theorem dX11_partingSet_14 : decode cX11_partingSet 14 = .ok (.aload_n 0, 1) := by decide +kernel
theorem dX11_partingSet_15 : decode cX11_partingSet 15 = .ok (.iload_n 2, 1) := by decide +kernel
theorem dX11_partingSet_16 : decode cX11_partingSet 16 = .ok (.putfield 115, 3) := by decide +kernel
theorem dX11_partingSet_19 : decode cX11_partingSet 19 = .ok (.iload_n 1, 1) := by decide +kernel
theorem dX11_partingSet_20 : decode cX11_partingSet 20 = .ok (.iconst (-1), 1) := by decide +kernel
theorem dX11_partingSet_21 : decode cX11_partingSet 21 = .ok (.if_icmp .eq 14, 3) := by decide +kernel
theorem dX11_partingSet_24 : decode cX11_partingSet 24 = .ok (.iload_n 2, 1) := by decide +kernel
theorem dX11_partingSet_25 : decode cX11_partingSet 25 = .ok (.invokestatic 303, 3) := by decide +kernel
theorem dX11_partingSet_28 : decode cX11_partingSet 28 = .ok (.iload_n 1, 1) := by decide +kernel
theorem dX11_partingSet_29 : decode cX11_partingSet 29 = .ok (.invokestatic 303, 3) := by decide +kernel
theorem dX11_partingSet_32 : decode cX11_partingSet 32 = .ok (.if_icmp .ge 7, 3) := by decide +kernel
theorem dX11_partingSet_35 : decode cX11_partingSet 35 = .ok (.iconst 1, 1) := by decide +kernel
theorem dX11_partingSet_36 : decode cX11_partingSet 36 = .ok (.goto 4, 3) := by decide +kernel
theorem dX11_partingSet_39 : decode cX11_partingSet 39 = .ok (.iconst 0, 1) := by decide +kernel
theorem dX11_partingSet_40 : decode cX11_partingSet 40 = .ok (.istore_n 3, 1) := by decide +kernel
theorem dX11_partingSet_41 : decode cX11_partingSet 41 = .ok (.iload_n 3, 1) := by decide +kernel
theorem dX11_partingSet_42 : decode cX11_partingSet 42 = .ok (.ifCond .eq 14, 3) := by decide +kernel
theorem dX11_partingSet_45 : decode cX11_partingSet 45 = .ok (.aload_n 0, 1) := by decide +kernel
theorem dX11_partingSet_46 : decode cX11_partingSet 46 = .ok (.invokevirtual 288, 3) := by decide +kernel
end
section
theorem dX11_partingSet_49 : decode cX11_partingSet 49 = .ok (.ifCond .eq 7, 3) := by decide +kernel
theorem dX11_partingSet_52 : decode cX11_partingSet 52 = .ok (.iload_n 2, 1) := by decide +kernel
theorem dX11_partingSet_53 : decode cX11_partingSet 53 = .ok (.goto 4, 3) := by decide +kernel
theorem dX11_partingSet_56 : decode cX11_partingSet 56 = .ok (.iload_n 1, 1) := by decide +kernel
theorem dX11_partingSet_57 : decode cX11_partingSet 57 = .ok (.istore_n 1, 1) := by decide +kernel
theorem dX11_partingSet_58 : decode cX11_partingSet 58 = .ok (.iinc 2 1, 3) := by decide +kernel
theorem dX11_partingSet_61 : decode cX11_partingSet 61 = .ok (.goto (-57), 3) := by decide +kernel
theorem dX11_partingSet_64 : decode cX11_partingSet 64 = .ok (.aload_n 0, 1) := by decide +kernel
theorem dX11_partingSet_65 : decode cX11_partingSet 65 = .ok (.aload_n 0, 1) := by decide +kernel
theorem dX11_partingSet_66 : decode cX11_partingSet 66 = .ok (.getfield 112, 3) := by decide +kernel
theorem dX11_partingSet_69 : decode cX11_partingSet 69 = .ok (.putfield 115, 3) := by decide +kernel
theorem dX11_partingSet_72 : decode cX11_partingSet 72 = .ok (.iload_n 1, 1) := by decide +kernel
theorem dX11_partingSet_73 : decode cX11_partingSet 73 = .ok (.ireturn, 1) := by decide +kernel
theorem dX11_partingNow_0 : decode cX11_partingNow 0 = .ok (.aload_n 0, 1) := by decide +kernel
theorem dX11_partingNow_1 : decode cX11_partingNow 1 = .ok (.invokevirtual 306, 3) := by decide +kernel
theorem dX11_partingNow_4 : decode cX11_partingNow 4 = .ok (.istore_n 2, 1) := by decide +kernel
theorem dX11_partingNow_5 : decode cX11_partingNow 5 = .ok (.iload_n 2, 1) := by decide +kernel
theorem dX11_partingNow_6 : decode cX11_partingNow 6 = .ok (.iconst (-1), 1) := by decide +kernel
theorem dX11_partingNow_7 : decode cX11_partingNow 7 = .ok (.if_icmp .ne 7, 3) := by decide +kernel
theorem dX11_partingNow_10 : decode cX11_partingNow 10 = .ok (.iconst (-1), 1) := by decide +kernel
theorem dX11_partingNow_11 : decode cX11_partingNow 11 = .ok (.goto 15, 3) := by decide +kernel
theorem dX11_partingNow_14 : decode cX11_partingNow 14 = .ok (.iload_n 1, 1) := by decide +kernel
theorem dX11_partingNow_15 : decode cX11_partingNow 15 = .ok (.ifCond .ne 10, 3) := by decide +kernel
theorem dX11_partingNow_18 : decode cX11_partingNow 18 = .ok (.iload_n 2, 1) := by decide +kernel
theorem dX11_partingNow_19 : decode cX11_partingNow 19 = .ok (.invokestatic 303, 3) := by decide +kernel
theorem dX11_partingNow_22 : decode cX11_partingNow 22 = .ok (.goto 4, 3) := by decide +kernel
theorem dX11_partingNow_25 : decode cX11_partingNow 25 = .ok (.iload_n 2, 1) := by decide +kernel
theorem dX11_partingNow_26 : decode cX11_partingNow 26 = .ok (.ireturn, 1) := by decide +kernel
theorem dX11_parting_0 : decode cX11_parting 0 = .ok (.iload_n 1, 1) := by decide +kernel
theorem dX11_parting_1 : decode cX11_parting 1 = .ok (.iconst 0, 1) := by decide +kernel
theorem dX11_parting_2 : decode cX11_parting 2 = .ok (.iconst 1, 1) := by decide +kernel
theorem dX11_parting_3 : decode cX11_parting 3 = .ok (.invokestatic 71, 3) := by decide +kernel
theorem dX11_parting_6 : decode cX11_parting 6 = .ok (.ifCond .eq 11, 3) := by decide +kernel
theorem dX11_parting_9 : decode cX11_parting 9 = .ok (.aload_n 0, 1) := by decide +kernel
theorem dX11_parting_10 : decode cX11_parting 10 = .ok (.iload_n 1, 1) := by decide +kernel
theorem dX11_parting_11 : decode cX11_parting 11 = .ok (.invokevirtual 309, 3) := by decide +kernel
theorem dX11_parting_14 : decode cX11_parting 14 = .ok (.goto 5, 3) := by decide +kernel
theorem dX11_parting_17 : decode cX11_parting 17 = .ok (.bipush (-102), 2) := by decide +kernel
theorem dX11_parting_19 : decode cX11_parting 19 = .ok (.ireturn, 1) := by decide +kernel
theorem dX11_draw_0 : decode cX11_draw 0 = .ok (.aload_n 0, 1) := by decide +kernel
theorem dX11_draw_1 : decode cX11_draw 1 = .ok (.ldc2_w 312, 3) := by decide +kernel
theorem dX11_draw_4 : decode cX11_draw 4 = .ok (.aload_n 0, 1) := by decide +kernel
theorem dX11_draw_5 : decode cX11_draw 5 = .ok (.getfield 314, 3) := by decide +kernel
theorem dX11_draw_8 : decode cX11_draw 8 = .ok (.lmul, 1) := by decide +kernel
theorem dX11_draw_9 : decode cX11_draw 9 = .ok (.ldc2_w 318, 3) := by decide +kernel
theorem dX11_draw_12 : decode cX11_draw 12 = .ok (.ladd, 1) := by decide +kernel
theorem dX11_draw_13 : decode cX11_draw 13 = .ok (.ldc2_w 320, 3) := by decide +kernel
theorem dX11_draw_16 : decode cX11_draw 16 = .ok (.lrem, 1) := by decide +kernel
theorem dX11_draw_17 : decode cX11_draw 17 = .ok (.putfield 314, 3) := by decide +kernel
theorem dX11_draw_20 : decode cX11_draw 20 = .ok (.aload_n 0, 1) := by decide +kernel
theorem dX11_draw_21 : decode cX11_draw 21 = .ok (.getfield 314, 3) := by decide +kernel
theorem dX11_draw_24 : decode cX11_draw 24 = .ok (.ldc2_w 322, 3) := by decide +kernel
theorem dX11_draw_27 : decode cX11_draw 27 = .ok (.ldiv, 1) := by decide +kernel
theorem dX11_draw_28 : decode cX11_draw 28 = .ok (.iload_n 1, 1) := by decide +kernel
theorem dX11_draw_29 : decode cX11_draw 29 = .ok (.i2l, 1) := by decide +kernel
theorem dX11_draw_30 : decode cX11_draw 30 = .ok (.lrem, 1) := by decide +kernel
theorem dX11_draw_31 : decode cX11_draw 31 = .ok (.l2i, 1) := by decide +kernel
theorem dX11_draw_32 : decode cX11_draw 32 = .ok (.ireturn, 1) := by decide +kernel
theorem dX11_drawRow_0 : decode cX11_drawRow 0 = .ok (.aload_n 0, 1) := by decide +kernel
theorem dX11_drawRow_1 : decode cX11_drawRow 1 = .ok (.iconst 1, 1) := by decide +kernel
theorem dX11_drawRow_2 : decode cX11_drawRow 2 = .ok (.aload_n 0, 1) := by decide +kernel
theorem dX11_drawRow_3 : decode cX11_drawRow 3 = .ok (.iconst 5, 1) := by decide +kernel
theorem dX11_drawRow_4 : decode cX11_drawRow 4 = .ok (.invokevirtual 324, 3) := by decide +kernel
theorem dX11_drawRow_7 : decode cX11_drawRow 7 = .ok (.iadd, 1) := by decide +kernel
theorem dX11_drawRow_8 : decode cX11_drawRow 8 = .ok (.putfield 124, 3) := by decide +kernel
theorem dX11_drawRow_11 : decode cX11_drawRow 11 = .ok (.aload_n 0, 1) := by decide +kernel
theorem dX11_drawRow_12 : decode cX11_drawRow 12 = .ok (.iconst 0, 1) := by decide +kernel
theorem dX11_drawRow_13 : decode cX11_drawRow 13 = .ok (.putfield 167, 3) := by decide +kernel
theorem dX11_drawRow_16 : decode cX11_drawRow 16 = .ok (.iconst 0, 1) := by decide +kernel
theorem dX11_drawRow_17 : decode cX11_drawRow 17 = .ok (.istore_n 1, 1) := by decide +kernel
theorem dX11_drawRow_18 : decode cX11_drawRow 18 = .ok (.iload_n 1, 1) := by decide +kernel
theorem dX11_drawRow_19 : decode cX11_drawRow 19 = .ok (.aload_n 0, 1) := by decide +kernel
theorem dX11_drawRow_20 : decode cX11_drawRow 20 = .ok (.getfield 124, 3) := by decide +kernel
theorem dX11_drawRow_23 : decode cX11_drawRow 23 = .ok (.if_icmp .ge 75, 3) := by decide +kernel
theorem dX11_drawRow_26 : decode cX11_drawRow 26 = .ok (.aload_n 0, 1) := by decide +kernel
theorem dX11_drawRow_27 : decode cX11_drawRow 27 = .ok (.getfield 40, 3) := by decide +kernel
theorem dX11_drawRow_30 : decode cX11_drawRow 30 = .ok (.iload_n 1, 1) := by decide +kernel
theorem dX11_drawRow_31 : decode cX11_drawRow 31 = .ok (.aload_n 0, 1) := by decide +kernel
theorem dX11_drawRow_32 : decode cX11_drawRow 32 = .ok (.aload_n 0, 1) := by decide +kernel
theorem dX11_drawRow_33 : decode cX11_drawRow 33 = .ok (.getfield 109, 3) := by decide +kernel
theorem dX11_drawRow_36 : decode cX11_drawRow 36 = .ok (.invokevirtual 324, 3) := by decide +kernel
theorem dX11_drawRow_39 : decode cX11_drawRow 39 = .ok (.iastore, 1) := by decide +kernel
theorem dX11_drawRow_40 : decode cX11_drawRow 40 = .ok (.iconst 0, 1) := by decide +kernel
theorem dX11_drawRow_41 : decode cX11_drawRow 41 = .ok (.istore_n 2, 1) := by decide +kernel
theorem dX11_drawRow_42 : decode cX11_drawRow 42 = .ok (.iload_n 2, 1) := by decide +kernel
theorem dX11_drawRow_43 : decode cX11_drawRow 43 = .ok (.aload_n 0, 1) := by decide +kernel
theorem dX11_drawRow_44 : decode cX11_drawRow 44 = .ok (.aload_n 0, 1) := by decide +kernel
theorem dX11_drawRow_45 : decode cX11_drawRow 45 = .ok (.getfield 40, 3) := by decide +kernel
theorem dX11_drawRow_48 : decode cX11_drawRow 48 = .ok (.iload_n 1, 1) := by decide +kernel
theorem dX11_drawRow_49 : decode cX11_drawRow 49 = .ok (.iaload, 1) := by decide +kernel
theorem dX11_drawRow_50 : decode cX11_drawRow 50 = .ok (.invokevirtual 137, 3) := by decide +kernel
theorem dX11_drawRow_53 : decode cX11_drawRow 53 = .ok (.if_icmp .ge 39, 3) := by decide +kernel
theorem dX11_drawRow_56 : decode cX11_drawRow 56 = .ok (.aload_n 0, 1) := by decide +kernel
theorem dX11_drawRow_57 : decode cX11_drawRow 57 = .ok (.getfield 43, 3) := by decide +kernel
theorem dX11_drawRow_60 : decode cX11_drawRow 60 = .ok (.aload_n 0, 1) := by decide +kernel
theorem dX11_drawRow_61 : decode cX11_drawRow 61 = .ok (.getfield 167, 3) := by decide +kernel
theorem dX11_drawRow_64 : decode cX11_drawRow 64 = .ok (.aload_n 0, 1) := by decide +kernel
theorem dX11_drawRow_65 : decode cX11_drawRow 65 = .ok (.aload_n 0, 1) := by decide +kernel
theorem dX11_drawRow_66 : decode cX11_drawRow 66 = .ok (.getfield 40, 3) := by decide +kernel
theorem dX11_drawRow_69 : decode cX11_drawRow 69 = .ok (.iload_n 1, 1) := by decide +kernel
theorem dX11_drawRow_70 : decode cX11_drawRow 70 = .ok (.iaload, 1) := by decide +kernel
theorem dX11_drawRow_71 : decode cX11_drawRow 71 = .ok (.iload_n 2, 1) := by decide +kernel
theorem dX11_drawRow_72 : decode cX11_drawRow 72 = .ok (.invokevirtual 140, 3) := by decide +kernel
theorem dX11_drawRow_75 : decode cX11_drawRow 75 = .ok (.iastore, 1) := by decide +kernel
theorem dX11_drawRow_76 : decode cX11_drawRow 76 = .ok (.aload_n 0, 1) := by decide +kernel
theorem dX11_drawRow_77 : decode cX11_drawRow 77 = .ok (.dup, 1) := by decide +kernel
theorem dX11_drawRow_78 : decode cX11_drawRow 78 = .ok (.getfield 167, 3) := by decide +kernel
theorem dX11_drawRow_81 : decode cX11_drawRow 81 = .ok (.iconst 1, 1) := by decide +kernel
theorem dX11_drawRow_82 : decode cX11_drawRow 82 = .ok (.iadd, 1) := by decide +kernel
theorem dX11_drawRow_83 : decode cX11_drawRow 83 = .ok (.putfield 167, 3) := by decide +kernel
theorem dX11_drawRow_86 : decode cX11_drawRow 86 = .ok (.iinc 2 1, 3) := by decide +kernel
theorem dX11_drawRow_89 : decode cX11_drawRow 89 = .ok (.goto (-47), 3) := by decide +kernel
theorem dX11_drawRow_92 : decode cX11_drawRow 92 = .ok (.iinc 1 1, 3) := by decide +kernel
theorem dX11_drawRow_95 : decode cX11_drawRow 95 = .ok (.goto (-77), 3) := by decide +kernel
theorem dX11_drawRow_98 : decode cX11_drawRow 98 = .ok (.return_, 1) := by decide +kernel
theorem dX11_isSameRow_0 : decode cX11_isSameRow 0 = .ok (.aload_n 0, 1) := by decide +kernel
theorem dX11_isSameRow_1 : decode cX11_isSameRow 1 = .ok (.getfield 174, 3) := by decide +kernel
theorem dX11_isSameRow_4 : decode cX11_isSameRow 4 = .ok (.aload_n 0, 1) := by decide +kernel
theorem dX11_isSameRow_5 : decode cX11_isSameRow 5 = .ok (.getfield 124, 3) := by decide +kernel
theorem dX11_isSameRow_8 : decode cX11_isSameRow 8 = .ok (.if_icmp .ne 7, 3) := by decide +kernel
theorem dX11_isSameRow_11 : decode cX11_isSameRow 11 = .ok (.iconst 1, 1) := by decide +kernel
theorem dX11_isSameRow_12 : decode cX11_isSameRow 12 = .ok (.goto 4, 3) := by decide +kernel
theorem dX11_isSameRow_15 : decode cX11_isSameRow 15 = .ok (.iconst 0, 1) := by decide +kernel
theorem dX11_isSameRow_16 : decode cX11_isSameRow 16 = .ok (.istore_n 1, 1) := by decide +kernel
theorem dX11_isSameRow_17 : decode cX11_isSameRow 17 = .ok (.iconst 0, 1) := by decide +kernel
theorem dX11_isSameRow_18 : decode cX11_isSameRow 18 = .ok (.istore_n 2, 1) := by decide +kernel
theorem dX11_isSameRow_19 : decode cX11_isSameRow 19 = .ok (.iload_n 2, 1) := by decide +kernel
theorem dX11_isSameRow_20 : decode cX11_isSameRow 20 = .ok (.aload_n 0, 1) := by decide +kernel
theorem dX11_isSameRow_21 : decode cX11_isSameRow 21 = .ok (.getfield 124, 3) := by decide +kernel
theorem dX11_isSameRow_24 : decode cX11_isSameRow 24 = .ok (.if_icmp .ge 34, 3) := by decide +kernel
theorem dX11_isSameRow_27 : decode cX11_isSameRow 27 = .ok (.iload_n 1, 1) := by decide +kernel
theorem dX11_isSameRow_28 : decode cX11_isSameRow 28 = .ok (.ifCond .eq 30, 3) := by decide +kernel
theorem dX11_isSameRow_31 : decode cX11_isSameRow 31 = .ok (.aload_n 0, 1) := by decide +kernel
theorem dX11_isSameRow_32 : decode cX11_isSameRow 32 = .ok (.getfield 52, 3) := by decide +kernel
theorem dX11_isSameRow_35 : decode cX11_isSameRow 35 = .ok (.iload_n 2, 1) := by decide +kernel
theorem dX11_isSameRow_36 : decode cX11_isSameRow 36 = .ok (.iaload, 1) := by decide +kernel
theorem dX11_isSameRow_37 : decode cX11_isSameRow 37 = .ok (.aload_n 0, 1) := by decide +kernel
theorem dX11_isSameRow_38 : decode cX11_isSameRow 38 = .ok (.getfield 40, 3) := by decide +kernel
theorem dX11_isSameRow_41 : decode cX11_isSameRow 41 = .ok (.iload_n 2, 1) := by decide +kernel
theorem dX11_isSameRow_42 : decode cX11_isSameRow 42 = .ok (.iaload, 1) := by decide +kernel
theorem dX11_isSameRow_43 : decode cX11_isSameRow 43 = .ok (.if_icmp .ne 7, 3) := by decide +kernel
theorem dX11_isSameRow_46 : decode cX11_isSameRow 46 = .ok (.iconst 1, 1) := by decide +kernel
theorem dX11_isSameRow_47 : decode cX11_isSameRow 47 = .ok (.goto 4, 3) := by decide +kernel
theorem dX11_isSameRow_50 : decode cX11_isSameRow 50 = .ok (.iconst 0, 1) := by decide +kernel
theorem dX11_isSameRow_51 : decode cX11_isSameRow 51 = .ok (.istore_n 1, 1) := by decide +kernel
theorem dX11_isSameRow_52 : decode cX11_isSameRow 52 = .ok (.iinc 2 1, 3) := by decide +kernel
theorem dX11_isSameRow_55 : decode cX11_isSameRow 55 = .ok (.goto (-36), 3) := by decide +kernel
theorem dX11_isSameRow_58 : decode cX11_isSameRow 58 = .ok (.iload_n 1, 1) := by decide +kernel
theorem dX11_isSameRow_59 : decode cX11_isSameRow 59 = .ok (.ireturn, 1) := by decide +kernel
theorem dX11_trialNow_0 : decode cX11_trialNow 0 = .ok (.iconst 0, 1) := by decide +kernel
theorem dX11_trialNow_1 : decode cX11_trialNow 1 = .ok (.istore 4, 2) := by decide +kernel
theorem dX11_trialNow_3 : decode cX11_trialNow 3 = .ok (.aload_n 0, 1) := by decide +kernel
theorem dX11_trialNow_4 : decode cX11_trialNow 4 = .ok (.iload_n 2, 1) := by decide +kernel
theorem dX11_trialNow_5 : decode cX11_trialNow 5 = .ok (.i2l, 1) := by decide +kernel
theorem dX11_trialNow_6 : decode cX11_trialNow 6 = .ok (.putfield 314, 3) := by decide +kernel
theorem dX11_trialNow_9 : decode cX11_trialNow 9 = .ok (.iconst 0, 1) := by decide +kernel
theorem dX11_trialNow_10 : decode cX11_trialNow 10 = .ok (.istore 5, 2) := by decide +kernel
theorem dX11_trialNow_12 : decode cX11_trialNow 12 = .ok (.iload 5, 2) := by decide +kernel
theorem dX11_trialNow_14 : decode cX11_trialNow 14 = .ok (.iload_n 1, 1) := by decide +kernel
theorem dX11_trialNow_15 : decode cX11_trialNow 15 = .ok (.if_icmp .ge 71, 3) := by decide +kernel
theorem dX11_trialNow_18 : decode cX11_trialNow 18 = .ok (.aload_n 0, 1) := by decide +kernel
theorem dX11_trialNow_19 : decode cX11_trialNow 19 = .ok (.invokevirtual 327, 3) := by decide +kernel
theorem dX11_trialNow_22 : decode cX11_trialNow 22 = .ok (.aload_n 0, 1) := by decide +kernel
theorem dX11_trialNow_23 : decode cX11_trialNow 23 = .ok (.invokevirtual 186, 3) := by decide +kernel
theorem dX11_trialNow_26 : decode cX11_trialNow 26 = .ok (.aload_n 0, 1) := by decide +kernel
theorem dX11_trialNow_27 : decode cX11_trialNow 27 = .ok (.getfield 177, 3) := by decide +kernel
theorem dX11_trialNow_30 : decode cX11_trialNow 30 = .ok (.iconst (-1), 1) := by decide +kernel
theorem dX11_trialNow_31 : decode cX11_trialNow 31 = .ok (.if_icmp .eq 7, 3) := by decide +kernel
theorem dX11_trialNow_34 : decode cX11_trialNow 34 = .ok (.iconst 2, 1) := by decide +kernel
theorem dX11_trialNow_35 : decode cX11_trialNow 35 = .ok (.goto 15, 3) := by decide +kernel
theorem dX11_trialNow_38 : decode cX11_trialNow 38 = .ok (.aload_n 0, 1) := by decide +kernel
theorem dX11_trialNow_39 : decode cX11_trialNow 39 = .ok (.invokevirtual 330, 3) := by decide +kernel
theorem dX11_trialNow_42 : decode cX11_trialNow 42 = .ok (.ifCond .eq 7, 3) := by decide +kernel
theorem dX11_trialNow_45 : decode cX11_trialNow 45 = .ok (.iconst 0, 1) := by decide +kernel
theorem dX11_trialNow_46 : decode cX11_trialNow 46 = .ok (.goto 4, 3) := by decide +kernel
theorem dX11_trialNow_49 : decode cX11_trialNow 49 = .ok (.iconst 1, 1) := by decide +kernel
theorem dX11_trialNow_50 : decode cX11_trialNow 50 = .ok (.istore 6, 2) := by decide +kernel
theorem dX11_trialNow_52 : decode cX11_trialNow 52 = .ok (.iload 4, 2) := by decide +kernel
theorem dX11_trialNow_54 : decode cX11_trialNow 54 = .ok (.iload_n 3, 1) := by decide +kernel
theorem dX11_trialNow_55 : decode cX11_trialNow 55 = .ok (.iconst 3, 1) := by decide +kernel
theorem dX11_trialNow_56 : decode cX11_trialNow 56 = .ok (.if_icmp .ne 10, 3) := by decide +kernel
theorem dX11_trialNow_59 : decode cX11_trialNow 59 = .ok (.aload_n 0, 1) := by decide +kernel
theorem dX11_trialNow_60 : decode cX11_trialNow 60 = .ok (.getfield 167, 3) := by decide +kernel
theorem dX11_trialNow_63 : decode cX11_trialNow 63 = .ok (.goto 14, 3) := by decide +kernel
theorem dX11_trialNow_66 : decode cX11_trialNow 66 = .ok (.iload_n 3, 1) := by decide +kernel
theorem dX11_trialNow_67 : decode cX11_trialNow 67 = .ok (.iload 6, 2) := by decide +kernel
theorem dX11_trialNow_69 : decode cX11_trialNow 69 = .ok (.if_icmp .ne 7, 3) := by decide +kernel
theorem dX11_trialNow_72 : decode cX11_trialNow 72 = .ok (.iconst 1, 1) := by decide +kernel
theorem dX11_trialNow_73 : decode cX11_trialNow 73 = .ok (.goto 4, 3) := by decide +kernel
theorem dX11_trialNow_76 : decode cX11_trialNow 76 = .ok (.iconst 0, 1) := by decide +kernel
theorem dX11_trialNow_77 : decode cX11_trialNow 77 = .ok (.iadd, 1) := by decide +kernel
theorem dX11_trialNow_78 : decode cX11_trialNow 78 = .ok (.istore 4, 2) := by decide +kernel
theorem dX11_trialNow_80 : decode cX11_trialNow 80 = .ok (.iinc 5 1, 3) := by decide +kernel
theorem dX11_trialNow_83 : decode cX11_trialNow 83 = .ok (.goto (-71), 3) := by decide +kernel
theorem dX11_trialNow_86 : decode cX11_trialNow 86 = .ok (.iload 4, 2) := by decide +kernel
theorem dX11_trialNow_88 : decode cX11_trialNow 88 = .ok (.ireturn, 1) := by decide +kernel
theorem dX11_trial_0 : decode cX11_trial 0 = .ok (.iload_n 1, 1) := by decide +kernel
theorem dX11_trial_1 : decode cX11_trial 1 = .ok (.iconst 1, 1) := by decide +kernel
theorem dX11_trial_2 : decode cX11_trial 2 = .ok (.bipush 40, 2) := by decide +kernel
theorem dX11_trial_4 : decode cX11_trial 4 = .ok (.invokestatic 71, 3) := by decide +kernel
theorem dX11_trial_7 : decode cX11_trial 7 = .ok (.ifCond .eq 16, 3) := by decide +kernel
theorem dX11_trial_10 : decode cX11_trial 10 = .ok (.iload_n 2, 1) := by decide +kernel
theorem dX11_trial_11 : decode cX11_trial 11 = .ok (.ifCond .lt 12, 3) := by decide +kernel
theorem dX11_trial_14 : decode cX11_trial 14 = .ok (.iload_n 3, 1) := by decide +kernel
theorem dX11_trial_15 : decode cX11_trial 15 = .ok (.iconst 0, 1) := by decide +kernel
theorem dX11_trial_16 : decode cX11_trial 16 = .ok (.iconst 3, 1) := by decide +kernel
theorem dX11_trial_17 : decode cX11_trial 17 = .ok (.invokestatic 71, 3) := by decide +kernel
theorem dX11_trial_20 : decode cX11_trial 20 = .ok (.ifCond .ne 6, 3) := by decide +kernel
theorem dX11_trial_23 : decode cX11_trial 23 = .ok (.bipush (-102), 2) := by decide +kernel
theorem dX11_trial_25 : decode cX11_trial 25 = .ok (.ireturn, 1) := by decide +kernel
theorem dX11_trial_26 : decode cX11_trial 26 = .ok (.aload_n 0, 1) := by decide +kernel
theorem dX11_trial_27 : decode cX11_trial 27 = .ok (.getfield 109, 3) := by decide +kernel
theorem dX11_trial_30 : decode cX11_trial 30 = .ok (.ifCond .le 13, 3) := by decide +kernel
theorem dX11_trial_33 : decode cX11_trial 33 = .ok (.aload_n 0, 1) := by decide +kernel
theorem dX11_trial_34 : decode cX11_trial 34 = .ok (.iload_n 1, 1) := by decide +kernel
theorem dX11_trial_35 : decode cX11_trial 35 = .ok (.iload_n 2, 1) := by decide +kernel
theorem dX11_trial_36 : decode cX11_trial 36 = .ok (.iload_n 3, 1) := by decide +kernel
theorem dX11_trial_37 : decode cX11_trial 37 = .ok (.invokevirtual 333, 3) := by decide +kernel
theorem dX11_trial_40 : decode cX11_trial 40 = .ok (.goto 5, 3) := by decide +kernel
theorem dX11_trial_43 : decode cX11_trial 43 = .ok (.bipush (-103), 2) := by decide +kernel
theorem dX11_trial_45 : decode cX11_trial 45 = .ok (.ireturn, 1) := by decide +kernel
theorem dX11_howMany_0 : decode cX11_howMany 0 = .ok (.iload_n 1, 1) := by decide +kernel
theorem dX11_howMany_1 : decode cX11_howMany 1 = .ok (.tableswitch 81 0 6 #[43, 48, 53, 58, 66, 71, 76], 43) := by decide +kernel
theorem dX11_howMany_44 : decode cX11_howMany 44 = .ok (.aload_n 0, 1) := by decide +kernel
theorem dX11_howMany_45 : decode cX11_howMany 45 = .ok (.getfield 109, 3) := by decide +kernel
theorem dX11_howMany_48 : decode cX11_howMany 48 = .ok (.ireturn, 1) := by decide +kernel
theorem dX11_howMany_49 : decode cX11_howMany 49 = .ok (.aload_n 0, 1) := by decide +kernel
theorem dX11_howMany_50 : decode cX11_howMany 50 = .ok (.getfield 75, 3) := by decide +kernel
theorem dX11_howMany_53 : decode cX11_howMany 53 = .ok (.ireturn, 1) := by decide +kernel
theorem dX11_howMany_54 : decode cX11_howMany 54 = .ok (.aload_n 0, 1) := by decide +kernel
theorem dX11_howMany_55 : decode cX11_howMany 55 = .ok (.getfield 118, 3) := by decide +kernel
theorem dX11_howMany_58 : decode cX11_howMany 58 = .ok (.ireturn, 1) := by decide +kernel
theorem dX11_howMany_59 : decode cX11_howMany 59 = .ok (.aload_n 0, 1) := by decide +kernel
theorem dX11_howMany_60 : decode cX11_howMany 60 = .ok (.getfield 112, 3) := by decide +kernel
theorem dX11_howMany_63 : decode cX11_howMany 63 = .ok (.invokestatic 303, 3) := by decide +kernel
theorem dX11_howMany_66 : decode cX11_howMany 66 = .ok (.ireturn, 1) := by decide +kernel
theorem dX11_howMany_67 : decode cX11_howMany 67 = .ok (.aload_n 0, 1) := by decide +kernel
theorem dX11_howMany_68 : decode cX11_howMany 68 = .ok (.getfield 121, 3) := by decide +kernel
theorem dX11_howMany_71 : decode cX11_howMany 71 = .ok (.ireturn, 1) := by decide +kernel
theorem dX11_howMany_72 : decode cX11_howMany 72 = .ok (.aload_n 0, 1) := by decide +kernel
theorem dX11_howMany_73 : decode cX11_howMany 73 = .ok (.getfield 144, 3) := by decide +kernel
theorem dX11_howMany_76 : decode cX11_howMany 76 = .ok (.ireturn, 1) := by decide +kernel
theorem dX11_howMany_77 : decode cX11_howMany 77 = .ok (.aload_n 0, 1) := by decide +kernel
theorem dX11_howMany_78 : decode cX11_howMany 78 = .ok (.getfield 147, 3) := by decide +kernel
theorem dX11_howMany_81 : decode cX11_howMany 81 = .ok (.ireturn, 1) := by decide +kernel
theorem dX11_howMany_82 : decode cX11_howMany 82 = .ok (.bipush (-102), 2) := by decide +kernel
theorem dX11_howMany_84 : decode cX11_howMany 84 = .ok (.ireturn, 1) := by decide +kernel
theorem dX11_count_0 : decode cX11_count 0 = .ok (.aload_n 0, 1) := by decide +kernel
theorem dX11_count_1 : decode cX11_count 1 = .ok (.iload_n 1, 1) := by decide +kernel
theorem dX11_count_2 : decode cX11_count 2 = .ok (.invokevirtual 337, 3) := by decide +kernel
theorem dX11_count_5 : decode cX11_count 5 = .ok (.ireturn, 1) := by decide +kernel
theorem dX11_mix_0 : decode cX11_mix 0 = .ok (.aload_n 0, 1) := by decide +kernel
theorem dX11_mix_1 : decode cX11_mix 1 = .ok (.ldc2_w 340, 3) := by decide +kernel
theorem dX11_mix_4 : decode cX11_mix 4 = .ok (.aload_n 0, 1) := by decide +kernel
theorem dX11_mix_5 : decode cX11_mix 5 = .ok (.getfield 342, 3) := by decide +kernel
theorem dX11_mix_8 : decode cX11_mix 8 = .ok (.lmul, 1) := by decide +kernel
theorem dX11_mix_9 : decode cX11_mix 9 = .ok (.lload_n 1, 1) := by decide +kernel
theorem dX11_mix_10 : decode cX11_mix 10 = .ok (.ladd, 1) := by decide +kernel
theorem dX11_mix_11 : decode cX11_mix 11 = .ok (.putfield 342, 3) := by decide +kernel
theorem dX11_mix_14 : decode cX11_mix 14 = .ok (.return_, 1) := by decide +kernel
theorem dX11_mixRules_0 : decode cX11_mixRules 0 = .ok (.iconst 0, 1) := by decide +kernel
theorem dX11_mixRules_1 : decode cX11_mixRules 1 = .ok (.istore_n 1, 1) := by decide +kernel
theorem dX11_mixRules_2 : decode cX11_mixRules 2 = .ok (.iload_n 1, 1) := by decide +kernel
theorem dX11_mixRules_3 : decode cX11_mixRules 3 = .ok (.aload_n 0, 1) := by decide +kernel
theorem dX11_mixRules_4 : decode cX11_mixRules 4 = .ok (.getfield 109, 3) := by decide +kernel
theorem dX11_mixRules_7 : decode cX11_mixRules 7 = .ok (.if_icmp .ge 94, 3) := by decide +kernel
theorem dX11_mixRules_10 : decode cX11_mixRules 10 = .ok (.iconst 0, 1) := by decide +kernel
theorem dX11_mixRules_11 : decode cX11_mixRules 11 = .ok (.istore_n 2, 1) := by decide +kernel
theorem dX11_mixRules_12 : decode cX11_mixRules 12 = .ok (.iload_n 2, 1) := by decide +kernel
theorem dX11_mixRules_13 : decode cX11_mixRules 13 = .ok (.iconst 5, 1) := by decide +kernel
theorem dX11_mixRules_14 : decode cX11_mixRules 14 = .ok (.if_icmp .ge 20, 3) := by decide +kernel
theorem dX11_mixRules_17 : decode cX11_mixRules 17 = .ok (.aload_n 0, 1) := by decide +kernel
theorem dX11_mixRules_18 : decode cX11_mixRules 18 = .ok (.aload_n 0, 1) := by decide +kernel
theorem dX11_mixRules_19 : decode cX11_mixRules 19 = .ok (.iload_n 1, 1) := by decide +kernel
theorem dX11_mixRules_20 : decode cX11_mixRules 20 = .ok (.iload_n 2, 1) := by decide +kernel
theorem dX11_mixRules_21 : decode cX11_mixRules 21 = .ok (.invokevirtual 164, 3) := by decide +kernel
theorem dX11_mixRules_24 : decode cX11_mixRules 24 = .ok (.i2l, 1) := by decide +kernel
theorem dX11_mixRules_25 : decode cX11_mixRules 25 = .ok (.invokevirtual 345, 3) := by decide +kernel
theorem dX11_mixRules_28 : decode cX11_mixRules 28 = .ok (.iinc 2 1, 3) := by decide +kernel
theorem dX11_mixRules_31 : decode cX11_mixRules 31 = .ok (.goto (-19), 3) := by decide +kernel
theorem dX11_mixRules_34 : decode cX11_mixRules 34 = .ok (.iconst 0, 1) := by decide +kernel
theorem dX11_mixRules_35 : decode cX11_mixRules 35 = .ok (.istore_n 2, 1) := by decide +kernel
theorem dX11_mixRules_36 : decode cX11_mixRules 36 = .ok (.iload_n 2, 1) := by decide +kernel
theorem dX11_mixRules_37 : decode cX11_mixRules 37 = .ok (.aload_n 0, 1) := by decide +kernel
theorem dX11_mixRules_38 : decode cX11_mixRules 38 = .ok (.getfield 7, 3) := by decide +kernel
theorem dX11_mixRules_41 : decode cX11_mixRules 41 = .ok (.iload_n 1, 1) := by decide +kernel
theorem dX11_mixRules_42 : decode cX11_mixRules 42 = .ok (.iaload, 1) := by decide +kernel
theorem dX11_mixRules_43 : decode cX11_mixRules 43 = .ok (.if_icmp .ge 24, 3) := by decide +kernel
theorem dX11_mixRules_46 : decode cX11_mixRules 46 = .ok (.aload_n 0, 1) := by decide +kernel
theorem dX11_mixRules_47 : decode cX11_mixRules 47 = .ok (.aload_n 0, 1) := by decide +kernel
theorem dX11_mixRules_48 : decode cX11_mixRules 48 = .ok (.getfield 16, 3) := by decide +kernel
theorem dX11_mixRules_51 : decode cX11_mixRules 51 = .ok (.iconst 3, 1) := by decide +kernel
theorem dX11_mixRules_52 : decode cX11_mixRules 52 = .ok (.iload_n 1, 1) := by decide +kernel
theorem dX11_mixRules_53 : decode cX11_mixRules 53 = .ok (.imul, 1) := by decide +kernel
theorem dX11_mixRules_54 : decode cX11_mixRules 54 = .ok (.iload_n 2, 1) := by decide +kernel
theorem dX11_mixRules_55 : decode cX11_mixRules 55 = .ok (.iadd, 1) := by decide +kernel
theorem dX11_mixRules_56 : decode cX11_mixRules 56 = .ok (.iaload, 1) := by decide +kernel
theorem dX11_mixRules_57 : decode cX11_mixRules 57 = .ok (.i2l, 1) := by decide +kernel
theorem dX11_mixRules_58 : decode cX11_mixRules 58 = .ok (.invokevirtual 345, 3) := by decide +kernel
theorem dX11_mixRules_61 : decode cX11_mixRules 61 = .ok (.iinc 2 1, 3) := by decide +kernel
theorem dX11_mixRules_64 : decode cX11_mixRules 64 = .ok (.goto (-28), 3) := by decide +kernel
theorem dX11_mixRules_67 : decode cX11_mixRules 67 = .ok (.iconst 0, 1) := by decide +kernel
theorem dX11_mixRules_68 : decode cX11_mixRules 68 = .ok (.istore_n 2, 1) := by decide +kernel
theorem dX11_mixRules_69 : decode cX11_mixRules 69 = .ok (.iload_n 2, 1) := by decide +kernel
theorem dX11_mixRules_70 : decode cX11_mixRules 70 = .ok (.aload_n 0, 1) := by decide +kernel
theorem dX11_mixRules_71 : decode cX11_mixRules 71 = .ok (.iload_n 1, 1) := by decide +kernel
theorem dX11_mixRules_72 : decode cX11_mixRules 72 = .ok (.invokevirtual 137, 3) := by decide +kernel
theorem dX11_mixRules_75 : decode cX11_mixRules 75 = .ok (.if_icmp .ge 20, 3) := by decide +kernel
theorem dX11_mixRules_78 : decode cX11_mixRules 78 = .ok (.aload_n 0, 1) := by decide +kernel
theorem dX11_mixRules_79 : decode cX11_mixRules 79 = .ok (.aload_n 0, 1) := by decide +kernel
theorem dX11_mixRules_80 : decode cX11_mixRules 80 = .ok (.iload_n 1, 1) := by decide +kernel
theorem dX11_mixRules_81 : decode cX11_mixRules 81 = .ok (.iload_n 2, 1) := by decide +kernel
theorem dX11_mixRules_82 : decode cX11_mixRules 82 = .ok (.invokevirtual 140, 3) := by decide +kernel
theorem dX11_mixRules_85 : decode cX11_mixRules 85 = .ok (.i2l, 1) := by decide +kernel
theorem dX11_mixRules_86 : decode cX11_mixRules 86 = .ok (.invokevirtual 345, 3) := by decide +kernel
theorem dX11_mixRules_89 : decode cX11_mixRules 89 = .ok (.iinc 2 1, 3) := by decide +kernel
theorem dX11_mixRules_92 : decode cX11_mixRules 92 = .ok (.goto (-23), 3) := by decide +kernel
theorem dX11_mixRules_95 : decode cX11_mixRules 95 = .ok (.iinc 1 1, 3) := by decide +kernel
theorem dX11_mixRules_98 : decode cX11_mixRules 98 = .ok (.goto (-96), 3) := by decide +kernel
theorem dX11_mixRules_101 : decode cX11_mixRules 101 = .ok (.return_, 1) := by decide +kernel
theorem dX11_mixText_0 : decode cX11_mixText 0 = .ok (.iconst 0, 1) := by decide +kernel
theorem dX11_mixText_1 : decode cX11_mixText 1 = .ok (.istore_n 1, 1) := by decide +kernel
theorem dX11_mixText_2 : decode cX11_mixText 2 = .ok (.iload_n 1, 1) := by decide +kernel
theorem dX11_mixText_3 : decode cX11_mixText 3 = .ok (.aload_n 0, 1) := by decide +kernel
theorem dX11_mixText_4 : decode cX11_mixText 4 = .ok (.getfield 118, 3) := by decide +kernel
theorem dX11_mixText_7 : decode cX11_mixText 7 = .ok (.if_icmp .ge 20, 3) := by decide +kernel
theorem dX11_mixText_10 : decode cX11_mixText 10 = .ok (.aload_n 0, 1) := by decide +kernel
theorem dX11_mixText_11 : decode cX11_mixText 11 = .ok (.aload_n 0, 1) := by decide +kernel
theorem dX11_mixText_12 : decode cX11_mixText 12 = .ok (.getfield 22, 3) := by decide +kernel
theorem dX11_mixText_15 : decode cX11_mixText 15 = .ok (.iload_n 1, 1) := by decide +kernel
theorem dX11_mixText_16 : decode cX11_mixText 16 = .ok (.iaload, 1) := by decide +kernel
theorem dX11_mixText_17 : decode cX11_mixText 17 = .ok (.i2l, 1) := by decide +kernel
theorem dX11_mixText_18 : decode cX11_mixText 18 = .ok (.invokevirtual 345, 3) := by decide +kernel
theorem dX11_mixText_21 : decode cX11_mixText 21 = .ok (.iinc 1 1, 3) := by decide +kernel
theorem dX11_mixText_24 : decode cX11_mixText 24 = .ok (.goto (-22), 3) := by decide +kernel
theorem dX11_mixText_27 : decode cX11_mixText 27 = .ok (.aload_n 0, 1) := by decide +kernel
theorem dX11_mixText_28 : decode cX11_mixText 28 = .ok (.invokevirtual 183, 3) := by decide +kernel
theorem dX11_mixText_31 : decode cX11_mixText 31 = .ok (.aload_n 0, 1) := by decide +kernel
theorem dX11_mixText_32 : decode cX11_mixText 32 = .ok (.invokevirtual 186, 3) := by decide +kernel
theorem dX11_mixText_35 : decode cX11_mixText 35 = .ok (.aload_n 0, 1) := by decide +kernel
theorem dX11_mixText_36 : decode cX11_mixText 36 = .ok (.aload_n 0, 1) := by decide +kernel
theorem dX11_mixText_37 : decode cX11_mixText 37 = .ok (.getfield 174, 3) := by decide +kernel
theorem dX11_mixText_40 : decode cX11_mixText 40 = .ok (.i2l, 1) := by decide +kernel
theorem dX11_mixText_41 : decode cX11_mixText 41 = .ok (.invokevirtual 345, 3) := by decide +kernel
theorem dX11_mixText_44 : decode cX11_mixText 44 = .ok (.aload_n 0, 1) := by decide +kernel
theorem dX11_mixText_45 : decode cX11_mixText 45 = .ok (.aload_n 0, 1) := by decide +kernel
theorem dX11_mixText_46 : decode cX11_mixText 46 = .ok (.getfield 177, 3) := by decide +kernel
theorem dX11_mixText_49 : decode cX11_mixText 49 = .ok (.i2l, 1) := by decide +kernel
theorem dX11_mixText_50 : decode cX11_mixText 50 = .ok (.invokevirtual 345, 3) := by decide +kernel
theorem dX11_mixText_53 : decode cX11_mixText 53 = .ok (.iconst 0, 1) := by decide +kernel
theorem dX11_mixText_54 : decode cX11_mixText 54 = .ok (.istore_n 1, 1) := by decide +kernel
theorem dX11_mixText_55 : decode cX11_mixText 55 = .ok (.iload_n 1, 1) := by decide +kernel
theorem dX11_mixText_56 : decode cX11_mixText 56 = .ok (.aload_n 0, 1) := by decide +kernel
theorem dX11_mixText_57 : decode cX11_mixText 57 = .ok (.getfield 174, 3) := by decide +kernel
theorem dX11_mixText_60 : decode cX11_mixText 60 = .ok (.if_icmp .ge 20, 3) := by decide +kernel
theorem dX11_mixText_63 : decode cX11_mixText 63 = .ok (.aload_n 0, 1) := by decide +kernel
theorem dX11_mixText_64 : decode cX11_mixText 64 = .ok (.aload_n 0, 1) := by decide +kernel
theorem dX11_mixText_65 : decode cX11_mixText 65 = .ok (.getfield 52, 3) := by decide +kernel
theorem dX11_mixText_68 : decode cX11_mixText 68 = .ok (.iload_n 1, 1) := by decide +kernel
theorem dX11_mixText_69 : decode cX11_mixText 69 = .ok (.iaload, 1) := by decide +kernel
theorem dX11_mixText_70 : decode cX11_mixText 70 = .ok (.i2l, 1) := by decide +kernel
theorem dX11_mixText_71 : decode cX11_mixText 71 = .ok (.invokevirtual 345, 3) := by decide +kernel
theorem dX11_mixText_74 : decode cX11_mixText 74 = .ok (.iinc 1 1, 3) := by decide +kernel
theorem dX11_mixText_77 : decode cX11_mixText 77 = .ok (.goto (-22), 3) := by decide +kernel
theorem dX11_mixText_80 : decode cX11_mixText 80 = .ok (.aload_n 0, 1) := by decide +kernel
theorem dX11_mixText_81 : decode cX11_mixText 81 = .ok (.invokevirtual 195, 3) := by decide +kernel
theorem dX11_mixText_84 : decode cX11_mixText 84 = .ok (.aload_n 0, 1) := by decide +kernel
theorem dX11_mixText_85 : decode cX11_mixText 85 = .ok (.aload_n 0, 1) := by decide +kernel
theorem dX11_mixText_86 : decode cX11_mixText 86 = .ok (.getfield 46, 3) := by decide +kernel
theorem dX11_mixText_89 : decode cX11_mixText 89 = .ok (.iconst 0, 1) := by decide +kernel
theorem dX11_mixText_90 : decode cX11_mixText 90 = .ok (.iaload, 1) := by decide +kernel
theorem dX11_mixText_91 : decode cX11_mixText 91 = .ok (.i2l, 1) := by decide +kernel
theorem dX11_mixText_92 : decode cX11_mixText 92 = .ok (.invokevirtual 345, 3) := by decide +kernel
theorem dX11_mixText_95 : decode cX11_mixText 95 = .ok (.iconst 0, 1) := by decide +kernel
theorem dX11_mixText_96 : decode cX11_mixText 96 = .ok (.istore_n 1, 1) := by decide +kernel
theorem dX11_mixText_97 : decode cX11_mixText 97 = .ok (.aload_n 0, 1) := by decide +kernel
theorem dX11_mixText_98 : decode cX11_mixText 98 = .ok (.iconst 0, 1) := by decide +kernel
theorem dX11_mixText_99 : decode cX11_mixText 99 = .ok (.iload_n 1, 1) := by decide +kernel
theorem dX11_mixText_100 : decode cX11_mixText 100 = .ok (.invokevirtual 201, 3) := by decide +kernel
theorem dX11_mixText_103 : decode cX11_mixText 103 = .ok (.iconst (-1), 1) := by decide +kernel
theorem dX11_mixText_104 : decode cX11_mixText 104 = .ok (.if_icmp .eq 20, 3) := by decide +kernel
theorem dX11_mixText_107 : decode cX11_mixText 107 = .ok (.aload_n 0, 1) := by decide +kernel
theorem dX11_mixText_108 : decode cX11_mixText 108 = .ok (.aload_n 0, 1) := by decide +kernel
theorem dX11_mixText_109 : decode cX11_mixText 109 = .ok (.iconst 0, 1) := by decide +kernel
theorem dX11_mixText_110 : decode cX11_mixText 110 = .ok (.iload_n 1, 1) := by decide +kernel
theorem dX11_mixText_111 : decode cX11_mixText 111 = .ok (.invokevirtual 201, 3) := by decide +kernel
theorem dX11_mixText_114 : decode cX11_mixText 114 = .ok (.i2l, 1) := by decide +kernel
theorem dX11_mixText_115 : decode cX11_mixText 115 = .ok (.invokevirtual 345, 3) := by decide +kernel
theorem dX11_mixText_118 : decode cX11_mixText 118 = .ok (.iinc 1 1, 3) := by decide +kernel
theorem dX11_mixText_121 : decode cX11_mixText 121 = .ok (.goto (-24), 3) := by decide +kernel
theorem dX11_mixText_124 : decode cX11_mixText 124 = .ok (.return_, 1) := by decide +kernel
theorem dX11_mixClash_0 : decode cX11_mixClash 0 = .ok (.iconst 0, 1) := by decide +kernel
theorem dX11_mixClash_1 : decode cX11_mixClash 1 = .ok (.istore_n 1, 1) := by decide +kernel
theorem dX11_mixClash_2 : decode cX11_mixClash 2 = .ok (.iload_n 1, 1) := by decide +kernel
theorem dX11_mixClash_3 : decode cX11_mixClash 3 = .ok (.bipush 6, 2) := by decide +kernel
theorem dX11_mixClash_5 : decode cX11_mixClash 5 = .ok (.if_icmp .ge 19, 3) := by decide +kernel
theorem dX11_mixClash_8 : decode cX11_mixClash 8 = .ok (.aload_n 0, 1) := by decide +kernel
theorem dX11_mixClash_9 : decode cX11_mixClash 9 = .ok (.aload_n 0, 1) := by decide +kernel
theorem dX11_mixClash_10 : decode cX11_mixClash 10 = .ok (.iload_n 1, 1) := by decide +kernel
theorem dX11_mixClash_11 : decode cX11_mixClash 11 = .ok (.invokevirtual 297, 3) := by decide +kernel
theorem dX11_mixClash_14 : decode cX11_mixClash 14 = .ok (.i2l, 1) := by decide +kernel
theorem dX11_mixClash_15 : decode cX11_mixClash 15 = .ok (.invokevirtual 345, 3) := by decide +kernel
theorem dX11_mixClash_18 : decode cX11_mixClash 18 = .ok (.iinc 1 1, 3) := by decide +kernel
theorem dX11_mixClash_21 : decode cX11_mixClash 21 = .ok (.goto (-19), 3) := by decide +kernel
theorem dX11_mixClash_24 : decode cX11_mixClash 24 = .ok (.aload_n 0, 1) := by decide +kernel
theorem dX11_mixClash_25 : decode cX11_mixClash 25 = .ok (.invokevirtual 282, 3) := by decide +kernel
theorem dX11_mixClash_28 : decode cX11_mixClash 28 = .ok (.iconst 0, 1) := by decide +kernel
theorem dX11_mixClash_29 : decode cX11_mixClash 29 = .ok (.istore_n 1, 1) := by decide +kernel
theorem dX11_mixClash_30 : decode cX11_mixClash 30 = .ok (.iload_n 1, 1) := by decide +kernel
theorem dX11_mixClash_31 : decode cX11_mixClash 31 = .ok (.aload_n 0, 1) := by decide +kernel
theorem dX11_mixClash_32 : decode cX11_mixClash 32 = .ok (.getfield 269, 3) := by decide +kernel
theorem dX11_mixClash_35 : decode cX11_mixClash 35 = .ok (.if_icmp .ge 20, 3) := by decide +kernel
theorem dX11_mixClash_38 : decode cX11_mixClash 38 = .ok (.aload_n 0, 1) := by decide +kernel
theorem dX11_mixClash_39 : decode cX11_mixClash 39 = .ok (.aload_n 0, 1) := by decide +kernel
theorem dX11_mixClash_40 : decode cX11_mixClash 40 = .ok (.getfield 68, 3) := by decide +kernel
theorem dX11_mixClash_43 : decode cX11_mixClash 43 = .ok (.iload_n 1, 1) := by decide +kernel
theorem dX11_mixClash_44 : decode cX11_mixClash 44 = .ok (.iaload, 1) := by decide +kernel
theorem dX11_mixClash_45 : decode cX11_mixClash 45 = .ok (.i2l, 1) := by decide +kernel
theorem dX11_mixClash_46 : decode cX11_mixClash 46 = .ok (.invokevirtual 345, 3) := by decide +kernel
theorem dX11_mixClash_49 : decode cX11_mixClash 49 = .ok (.iinc 1 1, 3) := by decide +kernel
theorem dX11_mixClash_52 : decode cX11_mixClash 52 = .ok (.goto (-22), 3) := by decide +kernel
theorem dX11_mixClash_55 : decode cX11_mixClash 55 = .ok (.iconst 0, 1) := by decide +kernel
theorem dX11_mixClash_56 : decode cX11_mixClash 56 = .ok (.istore_n 1, 1) := by decide +kernel
theorem dX11_mixClash_57 : decode cX11_mixClash 57 = .ok (.iload_n 1, 1) := by decide +kernel
theorem dX11_mixClash_58 : decode cX11_mixClash 58 = .ok (.iconst 2, 1) := by decide +kernel
theorem dX11_mixClash_59 : decode cX11_mixClash 59 = .ok (.if_icmp .ge 46, 3) := by decide +kernel
theorem dX11_mixClash_62 : decode cX11_mixClash 62 = .ok (.aload_n 0, 1) := by decide +kernel
theorem dX11_mixClash_63 : decode cX11_mixClash 63 = .ok (.getfield 269, 3) := by decide +kernel
theorem dX11_mixClash_66 : decode cX11_mixClash 66 = .ok (.iconst (-1), 1) := by decide +kernel
theorem dX11_mixClash_67 : decode cX11_mixClash 67 = .ok (.if_icmp .eq 38, 3) := by decide +kernel
theorem dX11_mixClash_70 : decode cX11_mixClash 70 = .ok (.iconst 0, 1) := by decide +kernel
theorem dX11_mixClash_71 : decode cX11_mixClash 71 = .ok (.istore_n 2, 1) := by decide +kernel
theorem dX11_mixClash_72 : decode cX11_mixClash 72 = .ok (.aload_n 0, 1) := by decide +kernel
theorem dX11_mixClash_73 : decode cX11_mixClash 73 = .ok (.iload_n 1, 1) := by decide +kernel
theorem dX11_mixClash_74 : decode cX11_mixClash 74 = .ok (.iload_n 2, 1) := by decide +kernel
theorem dX11_mixClash_75 : decode cX11_mixClash 75 = .ok (.invokevirtual 201, 3) := by decide +kernel
theorem dX11_mixClash_78 : decode cX11_mixClash 78 = .ok (.iconst (-1), 1) := by decide +kernel
theorem dX11_mixClash_79 : decode cX11_mixClash 79 = .ok (.if_icmp .eq 20, 3) := by decide +kernel
theorem dX11_mixClash_82 : decode cX11_mixClash 82 = .ok (.aload_n 0, 1) := by decide +kernel
theorem dX11_mixClash_83 : decode cX11_mixClash 83 = .ok (.aload_n 0, 1) := by decide +kernel
theorem dX11_mixClash_84 : decode cX11_mixClash 84 = .ok (.iload_n 1, 1) := by decide +kernel
theorem dX11_mixClash_85 : decode cX11_mixClash 85 = .ok (.iload_n 2, 1) := by decide +kernel
theorem dX11_mixClash_86 : decode cX11_mixClash 86 = .ok (.invokevirtual 201, 3) := by decide +kernel
theorem dX11_mixClash_89 : decode cX11_mixClash 89 = .ok (.i2l, 1) := by decide +kernel
theorem dX11_mixClash_90 : decode cX11_mixClash 90 = .ok (.invokevirtual 345, 3) := by decide +kernel
theorem dX11_mixClash_93 : decode cX11_mixClash 93 = .ok (.iinc 2 1, 3) := by decide +kernel
theorem dX11_mixClash_96 : decode cX11_mixClash 96 = .ok (.goto (-24), 3) := by decide +kernel
theorem dX11_mixClash_99 : decode cX11_mixClash 99 = .ok (.iinc 1 1, 3) := by decide +kernel
theorem dX11_mixClash_102 : decode cX11_mixClash 102 = .ok (.goto (-45), 3) := by decide +kernel
theorem dX11_mixClash_105 : decode cX11_mixClash 105 = .ok (.return_, 1) := by decide +kernel
theorem dX11_mixAheads_0 : decode cX11_mixAheads 0 = .ok (.aload_n 0, 1) := by decide +kernel
theorem dX11_mixAheads_1 : decode cX11_mixAheads 1 = .ok (.invokevirtual 291, 3) := by decide +kernel
theorem dX11_mixAheads_4 : decode cX11_mixAheads 4 = .ok (.istore_n 1, 1) := by decide +kernel
theorem dX11_mixAheads_5 : decode cX11_mixAheads 5 = .ok (.iconst 0, 1) := by decide +kernel
theorem dX11_mixAheads_6 : decode cX11_mixAheads 6 = .ok (.istore_n 2, 1) := by decide +kernel
theorem dX11_mixAheads_7 : decode cX11_mixAheads 7 = .ok (.iload_n 2, 1) := by decide +kernel
theorem dX11_mixAheads_8 : decode cX11_mixAheads 8 = .ok (.iload_n 1, 1) := by decide +kernel
theorem dX11_mixAheads_9 : decode cX11_mixAheads 9 = .ok (.if_icmp .ge 46, 3) := by decide +kernel
theorem dX11_mixAheads_12 : decode cX11_mixAheads 12 = .ok (.aload_n 0, 1) := by decide +kernel
theorem dX11_mixAheads_13 : decode cX11_mixAheads 13 = .ok (.iload_n 2, 1) := by decide +kernel
theorem dX11_mixAheads_14 : decode cX11_mixAheads 14 = .ok (.invokevirtual 245, 3) := by decide +kernel
theorem dX11_mixAheads_17 : decode cX11_mixAheads 17 = .ok (.istore_n 3, 1) := by decide +kernel
theorem dX11_mixAheads_18 : decode cX11_mixAheads 18 = .ok (.iconst 0, 1) := by decide +kernel
theorem dX11_mixAheads_19 : decode cX11_mixAheads 19 = .ok (.istore 4, 2) := by decide +kernel
theorem dX11_mixAheads_21 : decode cX11_mixAheads 21 = .ok (.iload 4, 2) := by decide +kernel
theorem dX11_mixAheads_23 : decode cX11_mixAheads 23 = .ok (.aload_n 0, 1) := by decide +kernel
theorem dX11_mixAheads_24 : decode cX11_mixAheads 24 = .ok (.iload_n 3, 1) := by decide +kernel
theorem dX11_mixAheads_25 : decode cX11_mixAheads 25 = .ok (.invokevirtual 207, 3) := by decide +kernel
theorem dX11_mixAheads_28 : decode cX11_mixAheads 28 = .ok (.if_icmp .ge 21, 3) := by decide +kernel
theorem dX11_mixAheads_31 : decode cX11_mixAheads 31 = .ok (.aload_n 0, 1) := by decide +kernel
theorem dX11_mixAheads_32 : decode cX11_mixAheads 32 = .ok (.aload_n 0, 1) := by decide +kernel
theorem dX11_mixAheads_33 : decode cX11_mixAheads 33 = .ok (.iload_n 3, 1) := by decide +kernel
theorem dX11_mixAheads_34 : decode cX11_mixAheads 34 = .ok (.iload 4, 2) := by decide +kernel
theorem dX11_mixAheads_36 : decode cX11_mixAheads 36 = .ok (.invokevirtual 210, 3) := by decide +kernel
theorem dX11_mixAheads_39 : decode cX11_mixAheads 39 = .ok (.i2l, 1) := by decide +kernel
theorem dX11_mixAheads_40 : decode cX11_mixAheads 40 = .ok (.invokevirtual 345, 3) := by decide +kernel
theorem dX11_mixAheads_43 : decode cX11_mixAheads 43 = .ok (.iinc 4 1, 3) := by decide +kernel
theorem dX11_mixAheads_46 : decode cX11_mixAheads 46 = .ok (.goto (-25), 3) := by decide +kernel
theorem dX11_mixAheads_49 : decode cX11_mixAheads 49 = .ok (.iinc 2 1, 3) := by decide +kernel
theorem dX11_mixAheads_52 : decode cX11_mixAheads 52 = .ok (.goto (-45), 3) := by decide +kernel
theorem dX11_mixAheads_55 : decode cX11_mixAheads 55 = .ok (.aload_n 0, 1) := by decide +kernel
theorem dX11_mixAheads_56 : decode cX11_mixAheads 56 = .ok (.invokevirtual 306, 3) := by decide +kernel
theorem dX11_mixAheads_59 : decode cX11_mixAheads 59 = .ok (.istore_n 2, 1) := by decide +kernel
theorem dX11_mixAheads_60 : decode cX11_mixAheads 60 = .ok (.aload_n 0, 1) := by decide +kernel
theorem dX11_mixAheads_61 : decode cX11_mixAheads 61 = .ok (.iload_n 2, 1) := by decide +kernel
theorem dX11_mixAheads_62 : decode cX11_mixAheads 62 = .ok (.iconst (-1), 1) := by decide +kernel
theorem dX11_mixAheads_63 : decode cX11_mixAheads 63 = .ok (.if_icmp .ne 9, 3) := by decide +kernel
theorem dX11_mixAheads_66 : decode cX11_mixAheads 66 = .ok (.ldc2_w 349, 3) := by decide +kernel
theorem dX11_mixAheads_69 : decode cX11_mixAheads 69 = .ok (.goto 8, 3) := by decide +kernel
theorem dX11_mixAheads_72 : decode cX11_mixAheads 72 = .ok (.iload_n 2, 1) := by decide +kernel
theorem dX11_mixAheads_73 : decode cX11_mixAheads 73 = .ok (.invokestatic 303, 3) := by decide +kernel
theorem dX11_mixAheads_76 : decode cX11_mixAheads 76 = .ok (.i2l, 1) := by decide +kernel
theorem dX11_mixAheads_77 : decode cX11_mixAheads 77 = .ok (.invokevirtual 345, 3) := by decide +kernel
theorem dX11_mixAheads_80 : decode cX11_mixAheads 80 = .ok (.aload_n 0, 1) := by decide +kernel
theorem dX11_mixAheads_81 : decode cX11_mixAheads 81 = .ok (.iload_n 2, 1) := by decide +kernel
theorem dX11_mixAheads_82 : decode cX11_mixAheads 82 = .ok (.i2l, 1) := by decide +kernel
theorem dX11_mixAheads_83 : decode cX11_mixAheads 83 = .ok (.invokevirtual 345, 3) := by decide +kernel
theorem dX11_mixAheads_86 : decode cX11_mixAheads 86 = .ok (.return_, 1) := by decide +kernel
theorem dX11_digest_0 : decode cX11_digest 0 = .ok (.aload_n 0, 1) := by decide +kernel
theorem dX11_digest_1 : decode cX11_digest 1 = .ok (.ldc2_w 351, 3) := by decide +kernel
theorem dX11_digest_4 : decode cX11_digest 4 = .ok (.putfield 342, 3) := by decide +kernel
theorem dX11_digest_7 : decode cX11_digest 7 = .ok (.aload_n 0, 1) := by decide +kernel
theorem dX11_digest_8 : decode cX11_digest 8 = .ok (.invokevirtual 353, 3) := by decide +kernel
theorem dX11_digest_11 : decode cX11_digest 11 = .ok (.aload_n 0, 1) := by decide +kernel
theorem dX11_digest_12 : decode cX11_digest 12 = .ok (.invokevirtual 356, 3) := by decide +kernel
theorem dX11_digest_15 : decode cX11_digest 15 = .ok (.aload_n 0, 1) := by decide +kernel
theorem dX11_digest_16 : decode cX11_digest 16 = .ok (.invokevirtual 359, 3) := by decide +kernel
theorem dX11_digest_19 : decode cX11_digest 19 = .ok (.aload_n 0, 1) := by decide +kernel
theorem dX11_digest_20 : decode cX11_digest 20 = .ok (.invokevirtual 362, 3) := by decide +kernel
theorem dX11_digest_23 : decode cX11_digest 23 = .ok (.iconst 0, 1) := by decide +kernel
theorem dX11_digest_24 : decode cX11_digest 24 = .ok (.istore_n 1, 1) := by decide +kernel
theorem dX11_digest_25 : decode cX11_digest 25 = .ok (.iload_n 1, 1) := by decide +kernel
theorem dX11_digest_26 : decode cX11_digest 26 = .ok (.aload_n 0, 1) := by decide +kernel
theorem dX11_digest_27 : decode cX11_digest 27 = .ok (.getfield 75, 3) := by decide +kernel
theorem dX11_digest_30 : decode cX11_digest 30 = .ok (.if_icmp .ge 20, 3) := by decide +kernel
theorem dX11_digest_33 : decode cX11_digest 33 = .ok (.aload_n 0, 1) := by decide +kernel
theorem dX11_digest_34 : decode cX11_digest 34 = .ok (.aload_n 0, 1) := by decide +kernel
theorem dX11_digest_35 : decode cX11_digest 35 = .ok (.getfield 25, 3) := by decide +kernel
theorem dX11_digest_38 : decode cX11_digest 38 = .ok (.iload_n 1, 1) := by decide +kernel
theorem dX11_digest_39 : decode cX11_digest 39 = .ok (.iaload, 1) := by decide +kernel
theorem dX11_digest_40 : decode cX11_digest 40 = .ok (.i2l, 1) := by decide +kernel
theorem dX11_digest_41 : decode cX11_digest 41 = .ok (.invokevirtual 345, 3) := by decide +kernel
theorem dX11_digest_44 : decode cX11_digest 44 = .ok (.iinc 1 1, 3) := by decide +kernel
theorem dX11_digest_47 : decode cX11_digest 47 = .ok (.goto (-22), 3) := by decide +kernel
theorem dX11_digest_50 : decode cX11_digest 50 = .ok (.iconst 0, 1) := by decide +kernel
theorem dX11_digest_51 : decode cX11_digest 51 = .ok (.istore_n 1, 1) := by decide +kernel
theorem dX11_digest_52 : decode cX11_digest 52 = .ok (.iload_n 1, 1) := by decide +kernel
theorem dX11_digest_53 : decode cX11_digest 53 = .ok (.bipush 7, 2) := by decide +kernel
theorem dX11_digest_55 : decode cX11_digest 55 = .ok (.if_icmp .ge 19, 3) := by decide +kernel
theorem dX11_digest_58 : decode cX11_digest 58 = .ok (.aload_n 0, 1) := by decide +kernel
theorem dX11_digest_59 : decode cX11_digest 59 = .ok (.aload_n 0, 1) := by decide +kernel
theorem dX11_digest_60 : decode cX11_digest 60 = .ok (.iload_n 1, 1) := by decide +kernel
theorem dX11_digest_61 : decode cX11_digest 61 = .ok (.invokevirtual 337, 3) := by decide +kernel
theorem dX11_digest_64 : decode cX11_digest 64 = .ok (.i2l, 1) := by decide +kernel
theorem dX11_digest_65 : decode cX11_digest 65 = .ok (.invokevirtual 345, 3) := by decide +kernel
theorem dX11_digest_68 : decode cX11_digest 68 = .ok (.iinc 1 1, 3) := by decide +kernel
theorem dX11_digest_71 : decode cX11_digest 71 = .ok (.goto (-19), 3) := by decide +kernel
theorem dX11_digest_74 : decode cX11_digest 74 = .ok (.aload_n 0, 1) := by decide +kernel
theorem dX11_digest_75 : decode cX11_digest 75 = .ok (.getfield 342, 3) := by decide +kernel
theorem dX11_digest_78 : decode cX11_digest 78 = .ok (.lreturn, 1) := by decide +kernel
end
section
theorem dL_law_0 : decode cL_law 0 = .ok (.new 7, 3) := by decide +kernel
theorem dL_law_3 : decode cL_law 3 = .ok (.dup, 1) := by decide +kernel
theorem dL_law_4 : decode cL_law 4 = .ok (.invokespecial 9, 3) := by decide +kernel
theorem dL_law_7 : decode cL_law 7 = .ok (.astore_n 1, 1) := by decide +kernel
theorem dL_law_8 : decode cL_law 8 = .ok (.new 10, 3) := by decide +kernel
theorem dL_law_11 : decode cL_law 11 = .ok (.dup, 1) := by decide +kernel
theorem dL_law_12 : decode cL_law 12 = .ok (.invokespecial 12, 3) := by decide +kernel
theorem dL_law_15 : decode cL_law 15 = .ok (.astore_n 2, 1) := by decide +kernel
theorem dL_law_16 : decode cL_law 16 = .ok (.iconst 0, 1) := by decide +kernel
theorem dL_law_17 : decode cL_law 17 = .ok (.istore_n 3, 1) := by decide +kernel
theorem dL_law_18 : decode cL_law 18 = .ok (.iload_n 3, 1) := by decide +kernel
theorem dL_law_19 : decode cL_law 19 = .ok (.aload_n 0, 1) := by decide +kernel
theorem dL_law_20 : decode cL_law 20 = .ok (.arraylength, 1) := by decide +kernel
theorem dL_law_21 : decode cL_law 21 = .ok (.iconst 4, 1) := by decide +kernel
theorem dL_law_22 : decode cL_law 22 = .ok (.isub, 1) := by decide +kernel
theorem dL_law_23 : decode cL_law 23 = .ok (.if_icmp .gt 680, 3) := by decide +kernel
theorem dL_law_26 : decode cL_law 26 = .ok (.aload_n 0, 1) := by decide +kernel
theorem dL_law_27 : decode cL_law 27 = .ok (.iload_n 3, 1) := by decide +kernel
theorem dL_law_28 : decode cL_law 28 = .ok (.iaload, 1) := by decide +kernel
theorem dL_law_29 : decode cL_law 29 = .ok (.bipush 31, 2) := by decide +kernel
theorem dL_law_31 : decode cL_law 31 = .ok (.iand, 1) := by decide +kernel
theorem dL_law_32 : decode cL_law 32 = .ok (.tableswitch 665 0 23 #[112, 135, 148, 161, 174, 187, 200, 223, 246, 279, 322, 345, 368, 391, 404, 427, 450, 473, 506, 529, 562, 585, 628, 651], 112) := by decide +kernel
theorem dL_law_144 : decode cL_law 144 = .ok (.aload_n 1, 1) := by decide +kernel
theorem dL_law_145 : decode cL_law 145 = .ok (.aload_n 0, 1) := by decide +kernel
theorem dL_law_146 : decode cL_law 146 = .ok (.iload_n 3, 1) := by decide +kernel
theorem dL_law_147 : decode cL_law 147 = .ok (.iconst 1, 1) := by decide +kernel
theorem dL_law_148 : decode cL_law 148 = .ok (.iadd, 1) := by decide +kernel
theorem dL_law_149 : decode cL_law 149 = .ok (.iaload, 1) := by decide +kernel
theorem dL_law_150 : decode cL_law 150 = .ok (.invokevirtual 13, 3) := by decide +kernel
theorem dL_law_153 : decode cL_law 153 = .ok (.aload_n 2, 1) := by decide +kernel
theorem dL_law_154 : decode cL_law 154 = .ok (.aload_n 0, 1) := by decide +kernel
theorem dL_law_155 : decode cL_law 155 = .ok (.iload_n 3, 1) := by decide +kernel
theorem dL_law_156 : decode cL_law 156 = .ok (.iconst 1, 1) := by decide +kernel
theorem dL_law_157 : decode cL_law 157 = .ok (.iadd, 1) := by decide +kernel
theorem dL_law_158 : decode cL_law 158 = .ok (.iaload, 1) := by decide +kernel
theorem dL_law_159 : decode cL_law 159 = .ok (.invokevirtual 17, 3) := by decide +kernel
theorem dL_law_162 : decode cL_law 162 = .ok (.if_icmp .eq 535, 3) := by decide +kernel
theorem dL_law_165 : decode cL_law 165 = .ok (.iconst 0, 1) := by decide +kernel
theorem dL_law_166 : decode cL_law 166 = .ok (.ireturn, 1) := by decide +kernel
theorem dL_law_167 : decode cL_law 167 = .ok (.aload_n 1, 1) := by decide +kernel
theorem dL_law_168 : decode cL_law 168 = .ok (.invokevirtual 18, 3) := by decide +kernel
theorem dL_law_171 : decode cL_law 171 = .ok (.aload_n 2, 1) := by decide +kernel
theorem dL_law_172 : decode cL_law 172 = .ok (.invokevirtual 22, 3) := by decide +kernel
theorem dL_law_175 : decode cL_law 175 = .ok (.if_icmp .eq 522, 3) := by decide +kernel
theorem dL_law_178 : decode cL_law 178 = .ok (.iconst 0, 1) := by decide +kernel
theorem dL_law_179 : decode cL_law 179 = .ok (.ireturn, 1) := by decide +kernel
theorem dL_law_180 : decode cL_law 180 = .ok (.aload_n 1, 1) := by decide +kernel
theorem dL_law_181 : decode cL_law 181 = .ok (.invokevirtual 23, 3) := by decide +kernel
theorem dL_law_184 : decode cL_law 184 = .ok (.aload_n 2, 1) := by decide +kernel
theorem dL_law_185 : decode cL_law 185 = .ok (.invokevirtual 26, 3) := by decide +kernel
theorem dL_law_188 : decode cL_law 188 = .ok (.if_icmp .eq 509, 3) := by decide +kernel
theorem dL_law_191 : decode cL_law 191 = .ok (.iconst 0, 1) := by decide +kernel
theorem dL_law_192 : decode cL_law 192 = .ok (.ireturn, 1) := by decide +kernel
theorem dL_law_193 : decode cL_law 193 = .ok (.aload_n 1, 1) := by decide +kernel
theorem dL_law_194 : decode cL_law 194 = .ok (.invokevirtual 27, 3) := by decide +kernel
theorem dL_law_197 : decode cL_law 197 = .ok (.aload_n 2, 1) := by decide +kernel
theorem dL_law_198 : decode cL_law 198 = .ok (.invokevirtual 30, 3) := by decide +kernel
theorem dL_law_201 : decode cL_law 201 = .ok (.if_icmp .eq 496, 3) := by decide +kernel
theorem dL_law_204 : decode cL_law 204 = .ok (.iconst 0, 1) := by decide +kernel
theorem dL_law_205 : decode cL_law 205 = .ok (.ireturn, 1) := by decide +kernel
theorem dL_law_206 : decode cL_law 206 = .ok (.aload_n 1, 1) := by decide +kernel
theorem dL_law_207 : decode cL_law 207 = .ok (.invokevirtual 31, 3) := by decide +kernel
theorem dL_law_210 : decode cL_law 210 = .ok (.aload_n 2, 1) := by decide +kernel
theorem dL_law_211 : decode cL_law 211 = .ok (.invokevirtual 34, 3) := by decide +kernel
theorem dL_law_214 : decode cL_law 214 = .ok (.if_icmp .eq 483, 3) := by decide +kernel
theorem dL_law_217 : decode cL_law 217 = .ok (.iconst 0, 1) := by decide +kernel
theorem dL_law_218 : decode cL_law 218 = .ok (.ireturn, 1) := by decide +kernel
theorem dL_law_219 : decode cL_law 219 = .ok (.aload_n 1, 1) := by decide +kernel
theorem dL_law_220 : decode cL_law 220 = .ok (.invokevirtual 35, 3) := by decide +kernel
theorem dL_law_223 : decode cL_law 223 = .ok (.aload_n 2, 1) := by decide +kernel
theorem dL_law_224 : decode cL_law 224 = .ok (.invokevirtual 38, 3) := by decide +kernel
theorem dL_law_227 : decode cL_law 227 = .ok (.if_icmp .eq 470, 3) := by decide +kernel
theorem dL_law_230 : decode cL_law 230 = .ok (.iconst 0, 1) := by decide +kernel
theorem dL_law_231 : decode cL_law 231 = .ok (.ireturn, 1) := by decide +kernel
theorem dL_law_232 : decode cL_law 232 = .ok (.aload_n 1, 1) := by decide +kernel
theorem dL_law_233 : decode cL_law 233 = .ok (.aload_n 0, 1) := by decide +kernel
theorem dL_law_234 : decode cL_law 234 = .ok (.iload_n 3, 1) := by decide +kernel
theorem dL_law_235 : decode cL_law 235 = .ok (.iconst 1, 1) := by decide +kernel
theorem dL_law_236 : decode cL_law 236 = .ok (.iadd, 1) := by decide +kernel
theorem dL_law_237 : decode cL_law 237 = .ok (.iaload, 1) := by decide +kernel
theorem dL_law_238 : decode cL_law 238 = .ok (.invokevirtual 39, 3) := by decide +kernel
theorem dL_law_241 : decode cL_law 241 = .ok (.aload_n 2, 1) := by decide +kernel
theorem dL_law_242 : decode cL_law 242 = .ok (.aload_n 0, 1) := by decide +kernel
theorem dL_law_243 : decode cL_law 243 = .ok (.iload_n 3, 1) := by decide +kernel
theorem dL_law_244 : decode cL_law 244 = .ok (.iconst 1, 1) := by decide +kernel
theorem dL_law_245 : decode cL_law 245 = .ok (.iadd, 1) := by decide +kernel
theorem dL_law_246 : decode cL_law 246 = .ok (.iaload, 1) := by decide +kernel
theorem dL_law_247 : decode cL_law 247 = .ok (.invokevirtual 42, 3) := by decide +kernel
theorem dL_law_250 : decode cL_law 250 = .ok (.if_icmp .eq 447, 3) := by decide +kernel
theorem dL_law_253 : decode cL_law 253 = .ok (.iconst 0, 1) := by decide +kernel
theorem dL_law_254 : decode cL_law 254 = .ok (.ireturn, 1) := by decide +kernel
theorem dL_law_255 : decode cL_law 255 = .ok (.aload_n 1, 1) := by decide +kernel
theorem dL_law_256 : decode cL_law 256 = .ok (.aload_n 0, 1) := by decide +kernel
theorem dL_law_257 : decode cL_law 257 = .ok (.iload_n 3, 1) := by decide +kernel
theorem dL_law_258 : decode cL_law 258 = .ok (.iconst 1, 1) := by decide +kernel
theorem dL_law_259 : decode cL_law 259 = .ok (.iadd, 1) := by decide +kernel
theorem dL_law_260 : decode cL_law 260 = .ok (.iaload, 1) := by decide +kernel
theorem dL_law_261 : decode cL_law 261 = .ok (.invokevirtual 43, 3) := by decide +kernel
theorem dL_law_264 : decode cL_law 264 = .ok (.aload_n 2, 1) := by decide +kernel
theorem dL_law_265 : decode cL_law 265 = .ok (.aload_n 0, 1) := by decide +kernel
theorem dL_law_266 : decode cL_law 266 = .ok (.iload_n 3, 1) := by decide +kernel
theorem dL_law_267 : decode cL_law 267 = .ok (.iconst 1, 1) := by decide +kernel
theorem dL_law_268 : decode cL_law 268 = .ok (.iadd, 1) := by decide +kernel
theorem dL_law_269 : decode cL_law 269 = .ok (.iaload, 1) := by decide +kernel
theorem dL_law_270 : decode cL_law 270 = .ok (.invokevirtual 46, 3) := by decide +kernel
theorem dL_law_273 : decode cL_law 273 = .ok (.if_icmp .eq 424, 3) := by decide +kernel
theorem dL_law_276 : decode cL_law 276 = .ok (.iconst 0, 1) := by decide +kernel
theorem dL_law_277 : decode cL_law 277 = .ok (.ireturn, 1) := by decide +kernel
theorem dL_law_278 : decode cL_law 278 = .ok (.aload_n 1, 1) := by decide +kernel
theorem dL_law_279 : decode cL_law 279 = .ok (.aload_n 0, 1) := by decide +kernel
theorem dL_law_280 : decode cL_law 280 = .ok (.iload_n 3, 1) := by decide +kernel
theorem dL_law_281 : decode cL_law 281 = .ok (.iconst 1, 1) := by decide +kernel
theorem dL_law_282 : decode cL_law 282 = .ok (.iadd, 1) := by decide +kernel
theorem dL_law_283 : decode cL_law 283 = .ok (.iaload, 1) := by decide +kernel
theorem dL_law_284 : decode cL_law 284 = .ok (.aload_n 0, 1) := by decide +kernel
theorem dL_law_285 : decode cL_law 285 = .ok (.iload_n 3, 1) := by decide +kernel
theorem dL_law_286 : decode cL_law 286 = .ok (.iconst 2, 1) := by decide +kernel
theorem dL_law_287 : decode cL_law 287 = .ok (.iadd, 1) := by decide +kernel
theorem dL_law_288 : decode cL_law 288 = .ok (.iaload, 1) := by decide +kernel
theorem dL_law_289 : decode cL_law 289 = .ok (.invokevirtual 47, 3) := by decide +kernel
theorem dL_law_292 : decode cL_law 292 = .ok (.aload_n 2, 1) := by decide +kernel
theorem dL_law_293 : decode cL_law 293 = .ok (.aload_n 0, 1) := by decide +kernel
theorem dL_law_294 : decode cL_law 294 = .ok (.iload_n 3, 1) := by decide +kernel
theorem dL_law_295 : decode cL_law 295 = .ok (.iconst 1, 1) := by decide +kernel
theorem dL_law_296 : decode cL_law 296 = .ok (.iadd, 1) := by decide +kernel
theorem dL_law_297 : decode cL_law 297 = .ok (.iaload, 1) := by decide +kernel
theorem dL_law_298 : decode cL_law 298 = .ok (.aload_n 0, 1) := by decide +kernel
theorem dL_law_299 : decode cL_law 299 = .ok (.iload_n 3, 1) := by decide +kernel
theorem dL_law_300 : decode cL_law 300 = .ok (.iconst 2, 1) := by decide +kernel
theorem dL_law_301 : decode cL_law 301 = .ok (.iadd, 1) := by decide +kernel
theorem dL_law_302 : decode cL_law 302 = .ok (.iaload, 1) := by decide +kernel
theorem dL_law_303 : decode cL_law 303 = .ok (.invokevirtual 51, 3) := by decide +kernel
theorem dL_law_306 : decode cL_law 306 = .ok (.if_icmp .eq 391, 3) := by decide +kernel
theorem dL_law_309 : decode cL_law 309 = .ok (.iconst 0, 1) := by decide +kernel
theorem dL_law_310 : decode cL_law 310 = .ok (.ireturn, 1) := by decide +kernel
theorem dL_law_311 : decode cL_law 311 = .ok (.aload_n 1, 1) := by decide +kernel
theorem dL_law_312 : decode cL_law 312 = .ok (.aload_n 0, 1) := by decide +kernel
theorem dL_law_313 : decode cL_law 313 = .ok (.iload_n 3, 1) := by decide +kernel
theorem dL_law_314 : decode cL_law 314 = .ok (.iconst 1, 1) := by decide +kernel
theorem dL_law_315 : decode cL_law 315 = .ok (.iadd, 1) := by decide +kernel
theorem dL_law_316 : decode cL_law 316 = .ok (.iaload, 1) := by decide +kernel
theorem dL_law_317 : decode cL_law 317 = .ok (.aload_n 0, 1) := by decide +kernel
theorem dL_law_318 : decode cL_law 318 = .ok (.iload_n 3, 1) := by decide +kernel
theorem dL_law_319 : decode cL_law 319 = .ok (.iconst 2, 1) := by decide +kernel
theorem dL_law_320 : decode cL_law 320 = .ok (.iadd, 1) := by decide +kernel
theorem dL_law_321 : decode cL_law 321 = .ok (.iaload, 1) := by decide +kernel
theorem dL_law_322 : decode cL_law 322 = .ok (.aload_n 0, 1) := by decide +kernel
theorem dL_law_323 : decode cL_law 323 = .ok (.iload_n 3, 1) := by decide +kernel
theorem dL_law_324 : decode cL_law 324 = .ok (.iconst 3, 1) := by decide +kernel
theorem dL_law_325 : decode cL_law 325 = .ok (.iadd, 1) := by decide +kernel
theorem dL_law_326 : decode cL_law 326 = .ok (.iaload, 1) := by decide +kernel
theorem dL_law_327 : decode cL_law 327 = .ok (.invokevirtual 52, 3) := by decide +kernel
theorem dL_law_330 : decode cL_law 330 = .ok (.aload_n 2, 1) := by decide +kernel
theorem dL_law_331 : decode cL_law 331 = .ok (.aload_n 0, 1) := by decide +kernel
theorem dL_law_332 : decode cL_law 332 = .ok (.iload_n 3, 1) := by decide +kernel
theorem dL_law_333 : decode cL_law 333 = .ok (.iconst 1, 1) := by decide +kernel
theorem dL_law_334 : decode cL_law 334 = .ok (.iadd, 1) := by decide +kernel
theorem dL_law_335 : decode cL_law 335 = .ok (.iaload, 1) := by decide +kernel
theorem dL_law_336 : decode cL_law 336 = .ok (.aload_n 0, 1) := by decide +kernel
theorem dL_law_337 : decode cL_law 337 = .ok (.iload_n 3, 1) := by decide +kernel
theorem dL_law_338 : decode cL_law 338 = .ok (.iconst 2, 1) := by decide +kernel
theorem dL_law_339 : decode cL_law 339 = .ok (.iadd, 1) := by decide +kernel
theorem dL_law_340 : decode cL_law 340 = .ok (.iaload, 1) := by decide +kernel
theorem dL_law_341 : decode cL_law 341 = .ok (.aload_n 0, 1) := by decide +kernel
theorem dL_law_342 : decode cL_law 342 = .ok (.iload_n 3, 1) := by decide +kernel
theorem dL_law_343 : decode cL_law 343 = .ok (.iconst 3, 1) := by decide +kernel
theorem dL_law_344 : decode cL_law 344 = .ok (.iadd, 1) := by decide +kernel
theorem dL_law_345 : decode cL_law 345 = .ok (.iaload, 1) := by decide +kernel
theorem dL_law_346 : decode cL_law 346 = .ok (.invokevirtual 56, 3) := by decide +kernel
theorem dL_law_349 : decode cL_law 349 = .ok (.if_icmp .eq 348, 3) := by decide +kernel
theorem dL_law_352 : decode cL_law 352 = .ok (.iconst 0, 1) := by decide +kernel
theorem dL_law_353 : decode cL_law 353 = .ok (.ireturn, 1) := by decide +kernel
theorem dL_law_354 : decode cL_law 354 = .ok (.aload_n 1, 1) := by decide +kernel
theorem dL_law_355 : decode cL_law 355 = .ok (.aload_n 0, 1) := by decide +kernel
theorem dL_law_356 : decode cL_law 356 = .ok (.iload_n 3, 1) := by decide +kernel
theorem dL_law_357 : decode cL_law 357 = .ok (.iconst 1, 1) := by decide +kernel
theorem dL_law_358 : decode cL_law 358 = .ok (.iadd, 1) := by decide +kernel
theorem dL_law_359 : decode cL_law 359 = .ok (.iaload, 1) := by decide +kernel
theorem dL_law_360 : decode cL_law 360 = .ok (.invokevirtual 57, 3) := by decide +kernel
theorem dL_law_363 : decode cL_law 363 = .ok (.aload_n 2, 1) := by decide +kernel
theorem dL_law_364 : decode cL_law 364 = .ok (.aload_n 0, 1) := by decide +kernel
theorem dL_law_365 : decode cL_law 365 = .ok (.iload_n 3, 1) := by decide +kernel
theorem dL_law_366 : decode cL_law 366 = .ok (.iconst 1, 1) := by decide +kernel
theorem dL_law_367 : decode cL_law 367 = .ok (.iadd, 1) := by decide +kernel
theorem dL_law_368 : decode cL_law 368 = .ok (.iaload, 1) := by decide +kernel
theorem dL_law_369 : decode cL_law 369 = .ok (.invokevirtual 60, 3) := by decide +kernel
theorem dL_law_372 : decode cL_law 372 = .ok (.if_icmp .eq 325, 3) := by decide +kernel
theorem dL_law_375 : decode cL_law 375 = .ok (.iconst 0, 1) := by decide +kernel
theorem dL_law_376 : decode cL_law 376 = .ok (.ireturn, 1) := by decide +kernel
theorem dL_law_377 : decode cL_law 377 = .ok (.aload_n 1, 1) := by decide +kernel
theorem dL_law_378 : decode cL_law 378 = .ok (.aload_n 0, 1) := by decide +kernel
theorem dL_law_379 : decode cL_law 379 = .ok (.iload_n 3, 1) := by decide +kernel
theorem dL_law_380 : decode cL_law 380 = .ok (.iconst 1, 1) := by decide +kernel
theorem dL_law_381 : decode cL_law 381 = .ok (.iadd, 1) := by decide +kernel
theorem dL_law_382 : decode cL_law 382 = .ok (.iaload, 1) := by decide +kernel
theorem dL_law_383 : decode cL_law 383 = .ok (.invokevirtual 61, 3) := by decide +kernel
theorem dL_law_386 : decode cL_law 386 = .ok (.aload_n 2, 1) := by decide +kernel
theorem dL_law_387 : decode cL_law 387 = .ok (.aload_n 0, 1) := by decide +kernel
theorem dL_law_388 : decode cL_law 388 = .ok (.iload_n 3, 1) := by decide +kernel
theorem dL_law_389 : decode cL_law 389 = .ok (.iconst 1, 1) := by decide +kernel
theorem dL_law_390 : decode cL_law 390 = .ok (.iadd, 1) := by decide +kernel
theorem dL_law_391 : decode cL_law 391 = .ok (.iaload, 1) := by decide +kernel
theorem dL_law_392 : decode cL_law 392 = .ok (.invokevirtual 64, 3) := by decide +kernel
theorem dL_law_395 : decode cL_law 395 = .ok (.if_icmp .eq 302, 3) := by decide +kernel
theorem dL_law_398 : decode cL_law 398 = .ok (.iconst 0, 1) := by decide +kernel
theorem dL_law_399 : decode cL_law 399 = .ok (.ireturn, 1) := by decide +kernel
theorem dL_law_400 : decode cL_law 400 = .ok (.aload_n 1, 1) := by decide +kernel
theorem dL_law_401 : decode cL_law 401 = .ok (.aload_n 0, 1) := by decide +kernel
theorem dL_law_402 : decode cL_law 402 = .ok (.iload_n 3, 1) := by decide +kernel
theorem dL_law_403 : decode cL_law 403 = .ok (.iconst 1, 1) := by decide +kernel
theorem dL_law_404 : decode cL_law 404 = .ok (.iadd, 1) := by decide +kernel
theorem dL_law_405 : decode cL_law 405 = .ok (.iaload, 1) := by decide +kernel
theorem dL_law_406 : decode cL_law 406 = .ok (.invokevirtual 65, 3) := by decide +kernel
theorem dL_law_409 : decode cL_law 409 = .ok (.aload_n 2, 1) := by decide +kernel
theorem dL_law_410 : decode cL_law 410 = .ok (.aload_n 0, 1) := by decide +kernel
theorem dL_law_411 : decode cL_law 411 = .ok (.iload_n 3, 1) := by decide +kernel
theorem dL_law_412 : decode cL_law 412 = .ok (.iconst 1, 1) := by decide +kernel
theorem dL_law_413 : decode cL_law 413 = .ok (.iadd, 1) := by decide +kernel
theorem dL_law_414 : decode cL_law 414 = .ok (.iaload, 1) := by decide +kernel
theorem dL_law_415 : decode cL_law 415 = .ok (.invokevirtual 68, 3) := by decide +kernel
theorem dL_law_418 : decode cL_law 418 = .ok (.if_icmp .eq 279, 3) := by decide +kernel
theorem dL_law_421 : decode cL_law 421 = .ok (.iconst 0, 1) := by decide +kernel
theorem dL_law_422 : decode cL_law 422 = .ok (.ireturn, 1) := by decide +kernel
theorem dL_law_423 : decode cL_law 423 = .ok (.aload_n 1, 1) := by decide +kernel
theorem dL_law_424 : decode cL_law 424 = .ok (.invokevirtual 69, 3) := by decide +kernel
theorem dL_law_427 : decode cL_law 427 = .ok (.aload_n 2, 1) := by decide +kernel
theorem dL_law_428 : decode cL_law 428 = .ok (.invokevirtual 72, 3) := by decide +kernel
theorem dL_law_431 : decode cL_law 431 = .ok (.if_icmp .eq 266, 3) := by decide +kernel
theorem dL_law_434 : decode cL_law 434 = .ok (.iconst 0, 1) := by decide +kernel
theorem dL_law_435 : decode cL_law 435 = .ok (.ireturn, 1) := by decide +kernel
theorem dL_law_436 : decode cL_law 436 = .ok (.aload_n 1, 1) := by decide +kernel
theorem dL_law_437 : decode cL_law 437 = .ok (.aload_n 0, 1) := by decide +kernel
theorem dL_law_438 : decode cL_law 438 = .ok (.iload_n 3, 1) := by decide +kernel
theorem dL_law_439 : decode cL_law 439 = .ok (.iconst 1, 1) := by decide +kernel
theorem dL_law_440 : decode cL_law 440 = .ok (.iadd, 1) := by decide +kernel
theorem dL_law_441 : decode cL_law 441 = .ok (.iaload, 1) := by decide +kernel
theorem dL_law_442 : decode cL_law 442 = .ok (.invokevirtual 73, 3) := by decide +kernel
theorem dL_law_445 : decode cL_law 445 = .ok (.aload_n 2, 1) := by decide +kernel
theorem dL_law_446 : decode cL_law 446 = .ok (.aload_n 0, 1) := by decide +kernel
theorem dL_law_447 : decode cL_law 447 = .ok (.iload_n 3, 1) := by decide +kernel
theorem dL_law_448 : decode cL_law 448 = .ok (.iconst 1, 1) := by decide +kernel
theorem dL_law_449 : decode cL_law 449 = .ok (.iadd, 1) := by decide +kernel
theorem dL_law_450 : decode cL_law 450 = .ok (.iaload, 1) := by decide +kernel
theorem dL_law_451 : decode cL_law 451 = .ok (.invokevirtual 76, 3) := by decide +kernel
theorem dL_law_454 : decode cL_law 454 = .ok (.if_icmp .eq 243, 3) := by decide +kernel
theorem dL_law_457 : decode cL_law 457 = .ok (.iconst 0, 1) := by decide +kernel
theorem dL_law_458 : decode cL_law 458 = .ok (.ireturn, 1) := by decide +kernel
theorem dL_law_459 : decode cL_law 459 = .ok (.aload_n 1, 1) := by decide +kernel
theorem dL_law_460 : decode cL_law 460 = .ok (.aload_n 0, 1) := by decide +kernel
theorem dL_law_461 : decode cL_law 461 = .ok (.iload_n 3, 1) := by decide +kernel
theorem dL_law_462 : decode cL_law 462 = .ok (.iconst 1, 1) := by decide +kernel
theorem dL_law_463 : decode cL_law 463 = .ok (.iadd, 1) := by decide +kernel
theorem dL_law_464 : decode cL_law 464 = .ok (.iaload, 1) := by decide +kernel
theorem dL_law_465 : decode cL_law 465 = .ok (.invokevirtual 77, 3) := by decide +kernel
theorem dL_law_468 : decode cL_law 468 = .ok (.aload_n 2, 1) := by decide +kernel
theorem dL_law_469 : decode cL_law 469 = .ok (.aload_n 0, 1) := by decide +kernel
theorem dL_law_470 : decode cL_law 470 = .ok (.iload_n 3, 1) := by decide +kernel
theorem dL_law_471 : decode cL_law 471 = .ok (.iconst 1, 1) := by decide +kernel
theorem dL_law_472 : decode cL_law 472 = .ok (.iadd, 1) := by decide +kernel
theorem dL_law_473 : decode cL_law 473 = .ok (.iaload, 1) := by decide +kernel
theorem dL_law_474 : decode cL_law 474 = .ok (.invokevirtual 80, 3) := by decide +kernel
theorem dL_law_477 : decode cL_law 477 = .ok (.if_icmp .eq 220, 3) := by decide +kernel
theorem dL_law_480 : decode cL_law 480 = .ok (.iconst 0, 1) := by decide +kernel
theorem dL_law_481 : decode cL_law 481 = .ok (.ireturn, 1) := by decide +kernel
theorem dL_law_482 : decode cL_law 482 = .ok (.aload_n 1, 1) := by decide +kernel
theorem dL_law_483 : decode cL_law 483 = .ok (.aload_n 0, 1) := by decide +kernel
theorem dL_law_484 : decode cL_law 484 = .ok (.iload_n 3, 1) := by decide +kernel
theorem dL_law_485 : decode cL_law 485 = .ok (.iconst 1, 1) := by decide +kernel
theorem dL_law_486 : decode cL_law 486 = .ok (.iadd, 1) := by decide +kernel
theorem dL_law_487 : decode cL_law 487 = .ok (.iaload, 1) := by decide +kernel
theorem dL_law_488 : decode cL_law 488 = .ok (.invokevirtual 81, 3) := by decide +kernel
theorem dL_law_491 : decode cL_law 491 = .ok (.aload_n 2, 1) := by decide +kernel
theorem dL_law_492 : decode cL_law 492 = .ok (.aload_n 0, 1) := by decide +kernel
theorem dL_law_493 : decode cL_law 493 = .ok (.iload_n 3, 1) := by decide +kernel
theorem dL_law_494 : decode cL_law 494 = .ok (.iconst 1, 1) := by decide +kernel
theorem dL_law_495 : decode cL_law 495 = .ok (.iadd, 1) := by decide +kernel
theorem dL_law_496 : decode cL_law 496 = .ok (.iaload, 1) := by decide +kernel
theorem dL_law_497 : decode cL_law 497 = .ok (.invokevirtual 84, 3) := by decide +kernel
theorem dL_law_500 : decode cL_law 500 = .ok (.if_icmp .eq 197, 3) := by decide +kernel
theorem dL_law_503 : decode cL_law 503 = .ok (.iconst 0, 1) := by decide +kernel
theorem dL_law_504 : decode cL_law 504 = .ok (.ireturn, 1) := by decide +kernel
theorem dL_law_505 : decode cL_law 505 = .ok (.aload_n 1, 1) := by decide +kernel
theorem dL_law_506 : decode cL_law 506 = .ok (.aload_n 0, 1) := by decide +kernel
theorem dL_law_507 : decode cL_law 507 = .ok (.iload_n 3, 1) := by decide +kernel
theorem dL_law_508 : decode cL_law 508 = .ok (.iconst 1, 1) := by decide +kernel
theorem dL_law_509 : decode cL_law 509 = .ok (.iadd, 1) := by decide +kernel
theorem dL_law_510 : decode cL_law 510 = .ok (.iaload, 1) := by decide +kernel
theorem dL_law_511 : decode cL_law 511 = .ok (.aload_n 0, 1) := by decide +kernel
theorem dL_law_512 : decode cL_law 512 = .ok (.iload_n 3, 1) := by decide +kernel
theorem dL_law_513 : decode cL_law 513 = .ok (.iconst 2, 1) := by decide +kernel
theorem dL_law_514 : decode cL_law 514 = .ok (.iadd, 1) := by decide +kernel
theorem dL_law_515 : decode cL_law 515 = .ok (.iaload, 1) := by decide +kernel
theorem dL_law_516 : decode cL_law 516 = .ok (.invokevirtual 85, 3) := by decide +kernel
theorem dL_law_519 : decode cL_law 519 = .ok (.aload_n 2, 1) := by decide +kernel
theorem dL_law_520 : decode cL_law 520 = .ok (.aload_n 0, 1) := by decide +kernel
theorem dL_law_521 : decode cL_law 521 = .ok (.iload_n 3, 1) := by decide +kernel
theorem dL_law_522 : decode cL_law 522 = .ok (.iconst 1, 1) := by decide +kernel
theorem dL_law_523 : decode cL_law 523 = .ok (.iadd, 1) := by decide +kernel
theorem dL_law_524 : decode cL_law 524 = .ok (.iaload, 1) := by decide +kernel
theorem dL_law_525 : decode cL_law 525 = .ok (.aload_n 0, 1) := by decide +kernel
theorem dL_law_526 : decode cL_law 526 = .ok (.iload_n 3, 1) := by decide +kernel
theorem dL_law_527 : decode cL_law 527 = .ok (.iconst 2, 1) := by decide +kernel
theorem dL_law_528 : decode cL_law 528 = .ok (.iadd, 1) := by decide +kernel
theorem dL_law_529 : decode cL_law 529 = .ok (.iaload, 1) := by decide +kernel
theorem dL_law_530 : decode cL_law 530 = .ok (.invokevirtual 88, 3) := by decide +kernel
theorem dL_law_533 : decode cL_law 533 = .ok (.if_icmp .eq 164, 3) := by decide +kernel
theorem dL_law_536 : decode cL_law 536 = .ok (.iconst 0, 1) := by decide +kernel
theorem dL_law_537 : decode cL_law 537 = .ok (.ireturn, 1) := by decide +kernel
theorem dL_law_538 : decode cL_law 538 = .ok (.aload_n 1, 1) := by decide +kernel
theorem dL_law_539 : decode cL_law 539 = .ok (.aload_n 0, 1) := by decide +kernel
theorem dL_law_540 : decode cL_law 540 = .ok (.iload_n 3, 1) := by decide +kernel
theorem dL_law_541 : decode cL_law 541 = .ok (.iconst 1, 1) := by decide +kernel
theorem dL_law_542 : decode cL_law 542 = .ok (.iadd, 1) := by decide +kernel
theorem dL_law_543 : decode cL_law 543 = .ok (.iaload, 1) := by decide +kernel
theorem dL_law_544 : decode cL_law 544 = .ok (.invokevirtual 89, 3) := by decide +kernel
theorem dL_law_547 : decode cL_law 547 = .ok (.aload_n 2, 1) := by decide +kernel
theorem dL_law_548 : decode cL_law 548 = .ok (.aload_n 0, 1) := by decide +kernel
theorem dL_law_549 : decode cL_law 549 = .ok (.iload_n 3, 1) := by decide +kernel
theorem dL_law_550 : decode cL_law 550 = .ok (.iconst 1, 1) := by decide +kernel
theorem dL_law_551 : decode cL_law 551 = .ok (.iadd, 1) := by decide +kernel
theorem dL_law_552 : decode cL_law 552 = .ok (.iaload, 1) := by decide +kernel
theorem dL_law_553 : decode cL_law 553 = .ok (.invokevirtual 92, 3) := by decide +kernel
theorem dL_law_556 : decode cL_law 556 = .ok (.if_icmp .eq 141, 3) := by decide +kernel
theorem dL_law_559 : decode cL_law 559 = .ok (.iconst 0, 1) := by decide +kernel
theorem dL_law_560 : decode cL_law 560 = .ok (.ireturn, 1) := by decide +kernel
theorem dL_law_561 : decode cL_law 561 = .ok (.aload_n 1, 1) := by decide +kernel
theorem dL_law_562 : decode cL_law 562 = .ok (.aload_n 0, 1) := by decide +kernel
theorem dL_law_563 : decode cL_law 563 = .ok (.iload_n 3, 1) := by decide +kernel
theorem dL_law_564 : decode cL_law 564 = .ok (.iconst 1, 1) := by decide +kernel
theorem dL_law_565 : decode cL_law 565 = .ok (.iadd, 1) := by decide +kernel
theorem dL_law_566 : decode cL_law 566 = .ok (.iaload, 1) := by decide +kernel
theorem dL_law_567 : decode cL_law 567 = .ok (.aload_n 0, 1) := by decide +kernel
theorem dL_law_568 : decode cL_law 568 = .ok (.iload_n 3, 1) := by decide +kernel
theorem dL_law_569 : decode cL_law 569 = .ok (.iconst 2, 1) := by decide +kernel
theorem dL_law_570 : decode cL_law 570 = .ok (.iadd, 1) := by decide +kernel
theorem dL_law_571 : decode cL_law 571 = .ok (.iaload, 1) := by decide +kernel
theorem dL_law_572 : decode cL_law 572 = .ok (.invokevirtual 93, 3) := by decide +kernel
theorem dL_law_575 : decode cL_law 575 = .ok (.aload_n 2, 1) := by decide +kernel
theorem dL_law_576 : decode cL_law 576 = .ok (.aload_n 0, 1) := by decide +kernel
theorem dL_law_577 : decode cL_law 577 = .ok (.iload_n 3, 1) := by decide +kernel
theorem dL_law_578 : decode cL_law 578 = .ok (.iconst 1, 1) := by decide +kernel
theorem dL_law_579 : decode cL_law 579 = .ok (.iadd, 1) := by decide +kernel
theorem dL_law_580 : decode cL_law 580 = .ok (.iaload, 1) := by decide +kernel
theorem dL_law_581 : decode cL_law 581 = .ok (.aload_n 0, 1) := by decide +kernel
theorem dL_law_582 : decode cL_law 582 = .ok (.iload_n 3, 1) := by decide +kernel
theorem dL_law_583 : decode cL_law 583 = .ok (.iconst 2, 1) := by decide +kernel
theorem dL_law_584 : decode cL_law 584 = .ok (.iadd, 1) := by decide +kernel
theorem dL_law_585 : decode cL_law 585 = .ok (.iaload, 1) := by decide +kernel
theorem dL_law_586 : decode cL_law 586 = .ok (.invokevirtual 96, 3) := by decide +kernel
theorem dL_law_589 : decode cL_law 589 = .ok (.if_icmp .eq 108, 3) := by decide +kernel
theorem dL_law_592 : decode cL_law 592 = .ok (.iconst 0, 1) := by decide +kernel
theorem dL_law_593 : decode cL_law 593 = .ok (.ireturn, 1) := by decide +kernel
theorem dL_law_594 : decode cL_law 594 = .ok (.aload_n 1, 1) := by decide +kernel
theorem dL_law_595 : decode cL_law 595 = .ok (.aload_n 0, 1) := by decide +kernel
theorem dL_law_596 : decode cL_law 596 = .ok (.iload_n 3, 1) := by decide +kernel
theorem dL_law_597 : decode cL_law 597 = .ok (.iconst 1, 1) := by decide +kernel
theorem dL_law_598 : decode cL_law 598 = .ok (.iadd, 1) := by decide +kernel
theorem dL_law_599 : decode cL_law 599 = .ok (.iaload, 1) := by decide +kernel
theorem dL_law_600 : decode cL_law 600 = .ok (.invokevirtual 97, 3) := by decide +kernel
theorem dL_law_603 : decode cL_law 603 = .ok (.aload_n 2, 1) := by decide +kernel
theorem dL_law_604 : decode cL_law 604 = .ok (.aload_n 0, 1) := by decide +kernel
theorem dL_law_605 : decode cL_law 605 = .ok (.iload_n 3, 1) := by decide +kernel
theorem dL_law_606 : decode cL_law 606 = .ok (.iconst 1, 1) := by decide +kernel
theorem dL_law_607 : decode cL_law 607 = .ok (.iadd, 1) := by decide +kernel
theorem dL_law_608 : decode cL_law 608 = .ok (.iaload, 1) := by decide +kernel
theorem dL_law_609 : decode cL_law 609 = .ok (.invokevirtual 100, 3) := by decide +kernel
theorem dL_law_612 : decode cL_law 612 = .ok (.if_icmp .eq 85, 3) := by decide +kernel
theorem dL_law_615 : decode cL_law 615 = .ok (.iconst 0, 1) := by decide +kernel
theorem dL_law_616 : decode cL_law 616 = .ok (.ireturn, 1) := by decide +kernel
theorem dL_law_617 : decode cL_law 617 = .ok (.aload_n 1, 1) := by decide +kernel
theorem dL_law_618 : decode cL_law 618 = .ok (.aload_n 0, 1) := by decide +kernel
theorem dL_law_619 : decode cL_law 619 = .ok (.iload_n 3, 1) := by decide +kernel
theorem dL_law_620 : decode cL_law 620 = .ok (.iconst 1, 1) := by decide +kernel
theorem dL_law_621 : decode cL_law 621 = .ok (.iadd, 1) := by decide +kernel
theorem dL_law_622 : decode cL_law 622 = .ok (.iaload, 1) := by decide +kernel
theorem dL_law_623 : decode cL_law 623 = .ok (.aload_n 0, 1) := by decide +kernel
theorem dL_law_624 : decode cL_law 624 = .ok (.iload_n 3, 1) := by decide +kernel
theorem dL_law_625 : decode cL_law 625 = .ok (.iconst 2, 1) := by decide +kernel
theorem dL_law_626 : decode cL_law 626 = .ok (.iadd, 1) := by decide +kernel
theorem dL_law_627 : decode cL_law 627 = .ok (.iaload, 1) := by decide +kernel
theorem dL_law_628 : decode cL_law 628 = .ok (.aload_n 0, 1) := by decide +kernel
theorem dL_law_629 : decode cL_law 629 = .ok (.iload_n 3, 1) := by decide +kernel
theorem dL_law_630 : decode cL_law 630 = .ok (.iconst 3, 1) := by decide +kernel
theorem dL_law_631 : decode cL_law 631 = .ok (.iadd, 1) := by decide +kernel
theorem dL_law_632 : decode cL_law 632 = .ok (.iaload, 1) := by decide +kernel
theorem dL_law_633 : decode cL_law 633 = .ok (.invokevirtual 101, 3) := by decide +kernel
theorem dL_law_636 : decode cL_law 636 = .ok (.aload_n 2, 1) := by decide +kernel
theorem dL_law_637 : decode cL_law 637 = .ok (.aload_n 0, 1) := by decide +kernel
theorem dL_law_638 : decode cL_law 638 = .ok (.iload_n 3, 1) := by decide +kernel
theorem dL_law_639 : decode cL_law 639 = .ok (.iconst 1, 1) := by decide +kernel
theorem dL_law_640 : decode cL_law 640 = .ok (.iadd, 1) := by decide +kernel
theorem dL_law_641 : decode cL_law 641 = .ok (.iaload, 1) := by decide +kernel
theorem dL_law_642 : decode cL_law 642 = .ok (.aload_n 0, 1) := by decide +kernel
theorem dL_law_643 : decode cL_law 643 = .ok (.iload_n 3, 1) := by decide +kernel
theorem dL_law_644 : decode cL_law 644 = .ok (.iconst 2, 1) := by decide +kernel
theorem dL_law_645 : decode cL_law 645 = .ok (.iadd, 1) := by decide +kernel
theorem dL_law_646 : decode cL_law 646 = .ok (.iaload, 1) := by decide +kernel
theorem dL_law_647 : decode cL_law 647 = .ok (.aload_n 0, 1) := by decide +kernel
theorem dL_law_648 : decode cL_law 648 = .ok (.iload_n 3, 1) := by decide +kernel
theorem dL_law_649 : decode cL_law 649 = .ok (.iconst 3, 1) := by decide +kernel
theorem dL_law_650 : decode cL_law 650 = .ok (.iadd, 1) := by decide +kernel
theorem dL_law_651 : decode cL_law 651 = .ok (.iaload, 1) := by decide +kernel
theorem dL_law_652 : decode cL_law 652 = .ok (.invokevirtual 104, 3) := by decide +kernel
theorem dL_law_655 : decode cL_law 655 = .ok (.if_icmp .eq 42, 3) := by decide +kernel
theorem dL_law_658 : decode cL_law 658 = .ok (.iconst 0, 1) := by decide +kernel
theorem dL_law_659 : decode cL_law 659 = .ok (.ireturn, 1) := by decide +kernel
theorem dL_law_660 : decode cL_law 660 = .ok (.aload_n 1, 1) := by decide +kernel
theorem dL_law_661 : decode cL_law 661 = .ok (.aload_n 0, 1) := by decide +kernel
theorem dL_law_662 : decode cL_law 662 = .ok (.iload_n 3, 1) := by decide +kernel
theorem dL_law_663 : decode cL_law 663 = .ok (.iconst 1, 1) := by decide +kernel
theorem dL_law_664 : decode cL_law 664 = .ok (.iadd, 1) := by decide +kernel
theorem dL_law_665 : decode cL_law 665 = .ok (.iaload, 1) := by decide +kernel
theorem dL_law_666 : decode cL_law 666 = .ok (.invokevirtual 105, 3) := by decide +kernel
theorem dL_law_669 : decode cL_law 669 = .ok (.aload_n 2, 1) := by decide +kernel
theorem dL_law_670 : decode cL_law 670 = .ok (.aload_n 0, 1) := by decide +kernel
theorem dL_law_671 : decode cL_law 671 = .ok (.iload_n 3, 1) := by decide +kernel
theorem dL_law_672 : decode cL_law 672 = .ok (.iconst 1, 1) := by decide +kernel
theorem dL_law_673 : decode cL_law 673 = .ok (.iadd, 1) := by decide +kernel
theorem dL_law_674 : decode cL_law 674 = .ok (.iaload, 1) := by decide +kernel
theorem dL_law_675 : decode cL_law 675 = .ok (.invokevirtual 108, 3) := by decide +kernel
theorem dL_law_678 : decode cL_law 678 = .ok (.if_icmp .eq 19, 3) := by decide +kernel
theorem dL_law_681 : decode cL_law 681 = .ok (.iconst 0, 1) := by decide +kernel
theorem dL_law_682 : decode cL_law 682 = .ok (.ireturn, 1) := by decide +kernel
theorem dL_law_683 : decode cL_law 683 = .ok (.aload_n 1, 1) := by decide +kernel
theorem dL_law_684 : decode cL_law 684 = .ok (.invokevirtual 109, 3) := by decide +kernel
theorem dL_law_687 : decode cL_law 687 = .ok (.aload_n 2, 1) := by decide +kernel
theorem dL_law_688 : decode cL_law 688 = .ok (.invokevirtual 113, 3) := by decide +kernel
theorem dL_law_691 : decode cL_law 691 = .ok (.lcmp, 1) := by decide +kernel
theorem dL_law_692 : decode cL_law 692 = .ok (.ifCond .eq 5, 3) := by decide +kernel
theorem dL_law_695 : decode cL_law 695 = .ok (.iconst 0, 1) := by decide +kernel
theorem dL_law_696 : decode cL_law 696 = .ok (.ireturn, 1) := by decide +kernel
theorem dL_law_697 : decode cL_law 697 = .ok (.iinc 3 4, 3) := by decide +kernel
theorem dL_law_700 : decode cL_law 700 = .ok (.goto (-682), 3) := by decide +kernel
theorem dL_law_703 : decode cL_law 703 = .ok (.iconst 1, 1) := by decide +kernel
theorem dL_law_704 : decode cL_law 704 = .ok (.ireturn, 1) := by decide +kernel
end
section
/-! ===== the abstract machine: worlds whose cells lie one behind the other from z on; ints and longs as Int ===== -/
abbrev iZ (a : Int) : Int32 := Int32.ofInt a
abbrev lZ (a : Int) : Int64 := Int64.ofInt a
def inR (a : Int) : Prop := -2147483648 ≤ a ∧ a < 2147483648
def inL (a : Int) : Prop := -9223372036854775808 ≤ a ∧ a < 9223372036854775808
abbrev am_cl : List vw_C := [(RX0, TX0, 7), (RX1, TX1, 2), (RX3, TX3, 3), (RX4, TX4, 4), (RX5, TX5, 2), (RX6, TX6, 4), (RX7, TX7, 3), (RX8, TX8, 8), (RX10, TX10, 14), (RX11, TX11, 38)]
abbrev am_M : Type := MethodName × ByteArray × Nat × Option FieldType
/-- int fields, long fields, arrays of ints -/
abbrev am_St : Type := (Nat → Nat → Int) × (Nat → Nat → Int) × (Nat → Int → Int)
/-- an array (its kind: 0 int, 1 boolean, 2 of Lines; its length; what an array of references holds), or an object (its class, its fields' kinds: 0 int, 1 long, 2 null, r + 3 the cell r) -/
abbrev am_Sc : Type := (Nat × Nat × Option (Nat → Option Nat)) ⊕ (Nat × List Nat)
abbrev am_Sh : Type := List am_Sc
def am_v (φ : Nat → Nat) : Value → Value
  | .ref k => .ref (φ k)
  | v => v
def am_fv (φ : Nat → Nat) (σ : am_St) (k j : Nat) : Nat → Value
  | 0 => .int (iZ (σ.1 k j))
  | 1 => .long (lZ (σ.2.1 k j))
  | 2 => .null
  | r + 3 => .ref (φ r)
def am_E (dA : Nat → ClassId) (φ : Nat → Nat) (σ : am_St) (k : Nat) : am_Sc → va_E
  | .inl (t, n, none) => .inl (dA t, n, .inl (fun i => iZ (σ.2.2 k (i : Int))))
  | .inl (t, n, some g) => .inl (dA t, n, .inr (.inr (.inr (.inr (fun i => (g i).map φ)))))
  | .inr (ci, ks) => .inr (ci, ks.mapIdx (fun j kd => am_fv φ σ k j kd))
def am_ws (dA : Nat → ClassId) (φ : Nat → Nat) (σ : am_St) (sh : am_Sh) : va_W := sh.mapIdx (fun k x => (φ k, am_E dA φ σ k x))
abbrev am_tys (dA : Nat → ClassId) : List (ClassId × FieldType) := [(dA 0, .int), (dA 1, .boolean), (dA 2, .object RX1)]
/-- the heap holds the world: its cells lie at φ 0, φ 1 .., apart, from z on -/
def am_P (D : va_G) (dA : Nat → ClassId) (z : Nat) (φ : Nat → Nat) (sh : am_Sh) (σ : am_St) (H : Heap) : Prop := va_P D am_cl (am_ws dA φ σ sh) H ∧ va_D (fun q => z ≤ q) (am_ws dA φ σ sh)
def am_Q (D : va_G) (dA : Nat → ClassId) (z : Nat) (φ : Nat → Nat) (sh : am_Sh) (Q : Option Value → am_St → Prop) : Array Value → State → Outcome → State → Prop := fun _ st o t => (∃ (r : Option Value) (σ : am_St), o = .returned (r.map (am_v φ)) ∧ Q r σ ∧ am_P D dA z φ sh σ t.heap) ∧ va_F (fun q => z ≤ q) st t
/-- links to a nest mate's private methods: told from call to call beside the words -/
def am_nest : List (String × Nat × MethodName × String) := [(RX4, 54, yX10_isSmall, "SpellTables"), (RX4, 60, yX10_isCapital, "SpellTables")]
def am_K (D : va_G) (dA : Nat → ClassId) (U : State) : Prop := va_K D am_cl (am_tys dA) U ∧ ∀ q ∈ am_nest, va_Nw (.methodLinkNest q.1 q.2.1 q.2.2.1 q.2.2.2) U
theorem am_K.calling {D : va_G} {dA : Nat → ClassId} {U : State} {g : JFrame} {mk : MethodId} {a : Array Value} (h : am_K D dA U) : am_K D dA (U.calling g mk a) := ⟨va_K.moved (u := U) (U := U.calling g mk a) (Vm.Alike.refl U.vm) h.1, fun q hq => va_Nw.same rfl rfl (h.2 q hq)⟩
theorem am_K.warm {D : va_G} {dA : Nat → ClassId} {s U : State} (hW : s.WarmedH U.vm) (h : am_K D dA s) : am_K D dA U := ⟨va_K.moved hW.alike h.1, fun q hq => va_Nw.warmM hW (h.2 q hq)⟩
abbrev am_room (d : Nat) : Room := { frames := d, cells := 0, slots := 0, locals := 32 * d }
/-- the tables' words that a callee may be told -/
def am_tbl : List Cond := lw_tbl.filter goodWord
theorem am_mem {w : Cond} (h : w ∈ lw_tbl) (hg : goodWord w = true) : w ∈ am_tbl := List.mem_filter.mpr ⟨h, hg⟩
abbrev am_wd (M : am_M) : List Cond := Cond.code M.1 M.2.1 M.2.2.1 M.2.2.2 :: am_tbl
/-- the method M, with these arguments from this world, returns, and Q holds of answer and world; d: how many frames it needs -/
def am_Ev (sh : am_Sh) (M : am_M) (d : Nat) (av : List Value) (σ : am_St) (Q : Option Value → am_St → Prop) : Prop :=
  ∀ (l : Launch) (D : va_G) (dA : Nat → ClassId) (z : Nat) (φ : Nat → Nat), Met l M.1 (am_wd M) (am_room d) (va_Pc (av.map (am_v φ)) (fun U => am_P D dA z φ sh σ U.heap ∧ am_K D dA U)) (am_Q D dA z φ sh Q) 0 0 (fun q => z ≤ q)
def am_Cx (M : am_M) (D : va_G) (dA : Nat → ClassId) (p : Program) (s : State) (m : MethodId) (args : Array Value) (meth : Method) (c : Code) : Prop :=
  p.tables.exec = Jvm.exec ∧ c.code = M.2.1 ∧ meth.sig.returnType = M.2.2.2 ∧ c.maxLocals = M.2.2.1 ∧ s.vm.findClass M.1.cls = some m.cls ∧ (∀ w ∈ am_wd M, w.before args s = true) ∧ meth.locks = false ∧ am_K D dA s
def am_Ls (φ : Nat → Nat) (ls : Array Slot) (n : Nat) (lv : List (Option Value)) : Prop := ls.size = n ∧ lv_wf ls ∧ ∀ (i : Nat) (v : Value), lv[i]? = some (some v) → ls[i]? = some (.val (am_v φ v))
/-- the machine in the body of M, at pc, with these locals, this stack and this world, comes to the method's end with Q -/
def am_Go (sh : am_Sh) (M : am_M) (d : Nat) (Q : Option Value → am_St → Prop) (pc : Nat) (lv : List (Option Value)) (st : List Value) (σ : am_St) : Prop :=
  ∀ (p : Program) (l : Launch) (e : Env) (D : va_G) (dA : Nat → ClassId) (z : Nat) (φ : Nat → Nat) (s : State) (m : MethodId) (args : Array Value) (below : List Frame) (meth : Method) (c : Code), am_Cx M D dA p s m args meth c → ∀ (H : Heap) (locs : List Loc) (ls : Array Slot), am_P D dA z φ sh σ H → va_S (fun q => z ≤ q) s.heap H locs → am_Ls φ ls M.2.2.1 lv → W p l e (am_room d) s m args below meth c H locs 0 0 (MQ below (am_Q D dA z φ sh Q) args s 0 0 (fun q => z ≤ q)) (F0 m pc ls (st.map (am_v φ)))
theorem am_cat (φ : Nat → Nat) (v : Value) : (am_v φ v).category = v.category := by cases v <;> rfl
theorem am_ws_get {dA : Nat → ClassId} {φ : Nat → Nat} {σ : am_St} {sh : am_Sh} {k : Nat} {x : am_Sc} (h : sh[k]? = some x) : (am_ws dA φ σ sh)[k]? = some (φ k, am_E dA φ σ k x) := by
  unfold am_ws
  rw [List.getElem?_mapIdx, h]
  rfl
theorem iZ_toInt {a : Int} (h : inR a) : (iZ a).toInt = a := by
  unfold inR at h
  exact Int32.toInt_ofInt_of_le (by omega) (by omega)
theorem iZ_of (x : Int32) : iZ x.toInt = x := Int32.ofInt_toInt x
theorem inR_of (x : Int32) : inR x.toInt := ⟨Int32.le_toInt x, Int32.toInt_lt x⟩
theorem iZ_clamp {a : Int} (h : inR a) : (iZ a).toNatClampNeg = a.toNat := by
  show (iZ a).toInt.toNat = a.toNat
  rw [iZ_toInt h]
theorem iZ_lt {a b : Int} (ha : inR a) (hb : inR b) : iZ a < iZ b ↔ a < b := by
  rw [Int32.lt_iff_toInt_lt, iZ_toInt ha, iZ_toInt hb]
theorem iZ_le {a b : Int} (ha : inR a) (hb : inR b) : iZ a ≤ iZ b ↔ a ≤ b := by
  rw [Int32.le_iff_toInt_le, iZ_toInt ha, iZ_toInt hb]
theorem iZ_inj {a b : Int} (ha : inR a) (hb : inR b) : iZ a = iZ b ↔ a = b := by
  constructor
  · intro h
    have := congrArg Int32.toInt h
    rwa [iZ_toInt ha, iZ_toInt hb] at this
  · intro h; rw [h]
theorem iZ_in {a : Int} {n : Nat} (h0 : 0 ≤ a) (h1 : a < n) (hn : n < 2147483648) : vp_in (iZ a) n := by
  rw [vp_in_iff, iZ_toInt ⟨by omega, by omega⟩]
  exact ⟨h0, h1⟩
theorem lZ_toInt {a : Int} (h : inL a) : (lZ a).toInt = a := by
  unfold inL at h
  exact Int64.toInt_ofInt_of_le (by omega) (by omega)
end
section
/-! ===== rows: an instruction of the abstract machine each ===== -/
section AMR
variable {sh : am_Sh} {M : am_M} {d : Nat} {Q : Option Value → am_St → Prop} {pc : Nat} {lv : List (Option Value)} {st : List Value} {σ : am_St}
theorem go_iconst {n : Int} (hd : decode M.2.1 pc = .ok (.iconst n, 1)) (k : am_Go sh M d Q (pc + 1) lv (.int (iZ n) :: st) σ) : am_Go sh M d Q pc lv st σ := by
  intro p l e D dA z φ s m args below meth c C H locs ls hP hS hl
  exact lv_iconst C.1 C.2.1 hd rfl (k p l e D dA z φ s m args below meth c C H locs ls hP hS hl)
theorem go_bipush {n : Int} (hd : decode M.2.1 pc = .ok (.bipush n, 2)) (hv : (Int8.ofInt n).toInt32 = iZ n) (k : am_Go sh M d Q (pc + 2) lv (.int (iZ n) :: st) σ) : am_Go sh M d Q pc lv st σ := by
  intro p l e D dA z φ s m args below meth c C H locs ls hP hS hl
  exact lv_bipush C.1 C.2.1 hd hv (k p l e D dA z φ s m args below meth c C H locs ls hP hS hl)
theorem go_sipush {n : Int} (hd : decode M.2.1 pc = .ok (.sipush n, 3)) (hv : (Int16.ofInt n).toInt32 = iZ n) (k : am_Go sh M d Q (pc + 3) lv (.int (iZ n) :: st) σ) : am_Go sh M d Q pc lv st σ := by
  intro p l e D dA z φ s m args below meth c C H locs ls hP hS hl
  exact lv_sipush C.1 C.2.1 hd hv (k p l e D dA z φ s m args below meth c C H locs ls hP hS hl)
theorem go_ldc {i : Nat} {n : Int} (hd : decode M.2.1 pc = .ok (.ldc i, 2)) (hc : Cond.constant M.1.cls i (iZ n) ∈ am_tbl) (k : am_Go sh M d Q (pc + 2) lv (.int (iZ n) :: st) σ) : am_Go sh M d Q pc lv st σ := by
  intro p l e D dA z φ s m args below meth c C H locs ls hP hS hl
  exact lv_ldc C.1 C.2.1 C.2.2.2.2.1 (C.2.2.2.2.2.1 _ (List.mem_cons_of_mem _ hc)) hd (k p l e D dA z φ s m args below meth c C H locs ls hP hS hl)
theorem go_ldcw {i : Nat} {n : Int} (hd : decode M.2.1 pc = .ok (.ldc_w i, 3)) (hc : Cond.constant M.1.cls i (iZ n) ∈ am_tbl) (k : am_Go sh M d Q (pc + 3) lv (.int (iZ n) :: st) σ) : am_Go sh M d Q pc lv st σ := by
  intro p l e D dA z φ s m args below meth c C H locs ls hP hS hl
  exact lv_ldcw C.1 C.2.1 C.2.2.2.2.1 (C.2.2.2.2.2.1 _ (List.mem_cons_of_mem _ hc)) hd (k p l e D dA z φ s m args below meth c C H locs ls hP hS hl)
theorem go_ldc2 {i : Nat} {n : Int} (hd : decode M.2.1 pc = .ok (.ldc2_w i, 3)) (hc : Cond.constantLong M.1.cls i (lZ n) ∈ am_tbl) (k : am_Go sh M d Q (pc + 3) lv (.long (lZ n) :: st) σ) : am_Go sh M d Q pc lv st σ := by
  intro p l e D dA z φ s m args below meth c C H locs ls hP hS hl
  exact lv_ldc2 C.1 C.2.1 C.2.2.2.2.1 (C.2.2.2.2.2.1 _ (List.mem_cons_of_mem _ hc)) hd (k p l e D dA z φ s m args below meth c C H locs ls hP hS hl)
theorem go_lconst {n : Fin 2} {v : Int} (hd : decode M.2.1 pc = .ok (.lconst n, 1)) (hv : Int64.ofNat (n : Nat) = lZ v) (k : am_Go sh M d Q (pc + 1) lv (.long (lZ v) :: st) σ) : am_Go sh M d Q pc lv st σ := by
  intro p l e D dA z φ s m args below meth c C H locs ls hP hS hl
  exact lv_lconst C.1 C.2.1 hd hv (k p l e D dA z φ s m args below meth c C H locs ls hP hS hl)
-- loads
theorem go_iload_n {i : Fin 4} {x : Int32} (hd : decode M.2.1 pc = .ok (.iload_n i, 1)) (hl : lv[(i : Nat)]? = some (some (.int x))) (k : am_Go sh M d Q (pc + 1) lv (.int x :: st) σ) : am_Go sh M d Q pc lv st σ := by
  intro p l e D dA z φ s m args below meth c C H locs ls hP hS hL
  exact lv_iload_n C.1 C.2.1 hd rfl (hL.2.2 _ _ hl) (k p l e D dA z φ s m args below meth c C H locs ls hP hS hL)
theorem go_iload {i : Nat} {x : Int32} (hd : decode M.2.1 pc = .ok (.iload i, 2)) (hl : lv[i]? = some (some (.int x))) (k : am_Go sh M d Q (pc + 2) lv (.int x :: st) σ) : am_Go sh M d Q pc lv st σ := by
  intro p l e D dA z φ s m args below meth c C H locs ls hP hS hL
  exact lv_iload C.1 C.2.1 hd (hL.2.2 _ _ hl) (k p l e D dA z φ s m args below meth c C H locs ls hP hS hL)
theorem go_lload_n {i : Fin 4} {x : Int64} (hd : decode M.2.1 pc = .ok (.lload_n i, 1)) (hl : lv[(i : Nat)]? = some (some (.long x))) (k : am_Go sh M d Q (pc + 1) lv (.long x :: st) σ) : am_Go sh M d Q pc lv st σ := by
  intro p l e D dA z φ s m args below meth c C H locs ls hP hS hL
  exact lv_lload_n C.1 C.2.1 hd rfl (hL.2.2 _ _ hl) (k p l e D dA z φ s m args below meth c C H locs ls hP hS hL)
theorem go_lload {i : Nat} {x : Int64} (hd : decode M.2.1 pc = .ok (.lload i, 2)) (hl : lv[i]? = some (some (.long x))) (k : am_Go sh M d Q (pc + 2) lv (.long x :: st) σ) : am_Go sh M d Q pc lv st σ := by
  intro p l e D dA z φ s m args below meth c C H locs ls hP hS hL
  exact lv_lload C.1 C.2.1 hd (hL.2.2 _ _ hl) (k p l e D dA z φ s m args below meth c C H locs ls hP hS hL)
theorem go_aload_n {i : Fin 4} {x : Nat} (hd : decode M.2.1 pc = .ok (.aload_n i, 1)) (hl : lv[(i : Nat)]? = some (some (.ref x))) (k : am_Go sh M d Q (pc + 1) lv (.ref x :: st) σ) : am_Go sh M d Q pc lv st σ := by
  intro p l e D dA z φ s m args below meth c C H locs ls hP hS hL
  exact lv_aload_n C.1 C.2.1 hd rfl (hL.2.2 _ _ hl) (k p l e D dA z φ s m args below meth c C H locs ls hP hS hL)
theorem go_aload {i : Nat} {x : Nat} (hd : decode M.2.1 pc = .ok (.aload i, 2)) (hl : lv[i]? = some (some (.ref x))) (k : am_Go sh M d Q (pc + 2) lv (.ref x :: st) σ) : am_Go sh M d Q pc lv st σ := by
  intro p l e D dA z φ s m args below meth c C H locs ls hP hS hL
  exact lv_aload C.1 C.2.1 hd (hL.2.2 _ _ hl) (k p l e D dA z φ s m args below meth c C H locs ls hP hS hL)
-- stores
def am_pl (φ : Nat → Nat) (lv : List (Option Value)) : List (Nat × Value) := (List.range lv.length).filterMap (fun i => (lv[i]?.join).map (fun v => (i, am_v φ v)))
theorem am_pl_mem {φ : Nat → Nat} {lv : List (Option Value)} {q : Nat × Value} : q ∈ am_pl φ lv ↔ ∃ v, lv[q.1]? = some (some v) ∧ q.2 = am_v φ v := by
  unfold am_pl
  rw [List.mem_filterMap]
  constructor
  · rintro ⟨i, hi, h⟩
    cases hj : lv[i]? with
    | none => rw [hj] at h; cases h
    | some o =>
      cases o with
      | none => rw [hj] at h; cases h
      | some v => rw [hj] at h; cases h; exact ⟨v, hj, rfl⟩
  · rintro ⟨v, h, h2⟩
    refine ⟨q.1, ?_, ?_⟩
    · rw [List.mem_range]; exact (List.getElem?_eq_some_iff.mp h).1
    · rw [h]; show some (q.1, am_v φ v) = some q; rw [← h2]
theorem am_Ls.has {φ : Nat → Nat} {n : Nat} {ls : Array Slot} {lv : List (Option Value)} (h : am_Ls φ ls n lv) : lv_has ls n (am_pl φ lv) := by
  refine ⟨h.1, h.2.1, fun q hq => ?_⟩
  obtain ⟨v, h1, h2⟩ := am_pl_mem.mp hq
  rw [h2]; exact h.2.2 _ _ h1
def am_nl : Option Value → Bool
  | some (.long _) => false
  | some (.double _) => false
  | _ => true
theorem am_nl_cat {v : Value} (h : am_nl (some v) = true) : v.category = 1 := by cases v <;> first | rfl | cases h
theorem am_Ls.st1 {φ : Nat → Nat} {n i : Nat} {ls' : Array Slot} {lv : List (Option Value)} {v : Value} (hp : ∀ j o, j + 1 = i → lv[j]? = some o → am_nl o = true)
    (h : lv_has ls' n ((i, am_v φ v) :: (am_pl φ lv).filter (fun q => !(q.1 == i) && !(q.1 + 1 == i && q.2.category == 2)))) : am_Ls φ ls' n (lv.set i (some v)) := by
  refine ⟨h.1, h.2.1, fun j w hj => ?_⟩
  by_cases hji : j = i
  · subst hji
    have hlt : j < lv.length := by
      have := (List.getElem?_eq_some_iff.mp hj).1
      rwa [List.length_set] at this
    rw [List.getElem?_set_self hlt] at hj
    cases hj
    exact h.2.2 (j, am_v φ v) List.mem_cons_self
  · rw [List.getElem?_set_ne (Ne.symm hji)] at hj
    refine h.2.2 (j, am_v φ w) (List.mem_cons_of_mem _ (List.mem_filter.mpr ⟨am_pl_mem.mpr ⟨w, hj, rfl⟩, ?_⟩))
    by_cases h1 : j + 1 = i
    · have := am_nl_cat (hp j _ h1 hj)
      simp [hji, am_cat, this]
    · simp [hji, h1]
theorem am_Ls.st2 {φ : Nat → Nat} {n i : Nat} {ls' : Array Slot} {lv : List (Option Value)} {v : Value} (hp : ∀ j o, j + 1 = i → lv[j]? = some o → am_nl o = true)
    (h : lv_has ls' n ((i, am_v φ v) :: (am_pl φ lv).filter (fun q => !(q.1 == i) && (!(q.1 == i + 1) && !(q.1 + 1 == i && q.2.category == 2))))) : am_Ls φ ls' n ((lv.set i (some v)).set (i + 1) none) := by
  refine ⟨h.1, h.2.1, fun j w hj => ?_⟩
  by_cases hj1 : j = i + 1
  · subst hj1
    have hlt : i + 1 < (lv.set i (some v)).length := by
      have := (List.getElem?_eq_some_iff.mp hj).1
      rwa [List.length_set] at this
    rw [List.getElem?_set_self hlt] at hj
    cases hj
  · rw [List.getElem?_set_ne (Ne.symm hj1)] at hj
    by_cases hji : j = i
    · subst hji
      have hlt : j < lv.length := by
        have := (List.getElem?_eq_some_iff.mp hj).1
        rwa [List.length_set] at this
      rw [List.getElem?_set_self hlt] at hj
      cases hj
      exact h.2.2 (j, am_v φ v) List.mem_cons_self
    · rw [List.getElem?_set_ne (Ne.symm hji)] at hj
      refine h.2.2 (j, am_v φ w) (List.mem_cons_of_mem _ (List.mem_filter.mpr ⟨am_pl_mem.mpr ⟨w, hj, rfl⟩, ?_⟩))
      by_cases h1 : j + 1 = i
      · have := am_nl_cat (hp j _ h1 hj)
        simp [hji, hj1, am_cat, this]
      · simp [hji, hj1, h1]
theorem go_istore_n {i : Fin 4} {x : Int32} (hd : decode M.2.1 pc = .ok (.istore_n i, 1)) (hn : (i : Nat) < M.2.2.1) (hp : ∀ j o, j + 1 = (i : Nat) → lv[j]? = some o → am_nl o = true) (k : am_Go sh M d Q (pc + 1) (lv.set i (some (.int x))) st σ) : am_Go sh M d Q pc lv (.int x :: st) σ := by
  intro p l e D dA z φ s m args below meth c C H locs ls hP hS hL
  exact lv_istore_n C.1 C.2.1 hd rfl hL.has hn rfl (fun ls' h' => k p l e D dA z φ s m args below meth c C H locs ls' hP hS (am_Ls.st1 (v := .int x) hp h'))
theorem go_istore {i : Nat} {x : Int32} (hd : decode M.2.1 pc = .ok (.istore i, 2)) (hn : i < M.2.2.1) (hp : ∀ j o, j + 1 = i → lv[j]? = some o → am_nl o = true) (k : am_Go sh M d Q (pc + 2) (lv.set i (some (.int x))) st σ) : am_Go sh M d Q pc lv (.int x :: st) σ := by
  intro p l e D dA z φ s m args below meth c C H locs ls hP hS hL
  exact lv_istore C.1 C.2.1 hd hL.has hn rfl (fun ls' h' => k p l e D dA z φ s m args below meth c C H locs ls' hP hS (am_Ls.st1 (v := .int x) hp h'))
theorem go_astore_n {i : Fin 4} {x : Nat} (hd : decode M.2.1 pc = .ok (.astore_n i, 1)) (hn : (i : Nat) < M.2.2.1) (hp : ∀ j o, j + 1 = (i : Nat) → lv[j]? = some o → am_nl o = true) (k : am_Go sh M d Q (pc + 1) (lv.set i (some (.ref x))) st σ) : am_Go sh M d Q pc lv (.ref x :: st) σ := by
  intro p l e D dA z φ s m args below meth c C H locs ls hP hS hL
  exact lv_astore_n C.1 C.2.1 hd rfl hL.has hn rfl (fun ls' h' => k p l e D dA z φ s m args below meth c C H locs ls' hP hS (am_Ls.st1 (v := .ref x) hp h'))
theorem go_lstore_n {i : Fin 4} {x : Int64} (hd : decode M.2.1 pc = .ok (.lstore_n i, 1)) (hn : (i : Nat) + 1 < M.2.2.1) (hp : ∀ j o, j + 1 = (i : Nat) → lv[j]? = some o → am_nl o = true) (k : am_Go sh M d Q (pc + 1) ((lv.set i (some (.long x))).set (i + 1) none) st σ) : am_Go sh M d Q pc lv (.long x :: st) σ := by
  intro p l e D dA z φ s m args below meth c C H locs ls hP hS hL
  exact lv_lstore_n C.1 C.2.1 hd rfl hL.has hn rfl (fun ls' h' => k p l e D dA z φ s m args below meth c C H locs ls' hP hS (am_Ls.st2 (v := .long x) hp h'))
theorem go_lstore {i : Nat} {x : Int64} (hd : decode M.2.1 pc = .ok (.lstore i, 2)) (hn : i + 1 < M.2.2.1) (hp : ∀ j o, j + 1 = i → lv[j]? = some o → am_nl o = true) (k : am_Go sh M d Q (pc + 2) ((lv.set i (some (.long x))).set (i + 1) none) st σ) : am_Go sh M d Q pc lv (.long x :: st) σ := by
  intro p l e D dA z φ s m args below meth c C H locs ls hP hS hL
  exact lv_lstore C.1 C.2.1 hd hL.has hn rfl (fun ls' h' => k p l e D dA z φ s m args below meth c C H locs ls' hP hS (am_Ls.st2 (v := .long x) hp h'))
theorem go_iinc {i : Nat} {n a : Int} (hd : decode M.2.1 pc = .ok (.iinc i n, 3)) (hl : lv[i]? = some (some (.int (iZ a)))) (hn : i < M.2.2.1) (hp : ∀ j o, j + 1 = i → lv[j]? = some o → am_nl o = true) (k : am_Go sh M d Q (pc + 3) (lv.set i (some (.int (iZ (a + n))))) st σ) : am_Go sh M d Q pc lv st σ := by
  intro p l e D dA z φ s m args below meth c C H locs ls hP hS hL
  obtain ⟨j, hj⟩ := List.getElem?_of_mem (am_pl_mem.mpr ⟨Value.int (iZ a), hl, rfl⟩ : (i, am_v φ (.int (iZ a))) ∈ am_pl φ lv)
  exact lv_iinc C.1 C.2.1 hd hL.has hj (v := iZ (a + n)) (Int32.ofInt_add a n).symm hn rfl (fun ls' h' => k p l e D dA z φ s m args below meth c C H locs ls' hP hS (am_Ls.st1 (v := .int (iZ (a + n))) hp h'))
/-- locals may be forgotten -/
theorem go_weak {lv' : List (Option Value)} (h : ∀ (i : Nat) (v : Value), lv'[i]? = some (some v) → lv[i]? = some (some v)) (k : am_Go sh M d Q pc lv' st σ) : am_Go sh M d Q pc lv st σ := by
  intro p l e D dA z φ s m args below meth c C H locs ls hP hS hL
  exact k p l e D dA z φ s m args below meth c C H locs ls hP hS ⟨hL.1, hL.2.1, fun i v hi => hL.2.2 i v (h i v hi)⟩
end AMR
end
section
/-! ===== rows: arithmetic, branches, returns, fields, arrays ===== -/
def am_and (a b : Int) : Int := (iZ a &&& iZ b).toInt
def am_or (a b : Int) : Int := (iZ a ||| iZ b).toInt
def am_xor (a b : Int) : Int := (iZ a ^^^ iZ b).toInt
def am_shl (a b : Int) : Int := (iZ a <<< (iZ b &&& 31)).toInt
def am_shr (a b : Int) : Int := (iZ a >>> (iZ b &&& 31)).toInt
def am_ushr (a b : Int) : Int := ((iZ a).toUInt32 >>> ((iZ b).toUInt32 &&& Int32.toUInt32 31)).toInt32.toInt
theorem iZ_div {a b : Int} (ha : 0 ≤ a) (hr : inR a) (hb : 0 < b) (hs : inR b) : iZ a / iZ b = iZ (a / b) := by
  apply Int32.toInt_inj.mp
  have h1 : a / b ≤ a := Int.ediv_le_self b ha
  have h2 : 0 ≤ a / b := Int.ediv_nonneg ha (by omega)
  rw [lg_idiv_nonneg (by rw [iZ_toInt hr]; exact ha) (by rw [iZ_toInt hs]; omega), iZ_toInt hr, iZ_toInt hs, iZ_toInt ⟨by omega, by unfold inR at hr; omega⟩]
theorem iZ_rem {a b : Int} (ha : 0 ≤ a) (hr : inR a) (hb : 0 < b) (hs : inR b) : iZ a - iZ a / iZ b * iZ b = iZ (a % b) := by
  rw [iZ_div ha hr hb hs, ← Int32.ofInt_mul, ← Int32.ofInt_sub]
  refine congrArg Int32.ofInt ?_
  have := Int.mul_ediv_add_emod a b
  rw [Int.mul_comm] at this
  omega
theorem lZ_div {a b : Int} (ha : 0 ≤ a) (hr : inL a) (hb : 0 < b) (hs : inL b) : lZ a / lZ b = lZ (a / b) := by
  apply Int64.toInt_inj.mp
  have h1 : a / b ≤ a := Int.ediv_le_self b ha
  have h2 : 0 ≤ a / b := Int.ediv_nonneg ha (by omega)
  rw [lg_ldiv_nonneg (by rw [lZ_toInt hr]; exact ha) (by rw [lZ_toInt hs]; omega), lZ_toInt hr, lZ_toInt hs, lZ_toInt ⟨by omega, by unfold inL at hr; omega⟩]
theorem lZ_rem {a b : Int} (ha : 0 ≤ a) (hr : inL a) (hb : 0 < b) (hs : inL b) : lZ a - lZ a / lZ b * lZ b = lZ (a % b) := by
  rw [lZ_div ha hr hb hs, ← Int64.ofInt_mul, ← Int64.ofInt_sub]
  refine congrArg Int64.ofInt ?_
  have := Int.mul_ediv_add_emod a b
  rw [Int.mul_comm] at this
  omega
theorem iZ_ne0 {b : Int} (hb : 0 < b) (hs : inR b) : ¬ iZ b = 0 := by
  intro h
  have := congrArg Int32.toInt h
  rw [iZ_toInt hs] at this
  have h0 : (0 : Int32).toInt = 0 := rfl
  omega
theorem lZ_ne0 {b : Int} (hb : 0 < b) (hs : inL b) : ¬ lZ b = 0 := by
  intro h
  have := congrArg Int64.toInt h
  rw [lZ_toInt hs] at this
  have h0 : (0 : Int64).toInt = 0 := rfl
  omega
section AMS
variable {sh : am_Sh} {M : am_M} {d : Nat} {Q : Option Value → am_St → Prop} {pc : Nat} {lv : List (Option Value)} {st : List Value} {σ : am_St}
theorem go_iadd {a b : Int} (hd : decode M.2.1 pc = .ok (.iadd, 1)) (k : am_Go sh M d Q (pc + 1) lv (.int (iZ (a + b)) :: st) σ) : am_Go sh M d Q pc lv (.int (iZ b) :: .int (iZ a) :: st) σ := by
  intro p l e D dA z φ s m args below meth c C H locs ls hP hS hL
  refine lv_iadd C.1 C.2.1 hd ?_
  have h := (k p l e D dA z φ s m args below meth c C H locs ls hP hS hL)
  rwa [iZ, Int32.ofInt_add] at h
theorem go_isub {a b : Int} (hd : decode M.2.1 pc = .ok (.isub, 1)) (k : am_Go sh M d Q (pc + 1) lv (.int (iZ (a - b)) :: st) σ) : am_Go sh M d Q pc lv (.int (iZ b) :: .int (iZ a) :: st) σ := by
  intro p l e D dA z φ s m args below meth c C H locs ls hP hS hL
  refine lv_isub C.1 C.2.1 hd ?_
  have h := (k p l e D dA z φ s m args below meth c C H locs ls hP hS hL)
  rwa [iZ, Int32.ofInt_sub] at h
theorem go_imul {a b : Int} (hd : decode M.2.1 pc = .ok (.imul, 1)) (k : am_Go sh M d Q (pc + 1) lv (.int (iZ (a * b)) :: st) σ) : am_Go sh M d Q pc lv (.int (iZ b) :: .int (iZ a) :: st) σ := by
  intro p l e D dA z φ s m args below meth c C H locs ls hP hS hL
  refine lv_imul C.1 C.2.1 hd ?_
  have h := (k p l e D dA z φ s m args below meth c C H locs ls hP hS hL)
  rwa [iZ, Int32.ofInt_mul] at h
theorem go_ladd {a b : Int} (hd : decode M.2.1 pc = .ok (.ladd, 1)) (k : am_Go sh M d Q (pc + 1) lv (.long (lZ (a + b)) :: st) σ) : am_Go sh M d Q pc lv (.long (lZ b) :: .long (lZ a) :: st) σ := by
  intro p l e D dA z φ s m args below meth c C H locs ls hP hS hL
  refine lv_ladd C.1 C.2.1 hd ?_
  have h := (k p l e D dA z φ s m args below meth c C H locs ls hP hS hL)
  rwa [lZ, Int64.ofInt_add] at h
theorem go_lmul {a b : Int} (hd : decode M.2.1 pc = .ok (.lmul, 1)) (k : am_Go sh M d Q (pc + 1) lv (.long (lZ (a * b)) :: st) σ) : am_Go sh M d Q pc lv (.long (lZ b) :: .long (lZ a) :: st) σ := by
  intro p l e D dA z φ s m args below meth c C H locs ls hP hS hL
  refine lv_lmul C.1 C.2.1 hd ?_
  have h := (k p l e D dA z φ s m args below meth c C H locs ls hP hS hL)
  rwa [lZ, Int64.ofInt_mul] at h
theorem go_iand {a b : Int} (hd : decode M.2.1 pc = .ok (.iand, 1)) (k : am_Go sh M d Q (pc + 1) lv (.int (iZ (am_and a b)) :: st) σ) : am_Go sh M d Q pc lv (.int (iZ b) :: .int (iZ a) :: st) σ := by
  intro p l e D dA z φ s m args below meth c C H locs ls hP hS hL
  refine lv_iand C.1 C.2.1 hd ?_
  have h := (k p l e D dA z φ s m args below meth c C H locs ls hP hS hL)
  rwa [am_and, iZ_of] at h
theorem go_ior {a b : Int} (hd : decode M.2.1 pc = .ok (.ior, 1)) (k : am_Go sh M d Q (pc + 1) lv (.int (iZ (am_or a b)) :: st) σ) : am_Go sh M d Q pc lv (.int (iZ b) :: .int (iZ a) :: st) σ := by
  intro p l e D dA z φ s m args below meth c C H locs ls hP hS hL
  refine lv_ior C.1 C.2.1 hd ?_
  have h := (k p l e D dA z φ s m args below meth c C H locs ls hP hS hL)
  rwa [am_or, iZ_of] at h
theorem go_ixor {a b : Int} (hd : decode M.2.1 pc = .ok (.ixor, 1)) (k : am_Go sh M d Q (pc + 1) lv (.int (iZ (am_xor a b)) :: st) σ) : am_Go sh M d Q pc lv (.int (iZ b) :: .int (iZ a) :: st) σ := by
  intro p l e D dA z φ s m args below meth c C H locs ls hP hS hL
  refine lv_ixor C.1 C.2.1 hd ?_
  have h := (k p l e D dA z φ s m args below meth c C H locs ls hP hS hL)
  rwa [am_xor, iZ_of] at h
theorem go_ishl {a b : Int} (hd : decode M.2.1 pc = .ok (.ishl, 1)) (k : am_Go sh M d Q (pc + 1) lv (.int (iZ (am_shl a b)) :: st) σ) : am_Go sh M d Q pc lv (.int (iZ b) :: .int (iZ a) :: st) σ := by
  intro p l e D dA z φ s m args below meth c C H locs ls hP hS hL
  refine lv_ishl C.1 C.2.1 hd ?_
  have h := (k p l e D dA z φ s m args below meth c C H locs ls hP hS hL)
  rwa [am_shl, iZ_of] at h
theorem go_ishr {a b : Int} (hd : decode M.2.1 pc = .ok (.ishr, 1)) (k : am_Go sh M d Q (pc + 1) lv (.int (iZ (am_shr a b)) :: st) σ) : am_Go sh M d Q pc lv (.int (iZ b) :: .int (iZ a) :: st) σ := by
  intro p l e D dA z φ s m args below meth c C H locs ls hP hS hL
  refine lv_ishr C.1 C.2.1 hd ?_
  have h := (k p l e D dA z φ s m args below meth c C H locs ls hP hS hL)
  rwa [am_shr, iZ_of] at h
theorem go_iushr {a b : Int} (hd : decode M.2.1 pc = .ok (.iushr, 1)) (k : am_Go sh M d Q (pc + 1) lv (.int (iZ (am_ushr a b)) :: st) σ) : am_Go sh M d Q pc lv (.int (iZ b) :: .int (iZ a) :: st) σ := by
  intro p l e D dA z φ s m args below meth c C H locs ls hP hS hL
  refine lv_iushr C.1 C.2.1 hd rfl ?_
  have h := (k p l e D dA z φ s m args below meth c C H locs ls hP hS hL)
  rwa [am_ushr, iZ_of] at h
theorem go_idiv {a b : Int} (hd : decode M.2.1 pc = .ok (.idiv, 1)) (ha : 0 ≤ a) (hr : inR a) (hb : 0 < b) (hs : inR b) (k : am_Go sh M d Q (pc + 1) lv (.int (iZ (a / b)) :: st) σ) : am_Go sh M d Q pc lv (.int (iZ b) :: .int (iZ a) :: st) σ := by
  intro p l e D dA z φ s m args below meth c C H locs ls hP hS hL
  refine lv_idiv C.1 C.2.1 hd (iZ_ne0 hb hs) ?_
  have h := (k p l e D dA z φ s m args below meth c C H locs ls hP hS hL)
  rw [← iZ_div ha hr hb hs] at h
  exact h
theorem go_irem {a b : Int} (hd : decode M.2.1 pc = .ok (.irem, 1)) (ha : 0 ≤ a) (hr : inR a) (hb : 0 < b) (hs : inR b) (k : am_Go sh M d Q (pc + 1) lv (.int (iZ (a % b)) :: st) σ) : am_Go sh M d Q pc lv (.int (iZ b) :: .int (iZ a) :: st) σ := by
  intro p l e D dA z φ s m args below meth c C H locs ls hP hS hL
  refine lv_irem C.1 C.2.1 hd (iZ_ne0 hb hs) ?_
  have h := (k p l e D dA z φ s m args below meth c C H locs ls hP hS hL)
  rw [← iZ_rem ha hr hb hs] at h
  exact h
theorem go_ldiv {a b : Int} (hd : decode M.2.1 pc = .ok (.ldiv, 1)) (ha : 0 ≤ a) (hr : inL a) (hb : 0 < b) (hs : inL b) (k : am_Go sh M d Q (pc + 1) lv (.long (lZ (a / b)) :: st) σ) : am_Go sh M d Q pc lv (.long (lZ b) :: .long (lZ a) :: st) σ := by
  intro p l e D dA z φ s m args below meth c C H locs ls hP hS hL
  refine lv_ldiv C.1 C.2.1 hd (lZ_ne0 hb hs) ?_
  have h := (k p l e D dA z φ s m args below meth c C H locs ls hP hS hL)
  rw [← lZ_div ha hr hb hs] at h
  exact h
theorem go_lrem {a b : Int} (hd : decode M.2.1 pc = .ok (.lrem, 1)) (ha : 0 ≤ a) (hr : inL a) (hb : 0 < b) (hs : inL b) (k : am_Go sh M d Q (pc + 1) lv (.long (lZ (a % b)) :: st) σ) : am_Go sh M d Q pc lv (.long (lZ b) :: .long (lZ a) :: st) σ := by
  intro p l e D dA z φ s m args below meth c C H locs ls hP hS hL
  refine lv_lrem C.1 C.2.1 hd (lZ_ne0 hb hs) ?_
  have h := (k p l e D dA z φ s m args below meth c C H locs ls hP hS hL)
  rw [← lZ_rem ha hr hb hs] at h
  exact h
theorem go_i2l {a : Int} (hd : decode M.2.1 pc = .ok (.i2l, 1)) (ha : inR a) (k : am_Go sh M d Q (pc + 1) lv (.long (lZ a) :: st) σ) : am_Go sh M d Q pc lv (.int (iZ a) :: st) σ := by
  intro p l e D dA z φ s m args below meth c C H locs ls hP hS hL
  refine lv_i2l C.1 C.2.1 hd (v := lZ a) ?_ (k p l e D dA z φ s m args below meth c C H locs ls hP hS hL)
  have h1 : inL a := by unfold inR at ha; unfold inL; omega
  apply Int64.toInt_inj.mp
  rw [Int32.toInt_toInt64, iZ_toInt ha, lZ_toInt h1]
theorem go_l2i {a : Int} (hd : decode M.2.1 pc = .ok (.l2i, 1)) (k : am_Go sh M d Q (pc + 1) lv (.int (iZ a) :: st) σ) : am_Go sh M d Q pc lv (.long (lZ a) :: st) σ := by
  intro p l e D dA z φ s m args below meth c C H locs ls hP hS hL
  exact lv_l2i C.1 C.2.1 hd (v := iZ a) Int64.toInt32_ofInt (k p l e D dA z φ s m args below meth c C H locs ls hP hS hL)
theorem go_dup {v : Value} (hd : decode M.2.1 pc = .ok (.dup, 1)) (hv : v.category = 1) (k : am_Go sh M d Q (pc + 1) lv (v :: v :: st) σ) : am_Go sh M d Q pc lv (v :: st) σ := by
  intro p l e D dA z φ s m args below meth c C H locs ls hP hS hL
  exact lv_dup C.1 C.2.1 hd ((am_cat φ v).trans hv) (k p l e D dA z φ s m args below meth c C H locs ls hP hS hL)
theorem go_pop {v : Value} (hd : decode M.2.1 pc = .ok (.pop, 1)) (hv : v.category = 1) (k : am_Go sh M d Q (pc + 1) lv (st) σ) : am_Go sh M d Q pc lv (v :: st) σ := by
  intro p l e D dA z φ s m args below meth c C H locs ls hP hS hL
  exact lv_pop C.1 C.2.1 hd ((am_cat φ v).trans hv) (k p l e D dA z φ s m args below meth c C H locs ls hP hS hL)
theorem go_dup2 {v w : Value} (hd : decode M.2.1 pc = .ok (.dup2, 1)) (hv : v.category = 1) (hw : w.category = 1) (k : am_Go sh M d Q (pc + 1) lv (v :: w :: v :: w :: st) σ) : am_Go sh M d Q pc lv (v :: w :: st) σ := by
  intro p l e D dA z φ s m args below meth c C H locs ls hP hS hL
  exact lv_dup2_11 C.1 C.2.1 hd ((am_cat φ v).trans hv) ((am_cat φ w).trans hw) (k p l e D dA z φ s m args below meth c C H locs ls hP hS hL)
theorem go_goto {off : Int} {tgt : Nat} (hd : decode M.2.1 pc = .ok (.goto off, 3)) (ht : (pc : Int) + off = (tgt : Int)) (k : am_Go sh M d Q tgt lv (st) σ) : am_Go sh M d Q pc lv (st) σ := by
  intro p l e D dA z φ s m args below meth c C H locs ls hP hS hL
  exact lv_goto C.1 C.2.1 hd ht (k p l e D dA z φ s m args below meth c C H locs ls hP hS hL)
theorem go_icmp_eq {a b off : Int} {tgt : Nat} (hd : decode M.2.1 pc = .ok (.if_icmp .eq off, 3)) (ht : (pc : Int) + off = (tgt : Int)) (ha : inR a) (hb : inR b) (kt : a = b → am_Go sh M d Q tgt lv (st) σ) (kf : ¬ (a = b) → am_Go sh M d Q (pc + 3) lv (st) σ) : am_Go sh M d Q pc lv (.int (iZ b) :: .int (iZ a) :: st) σ := by
  intro p l e D dA z φ s m args below meth c C H locs ls hP hS hL
  exact lv_icmp_eq C.1 C.2.1 hd ht (fun h => kt ((iZ_inj ha hb).mp h) p l e D dA z φ s m args below meth c C H locs ls hP hS hL) (fun h => kf (fun h2 => h ((iZ_inj ha hb).mpr h2)) p l e D dA z φ s m args below meth c C H locs ls hP hS hL)
theorem go_icmp_ne {a b off : Int} {tgt : Nat} (hd : decode M.2.1 pc = .ok (.if_icmp .ne off, 3)) (ht : (pc : Int) + off = (tgt : Int)) (ha : inR a) (hb : inR b) (kt : ¬ a = b → am_Go sh M d Q tgt lv (st) σ) (kf : a = b → am_Go sh M d Q (pc + 3) lv (st) σ) : am_Go sh M d Q pc lv (.int (iZ b) :: .int (iZ a) :: st) σ := by
  intro p l e D dA z φ s m args below meth c C H locs ls hP hS hL
  exact lv_icmp_ne C.1 C.2.1 hd ht (fun h => kt ((not_congr (iZ_inj ha hb)).mp h) p l e D dA z φ s m args below meth c C H locs ls hP hS hL) (fun h => kf ((iZ_inj ha hb).mp h) p l e D dA z φ s m args below meth c C H locs ls hP hS hL)
theorem go_icmp_lt {a b off : Int} {tgt : Nat} (hd : decode M.2.1 pc = .ok (.if_icmp .lt off, 3)) (ht : (pc : Int) + off = (tgt : Int)) (ha : inR a) (hb : inR b) (kt : a < b → am_Go sh M d Q tgt lv (st) σ) (kf : ¬ (a < b) → am_Go sh M d Q (pc + 3) lv (st) σ) : am_Go sh M d Q pc lv (.int (iZ b) :: .int (iZ a) :: st) σ := by
  intro p l e D dA z φ s m args below meth c C H locs ls hP hS hL
  exact lv_icmp_lt C.1 C.2.1 hd ht (fun h => kt ((iZ_lt ha hb).mp h) p l e D dA z φ s m args below meth c C H locs ls hP hS hL) (fun h => kf (fun h2 => h ((iZ_lt ha hb).mpr h2)) p l e D dA z φ s m args below meth c C H locs ls hP hS hL)
theorem go_icmp_ge {a b off : Int} {tgt : Nat} (hd : decode M.2.1 pc = .ok (.if_icmp .ge off, 3)) (ht : (pc : Int) + off = (tgt : Int)) (ha : inR a) (hb : inR b) (kt : b ≤ a → am_Go sh M d Q tgt lv (st) σ) (kf : ¬ (b ≤ a) → am_Go sh M d Q (pc + 3) lv (st) σ) : am_Go sh M d Q pc lv (.int (iZ b) :: .int (iZ a) :: st) σ := by
  intro p l e D dA z φ s m args below meth c C H locs ls hP hS hL
  exact lv_icmp_ge C.1 C.2.1 hd ht (fun h => kt ((iZ_le hb ha).mp h) p l e D dA z φ s m args below meth c C H locs ls hP hS hL) (fun h => kf (fun h2 => h ((iZ_le hb ha).mpr h2)) p l e D dA z φ s m args below meth c C H locs ls hP hS hL)
theorem go_icmp_gt {a b off : Int} {tgt : Nat} (hd : decode M.2.1 pc = .ok (.if_icmp .gt off, 3)) (ht : (pc : Int) + off = (tgt : Int)) (ha : inR a) (hb : inR b) (kt : b < a → am_Go sh M d Q tgt lv (st) σ) (kf : ¬ (b < a) → am_Go sh M d Q (pc + 3) lv (st) σ) : am_Go sh M d Q pc lv (.int (iZ b) :: .int (iZ a) :: st) σ := by
  intro p l e D dA z φ s m args below meth c C H locs ls hP hS hL
  exact lv_icmp_gt C.1 C.2.1 hd ht (fun h => kt ((iZ_lt hb ha).mp h) p l e D dA z φ s m args below meth c C H locs ls hP hS hL) (fun h => kf (fun h2 => h ((iZ_lt hb ha).mpr h2)) p l e D dA z φ s m args below meth c C H locs ls hP hS hL)
theorem go_icmp_le {a b off : Int} {tgt : Nat} (hd : decode M.2.1 pc = .ok (.if_icmp .le off, 3)) (ht : (pc : Int) + off = (tgt : Int)) (ha : inR a) (hb : inR b) (kt : a ≤ b → am_Go sh M d Q tgt lv (st) σ) (kf : ¬ (a ≤ b) → am_Go sh M d Q (pc + 3) lv (st) σ) : am_Go sh M d Q pc lv (.int (iZ b) :: .int (iZ a) :: st) σ := by
  intro p l e D dA z φ s m args below meth c C H locs ls hP hS hL
  exact lv_icmp_le C.1 C.2.1 hd ht (fun h => kt ((iZ_le ha hb).mp h) p l e D dA z φ s m args below meth c C H locs ls hP hS hL) (fun h => kf (fun h2 => h ((iZ_le ha hb).mpr h2)) p l e D dA z φ s m args below meth c C H locs ls hP hS hL)
theorem go_if_eq {a off : Int} {tgt : Nat} (hd : decode M.2.1 pc = .ok (.ifCond .eq off, 3)) (ht : (pc : Int) + off = (tgt : Int)) (ha : inR a) (kt : a = 0 → am_Go sh M d Q tgt lv (st) σ) (kf : ¬ (a = 0) → am_Go sh M d Q (pc + 3) lv (st) σ) : am_Go sh M d Q pc lv (.int (iZ a) :: st) σ := by
  intro p l e D dA z φ s m args below meth c C H locs ls hP hS hL
  have i0R : inR 0 := ⟨by omega, by omega⟩
  exact lv_if_eq C.1 C.2.1 hd ht (fun h => kt ((iZ_inj ha i0R).mp h) p l e D dA z φ s m args below meth c C H locs ls hP hS hL) (fun h => kf (fun h2 => h ((iZ_inj ha i0R).mpr h2)) p l e D dA z φ s m args below meth c C H locs ls hP hS hL)
theorem go_if_ne {a off : Int} {tgt : Nat} (hd : decode M.2.1 pc = .ok (.ifCond .ne off, 3)) (ht : (pc : Int) + off = (tgt : Int)) (ha : inR a) (kt : ¬ a = 0 → am_Go sh M d Q tgt lv (st) σ) (kf : a = 0 → am_Go sh M d Q (pc + 3) lv (st) σ) : am_Go sh M d Q pc lv (.int (iZ a) :: st) σ := by
  intro p l e D dA z φ s m args below meth c C H locs ls hP hS hL
  have i0R : inR 0 := ⟨by omega, by omega⟩
  exact lv_if_ne C.1 C.2.1 hd ht (fun h => kt ((not_congr (iZ_inj ha i0R)).mp h) p l e D dA z φ s m args below meth c C H locs ls hP hS hL) (fun h => kf ((iZ_inj ha i0R).mp h) p l e D dA z φ s m args below meth c C H locs ls hP hS hL)
theorem go_if_lt {a off : Int} {tgt : Nat} (hd : decode M.2.1 pc = .ok (.ifCond .lt off, 3)) (ht : (pc : Int) + off = (tgt : Int)) (ha : inR a) (kt : a < 0 → am_Go sh M d Q tgt lv (st) σ) (kf : ¬ (a < 0) → am_Go sh M d Q (pc + 3) lv (st) σ) : am_Go sh M d Q pc lv (.int (iZ a) :: st) σ := by
  intro p l e D dA z φ s m args below meth c C H locs ls hP hS hL
  have i0R : inR 0 := ⟨by omega, by omega⟩
  exact lv_if_lt C.1 C.2.1 hd ht (fun h => kt ((iZ_lt ha i0R).mp h) p l e D dA z φ s m args below meth c C H locs ls hP hS hL) (fun h => kf (fun h2 => h ((iZ_lt ha i0R).mpr h2)) p l e D dA z φ s m args below meth c C H locs ls hP hS hL)
theorem go_if_ge {a off : Int} {tgt : Nat} (hd : decode M.2.1 pc = .ok (.ifCond .ge off, 3)) (ht : (pc : Int) + off = (tgt : Int)) (ha : inR a) (kt : 0 ≤ a → am_Go sh M d Q tgt lv (st) σ) (kf : ¬ (0 ≤ a) → am_Go sh M d Q (pc + 3) lv (st) σ) : am_Go sh M d Q pc lv (.int (iZ a) :: st) σ := by
  intro p l e D dA z φ s m args below meth c C H locs ls hP hS hL
  have i0R : inR 0 := ⟨by omega, by omega⟩
  exact lv_if_ge C.1 C.2.1 hd ht (fun h => kt ((iZ_le i0R ha).mp h) p l e D dA z φ s m args below meth c C H locs ls hP hS hL) (fun h => kf (fun h2 => h ((iZ_le i0R ha).mpr h2)) p l e D dA z φ s m args below meth c C H locs ls hP hS hL)
theorem go_if_gt {a off : Int} {tgt : Nat} (hd : decode M.2.1 pc = .ok (.ifCond .gt off, 3)) (ht : (pc : Int) + off = (tgt : Int)) (ha : inR a) (kt : 0 < a → am_Go sh M d Q tgt lv (st) σ) (kf : ¬ (0 < a) → am_Go sh M d Q (pc + 3) lv (st) σ) : am_Go sh M d Q pc lv (.int (iZ a) :: st) σ := by
  intro p l e D dA z φ s m args below meth c C H locs ls hP hS hL
  have i0R : inR 0 := ⟨by omega, by omega⟩
  exact lv_if_gt C.1 C.2.1 hd ht (fun h => kt ((iZ_lt i0R ha).mp h) p l e D dA z φ s m args below meth c C H locs ls hP hS hL) (fun h => kf (fun h2 => h ((iZ_lt i0R ha).mpr h2)) p l e D dA z φ s m args below meth c C H locs ls hP hS hL)
theorem go_if_le {a off : Int} {tgt : Nat} (hd : decode M.2.1 pc = .ok (.ifCond .le off, 3)) (ht : (pc : Int) + off = (tgt : Int)) (ha : inR a) (kt : a ≤ 0 → am_Go sh M d Q tgt lv (st) σ) (kf : ¬ (a ≤ 0) → am_Go sh M d Q (pc + 3) lv (st) σ) : am_Go sh M d Q pc lv (.int (iZ a) :: st) σ := by
  intro p l e D dA z φ s m args below meth c C H locs ls hP hS hL
  have i0R : inR 0 := ⟨by omega, by omega⟩
  exact lv_if_le C.1 C.2.1 hd ht (fun h => kt ((iZ_le ha i0R).mp h) p l e D dA z φ s m args below meth c C H locs ls hP hS hL) (fun h => kf (fun h2 => h ((iZ_le ha i0R).mpr h2)) p l e D dA z φ s m args below meth c C H locs ls hP hS hL)
theorem go_tswOut {dflt lo hi : Int} {offs : Array Int} {len : Nat} {a : Int} {tgt : Nat} (hd : decode M.2.1 pc = .ok (.tableswitch dflt lo hi offs, len)) (ha : inR a) (h : a < lo ∨ hi < a) (ht : (pc : Int) + dflt = (tgt : Int)) (k : am_Go sh M d Q tgt lv (st) σ) : am_Go sh M d Q pc lv (.int (iZ a) :: st) σ := by
  intro p l e D dA z φ s m args below meth c C H locs ls hP hS hL
  exact lv_tableOut C.1 C.2.1 hd (by rw [iZ_toInt ha]; exact h) ht (k p l e D dA z φ s m args below meth c C H locs ls hP hS hL)
theorem go_tswIn {dflt lo hi : Int} {offs : Array Int} {len : Nat} {a off : Int} {tgt : Nat} (hd : decode M.2.1 pc = .ok (.tableswitch dflt lo hi offs, len)) (ha : inR a) (h1 : ¬ a < lo) (h2 : ¬ hi < a) (ho : offs[(a - lo).toNat]? = some off) (ht : (pc : Int) + off = (tgt : Int)) (k : am_Go sh M d Q tgt lv (st) σ) : am_Go sh M d Q pc lv (.int (iZ a) :: st) σ := by
  intro p l e D dA z φ s m args below meth c C H locs ls hP hS hL
  exact lv_tableIn C.1 C.2.1 hd (by rw [iZ_toInt ha]; exact h1) (by rw [iZ_toInt ha]; exact h2) (by rw [iZ_toInt ha]; exact ho) ht (k p l e D dA z φ s m args below meth c C H locs ls hP hS hL)
theorem go_ireturn {x : Int32} (hd : decode M.2.1 pc = .ok (.ireturn, 1)) (hr : M.2.2.2 = some .int) (q : Q (some (.int x)) σ) : am_Go sh M d Q pc lv ([.int x]) σ := by
  intro p l e D dA z φ s m args below meth c C H locs ls hP hS hL
  exact W.iret (v := x) C.1 C.2.1 (C.2.2.1.trans hr) (fun t ht hW => ⟨⟨some (.int x), σ, rfl, q, by rw [ht]; exact hP⟩, hS.F ht⟩) hS.2.2 hd C.2.2.2.2.2.2.1
theorem go_zreturn {a : Int} (hd : decode M.2.1 pc = .ok (.ireturn, 1)) (hr : M.2.2.2 = some .boolean) (ha : a = 0 ∨ a = 1) (q : Q (some (.int (iZ a))) σ) : am_Go sh M d Q pc lv ([.int (iZ a)]) σ := by
  intro p l e D dA z φ s m args below meth c C H locs ls hP hS hL
  exact W.zret (v := iZ a) (ty := .boolean) C.1 C.2.1 (C.2.2.1.trans hr) (by rcases ha with rfl | rfl <;> rfl) (fun t ht hW => ⟨⟨some (.int (iZ a)), σ, rfl, q, by rw [ht]; exact hP⟩, hS.F ht⟩) hS.2.2 hd C.2.2.2.2.2.2.1
theorem go_lreturn {x : Int64} (hd : decode M.2.1 pc = .ok (.lreturn, 1)) (hr : M.2.2.2 = some .long) (q : Q (some (.long x)) σ) : am_Go sh M d Q pc lv ([.long x]) σ := by
  intro p l e D dA z φ s m args below meth c C H locs ls hP hS hL
  exact W.lret (v := x) C.1 C.2.1 (C.2.2.1.trans hr) (fun t ht hW => ⟨⟨some (.long x), σ, rfl, q, by rw [ht]; exact hP⟩, hS.F ht⟩) hS.2.2 hd C.2.2.2.2.2.2.1
theorem go_return (hd : decode M.2.1 pc = .ok (.return_, 1)) (hr : M.2.2.2 = none) (q : Q none σ) : am_Go sh M d Q pc lv ([]) σ := by
  intro p l e D dA z φ s m args below meth c C H locs ls hP hS hL
  exact W.vret C.1 C.2.1 (C.2.2.1.trans hr) (fun t ht hW => ⟨⟨none, σ, rfl, q, by rw [ht]; exact hP⟩, hS.F ht⟩) hS.2.2 hd C.2.2.2.2.2.2.1
end AMS
end
section
/-! ===== rows: fields and arrays ===== -/
def am_si (σ : am_St) (k j : Nat) (v : Int) : am_St := (fun a b => if a = k ∧ b = j then v else σ.1 a b, σ.2.1, σ.2.2)
def am_sl (σ : am_St) (k j : Nat) (v : Int) : am_St := (σ.1, fun a b => if a = k ∧ b = j then v else σ.2.1 a b, σ.2.2)
def am_sa (σ : am_St) (k : Nat) (i v : Int) : am_St := (σ.1, σ.2.1, fun a b => if a = k ∧ b = i then v else σ.2.2 a b)
def am_F (own : String) (idx ci j : Nat) (ty : FieldType) (fin : Bool) : Prop := ∃ (C : String) (T : u_T) (N : Nat) (ty0 : Nat → FieldType), am_cl[ci]? = some (C, T, N) ∧ j < N ∧ (∀ w ∈ u_ws C T N, w ∈ am_tbl) ∧ (∀ k, k < N → parseFieldDescriptor (T k).2.2.1 = some (ty0 k)) ∧ (∀ a, a < N → ∀ b, b < N → a ≠ b → (T a).2.1 ≠ (T b).2.1) ∧ Cond.fieldLink own idx (T j).1 (T j).2.1 (T j).2.2.1 ∈ am_tbl ∧ ty0 j = ty ∧ (T j).2.2.2 = fin
def am_fit (ty : FieldType) (v : Value) : Prop := narrow ty v = v ∧ fits ty v = true
theorem am_fit_int {x : Int32} : am_fit .int (.int x) := ⟨rfl, rfl⟩
theorem am_fit_long {x : Int64} : am_fit .long (.long x) := ⟨rfl, rfl⟩
theorem am_fit_bool {a : Int} (h : a = 0 ∨ a = 1) : am_fit .boolean (.int (iZ a)) := by rcases h with rfl | rfl <;> exact ⟨rfl, rfl⟩
theorem am_ws_set {dA : Nat → ClassId} {φ : Nat → Nat} {σ σ' : am_St} {sh : am_Sh} {k : Nat} {x : am_Sc} (hk : sh[k]? = some x) (ho : ∀ a, a ≠ k → ∀ y, am_E dA φ σ' a y = am_E dA φ σ a y) {E' : va_E} (hE : E' = am_E dA φ σ' k x) : (am_ws dA φ σ sh).set k (φ k, E') = am_ws dA φ σ' sh := by
  apply List.ext_getElem?
  intro i
  by_cases hi : i = k
  · subst hi
    have h1 : i < (am_ws dA φ σ sh).length := by unfold am_ws; rw [List.length_mapIdx]; exact (List.getElem?_eq_some_iff.mp hk).1
    rw [List.getElem?_set_self h1, am_ws_get hk, hE]
  · rw [List.getElem?_set_ne (Ne.symm hi)]
    unfold am_ws
    rw [List.getElem?_mapIdx, List.getElem?_mapIdx]
    cases sh[i]? with
    | none => rfl
    | some y => show some (φ i, _) = some (φ i, _); rw [ho i hi y]
theorem am_E_si {dA : Nat → ClassId} {φ : Nat → Nat} {σ : am_St} {k j : Nat} {v : Int} (a : Nat) (ha : a ≠ k) (y : am_Sc) : am_E dA φ (am_si σ k j v) a y = am_E dA φ σ a y := by
  rcases y with ⟨t, n, _ | g⟩ | ⟨ci, ks⟩
  · rfl
  · rfl
  · show Sum.inr (ci, _) = Sum.inr (ci, _)
    congr 2
    apply List.ext_getElem?
    intro i
    rw [List.getElem?_mapIdx, List.getElem?_mapIdx]
    cases ks[i]? with
    | none => rfl
    | some kd => rcases kd with _ | _ | _ | r <;> simp [am_fv, am_si, ha]
theorem am_E_sl {dA : Nat → ClassId} {φ : Nat → Nat} {σ : am_St} {k j : Nat} {v : Int} (a : Nat) (ha : a ≠ k) (y : am_Sc) : am_E dA φ (am_sl σ k j v) a y = am_E dA φ σ a y := by
  rcases y with ⟨t, n, _ | g⟩ | ⟨ci, ks⟩
  · rfl
  · rfl
  · show Sum.inr (ci, _) = Sum.inr (ci, _)
    congr 2
    apply List.ext_getElem?
    intro i
    rw [List.getElem?_mapIdx, List.getElem?_mapIdx]
    cases ks[i]? with
    | none => rfl
    | some kd => rcases kd with _ | _ | _ | r <;> simp [am_fv, am_sl, ha]
theorem am_E_sa {dA : Nat → ClassId} {φ : Nat → Nat} {σ : am_St} {k : Nat} {i v : Int} (a : Nat) (ha : a ≠ k) (y : am_Sc) : am_E dA φ (am_sa σ k i v) a y = am_E dA φ σ a y := by
  rcases y with ⟨t, n, _ | g⟩ | ⟨ci, ks⟩
  · show Sum.inl (dA t, n, Sum.inl _) = Sum.inl (dA t, n, Sum.inl _)
    simp [am_sa, ha]
  · rfl
  · rfl
theorem am_fs_get {φ : Nat → Nat} {σ : am_St} {k j kd : Nat} {ks : List Nat} (h : ks[j]? = some kd) : (ks.mapIdx (fun j kd => am_fv φ σ k j kd))[j]? = some (am_fv φ σ k j kd) := by
  rw [List.getElem?_mapIdx, h]; rfl
/-- a field is set: the list of the fields' values -/
theorem am_fs_set {φ : Nat → Nat} {σ σ' : am_St} {k j kd : Nat} {ks : List Nat} {v : Value} (hj : ks[j]? = some kd) (ho : ∀ i, i ≠ j → ∀ kd, am_fv φ σ' k i kd = am_fv φ σ k i kd) (hv : v = am_fv φ σ' k j kd) : (ks.mapIdx (fun j kd => am_fv φ σ k j kd)).set j v = ks.mapIdx (fun j kd => am_fv φ σ' k j kd) := by
  apply List.ext_getElem?
  intro i
  by_cases hi : i = j
  · subst hi
    rw [List.getElem?_set_self (by rw [List.length_mapIdx]; exact (List.getElem?_eq_some_iff.mp hj).1), am_fs_get hj, hv]
  · rw [List.getElem?_set_ne (Ne.symm hi), List.getElem?_mapIdx, List.getElem?_mapIdx]
    cases ks[i]? with
    | none => rfl
    | some kd => exact congrArg some (ho i hi kd).symm
theorem am_fv_si {φ : Nat → Nat} {σ : am_St} {k j : Nat} {v : Int} (i : Nat) (hi : i ≠ j) (kd : Nat) : am_fv φ (am_si σ k j v) k i kd = am_fv φ σ k i kd := by
  rcases kd with _ | _ | _ | r <;> simp [am_fv, am_si, hi]
theorem am_fv_sl {φ : Nat → Nat} {σ : am_St} {k j : Nat} {v : Int} (i : Nat) (hi : i ≠ j) (kd : Nat) : am_fv φ (am_sl σ k j v) k i kd = am_fv φ σ k i kd := by
  rcases kd with _ | _ | _ | r <;> simp [am_fv, am_sl, hi]
section AMT
variable {sh : am_Sh} {M : am_M} {d : Nat} {Q : Option Value → am_St → Prop} {pc : Nat} {lv : List (Option Value)} {st : List Value} {σ : am_St}
theorem go_get {idx ci j k kd : Nat} {ty : FieldType} {fin : Bool} {ks : List Nat} {v : Value} (hF : am_F M.1.cls idx ci j ty fin) (hd : decode M.2.1 pc = .ok (.getfield idx, 3)) (hk : sh[k]? = some (.inr (ci, ks))) (hj : ks[j]? = some kd) (hv : ∀ φ, am_fv φ σ k j kd = am_v φ v) (kk : am_Go sh M d Q (pc + 3) lv (v :: st) σ) : am_Go sh M d Q pc lv (.ref k :: st) σ := by
  intro p l e D dA z φ s m args below meth c C H locs ls hP hS hL
  obtain ⟨Cn, T, N, ty0, h1, h2, h3, h4, h5, h6, h7, h8⟩ := hF
  exact va_get (ci := ci) (v := am_v φ v) (C := Cn) (T := T) (N := N) (Ts := am_wd M) C.1 C.2.1 C.2.2.2.2.2.1 (fun w h => List.mem_cons_of_mem _ (h3 w h)) C.2.2.2.2.1 C.2.2.2.2.2.2.2.1 hP.1 k (am_ws_get hk) h1 j h2 (C.2.2.2.2.2.1 _ (List.mem_cons_of_mem _ h6)) (fun _ h => h) ((am_fs_get hj).trans (congrArg some (hv φ))) hd (kk p l e D dA z φ s m args below meth c C H locs ls hP hS hL)
theorem go_geti {idx ci j k : Nat} {ty : FieldType} {fin : Bool} {ks : List Nat} (hF : am_F M.1.cls idx ci j ty fin) (hd : decode M.2.1 pc = .ok (.getfield idx, 3)) (hk : sh[k]? = some (.inr (ci, ks))) (hj : ks[j]? = some 0) (kk : am_Go sh M d Q (pc + 3) lv (.int (iZ (σ.1 k j)) :: st) σ) : am_Go sh M d Q pc lv (.ref k :: st) σ := go_get hF hd hk hj (fun _ => rfl) kk
theorem go_getl {idx ci j k : Nat} {ty : FieldType} {fin : Bool} {ks : List Nat} (hF : am_F M.1.cls idx ci j ty fin) (hd : decode M.2.1 pc = .ok (.getfield idx, 3)) (hk : sh[k]? = some (.inr (ci, ks))) (hj : ks[j]? = some 1) (kk : am_Go sh M d Q (pc + 3) lv (.long (lZ (σ.2.1 k j)) :: st) σ) : am_Go sh M d Q pc lv (.ref k :: st) σ := go_get hF hd hk hj (fun _ => rfl) kk
theorem go_getr {idx ci j k r : Nat} {ty : FieldType} {fin : Bool} {ks : List Nat} (hF : am_F M.1.cls idx ci j ty fin) (hd : decode M.2.1 pc = .ok (.getfield idx, 3)) (hk : sh[k]? = some (.inr (ci, ks))) (hj : ks[j]? = some (r + 3)) (kk : am_Go sh M d Q (pc + 3) lv (.ref r :: st) σ) : am_Go sh M d Q pc lv (.ref k :: st) σ := go_get hF hd hk hj (fun _ => rfl) kk
theorem go_put {idx ci j k kd : Nat} {ty : FieldType} {ks : List Nat} {v : Value} {σ' : am_St} (hF : am_F M.1.cls idx ci j ty false) (hd : decode M.2.1 pc = .ok (.putfield idx, 3)) (hk : sh[k]? = some (.inr (ci, ks))) (hj : ks[j]? = some kd) (hv : ∀ φ, am_v φ v = am_fv φ σ' k j kd) (hfit : ∀ φ, am_fit ty (am_v φ v)) (ho : ∀ dA φ a, a ≠ k → ∀ y, am_E dA φ σ' a y = am_E dA φ σ a y) (ho2 : ∀ φ i, i ≠ j → ∀ kd, am_fv φ σ' k i kd = am_fv φ σ k i kd) (kk : am_Go sh M d Q (pc + 3) lv st σ') : am_Go sh M d Q pc lv (v :: .ref k :: st) σ := by
  intro p l e D dA z φ s m args below meth c C H locs ls hP hS hL
  obtain ⟨Cn, T, N, ty0, h1, h2, h3, h4, h5, h6, h7, h8⟩ := hF
  refine va_put (ci := ci) (v := am_v φ v) (C := Cn) (T := T) (N := N) (Ts := am_wd M) C.1 C.2.1 C.2.2.2.2.2.1 (fun w h => List.mem_cons_of_mem _ (h3 w h)) ty0 h4 h5 C.2.2.2.2.1 C.2.2.2.2.2.2.2.1 hP.1 hP.2 hS k (am_ws_get hk) h1 j h2 (C.2.2.2.2.2.1 _ (List.mem_cons_of_mem _ h6)) (fun _ h => h) h8 ((h4 j h2).trans (congrArg some h7)) (hfit φ).1 (hfit φ).2 (by rw [List.length_mapIdx]; exact (List.getElem?_eq_some_iff.mp hj).1) hd (fun H1 locs1 hP1 hD1 hS1 => ?_)
  have e1 : (am_ws dA φ σ sh).set k (φ k, .inr (ci, (ks.mapIdx (fun j kd => am_fv φ σ k j kd)).set j (am_v φ v))) = am_ws dA φ σ' sh := am_ws_set hk (ho dA φ) (by rw [am_fs_set hj (ho2 φ) (hv φ)]; rfl)
  rw [e1] at hP1 hD1
  exact kk p l e D dA z φ s m args below meth c C H1 locs1 ls ⟨hP1, hD1⟩ hS1 hL
theorem go_puti {idx ci j k : Nat} {ty : FieldType} {ks : List Nat} {a : Int} (hF : am_F M.1.cls idx ci j ty false) (hd : decode M.2.1 pc = .ok (.putfield idx, 3)) (hk : sh[k]? = some (.inr (ci, ks))) (hj : ks[j]? = some 0) (hfit : am_fit ty (.int (iZ a))) (kk : am_Go sh M d Q (pc + 3) lv st (am_si σ k j a)) : am_Go sh M d Q pc lv (.int (iZ a) :: .ref k :: st) σ :=
  go_put hF hd hk hj (fun φ => by simp [am_v, am_fv, am_si]) (fun _ => hfit) (fun _ _ => am_E_si) (fun _ => am_fv_si) kk
theorem go_putl {idx ci j k : Nat} {ty : FieldType} {ks : List Nat} {a : Int} (hF : am_F M.1.cls idx ci j ty false) (hd : decode M.2.1 pc = .ok (.putfield idx, 3)) (hk : sh[k]? = some (.inr (ci, ks))) (hj : ks[j]? = some 1) (hfit : am_fit ty (.long (lZ a))) (kk : am_Go sh M d Q (pc + 3) lv st (am_sl σ k j a)) : am_Go sh M d Q pc lv (.long (lZ a) :: .ref k :: st) σ :=
  go_put hF hd hk hj (fun φ => by simp [am_v, am_fv, am_sl]) (fun _ => hfit) (fun _ _ => am_E_sl) (fun _ => am_fv_sl) kk
theorem go_iaload {k n : Nat} {i : Int} (hd : decode M.2.1 pc = .ok (.iaload, 1)) (hk : sh[k]? = some (.inl (0, n, none))) (hn : n < 2147483648) (h0 : 0 ≤ i) (h1 : i < n) (kk : am_Go sh M d Q (pc + 1) lv (.int (iZ (σ.2.2 k i)) :: st) σ) : am_Go sh M d Q pc lv (.int (iZ i) :: .ref k :: st) σ := by
  intro p l e D dA z φ s m args below meth c C H locs ls hP hS hL
  refine va_iald (n := n) C.1 C.2.1 C.2.2.2.2.2.2.2.1 hP.1 k 0 (am_ws_get hk) rfl (iZ_in h0 h1 hn) hd ?_
  have h := kk p l e D dA z φ s m args below meth c C H locs ls hP hS hL
  rw [iZ_clamp ⟨by omega, by omega⟩, Int.toNat_of_nonneg h0]
  exact h
theorem go_baload {k n : Nat} {i : Int} (hd : decode M.2.1 pc = .ok (.baload, 1)) (hk : sh[k]? = some (.inl (1, n, none))) (hn : n < 2147483648) (h0 : 0 ≤ i) (h1 : i < n) (kk : am_Go sh M d Q (pc + 1) lv (.int (iZ (σ.2.2 k i)) :: st) σ) : am_Go sh M d Q pc lv (.int (iZ i) :: .ref k :: st) σ := by
  intro p l e D dA z φ s m args below meth c C H locs ls hP hS hL
  refine va_zald (n := n) C.1 C.2.1 C.2.2.2.2.2.2.2.1 hP.1 k 1 (am_ws_get hk) rfl (iZ_in h0 h1 hn) hd ?_
  have h := kk p l e D dA z φ s m args below meth c C H locs ls hP hS hL
  rw [iZ_clamp ⟨by omega, by omega⟩, Int.toNat_of_nonneg h0]
  exact h
theorem go_aaload {k n r : Nat} {g : Nat → Option Nat} {i : Int} (hd : decode M.2.1 pc = .ok (.aaload, 1)) (hk : sh[k]? = some (.inl (2, n, some g))) (hn : n < 2147483648) (h0 : 0 ≤ i) (h1 : i < n) (hg : g i.toNat = some r) (kk : am_Go sh M d Q (pc + 1) lv (.ref r :: st) σ) : am_Go sh M d Q pc lv (.int (iZ i) :: .ref k :: st) σ := by
  intro p l e D dA z φ s m args below meth c C H locs ls hP hS hL
  refine va_aldq (n := n) C.1 C.2.1 C.2.2.2.2.2.2.2.1 hP.1 k 2 (am_ws_get hk) rfl (iZ_in h0 h1 hn) hd ?_
  have h := kk p l e D dA z φ s m args below meth c C H locs ls hP hS hL
  rw [iZ_clamp ⟨by omega, by omega⟩, hg]
  exact h
theorem am_sa_upd (σ : am_St) (k : Nat) {i : Int} (x : Int) (h0 : 0 ≤ i) : upd (fun j : Nat => iZ (σ.2.2 k (j : Int))) i.toNat (iZ x) = fun j : Nat => iZ ((am_sa σ k i x).2.2 k (j : Int)) := by
  funext j
  have h : (j : Int) = i ↔ j = i.toNat := by omega
  by_cases hj : j = i.toNat
  · simp [upd, am_sa, hj, Int.toNat_of_nonneg h0]
  · have : ¬ (j : Int) = i := fun q => hj (h.mp q)
    simp [upd, am_sa, hj, this]
theorem go_iastore {k n : Nat} {i x : Int} (hd : decode M.2.1 pc = .ok (.iastore, 1)) (hk : sh[k]? = some (.inl (0, n, none))) (hn : n < 2147483648) (h0 : 0 ≤ i) (h1 : i < n) (kk : am_Go sh M d Q (pc + 1) lv st (am_sa σ k i x)) : am_Go sh M d Q pc lv (.int (iZ x) :: .int (iZ i) :: .ref k :: st) σ := by
  intro p l e D dA z φ s m args below meth c C H locs ls hP hS hL
  refine va_iast (n := n) C.1 C.2.1 C.2.2.2.2.2.2.2.1 hP.1 hP.2 hS k 0 (am_ws_get hk) rfl (iZ_in h0 h1 hn) hd (fun H1 locs1 hP1 hD1 hS1 => ?_)
  have e1 : (am_ws dA φ σ sh).set k (φ k, .inl (dA 0, n, .inl (upd (fun j : Nat => iZ (σ.2.2 k (j : Int))) (iZ i).toNatClampNeg (iZ x)))) = am_ws dA φ (am_sa σ k i x) sh := am_ws_set hk am_E_sa (by rw [iZ_clamp ⟨by omega, by omega⟩, am_sa_upd σ k x h0]; rfl)
  rw [e1] at hP1 hD1
  exact kk p l e D dA z φ s m args below meth c C H1 locs1 ls ⟨hP1, hD1⟩ hS1 hL
theorem go_bastore {k n : Nat} {i x : Int} (hd : decode M.2.1 pc = .ok (.bastore, 1)) (hk : sh[k]? = some (.inl (1, n, none))) (hn : n < 2147483648) (h0 : 0 ≤ i) (h1 : i < n) (hx : x = 0 ∨ x = 1) (kk : am_Go sh M d Q (pc + 1) lv st (am_sa σ k i x)) : am_Go sh M d Q pc lv (.int (iZ x) :: .int (iZ i) :: .ref k :: st) σ := by
  intro p l e D dA z φ s m args below meth c C H locs ls hP hS hL
  refine va_zast (n := n) C.1 C.2.1 C.2.2.2.2.2.2.2.1 hP.1 hP.2 hS k 1 (am_ws_get hk) rfl (iZ_in h0 h1 hn) hd (fun H1 locs1 hP1 hD1 hS1 => ?_)
  have e0 : vp_nar .boolean (iZ x) = iZ x := by rcases hx with rfl | rfl <;> rfl
  have e1 : (am_ws dA φ σ sh).set k (φ k, .inl (dA 1, n, .inl (upd (fun j : Nat => iZ (σ.2.2 k (j : Int))) (iZ i).toNatClampNeg (vp_nar .boolean (iZ x))))) = am_ws dA φ (am_sa σ k i x) sh := am_ws_set hk am_E_sa (by rw [e0, iZ_clamp ⟨by omega, by omega⟩, am_sa_upd σ k x h0]; rfl)
  rw [e1] at hP1 hD1
  exact kk p l e D dA z φ s m args below meth c C H1 locs1 ls ⟨hP1, hD1⟩ hS1 hL
theorem go_alen {k t n : Nat} {g : Option (Nat → Option Nat)} (ht : t < 3) (hd : decode M.2.1 pc = .ok (.arraylength, 1)) (hk : sh[k]? = some (.inl (t, n, g))) (kk : am_Go sh M d Q (pc + 1) lv (.int (iZ (n : Int)) :: st) σ) : am_Go sh M d Q pc lv (.ref k :: st) σ := by
  intro p l e D dA z φ s m args below meth c C H locs ls hP hS hL
  have hty : ∃ ty, (am_tys dA)[t]? = some (dA t, ty) := by
    rcases (show t = 0 ∨ t = 1 ∨ t = 2 by omega) with rfl | rfl | rfl <;> exact ⟨_, rfl⟩
  obtain ⟨ty, hty⟩ := hty
  have hv : Int32.ofNat n = iZ (n : Int) := Int32.ofInt_eq_ofNat.symm
  cases g with
  | none => exact va_alen (v := iZ (n : Int)) C.1 C.2.1 C.2.2.2.2.2.2.2.1 hP.1 k t (am_ws_get hk) hty hv hd (kk p l e D dA z φ s m args below meth c C H locs ls hP hS hL)
  | some g => exact va_alen (v := iZ (n : Int)) C.1 C.2.1 C.2.2.2.2.2.2.2.1 hP.1 k t (am_ws_get hk) hty hv hd (kk p l e D dA z φ s m args below meth c C H locs ls hP hS hL)
end AMT
end
section
/-! ===== rows: calls ===== -/
theorem am_good {M M2 : am_M} (hc : Cond.code M2.1 M2.2.1 M2.2.2.1 M2.2.2.2 ∈ am_tbl) : GoodIn (am_wd M) (am_wd M2) := by
  intro w hw
  have h : w ∈ am_tbl := by
    rcases List.mem_cons.mp hw with h | h
    · rw [h]; exact hc
    · exact h
  exact ⟨List.mem_cons_of_mem _ h, good_of_word (List.mem_filter.mp h).2⟩
def am_MV (M2 : am_M) (n : Nat) : Prop := Cond.instanceMethod M2.1 ∈ am_tbl ∧ Cond.selects M2.1.cls M2.1 M2.1 ∈ am_tbl ∧ Cond.initialized M2.1.cls ∈ am_tbl ∧ Cond.code M2.1 M2.2.1 M2.2.2.1 M2.2.2.2 ∈ am_tbl ∧ (M2.1.cls ≠ "java/lang/invoke/MethodHandle" ∧ M2.1.cls ≠ "java/lang/invoke/VarHandle" ∧ (parseMethodDescriptor M2.1.desc).map (fun d => d.parameters.length) = some n) ∧ M2.2.2.1 ≤ 13
def am_MS (M2 : am_M) (n : Nat) : Prop := Cond.static M2.1 ∈ am_tbl ∧ Cond.initialized M2.1.cls ∈ am_tbl ∧ Cond.code M2.1 M2.2.1 M2.2.2.1 M2.2.2.2 ∈ am_tbl ∧ (M2.1.cls ≠ "java/lang/invoke/MethodHandle" ∧ M2.1.cls ≠ "java/lang/invoke/VarHandle" ∧ (parseMethodDescriptor M2.1.desc).map (fun d => d.parameters.length) = some n) ∧ M2.2.2.1 ≤ 13
section AMC0
variable {p : Program} {l : Launch} {e : Env} {R : Room} {s : State} {m : MethodId} {args : Array Value} {below : List Frame} {meth : Method} {c : Code} {H : Heap} {locs : List Loc} {cells slots : Nat} {Q : State → Prop} {pc : Nat} {ls : Array Slot} {rest st0 : List Value} {a : Array Value} {H0 : Heap} {D : va_G} {dA : Nat → ClassId} {z : Nat} {φ : Nat → Nat} {sh : am_Sh} {Q2 : Option Value → am_St → Prop}
theorem am_call (hr : va_Run p l e R s m args below meth c H locs cells slots 0 0 (F0 m pc ls st0) rest (am_Q D dA z φ sh Q2 a) (fun q => z ≤ q)) (hS : va_S (fun q => z ≤ q) H0 H locs)
    (kk : ∀ (r : Option Value) (σ2 : am_St) (H1 : Heap) (locs1 : List Loc), Q2 r σ2 → am_P D dA z φ sh σ2 H1 → va_S (fun q => z ≤ q) H0 H1 locs1 → W p l e R s m args below meth c H1 locs1 cells slots Q (F0 m (pc + 3) ls ((r.map (am_v φ)).toList ++ rest))) : W p l e R s m args below meth c H locs cells slots Q (F0 m pc ls st0) := by
  intro T hT X
  obtain ⟨v, st₀, t, T', L, h0, X', hL, e1, e2, ⟨⟨r, σ2, hv, hq, hP2⟩, hz, hk⟩, st⟩ := hr T hT X
  cases hv
  rw [h0] at hz hk
  obtain ⟨t2, a1, b1⟩ := kk r σ2 T'.heap (locs ++ L) hq (by rw [e1]; exact hP2)
    ⟨Nat.le_trans hS.1 (by rw [e1]; exact hz), fun q h1 h2 => by rw [e1, hk q (Nat.lt_of_lt_of_le h1 hS.1) h2]; exact hS.2.1 q h1 h2, fun q hq => by
      rcases List.mem_append.mp hq with h | h
      · exact hS.2.2 q h
      · exact hL q h⟩ T' rfl X'
  exact ⟨t2, st t2 a1, b1⟩
/-- the machine's own rows of a call: a method of an object, a static one -/
theorem am_runV {Ts : List Cond} {own : String} {cc : ByteArray} {nL idx n k ci d2 : Nat} {M2 : am_M} {As : List Value} {ks : List Nat} {σ : am_St} {r0 : vw_C} (S : CallFix p m c cc nL s args Ts own) (hG : GoodIn Ts (am_wd M2)) (hK : am_K D dA s) (hL : Cond.methodLink own idx M2.1 ∈ Ts) (hi : Cond.instanceMethod M2.1 ∈ Ts) (hse : Cond.selects M2.1.cls M2.1 M2.1 ∈ Ts) (hini : Cond.initialized M2.1.cls ∈ Ts) (hdd : M2.1.cls ≠ "java/lang/invoke/MethodHandle" ∧ M2.1.cls ≠ "java/lang/invoke/VarHandle" ∧ (parseMethodDescriptor M2.1.desc).map (fun d => d.parameters.length) = some n)
    (hE : am_Ev sh M2 d2 (.ref k :: As) σ Q2) (hP : am_P D dA z φ sh σ H) (hk : sh[k]? = some (.inr (ci, ks))) (hci : am_cl[ci]? = some r0) (hcn : r0.1 = M2.1.cls) (hR : d2 + 1 ≤ R.frames ∧ 8 + (M2.2.2.1 + 11) + 32 * d2 ≤ R.locals)
    (hn : As.length = n) (hsize : ls.size = nL) (hstack : st0 = (As.map (am_v φ)).reverse ++ .ref (φ k) :: rest) (hrm : (rest.map fun v => v.category).sum ≤ 8) (hdg : decode cc pc = .ok (.invokevirtual idx, 3)) (hf : cells ≤ R.cells ∧ slots ≤ R.slots) :
    va_Run p l e R s m args below meth c H locs cells slots 0 0 (F0 m pc ls st0) rest (am_Q D dA z φ sh Q2 (Value.ref (φ k) :: As.map (am_v φ)).toArray) (fun q => z ≤ q) := by
  have hbl : FrameBlind (va_Pc ((Value.ref k :: As).map (am_v φ)) (fun U => am_P D dA z φ sh σ U.heap ∧ am_K D dA U)) := fun a U g mk q => by
    obtain ⟨q0, qP, qK⟩ := q
    exact ⟨q0, qP, qK.calling⟩
  have hb := callB_of (R := R) (own := own) (index := idx) (y := M2.1) (bytes := M2.2.1) (maxL := M2.2.2.1) (ret := M2.2.2.2) (rm := am_room d2) (mc := 0) (ms := 0) n S.2.2.2.2 hG rfl rfl rfl (S.2.2.2.2 _ hini) (S.2.2.2.2 _ hL) hdd hR
  have hrec := va_recv hK.1 hP.1 hci (am_ws_get hk)
  rw [hcn] at hrec
  exact va_runV (C := M2.1.cls) (b := φ k) (As := As.map (am_v φ)) (rest := rest) S (hE l D dA z φ) ⟨hb, S.2.2.2.2 _ hi, S.2.2.2.2 _ hse⟩ ⟨hbl, hrec, fun U hU hW => ⟨rfl, by rw [hU]; exact hP, hK.warm hW⟩⟩ rfl (by rw [List.length_map]; exact hn) hsize hstack (lv_room hrm) hdg hf
theorem am_runS {Ts : List Cond} {own : String} {cc : ByteArray} {nL idx n d2 : Nat} {M2 : am_M} {As : List Value} {σ : am_St} (S : CallFix p m c cc nL s args Ts own) (hG : GoodIn Ts (am_wd M2)) (hK : am_K D dA s) (hL : Cond.methodLink own idx M2.1 ∈ Ts) (hst : Cond.static M2.1 ∈ Ts) (hini : Cond.initialized M2.1.cls ∈ Ts) (hdd : M2.1.cls ≠ "java/lang/invoke/MethodHandle" ∧ M2.1.cls ≠ "java/lang/invoke/VarHandle" ∧ (parseMethodDescriptor M2.1.desc).map (fun d => d.parameters.length) = some n)
    (hE : am_Ev sh M2 d2 As σ Q2) (hP : am_P D dA z φ sh σ H) (hR : d2 + 1 ≤ R.frames ∧ 8 + (M2.2.2.1 + 11) + 32 * d2 ≤ R.locals)
    (hn : As.length = n) (hsize : ls.size = nL) (hstack : st0 = (As.map (am_v φ)).reverse ++ rest) (hrm : (rest.map fun v => v.category).sum ≤ 8) (hdg : decode cc pc = .ok (.invokestatic idx, 3)) (hf : cells ≤ R.cells ∧ slots ≤ R.slots) :
    va_Run p l e R s m args below meth c H locs cells slots 0 0 (F0 m pc ls st0) rest (am_Q D dA z φ sh Q2 (As.map (am_v φ)).toArray) (fun q => z ≤ q) := by
  have hbl : FrameBlind (va_Pc (As.map (am_v φ)) (fun U => am_P D dA z φ sh σ U.heap ∧ am_K D dA U)) := fun a U g mk q => by
    obtain ⟨q0, qP, qK⟩ := q
    exact ⟨q0, qP, qK.calling⟩
  have hb := callB_of (R := R) (own := own) (index := idx) (y := M2.1) (bytes := M2.2.1) (maxL := M2.2.2.1) (ret := M2.2.2.2) (rm := am_room d2) (mc := 0) (ms := 0) n S.2.2.2.2 hG rfl rfl rfl (S.2.2.2.2 _ hini) (S.2.2.2.2 _ hL) hdd hR
  exact va_runS (As := As.map (am_v φ)) (rest := rest) S (hE l D dA z φ) ⟨hb, S.2.2.2.2 _ hst⟩ ⟨hbl, fun U hU hW => ⟨rfl, by rw [hU]; exact hP, hK.warm hW⟩⟩ rfl (by rw [List.length_map]; exact hn) hsize hstack (lv_room hrm) hdg hf
theorem am_runSN {Ts : List Cond} {own host : String} {cc : ByteArray} {nL idx n d2 : Nat} {M2 : am_M} {As : List Value} {σ : am_St} (S : CallFix p m c cc nL s args Ts own) (hG : GoodIn Ts (am_wd M2)) (hK : am_K D dA s) (hL : (own, idx, M2.1, host) ∈ am_nest) (hst : Cond.static M2.1 ∈ Ts) (hini : Cond.initialized M2.1.cls ∈ Ts) (hdd : M2.1.cls ≠ "java/lang/invoke/MethodHandle" ∧ M2.1.cls ≠ "java/lang/invoke/VarHandle" ∧ (parseMethodDescriptor M2.1.desc).map (fun d => d.parameters.length) = some n)
    (hE : am_Ev sh M2 d2 As σ Q2) (hP : am_P D dA z φ sh σ H) (hR : d2 + 1 ≤ R.frames ∧ 8 + (M2.2.2.1 + 11) + 32 * d2 ≤ R.locals)
    (hn : As.length = n) (hsize : ls.size = nL) (hstack : st0 = (As.map (am_v φ)).reverse ++ rest) (hrm : (rest.map fun v => v.category).sum ≤ 8) (hdg : decode cc pc = .ok (.invokestatic idx, 3)) (hf : cells ≤ R.cells ∧ slots ≤ R.slots) :
    va_Run p l e R s m args below meth c H locs cells slots 0 0 (F0 m pc ls st0) rest (am_Q D dA z φ sh Q2 (As.map (am_v φ)).toArray) (fun q => z ≤ q) := by
  have hbl : FrameBlind (va_Pc (As.map (am_v φ)) (fun U => am_P D dA z φ sh σ U.heap ∧ am_K D dA U)) := fun a U g mk q => by
    obtain ⟨q0, qP, qK⟩ := q
    exact ⟨q0, qP, qK.calling⟩
  have hb := va_cnB (R := R) (own := own) (host := host) (index := idx) (y := M2.1) (bytes := M2.2.1) (maxL := M2.2.2.1) (ret := M2.2.2.2) (rm := am_room d2) (mc := 0) (ms := 0) n S.2.2.2.2 hG rfl rfl rfl (hK.2 _ hL) (S.2.2.2.2 _ hini) hdd hR
  exact va_runSN (As := As.map (am_v φ)) (rest := rest) S (hE l D dA z φ) ⟨hb, S.2.2.2.2 _ hst, trivial⟩ ⟨hbl, fun U hU hW => ⟨rfl, by rw [hU]; exact hP, hK.warm hW⟩⟩ rfl (by rw [List.length_map]; exact hn) hsize hstack (lv_room hrm) hdg hf
end AMC0
section AMC
variable {sh : am_Sh} {M : am_M} {d : Nat} {Q : Option Value → am_St → Prop} {pc : Nat} {lv : List (Option Value)} {st : List Value} {σ : am_St} {M2 : am_M} {d2 idx n : Nat} {Q2 : Option Value → am_St → Prop}
theorem am_sum (φ : Nat → Nat) (st : List Value) : ((st.map (am_v φ)).map fun v => v.category).sum = (st.map fun v => v.category).sum := by
  rw [List.map_map]
  congr 1
  exact List.map_congr_left (fun v _ => am_cat φ v)
theorem go_callV {k ci : Nat} {ks : List Nat} {r0 : vw_C} {As : List Value} (hd : decode M.2.1 pc = .ok (.invokevirtual idx, 3)) (hL : Cond.methodLink M.1.cls idx M2.1 ∈ am_tbl) (hM : am_MV M2 n) (hk : sh[k]? = some (.inr (ci, ks))) (hci : am_cl[ci]? = some r0) (hcn : r0.1 = M2.1.cls) (hn : As.length = n) (hr : (st.map fun v => v.category).sum ≤ 8) (hdep : d2 < d) (hE : am_Ev sh M2 d2 (.ref k :: As) σ Q2) (kk : ∀ r σ2, Q2 r σ2 → am_Go sh M d Q (pc + 3) lv (r.toList ++ st) σ2) : am_Go sh M d Q pc lv (As.reverse ++ .ref k :: st) σ := by
  intro p l e D dA z φ s m args below meth c C H locs ls hP hS hl
  obtain ⟨hM1, hM2, hM3, hM4, hM5, hM6⟩ := hM
  refine am_call (am_runV (Ts := am_wd M) (own := M.1.cls) (As := As) ⟨C.1, C.2.1, C.2.2.2.1, C.2.2.2.2.1, C.2.2.2.2.2.1⟩ (am_good hM4) C.2.2.2.2.2.2.2 (List.mem_cons_of_mem _ hL) (List.mem_cons_of_mem _ hM1) (List.mem_cons_of_mem _ hM2) (List.mem_cons_of_mem _ hM3) hM5 hE hP hk hci hcn ⟨hdep, by show 8 + (M2.2.2.1 + 11) + 32 * d2 ≤ 32 * d; omega⟩ hn hl.1 (rest := st.map (am_v φ)) ?_ (by rw [am_sum]; exact hr) hd ⟨Nat.le_refl _, Nat.le_refl _⟩) hS (fun r σ2 H1 locs1 hq hP1 hS1 => ?_)
  · rw [List.map_append, List.map_reverse]; rfl
  · have h := kk r σ2 hq p l e D dA z φ s m args below meth c C H1 locs1 ls hP1 hS1 hl
    cases r <;> exact h
theorem go_callS {As : List Value} (hd : decode M.2.1 pc = .ok (.invokestatic idx, 3)) (hL : Cond.methodLink M.1.cls idx M2.1 ∈ am_tbl) (hM : am_MS M2 n) (hn : As.length = n) (hr : (st.map fun v => v.category).sum ≤ 8) (hdep : d2 < d) (hE : am_Ev sh M2 d2 As σ Q2) (kk : ∀ r σ2, Q2 r σ2 → am_Go sh M d Q (pc + 3) lv (r.toList ++ st) σ2) : am_Go sh M d Q pc lv (As.reverse ++ st) σ := by
  intro p l e D dA z φ s m args below meth c C H locs ls hP hS hl
  obtain ⟨hM1, hM3, hM4, hM5, hM6⟩ := hM
  refine am_call (am_runS (Ts := am_wd M) (own := M.1.cls) (As := As) ⟨C.1, C.2.1, C.2.2.2.1, C.2.2.2.2.1, C.2.2.2.2.2.1⟩ (am_good hM4) C.2.2.2.2.2.2.2 (List.mem_cons_of_mem _ hL) (List.mem_cons_of_mem _ hM1) (List.mem_cons_of_mem _ hM3) hM5 hE hP ⟨hdep, by show 8 + (M2.2.2.1 + 11) + 32 * d2 ≤ 32 * d; omega⟩ hn hl.1 (rest := st.map (am_v φ)) ?_ (by rw [am_sum]; exact hr) hd ⟨Nat.le_refl _, Nat.le_refl _⟩) hS (fun r σ2 H1 locs1 hq hP1 hS1 => ?_)
  · rw [List.map_append, List.map_reverse]
  · have h := kk r σ2 hq p l e D dA z φ s m args below meth c C H1 locs1 ls hP1 hS1 hl
    cases r <;> exact h
theorem go_callSN {host : String} {As : List Value} (hd : decode M.2.1 pc = .ok (.invokestatic idx, 3)) (hL : (M.1.cls, idx, M2.1, host) ∈ am_nest) (hM : am_MS M2 n) (hn : As.length = n) (hr : (st.map fun v => v.category).sum ≤ 8) (hdep : d2 < d) (hE : am_Ev sh M2 d2 As σ Q2) (kk : ∀ r σ2, Q2 r σ2 → am_Go sh M d Q (pc + 3) lv (r.toList ++ st) σ2) : am_Go sh M d Q pc lv (As.reverse ++ st) σ := by
  intro p l e D dA z φ s m args below meth c C H locs ls hP hS hl
  obtain ⟨hM1, hM3, hM4, hM5, hM6⟩ := hM
  refine am_call (am_runSN (Ts := am_wd M) (own := M.1.cls) (host := host) (As := As) ⟨C.1, C.2.1, C.2.2.2.1, C.2.2.2.2.1, C.2.2.2.2.2.1⟩ (am_good hM4) C.2.2.2.2.2.2.2 hL (List.mem_cons_of_mem _ hM1) (List.mem_cons_of_mem _ hM3) hM5 hE hP ⟨hdep, by show 8 + (M2.2.2.1 + 11) + 32 * d2 ≤ 32 * d; omega⟩ hn hl.1 (rest := st.map (am_v φ)) ?_ (by rw [am_sum]; exact hr) hd ⟨Nat.le_refl _, Nat.le_refl _⟩) hS (fun r σ2 H1 locs1 hq hP1 hS1 => ?_)
  · rw [List.map_append, List.map_reverse]
  · have h := kk r σ2 hq p l e D dA z φ s m args below meth c C H1 locs1 ls hP1 hS1 hl
    cases r <;> exact h
end AMC
def am_ent : List Value → List (Option Value)
  | [] => []
  | v :: vs => if v.category = 2 then some v :: none :: am_ent vs else some v :: am_ent vs
theorem am_ent_args (φ : Nat → Nat) : ∀ (vs : List Value) (b i : Nat) (v : Value), (am_ent vs)[i]? = some (some v) → (b + i, am_v φ v) ∈ lv_args b (vs.map (am_v φ))
  | [], _, i, v, h => by simp [am_ent] at h
  | w :: vs, b, i, v, h => by
    unfold am_ent at h
    by_cases hc : w.category = 2
    · rw [if_pos hc] at h
      rcases i with _ | _ | i
      · rw [List.getElem?_cons_zero] at h
        cases h
        exact List.mem_cons_self
      · rw [List.getElem?_cons_succ, List.getElem?_cons_zero] at h
        cases h
      · rw [List.getElem?_cons_succ, List.getElem?_cons_succ] at h
        have := am_ent_args φ vs (b + 2) i v h
        show _ ∈ (b, am_v φ w) :: lv_args (if (am_v φ w).category = 2 then b + 2 else b + 1) (vs.map (am_v φ))
        rw [am_cat, if_pos hc]
        exact List.mem_cons_of_mem _ (by rw [show b + (i + 1 + 1) = b + 2 + i by omega]; exact this)
    · rw [if_neg hc] at h
      rcases i with _ | i
      · rw [List.getElem?_cons_zero] at h
        cases h
        exact List.mem_cons_self
      · rw [List.getElem?_cons_succ] at h
        have := am_ent_args φ vs (b + 1) i v h
        show _ ∈ (b, am_v φ w) :: lv_args (if (am_v φ w).category = 2 then b + 2 else b + 1) (vs.map (am_v φ))
        rw [am_cat, if_neg hc]
        exact List.mem_cons_of_mem _ (by rw [show b + (i + 1) = b + 1 + i by omega]; exact this)
theorem am_sl_len (φ : Nat → Nat) (vs : List Value) : (lg_sl (vs.map (am_v φ))).length = (am_ent vs).length := by
  induction vs with
  | nil => rfl
  | cons v vs ih =>
    have e1 : lg_sl ((v :: vs).map (am_v φ)) = (if (am_v φ v).category = 2 then [.val (am_v φ v), .second] else [.val (am_v φ v)]) ++ lg_sl (vs.map (am_v φ)) := rfl
    have e2 : am_ent (v :: vs) = if v.category = 2 then some v :: none :: am_ent vs else some v :: am_ent vs := rfl
    rw [e1, e2, am_cat]
    by_cases hc : v.category = 2
    · rw [if_pos hc, if_pos hc]; simp only [List.length_append, List.length_cons, List.length_nil]; omega
    · rw [if_neg hc, if_neg hc]; simp only [List.length_append, List.length_cons, List.length_nil]; omega
/-- a method's contract out of its body's walk -/
theorem am_ev {sh : am_Sh} {M : am_M} {d : Nat} {av : List Value} {σ : am_St} {Q : Option Value → am_St → Prop} (hy : plainName M.1.cls = true) (lv : List (Option Value)) (hlv : am_ent av ++ List.replicate (M.2.2.1 - (am_ent av).length) none = lv) (hle : (am_ent av).length ≤ M.2.2.1) (k : am_Go sh M d Q 0 lv [] σ) : am_Ev sh M d av σ Q := by
  intro l D dA z φ
  refine Met.ofW (cc := M.2.1) (maxL := M.2.2.1) (ret := M.2.2.2) hy rfl ?_
  intro p e s m args below meth c s₁ B hml hv
  obtain ⟨rfl, hP, hK⟩ := hv
  have hts := atoms_spec (ws := am_wd M) B.pre
  have hl := lv_entry (av.map (am_v φ)) (n := M.2.2.1) (by rw [am_sl_len]; exact hle)
  rw [lg_entry_eq]
  refine k p l e D dA z φ s m _ below meth c ⟨B.exec, B.bytes, B.returns, hml, findClass_of_methodNamed B.named, hts, B.notSynchronized, hK⟩ s.heap [] _ hP va_S.rf ⟨hl.1, hl.2.1, fun i v hi => ?_⟩
  subst hlv
  by_cases h : i < (am_ent av).length
  · rw [List.getElem?_append_left h] at hi
    have := am_ent_args φ av 0 i v hi
    rw [Nat.zero_add] at this
    exact hl.2.2 _ this
  · rw [List.getElem?_append_right (by omega)] at hi
    have := List.mem_of_getElem? hi
    rw [List.mem_replicate] at this
    cases this.2
end
section
/-! ===== the tables' words by their places: fields, methods, links ===== -/
theorem am_sub {ws : List Cond} (ps : List Nat) (hp : ws = ps.filterMap (fun i => lw_tbl[i]?)) (h : ws.all goodWord = true) : ∀ w ∈ ws, w ∈ am_tbl := by
  intro w hw
  have h1 := List.all_eq_true.mp h w hw
  rw [hp] at hw
  obtain ⟨i, -, hi⟩ := List.mem_filterMap.mp hw
  exact am_mem (List.mem_of_getElem? hi) h1
theorem am_at (i : Nat) {w : Cond} (h : lw_tbl[i]? = some w) (hg : goodWord w = true) : w ∈ am_tbl := am_mem (List.mem_of_getElem? h) hg
theorem am_inX0 : ∀ w ∈ u_ws RX0 TX0 7, w ∈ am_tbl := am_sub [232, 234, 236, 238, 240, 242, 244] (by decide +kernel) (by decide +kernel)
theorem am_inX1 : ∀ w ∈ u_ws RX1 TX1 2, w ∈ am_tbl := am_sub [129, 131] (by decide +kernel) (by decide +kernel)
theorem am_inX3 : ∀ w ∈ u_ws RX3 TX3 3, w ∈ am_tbl := am_sub [260, 262, 264] (by decide +kernel) (by decide +kernel)
theorem am_inX4 : ∀ w ∈ u_ws RX4 TX4 4, w ∈ am_tbl := am_sub [168, 170, 172, 174] (by decide +kernel) (by decide +kernel)
theorem am_inX5 : ∀ w ∈ u_ws RX5 TX5 2, w ∈ am_tbl := am_sub [211, 213] (by decide +kernel) (by decide +kernel)
theorem am_inX6 : ∀ w ∈ u_ws RX6 TX6 4, w ∈ am_tbl := am_sub [143, 145, 147, 149] (by decide +kernel) (by decide +kernel)
theorem am_inX7 : ∀ w ∈ u_ws RX7 TX7 3, w ∈ am_tbl := am_sub [186, 188, 190] (by decide +kernel) (by decide +kernel)
theorem am_inX8 : ∀ w ∈ u_ws RX8 TX8 8, w ∈ am_tbl := am_sub [283, 285, 287, 289, 291, 293, 295, 297] (by decide +kernel) (by decide +kernel)
theorem am_inX10 : ∀ w ∈ u_ws RX10 TX10 14, w ∈ am_tbl := am_sub [314, 316, 318, 320, 322, 324, 326, 328, 330, 332, 334, 336, 338, 340] (by decide +kernel) (by decide +kernel)
theorem am_inX11 : ∀ w ∈ u_ws RX11 TX11 38, w ∈ am_tbl := am_sub [839, 841, 843, 845, 847, 849, 851, 853, 855, 857, 859, 861, 863, 865, 867, 869, 871, 873, 875, 877, 879, 881, 883, 885, 887, 889, 891, 893, 895, 897, 899, 901, 903, 905, 907, 909, 911, 913] (by decide +kernel) (by decide +kernel)
theorem fl_X1_15 : am_F RX1 15 1 0 (.array .int) true := ⟨RX1, TX1, 2, tyX1, rfl, by decide, am_inX1, tyX1_ok, nmX1, am_at 127 (by decide +kernel) rfl, rfl, rfl⟩
theorem fl_X1_21 : am_F RX1 21 1 1 (.int) false := ⟨RX1, TX1, 2, tyX1, rfl, by decide, am_inX1, tyX1_ok, nmX1, am_at 128 (by decide +kernel) rfl, rfl, rfl⟩
theorem fl_X6_14 : am_F RX6 14 5 0 (.object "SpellTables$Line") true := ⟨RX6, TX6, 4, tyX6, rfl, by decide, am_inX6, tyX6_ok, nmX6, am_at 135 (by decide +kernel) rfl, rfl, rfl⟩
theorem fl_X10_118 : am_F RX10 118 5 0 (.object "SpellTables$Line") true := ⟨RX6, TX6, 4, tyX6, rfl, by decide, am_inX6, tyX6_ok, nmX6, am_at 136 (by decide +kernel) rfl, rfl, rfl⟩
theorem fl_X6_20 : am_F RX6 20 5 1 (.object "SpellTables$Line") true := ⟨RX6, TX6, 4, tyX6, rfl, by decide, am_inX6, tyX6_ok, nmX6, am_at 137 (by decide +kernel) rfl, rfl, rfl⟩
theorem fl_X10_156 : am_F RX10 156 5 1 (.object "SpellTables$Line") true := ⟨RX6, TX6, 4, tyX6, rfl, by decide, am_inX6, tyX6_ok, nmX6, am_at 138 (by decide +kernel) rfl, rfl, rfl⟩
theorem fl_X6_23 : am_F RX6 23 5 2 (.object "SpellTables$Line") true := ⟨RX6, TX6, 4, tyX6, rfl, by decide, am_inX6, tyX6_ok, nmX6, am_at 139 (by decide +kernel) rfl, rfl, rfl⟩
theorem fl_X8_71 : am_F RX8 71 5 2 (.object "SpellTables$Line") true := ⟨RX6, TX6, 4, tyX6, rfl, by decide, am_inX6, tyX6_ok, nmX6, am_at 140 (by decide +kernel) rfl, rfl, rfl⟩
theorem fl_X10_157 : am_F RX10 157 5 2 (.object "SpellTables$Line") true := ⟨RX6, TX6, 4, tyX6, rfl, by decide, am_inX6, tyX6_ok, nmX6, am_at 141 (by decide +kernel) rfl, rfl, rfl⟩
theorem fl_X6_26 : am_F RX6 26 5 3 (.int) false := ⟨RX6, TX6, 4, tyX6, rfl, by decide, am_inX6, tyX6_ok, nmX6, am_at 142 (by decide +kernel) rfl, rfl, rfl⟩
theorem fl_X4_14 : am_F RX4 14 3 0 (.object "SpellTables$Line") true := ⟨RX4, TX4, 4, tyX4, rfl, by decide, am_inX4, tyX4_ok, nmX4, am_at 162 (by decide +kernel) rfl, rfl, rfl⟩
theorem fl_X10_101 : am_F RX10 101 3 0 (.object "SpellTables$Line") true := ⟨RX4, TX4, 4, tyX4, rfl, by decide, am_inX4, tyX4_ok, nmX4, am_at 163 (by decide +kernel) rfl, rfl, rfl⟩
theorem fl_X4_20 : am_F RX4 20 3 1 (.object "SpellTables$Line") true := ⟨RX4, TX4, 4, tyX4, rfl, by decide, am_inX4, tyX4_ok, nmX4, am_at 164 (by decide +kernel) rfl, rfl, rfl⟩
theorem fl_X10_104 : am_F RX10 104 3 1 (.object "SpellTables$Line") true := ⟨RX4, TX4, 4, tyX4, rfl, by decide, am_inX4, tyX4_ok, nmX4, am_at 165 (by decide +kernel) rfl, rfl, rfl⟩
theorem fl_X4_25 : am_F RX4 25 3 2 (.int) false := ⟨RX4, TX4, 4, tyX4, rfl, by decide, am_inX4, tyX4_ok, nmX4, am_at 166 (by decide +kernel) rfl, rfl, rfl⟩
theorem fl_X4_29 : am_F RX4 29 3 3 (.int) false := ⟨RX4, TX4, 4, tyX4, rfl, by decide, am_inX4, tyX4_ok, nmX4, am_at 167 (by decide +kernel) rfl, rfl, rfl⟩
theorem fl_X7_9 : am_F RX7 9 6 0 (.array .int) true := ⟨RX7, TX7, 3, tyX7, rfl, by decide, am_inX7, tyX7_ok, nmX7, am_at 183 (by decide +kernel) rfl, rfl, rfl⟩
theorem fl_X7_15 : am_F RX7 15 6 1 (.array .int) true := ⟨RX7, TX7, 3, tyX7, rfl, by decide, am_inX7, tyX7_ok, nmX7, am_at 184 (by decide +kernel) rfl, rfl, rfl⟩
theorem fl_X7_18 : am_F RX7 18 6 2 (.int) false := ⟨RX7, TX7, 3, tyX7, rfl, by decide, am_inX7, tyX7_ok, nmX7, am_at 185 (by decide +kernel) rfl, rfl, rfl⟩
theorem fl_X5_14 : am_F RX5 14 4 0 (.object "SpellTables$Line") true := ⟨RX5, TX5, 2, tyX5, rfl, by decide, am_inX5, tyX5_ok, nmX5, am_at 207 (by decide +kernel) rfl, rfl, rfl⟩
theorem fl_X0_47 : am_F RX0 47 4 0 (.object "SpellTables$Line") true := ⟨RX5, TX5, 2, tyX5, rfl, by decide, am_inX5, tyX5_ok, nmX5, am_at 208 (by decide +kernel) rfl, rfl, rfl⟩
theorem fl_X10_200 : am_F RX10 200 4 0 (.object "SpellTables$Line") true := ⟨RX5, TX5, 2, tyX5, rfl, by decide, am_inX5, tyX5_ok, nmX5, am_at 209 (by decide +kernel) rfl, rfl, rfl⟩
theorem fl_X5_20 : am_F RX5 20 4 1 (.boolean) false := ⟨RX5, TX5, 2, tyX5, rfl, by decide, am_inX5, tyX5_ok, nmX5, am_at 210 (by decide +kernel) rfl, rfl, rfl⟩
theorem fl_X0_12 : am_F RX0 12 0 0 (.object "SpellTables$Remainders") true := ⟨RX0, TX0, 7, tyX0, rfl, by decide, am_inX0, tyX0_ok, nmX0, am_at 221 (by decide +kernel) rfl, rfl, rfl⟩
theorem fl_X10_196 : am_F RX10 196 0 0 (.object "SpellTables$Remainders") true := ⟨RX0, TX0, 7, tyX0, rfl, by decide, am_inX0, tyX0_ok, nmX0, am_at 222 (by decide +kernel) rfl, rfl, rfl⟩
theorem fl_X0_23 : am_F RX0 23 0 1 (.object "SpellTables$Line") true := ⟨RX0, TX0, 7, tyX0, rfl, by decide, am_inX0, tyX0_ok, nmX0, am_at 223 (by decide +kernel) rfl, rfl, rfl⟩
theorem fl_X10_187 : am_F RX10 187 0 1 (.object "SpellTables$Line") true := ⟨RX0, TX0, 7, tyX0, rfl, by decide, am_inX0, tyX0_ok, nmX0, am_at 224 (by decide +kernel) rfl, rfl, rfl⟩
theorem fl_X0_27 : am_F RX0 27 0 2 (.object "SpellTables$Line") true := ⟨RX0, TX0, 7, tyX0, rfl, by decide, am_inX0, tyX0_ok, nmX0, am_at 225 (by decide +kernel) rfl, rfl, rfl⟩
theorem fl_X10_190 : am_F RX10 190 0 2 (.object "SpellTables$Line") true := ⟨RX0, TX0, 7, tyX0, rfl, by decide, am_inX0, tyX0_ok, nmX0, am_at 226 (by decide +kernel) rfl, rfl, rfl⟩
theorem fl_X0_30 : am_F RX0 30 0 3 (.object "SpellTables$Line") true := ⟨RX0, TX0, 7, tyX0, rfl, by decide, am_inX0, tyX0_ok, nmX0, am_at 227 (by decide +kernel) rfl, rfl, rfl⟩
theorem fl_X10_193 : am_F RX10 193 0 3 (.object "SpellTables$Line") true := ⟨RX0, TX0, 7, tyX0, rfl, by decide, am_inX0, tyX0_ok, nmX0, am_at 228 (by decide +kernel) rfl, rfl, rfl⟩
theorem fl_X0_33 : am_F RX0 33 0 4 (.array (.object "SpellTables$Line")) true := ⟨RX0, TX0, 7, tyX0, rfl, by decide, am_inX0, tyX0_ok, nmX0, am_at 229 (by decide +kernel) rfl, rfl, rfl⟩
theorem fl_X0_37 : am_F RX0 37 0 5 (.object "SpellTables$Line") true := ⟨RX0, TX0, 7, tyX0, rfl, by decide, am_inX0, tyX0_ok, nmX0, am_at 230 (by decide +kernel) rfl, rfl, rfl⟩
theorem fl_X0_43 : am_F RX0 43 0 6 (.object "SpellTables$Spellings") true := ⟨RX0, TX0, 7, tyX0, rfl, by decide, am_inX0, tyX0_ok, nmX0, am_at 231 (by decide +kernel) rfl, rfl, rfl⟩
theorem fl_X3_12 : am_F RX3 12 2 0 (.object "SpellTables$Remainders") true := ⟨RX3, TX3, 3, tyX3, rfl, by decide, am_inX3, tyX3_ok, nmX3, am_at 257 (by decide +kernel) rfl, rfl, rfl⟩
theorem fl_X3_23 : am_F RX3 23 2 1 (.object "SpellTables$Line") true := ⟨RX3, TX3, 3, tyX3, rfl, by decide, am_inX3, tyX3_ok, nmX3, am_at 258 (by decide +kernel) rfl, rfl, rfl⟩
theorem fl_X3_27 : am_F RX3 27 2 2 (.int) false := ⟨RX3, TX3, 3, tyX3, rfl, by decide, am_inX3, tyX3_ok, nmX3, am_at 259 (by decide +kernel) rfl, rfl, rfl⟩
theorem fl_X8_14 : am_F RX8 14 7 0 (.object "SpellTables$Line") true := ⟨RX8, TX8, 8, tyX8, rfl, by decide, am_inX8, tyX8_ok, nmX8, am_at 275 (by decide +kernel) rfl, rfl, rfl⟩
theorem fl_X8_20 : am_F RX8 20 7 1 (.object "SpellTables$Line") true := ⟨RX8, TX8, 8, tyX8, rfl, by decide, am_inX8, tyX8_ok, nmX8, am_at 276 (by decide +kernel) rfl, rfl, rfl⟩
theorem fl_X8_23 : am_F RX8 23 7 2 (.object "SpellTables$Line") true := ⟨RX8, TX8, 8, tyX8, rfl, by decide, am_inX8, tyX8_ok, nmX8, am_at 277 (by decide +kernel) rfl, rfl, rfl⟩
theorem fl_X8_26 : am_F RX8 26 7 3 (.long) false := ⟨RX8, TX8, 8, tyX8, rfl, by decide, am_inX8, tyX8_ok, nmX8, am_at 278 (by decide +kernel) rfl, rfl, rfl⟩
theorem fl_X8_30 : am_F RX8 30 7 4 (.int) false := ⟨RX8, TX8, 8, tyX8, rfl, by decide, am_inX8, tyX8_ok, nmX8, am_at 279 (by decide +kernel) rfl, rfl, rfl⟩
theorem fl_X8_34 : am_F RX8 34 7 5 (.int) false := ⟨RX8, TX8, 8, tyX8, rfl, by decide, am_inX8, tyX8_ok, nmX8, am_at 280 (by decide +kernel) rfl, rfl, rfl⟩
theorem fl_X8_37 : am_F RX8 37 7 6 (.int) false := ⟨RX8, TX8, 8, tyX8, rfl, by decide, am_inX8, tyX8_ok, nmX8, am_at 281 (by decide +kernel) rfl, rfl, rfl⟩
theorem fl_X8_40 : am_F RX8 40 7 7 (.int) false := ⟨RX8, TX8, 8, tyX8, rfl, by decide, am_inX8, tyX8_ok, nmX8, am_at 282 (by decide +kernel) rfl, rfl, rfl⟩
theorem fl_X10_10 : am_F RX10 10 8 0 (.object "SpellTables$Rules") true := ⟨RX10, TX10, 14, tyX10, rfl, by decide, am_inX10, tyX10_ok, nmX10, am_at 300 (by decide +kernel) rfl, rfl, rfl⟩
theorem fl_X10_21 : am_F RX10 21 8 1 (.object "SpellTables$Line") true := ⟨RX10, TX10, 14, tyX10, rfl, by decide, am_inX10, tyX10_ok, nmX10, am_at 301 (by decide +kernel) rfl, rfl, rfl⟩
theorem fl_X10_25 : am_F RX10 25 8 2 (.object "SpellTables$Line") true := ⟨RX10, TX10, 14, tyX10, rfl, by decide, am_inX10, tyX10_ok, nmX10, am_at 302 (by decide +kernel) rfl, rfl, rfl⟩
theorem fl_X10_28 : am_F RX10 28 8 3 (.object "SpellTables$Line") true := ⟨RX10, TX10, 14, tyX10, rfl, by decide, am_inX10, tyX10_ok, nmX10, am_at 303 (by decide +kernel) rfl, rfl, rfl⟩
theorem fl_X10_34 : am_F RX10 34 8 4 (.object "SpellTables$Reader") true := ⟨RX10, TX10, 14, tyX10, rfl, by decide, am_inX10, tyX10_ok, nmX10, am_at 304 (by decide +kernel) rfl, rfl, rfl⟩
theorem fl_X10_41 : am_F RX10 41 8 5 (.object "SpellTables$Spellings") true := ⟨RX10, TX10, 14, tyX10, rfl, by decide, am_inX10, tyX10_ok, nmX10, am_at 305 (by decide +kernel) rfl, rfl, rfl⟩
theorem fl_X10_48 : am_F RX10 48 8 6 (.object "SpellTables$Clashes") true := ⟨RX10, TX10, 14, tyX10, rfl, by decide, am_inX10, tyX10_ok, nmX10, am_at 306 (by decide +kernel) rfl, rfl, rfl⟩
theorem fl_X10_55 : am_F RX10 55 8 7 (.object "SpellTables$Partings") true := ⟨RX10, TX10, 14, tyX10, rfl, by decide, am_inX10, tyX10_ok, nmX10, am_at 307 (by decide +kernel) rfl, rfl, rfl⟩
theorem fl_X10_62 : am_F RX10 62 8 8 (.object "SpellTables$Trials") true := ⟨RX10, TX10, 14, tyX10, rfl, by decide, am_inX10, tyX10_ok, nmX10, am_at 308 (by decide +kernel) rfl, rfl, rfl⟩
theorem fl_X10_66 : am_F RX10 66 8 9 (.boolean) false := ⟨RX10, TX10, 14, tyX10, rfl, by decide, am_inX10, tyX10_ok, nmX10, am_at 309 (by decide +kernel) rfl, rfl, rfl⟩
theorem fl_X10_70 : am_F RX10 70 8 10 (.boolean) false := ⟨RX10, TX10, 14, tyX10, rfl, by decide, am_inX10, tyX10_ok, nmX10, am_at 310 (by decide +kernel) rfl, rfl, rfl⟩
theorem fl_X10_73 : am_F RX10 73 8 11 (.int) false := ⟨RX10, TX10, 14, tyX10, rfl, by decide, am_inX10, tyX10_ok, nmX10, am_at 311 (by decide +kernel) rfl, rfl, rfl⟩
theorem fl_X10_77 : am_F RX10 77 8 12 (.int) false := ⟨RX10, TX10, 14, tyX10, rfl, by decide, am_inX10, tyX10_ok, nmX10, am_at 312 (by decide +kernel) rfl, rfl, rfl⟩
theorem fl_X10_80 : am_F RX10 80 8 13 (.int) false := ⟨RX10, TX10, 14, tyX10, rfl, by decide, am_inX10, tyX10_ok, nmX10, am_at 313 (by decide +kernel) rfl, rfl, rfl⟩
theorem fl_X11_109 : am_F RX11 109 9 0 (.int) false := ⟨RX11, TX11, 38, tyX11, rfl, by decide, am_inX11, tyX11_ok, nmX11, am_at 801 (by decide +kernel) rfl, rfl, rfl⟩
theorem fl_X11_7 : am_F RX11 7 9 1 (.array .int) true := ⟨RX11, TX11, 38, tyX11, rfl, by decide, am_inX11, tyX11_ok, nmX11, am_at 802 (by decide +kernel) rfl, rfl, rfl⟩
theorem fl_X11_13 : am_F RX11 13 9 2 (.array .int) true := ⟨RX11, TX11, 38, tyX11, rfl, by decide, am_inX11, tyX11_ok, nmX11, am_at 803 (by decide +kernel) rfl, rfl, rfl⟩
theorem fl_X11_16 : am_F RX11 16 9 3 (.array .int) true := ⟨RX11, TX11, 38, tyX11, rfl, by decide, am_inX11, tyX11_ok, nmX11, am_at 804 (by decide +kernel) rfl, rfl, rfl⟩
theorem fl_X11_19 : am_F RX11 19 9 4 (.array .int) true := ⟨RX11, TX11, 38, tyX11, rfl, by decide, am_inX11, tyX11_ok, nmX11, am_at 805 (by decide +kernel) rfl, rfl, rfl⟩
theorem fl_X11_112 : am_F RX11 112 9 5 (.int) false := ⟨RX11, TX11, 38, tyX11, rfl, by decide, am_inX11, tyX11_ok, nmX11, am_at 806 (by decide +kernel) rfl, rfl, rfl⟩
theorem fl_X11_115 : am_F RX11 115 9 6 (.int) false := ⟨RX11, TX11, 38, tyX11, rfl, by decide, am_inX11, tyX11_ok, nmX11, am_at 807 (by decide +kernel) rfl, rfl, rfl⟩
theorem fl_X11_118 : am_F RX11 118 9 7 (.int) false := ⟨RX11, TX11, 38, tyX11, rfl, by decide, am_inX11, tyX11_ok, nmX11, am_at 808 (by decide +kernel) rfl, rfl, rfl⟩
theorem fl_X11_22 : am_F RX11 22 9 8 (.array .int) true := ⟨RX11, TX11, 38, tyX11, rfl, by decide, am_inX11, tyX11_ok, nmX11, am_at 809 (by decide +kernel) rfl, rfl, rfl⟩
theorem fl_X11_75 : am_F RX11 75 9 9 (.int) false := ⟨RX11, TX11, 38, tyX11, rfl, by decide, am_inX11, tyX11_ok, nmX11, am_at 810 (by decide +kernel) rfl, rfl, rfl⟩
theorem fl_X11_25 : am_F RX11 25 9 10 (.array .int) true := ⟨RX11, TX11, 38, tyX11, rfl, by decide, am_inX11, tyX11_ok, nmX11, am_at 811 (by decide +kernel) rfl, rfl, rfl⟩
theorem fl_X11_121 : am_F RX11 121 9 11 (.int) false := ⟨RX11, TX11, 38, tyX11, rfl, by decide, am_inX11, tyX11_ok, nmX11, am_at 812 (by decide +kernel) rfl, rfl, rfl⟩
theorem fl_X11_144 : am_F RX11 144 9 12 (.int) false := ⟨RX11, TX11, 38, tyX11, rfl, by decide, am_inX11, tyX11_ok, nmX11, am_at 813 (by decide +kernel) rfl, rfl, rfl⟩
theorem fl_X11_147 : am_F RX11 147 9 13 (.int) false := ⟨RX11, TX11, 38, tyX11, rfl, by decide, am_inX11, tyX11_ok, nmX11, am_at 814 (by decide +kernel) rfl, rfl, rfl⟩
theorem fl_X11_79 : am_F RX11 79 9 14 (.int) false := ⟨RX11, TX11, 38, tyX11, rfl, by decide, am_inX11, tyX11_ok, nmX11, am_at 815 (by decide +kernel) rfl, rfl, rfl⟩
theorem fl_X11_28 : am_F RX11 28 9 15 (.array .int) true := ⟨RX11, TX11, 38, tyX11, rfl, by decide, am_inX11, tyX11_ok, nmX11, am_at 816 (by decide +kernel) rfl, rfl, rfl⟩
theorem fl_X11_31 : am_F RX11 31 9 16 (.array .int) true := ⟨RX11, TX11, 38, tyX11, rfl, by decide, am_inX11, tyX11_ok, nmX11, am_at 817 (by decide +kernel) rfl, rfl, rfl⟩
theorem fl_X11_34 : am_F RX11 34 9 17 (.array .int) true := ⟨RX11, TX11, 38, tyX11, rfl, by decide, am_inX11, tyX11_ok, nmX11, am_at 818 (by decide +kernel) rfl, rfl, rfl⟩
theorem fl_X11_37 : am_F RX11 37 9 18 (.array .int) true := ⟨RX11, TX11, 38, tyX11, rfl, by decide, am_inX11, tyX11_ok, nmX11, am_at 819 (by decide +kernel) rfl, rfl, rfl⟩
theorem fl_X11_124 : am_F RX11 124 9 19 (.int) false := ⟨RX11, TX11, 38, tyX11, rfl, by decide, am_inX11, tyX11_ok, nmX11, am_at 820 (by decide +kernel) rfl, rfl, rfl⟩
theorem fl_X11_40 : am_F RX11 40 9 20 (.array .int) true := ⟨RX11, TX11, 38, tyX11, rfl, by decide, am_inX11, tyX11_ok, nmX11, am_at 821 (by decide +kernel) rfl, rfl, rfl⟩
theorem fl_X11_167 : am_F RX11 167 9 21 (.int) false := ⟨RX11, TX11, 38, tyX11, rfl, by decide, am_inX11, tyX11_ok, nmX11, am_at 822 (by decide +kernel) rfl, rfl, rfl⟩
theorem fl_X11_43 : am_F RX11 43 9 22 (.array .int) true := ⟨RX11, TX11, 38, tyX11, rfl, by decide, am_inX11, tyX11_ok, nmX11, am_at 823 (by decide +kernel) rfl, rfl, rfl⟩
theorem fl_X11_46 : am_F RX11 46 9 23 (.array .int) true := ⟨RX11, TX11, 38, tyX11, rfl, by decide, am_inX11, tyX11_ok, nmX11, am_at 824 (by decide +kernel) rfl, rfl, rfl⟩
theorem fl_X11_49 : am_F RX11 49 9 24 (.array .int) true := ⟨RX11, TX11, 38, tyX11, rfl, by decide, am_inX11, tyX11_ok, nmX11, am_at 825 (by decide +kernel) rfl, rfl, rfl⟩
theorem fl_X11_174 : am_F RX11 174 9 25 (.int) false := ⟨RX11, TX11, 38, tyX11, rfl, by decide, am_inX11, tyX11_ok, nmX11, am_at 826 (by decide +kernel) rfl, rfl, rfl⟩
theorem fl_X11_177 : am_F RX11 177 9 26 (.int) false := ⟨RX11, TX11, 38, tyX11, rfl, by decide, am_inX11, tyX11_ok, nmX11, am_at 827 (by decide +kernel) rfl, rfl, rfl⟩
theorem fl_X11_52 : am_F RX11 52 9 27 (.array .int) true := ⟨RX11, TX11, 38, tyX11, rfl, by decide, am_inX11, tyX11_ok, nmX11, am_at 828 (by decide +kernel) rfl, rfl, rfl⟩
theorem fl_X11_55 : am_F RX11 55 9 28 (.array .boolean) true := ⟨RX11, TX11, 38, tyX11, rfl, by decide, am_inX11, tyX11_ok, nmX11, am_at 829 (by decide +kernel) rfl, rfl, rfl⟩
theorem fl_X11_222 : am_F RX11 222 9 29 (.boolean) false := ⟨RX11, TX11, 38, tyX11, rfl, by decide, am_inX11, tyX11_ok, nmX11, am_at 830 (by decide +kernel) rfl, rfl, rfl⟩
theorem fl_X11_59 : am_F RX11 59 9 30 (.array .int) true := ⟨RX11, TX11, 38, tyX11, rfl, by decide, am_inX11, tyX11_ok, nmX11, am_at 831 (by decide +kernel) rfl, rfl, rfl⟩
theorem fl_X11_62 : am_F RX11 62 9 31 (.array .int) true := ⟨RX11, TX11, 38, tyX11, rfl, by decide, am_inX11, tyX11_ok, nmX11, am_at 832 (by decide +kernel) rfl, rfl, rfl⟩
theorem fl_X11_248 : am_F RX11 248 9 32 (.int) false := ⟨RX11, TX11, 38, tyX11, rfl, by decide, am_inX11, tyX11_ok, nmX11, am_at 833 (by decide +kernel) rfl, rfl, rfl⟩
theorem fl_X11_65 : am_F RX11 65 9 33 (.array .int) true := ⟨RX11, TX11, 38, tyX11, rfl, by decide, am_inX11, tyX11_ok, nmX11, am_at 834 (by decide +kernel) rfl, rfl, rfl⟩
theorem fl_X11_269 : am_F RX11 269 9 34 (.int) false := ⟨RX11, TX11, 38, tyX11, rfl, by decide, am_inX11, tyX11_ok, nmX11, am_at 835 (by decide +kernel) rfl, rfl, rfl⟩
theorem fl_X11_68 : am_F RX11 68 9 35 (.array .int) true := ⟨RX11, TX11, 38, tyX11, rfl, by decide, am_inX11, tyX11_ok, nmX11, am_at 836 (by decide +kernel) rfl, rfl, rfl⟩
theorem fl_X11_314 : am_F RX11 314 9 36 (.long) false := ⟨RX11, TX11, 38, tyX11, rfl, by decide, am_inX11, tyX11_ok, nmX11, am_at 837 (by decide +kernel) rfl, rfl, rfl⟩
theorem fl_X11_342 : am_F RX11 342 9 37 (.long) false := ⟨RX11, TX11, 38, tyX11, rfl, by decide, am_inX11, tyX11_ok, nmX11, am_at 838 (by decide +kernel) rfl, rfl, rfl⟩
abbrev mX10_init : am_M := (yX10_init, cX10_init, 1, none)
abbrev mX6_init : am_M := (yX6_init, cX6_init, 1, none)
abbrev mX1_init : am_M := (yX1_init, cX1_init, 2, none)
abbrev mJ9_max_7cf53 : am_M := (yJ9_max_7cf53, cJ9_max_7cf53, 2, (some .int))
abbrev mX4_init : am_M := (yX4_init, cX4_init, 1, none)
abbrev mX7_init : am_M := (yX7_init, cX7_init, 1, none)
abbrev mX0_init : am_M := (yX0_init, cX0_init, 2, none)
abbrev mX5_init : am_M := (yX5_init, cX5_init, 1, none)
abbrev mX3_init : am_M := (yX3_init, cX3_init, 1, none)
abbrev mX8_init : am_M := (yX8_init, cX8_init, 1, none)
abbrev mX10_letter : am_M := (yX10_letter, cX10_letter, 2, (some .int))
abbrev mX1_size : am_M := (yX1_size, cX1_size, 1, (some .int))
abbrev mX1_add : am_M := (yX1_add, cX1_add, 2, none)
abbrev mX10_blank : am_M := (yX10_blank, cX10_blank, 2, (some .int))
abbrev mX1_clear : am_M := (yX1_clear, cX1_clear, 1, none)
abbrev mX10_fault : am_M := (yX10_fault, cX10_fault, 1, (some .int))
abbrev mX4_read : am_M := (yX4_read, cX4_read, 3, (some .int))
abbrev mX1_at : am_M := (yX1_at, cX1_at, 2, (some .int))
abbrev mX4_takes : am_M := (yX4_takes, cX4_takes, 2, (some .boolean))
abbrev mX10_isSmall : am_M := (yX10_isSmall, cX10_isSmall, 1, (some .boolean))
abbrev mX4_takesSmall : am_M := (yX4_takesSmall, cX4_takesSmall, 2, (some .boolean))
abbrev mX9_size : am_M := (yX9_size, cX9_size, 1, (some .int))
abbrev mX9_append : am_M := (yX9_append, cX9_append, 2, (some .int))
abbrev mX10_isCapital : am_M := (yX10_isCapital, cX10_isCapital, 1, (some .boolean))
abbrev mX4_takesCapital : am_M := (yX4_takesCapital, cX4_takesCapital, 2, (some .boolean))
abbrev mX1_placeOf : am_M := (yX1_placeOf, cX1_placeOf, 3, (some .int))
abbrev mX4_takesComma : am_M := (yX4_takesComma, cX4_takesComma, 1, (some .boolean))
abbrev mX4_endRule : am_M := (yX4_endRule, cX4_endRule, 1, none)
abbrev mX10_table : am_M := (yX10_table, cX10_table, 1, (some .int))
abbrev mX4_readWhole : am_M := (yX4_readWhole, cX4_readWhole, 2, (some .boolean))
abbrev mX6_replace : am_M := (yX6_replace, cX6_replace, 3, none)
abbrev mX1_copy : am_M := (yX1_copy, cX1_copy, 3, none)
abbrev mX6_makeSigns : am_M := (yX6_makeSigns, cX6_makeSigns, 6, none)
abbrev mX10_forgetTable : am_M := (yX10_forgetTable, cX10_forgetTable, 1, none)
abbrev mX6_size : am_M := (yX6_size, cX6_size, 1, (some .int))
abbrev mX10_turn : am_M := (yX10_turn, cX10_turn, 2, (some .int))
abbrev mX10_onlySmall : am_M := (yX10_onlySmall, cX10_onlySmall, 2, (some .boolean))
abbrev mX2_decode : am_M := (yX2_decode, cX2_decode, 6, (some .int))
abbrev mX2_longest : am_M := (yX2_longest, cX2_longest, 7, (some .int))
abbrev mX2_endOf : am_M := (yX2_endOf, cX2_endOf, 5, (some .int))
abbrev mX9_fromEnd : am_M := (yX9_fromEnd, cX9_fromEnd, 2, (some .int))
abbrev mX6_spell : am_M := (yX6_spell, cX6_spell, 4, none)
abbrev mX1_addWord : am_M := (yX1_addWord, cX1_addWord, 3, none)
abbrev mX10_text : am_M := (yX10_text, cX10_text, 1, (some .int))
abbrev mX10_onlyInk : am_M := (yX10_onlyInk, cX10_onlyInk, 3, (some .boolean))
abbrev mX10_mark : am_M := (yX10_mark, cX10_mark, 2, (some .int))
abbrev mX6_has : am_M := (yX6_has, cX6_has, 2, (some .boolean))
abbrev mX6_turnMark : am_M := (yX6_turnMark, cX6_turnMark, 2, none)
abbrev mX6_isMarked : am_M := (yX6_isMarked, cX6_isMarked, 2, (some .boolean))
abbrev mX10_drop : am_M := (yX10_drop, cX10_drop, 2, (some .int))
abbrev mX6_remove : am_M := (yX6_remove, cX6_remove, 3, none)
abbrev mX1_remove : am_M := (yX1_remove, cX1_remove, 3, none)
abbrev mX10_rule : am_M := (yX10_rule, cX10_rule, 3, (some .int))
abbrev mX6_othersBeginning : am_M := (yX6_othersBeginning, cX6_othersBeginning, 4, (some .int))
abbrev mX9_begins : am_M := (yX9_begins, cX9_begins, 3, (some .boolean))
abbrev mX10_sign : am_M := (yX10_sign, cX10_sign, 4, (some .int))
abbrev mX9_character : am_M := (yX9_character, cX9_character, 3, (some .int))
abbrev mX10_ink : am_M := (yX10_ink, cX10_ink, 2, (some .int))
abbrev mX10_back : am_M := (yX10_back, cX10_back, 3, (some .int))
abbrev mX10_stuckPlace : am_M := (yX10_stuckPlace, cX10_stuckPlace, 2, (some .int))
abbrev mX10_backAt : am_M := (yX10_backAt, cX10_backAt, 2, (some .int))
abbrev mX10_ways : am_M := (yX10_ways, cX10_ways, 1, (some .int))
abbrev mX7_weigh : am_M := (yX7_weigh, cX7_weigh, 4, none)
abbrev mJ9_min_7cf53 : am_M := (yJ9_min_7cf53, cJ9_min_7cf53, 2, (some .int))
abbrev mX7_weighPlace : am_M := (yX7_weighPlace, cX7_weighPlace, 8, none)
abbrev mX7_total : am_M := (yX7_total, cX7_total, 1, (some .int))
abbrev mX10_first : am_M := (yX10_first, cX10_first, 2, (some .int))
abbrev mX7_pick : am_M := (yX7_pick, cX7_pick, 11, none)
abbrev mX10_clash : am_M := (yX10_clash, cX10_clash, 2, (some .int))
abbrev mX10_knowClashes : am_M := (yX10_knowClashes, cX10_knowClashes, 1, none)
abbrev mX0_find : am_M := (yX0_find, cX0_find, 2, none)
abbrev mX5_gather : am_M := (yX5_gather, cX5_gather, 3, none)
abbrev mX5_start : am_M := (yX5_start, cX5_start, 6, none)
abbrev mX9_behind : am_M := (yX9_behind, cX9_behind, 4, (some .int))
abbrev mX5_note : am_M := (yX5_note, cX5_note, 2, none)
abbrev mX5_follow : am_M := (yX5_follow, cX5_follow, 5, none)
abbrev mX1_sort : am_M := (yX1_sort, cX1_sort, 4, none)
abbrev mX5_areClean : am_M := (yX5_areClean, cX5_areClean, 1, (some .boolean))
abbrev mX0_findTexts : am_M := (yX0_findTexts, cX0_findTexts, 5, none)
abbrev mX0_startTexts : am_M := (yX0_startTexts, cX0_startTexts, 6, none)
abbrev mX0_take : am_M := (yX0_take, cX0_take, 4, (some .boolean))
abbrev mX1_isBefore : am_M := (yX1_isBefore, cX1_isBefore, 3, (some .boolean))
abbrev mX0_followText : am_M := (yX0_followText, cX0_followText, 8, (some .boolean))
abbrev mX0_value : am_M := (yX0_value, cX0_value, 2, (some .int))
abbrev mX10_clashAt : am_M := (yX10_clashAt, cX10_clashAt, 2, (some .int))
abbrev mX10_clashing : am_M := (yX10_clashing, cX10_clashing, 3, (some .int))
abbrev mX10_ahead : am_M := (yX10_ahead, cX10_ahead, 2, (some .int))
abbrev mX10_aheadAt : am_M := (yX10_aheadAt, cX10_aheadAt, 3, (some .int))
abbrev mX10_parting : am_M := (yX10_parting, cX10_parting, 2, (some .int))
abbrev mX10_knowPartings : am_M := (yX10_knowPartings, cX10_knowPartings, 1, none)
abbrev mX3_find : am_M := (yX3_find, cX3_find, 5, none)
abbrev mJ6_bitCount_0f7a4 : am_M := (yJ6_bitCount_0f7a4, cJ6_bitCount_0f7a4, 1, (some .int))
abbrev mX5_wouldBeClean : am_M := (yX5_wouldBeClean, cX5_wouldBeClean, 3, (some .boolean))
abbrev mX3_value : am_M := (yX3_value, cX3_value, 2, (some .int))
abbrev mX10_trial : am_M := (yX10_trial, cX10_trial, 4, (some .int))
abbrev mX8_run : am_M := (yX8_run, cX8_run, 5, none)
abbrev mX8_drawRow : am_M := (yX8_drawRow, cX8_drawRow, 4, none)
abbrev mX8_draw : am_M := (yX8_draw, cX8_draw, 2, (some .int))
abbrev mX8_tryRow : am_M := (yX8_tryRow, cX8_tryRow, 3, none)
abbrev mX1_isSame : am_M := (yX1_isSame, cX1_isSame, 3, (some .boolean))
abbrev mX8_value : am_M := (yX8_value, cX8_value, 2, (some .int))
abbrev mX10_count : am_M := (yX10_count, cX10_count, 2, (some .int))
abbrev mX6_markedRules : am_M := (yX6_markedRules, cX6_markedRules, 1, (some .int))
abbrev mX10_digest : am_M := (yX10_digest, cX10_digest, 4, (some .long))
abbrev mX10_hashRules : am_M := (yX10_hashRules, cX10_hashRules, 7, (some .long))
abbrev mX10_hashNumber : am_M := (yX10_hashNumber, cX10_hashNumber, 3, (some .long))
abbrev mX10_hashWord : am_M := (yX10_hashWord, cX10_hashWord, 7, (some .long))
abbrev mX10_hashLine : am_M := (yX10_hashLine, cX10_hashLine, 6, (some .long))
abbrev mX10_hashRows : am_M := (yX10_hashRows, cX10_hashRows, 6, (some .long))
abbrev mX10_hashClashes : am_M := (yX10_hashClashes, cX10_hashClashes, 6, (some .long))
abbrev mX11_init : am_M := (yX11_init, cX11_init, 1, none)
abbrev mX11_letter : am_M := (yX11_letter, cX11_letter, 2, (some .int))
abbrev mX11_within : am_M := (yX11_within, cX11_within, 3, (some .boolean))
abbrev mX11_blank : am_M := (yX11_blank, cX11_blank, 2, (some .int))
abbrev mX11_fault : am_M := (yX11_fault, cX11_fault, 1, (some .int))
abbrev mX11_read : am_M := (yX11_read, cX11_read, 2, (some .int))
abbrev mX11_takes : am_M := (yX11_takes, cX11_takes, 2, (some .boolean))
abbrev mX11_takesComma : am_M := (yX11_takesComma, cX11_takesComma, 2, (some .boolean))
abbrev mX11_isSmall : am_M := (yX11_isSmall, cX11_isSmall, 1, (some .boolean))
abbrev mX11_takesLeft : am_M := (yX11_takesLeft, cX11_takesLeft, 4, (some .boolean))
abbrev mX11_isGreat : am_M := (yX11_isGreat, cX11_isGreat, 1, (some .boolean))
abbrev mX11_takesRight : am_M := (yX11_takesRight, cX11_takesRight, 4, (some .boolean))
abbrev mX11_isTwice : am_M := (yX11_isTwice, cX11_isTwice, 5, (some .boolean))
abbrev mX11_table : am_M := (yX11_table, cX11_table, 3, (some .int))
abbrev mX11_turn : am_M := (yX11_turn, cX11_turn, 4, (some .int))
abbrev mX11_isSmallPage : am_M := (yX11_isSmallPage, cX11_isSmallPage, 3, (some .boolean))
abbrev mX11_turnRow : am_M := (yX11_turnRow, cX11_turnRow, 3, (some .int))
abbrev mX11_longestLeft : am_M := (yX11_longestLeft, cX11_longestLeft, 6, (some .int))
abbrev mX11_signLength : am_M := (yX11_signLength, cX11_signLength, 2, (some .int))
abbrev mX11_signAt : am_M := (yX11_signAt, cX11_signAt, 3, (some .int))
abbrev mX11_text : am_M := (yX11_text, cX11_text, 2, (some .int))
abbrev mX11_mark : am_M := (yX11_mark, cX11_mark, 2, (some .int))
abbrev mX11_isRule : am_M := (yX11_isRule, cX11_isRule, 2, (some .boolean))
abbrev mX11_drop : am_M := (yX11_drop, cX11_drop, 4, (some .int))
abbrev mX11_rule : am_M := (yX11_rule, cX11_rule, 3, (some .int))
abbrev mX11_ruleNow : am_M := (yX11_ruleNow, cX11_ruleNow, 3, (some .int))
abbrev mX11_begunBy : am_M := (yX11_begunBy, cX11_begunBy, 5, (some .int))
abbrev mX11_leftBegins : am_M := (yX11_leftBegins, cX11_leftBegins, 5, (some .boolean))
abbrev mX11_begins : am_M := (yX11_begins, cX11_begins, 5, (some .boolean))
abbrev mX11_sign : am_M := (yX11_sign, cX11_sign, 4, (some .int))
abbrev mX11_ink : am_M := (yX11_ink, cX11_ink, 2, (some .int))
abbrev mX11_back : am_M := (yX11_back, cX11_back, 2, (some .int))
abbrev mX11_backNow : am_M := (yX11_backNow, cX11_backNow, 2, (some .int))
abbrev mX11_workText : am_M := (yX11_workText, cX11_workText, 2, none)
abbrev mX11_layBack : am_M := (yX11_layBack, cX11_layBack, 3, none)
abbrev mX11_longestSign : am_M := (yX11_longestSign, cX11_longestSign, 5, (some .int))
abbrev mX11_lies : am_M := (yX11_lies, cX11_lies, 5, (some .boolean))
abbrev mX11_backAt : am_M := (yX11_backAt, cX11_backAt, 2, (some .int))
abbrev mX11_backAtNow : am_M := (yX11_backAtNow, cX11_backAtNow, 2, (some .int))
abbrev mX11_ways : am_M := (yX11_ways, cX11_ways, 1, (some .int))
abbrev mX11_waysNow : am_M := (yX11_waysNow, cX11_waysNow, 1, (some .int))
abbrev mX11_layWays : am_M := (yX11_layWays, cX11_layWays, 3, none)
abbrev mX11_first : am_M := (yX11_first, cX11_first, 2, (some .int))
abbrev mX11_firstNow : am_M := (yX11_firstNow, cX11_firstNow, 3, (some .int))
abbrev mX11_ruleIn : am_M := (yX11_ruleIn, cX11_ruleIn, 9, (some .int))
abbrev mX11_ahead : am_M := (yX11_ahead, cX11_ahead, 3, (some .int))
abbrev mX11_layAheads : am_M := (yX11_layAheads, cX11_layAheads, 3, none)
abbrev mX11_comesAhead : am_M := (yX11_comesAhead, cX11_comesAhead, 3, none)
abbrev mX11_leastOf : am_M := (yX11_leastOf, cX11_leastOf, 3, (some .int))
abbrev mX11_isPart : am_M := (yX11_isPart, cX11_isPart, 2, (some .boolean))
abbrev mX11_areAlike : am_M := (yX11_areAlike, cX11_areAlike, 5, (some .boolean))
abbrev mX11_lengthOf : am_M := (yX11_lengthOf, cX11_lengthOf, 2, (some .int))
abbrev mX11_letterOf : am_M := (yX11_letterOf, cX11_letterOf, 3, (some .int))
abbrev mX11_goOnFrom : am_M := (yX11_goOnFrom, cX11_goOnFrom, 3, none)
abbrev mX11_partBegins : am_M := (yX11_partBegins, cX11_partBegins, 5, (some .boolean))
abbrev mX11_signBegins : am_M := (yX11_signBegins, cX11_signBegins, 5, (some .boolean))
abbrev mX11_aheadOf : am_M := (yX11_aheadOf, cX11_aheadOf, 5, (some .int))
abbrev mX11_isBefore : am_M := (yX11_isBefore, cX11_isBefore, 4, (some .boolean))
abbrev mX11_aheadAt : am_M := (yX11_aheadAt, cX11_aheadAt, 4, (some .int))
abbrev mX11_clash : am_M := (yX11_clash, cX11_clash, 2, (some .int))
abbrev mX11_clashNow : am_M := (yX11_clashNow, cX11_clashNow, 2, (some .int))
abbrev mX11_isClean : am_M := (yX11_isClean, cX11_isClean, 3, (some .boolean))
abbrev mX11_aheadsMany : am_M := (yX11_aheadsMany, cX11_aheadsMany, 3, (some .int))
abbrev mX11_clashTold : am_M := (yX11_clashTold, cX11_clashTold, 2, (some .int))
abbrev mX11_layClash : am_M := (yX11_layClash, cX11_layClash, 3, none)
abbrev mX11_layBehind : am_M := (yX11_layBehind, cX11_layBehind, 4, none)
abbrev mX11_goesOn : am_M := (yX11_goesOn, cX11_goesOn, 4, (some .boolean))
abbrev mX11_goesOnBy : am_M := (yX11_goesOnBy, cX11_goesOnBy, 5, (some .boolean))
abbrev mX11_tryBehind : am_M := (yX11_tryBehind, cX11_tryBehind, 3, none)
abbrev mX11_tryLetter : am_M := (yX11_tryLetter, cX11_tryLetter, 2, none)
abbrev mX11_takesTried : am_M := (yX11_takesTried, cX11_takesTried, 3, (some .boolean))
abbrev mX11_isTriedLess : am_M := (yX11_isTriedLess, cX11_isTriedLess, 3, (some .boolean))
abbrev mX11_clashOf : am_M := (yX11_clashOf, cX11_clashOf, 5, none)
abbrev mX11_isClashLess : am_M := (yX11_isClashLess, cX11_isClashLess, 2, (some .boolean))
abbrev mX11_rowMany : am_M := (yX11_rowMany, cX11_rowMany, 3, (some .int))
abbrev mX11_clashAt : am_M := (yX11_clashAt, cX11_clashAt, 2, (some .int))
abbrev mX11_clashing : am_M := (yX11_clashing, cX11_clashing, 3, (some .int))
abbrev mX11_clashingNow : am_M := (yX11_clashingNow, cX11_clashingNow, 4, (some .int))
abbrev mX11_parting : am_M := (yX11_parting, cX11_parting, 2, (some .int))
abbrev mX11_partingNow : am_M := (yX11_partingNow, cX11_partingNow, 3, (some .int))
abbrev mX11_partingSet : am_M := (yX11_partingSet, cX11_partingSet, 4, (some .int))
abbrev mX11_bits : am_M := (yX11_bits, cX11_bits, 3, (some .int))
abbrev mX11_trial : am_M := (yX11_trial, cX11_trial, 4, (some .int))
abbrev mX11_trialNow : am_M := (yX11_trialNow, cX11_trialNow, 7, (some .int))
abbrev mX11_drawRow : am_M := (yX11_drawRow, cX11_drawRow, 3, none)
abbrev mX11_draw : am_M := (yX11_draw, cX11_draw, 2, (some .int))
abbrev mX11_isSameRow : am_M := (yX11_isSameRow, cX11_isSameRow, 3, (some .boolean))
abbrev mX11_count : am_M := (yX11_count, cX11_count, 2, (some .int))
abbrev mX11_howMany : am_M := (yX11_howMany, cX11_howMany, 2, (some .int))
abbrev mX11_digest : am_M := (yX11_digest, cX11_digest, 2, (some .long))
abbrev mX11_mixRules : am_M := (yX11_mixRules, cX11_mixRules, 3, none)
abbrev mX11_mix : am_M := (yX11_mix, cX11_mix, 3, none)
abbrev mX11_mixText : am_M := (yX11_mixText, cX11_mixText, 2, none)
abbrev mX11_mixClash : am_M := (yX11_mixClash, cX11_mixClash, 3, none)
abbrev mX11_mixAheads : am_M := (yX11_mixAheads, cX11_mixAheads, 5, none)
theorem ms_J9_max_7cf53 : am_MS mJ9_max_7cf53 2 := ⟨am_at 125 (by decide +kernel) rfl, am_at 93 (by decide +kernel) rfl, am_at 126 (by decide +kernel) rfl, ⟨by decide +kernel, by decide +kernel, by decide +kernel⟩, by decide⟩
theorem mv_X10_letter : am_MV mX10_letter 1 := ⟨am_at 344 (by decide +kernel) rfl, am_at 345 (by decide +kernel) rfl, am_at 90 (by decide +kernel) rfl, am_at 346 (by decide +kernel) rfl, ⟨by decide +kernel, by decide +kernel, by decide +kernel⟩, by decide⟩
theorem mv_X1_size : am_MV mX1_size 0 := ⟨am_at 348 (by decide +kernel) rfl, am_at 349 (by decide +kernel) rfl, am_at 92 (by decide +kernel) rfl, am_at 350 (by decide +kernel) rfl, ⟨by decide +kernel, by decide +kernel, by decide +kernel⟩, by decide⟩
theorem mv_X1_add : am_MV mX1_add 1 := ⟨am_at 352 (by decide +kernel) rfl, am_at 353 (by decide +kernel) rfl, am_at 92 (by decide +kernel) rfl, am_at 354 (by decide +kernel) rfl, ⟨by decide +kernel, by decide +kernel, by decide +kernel⟩, by decide⟩
theorem mv_X10_blank : am_MV mX10_blank 0 := ⟨am_at 356 (by decide +kernel) rfl, am_at 357 (by decide +kernel) rfl, am_at 90 (by decide +kernel) rfl, am_at 358 (by decide +kernel) rfl, ⟨by decide +kernel, by decide +kernel, by decide +kernel⟩, by decide⟩
theorem mv_X1_clear : am_MV mX1_clear 0 := ⟨am_at 360 (by decide +kernel) rfl, am_at 361 (by decide +kernel) rfl, am_at 92 (by decide +kernel) rfl, am_at 362 (by decide +kernel) rfl, ⟨by decide +kernel, by decide +kernel, by decide +kernel⟩, by decide⟩
theorem mv_X10_fault : am_MV mX10_fault 0 := ⟨am_at 364 (by decide +kernel) rfl, am_at 365 (by decide +kernel) rfl, am_at 90 (by decide +kernel) rfl, am_at 366 (by decide +kernel) rfl, ⟨by decide +kernel, by decide +kernel, by decide +kernel⟩, by decide⟩
theorem mv_X4_read : am_MV mX4_read 1 := ⟨am_at 368 (by decide +kernel) rfl, am_at 369 (by decide +kernel) rfl, am_at 94 (by decide +kernel) rfl, am_at 370 (by decide +kernel) rfl, ⟨by decide +kernel, by decide +kernel, by decide +kernel⟩, by decide⟩
theorem mv_X1_at : am_MV mX1_at 1 := ⟨am_at 374 (by decide +kernel) rfl, am_at 375 (by decide +kernel) rfl, am_at 92 (by decide +kernel) rfl, am_at 376 (by decide +kernel) rfl, ⟨by decide +kernel, by decide +kernel, by decide +kernel⟩, by decide⟩
theorem mv_X4_takes : am_MV mX4_takes 1 := ⟨am_at 379 (by decide +kernel) rfl, am_at 0 (by decide +kernel) rfl, am_at 94 (by decide +kernel) rfl, am_at 380 (by decide +kernel) rfl, ⟨by decide +kernel, by decide +kernel, by decide +kernel⟩, by decide⟩
theorem ms_X10_isSmall : am_MS mX10_isSmall 1 := ⟨am_at 382 (by decide +kernel) rfl, am_at 90 (by decide +kernel) rfl, am_at 383 (by decide +kernel) rfl, ⟨by decide +kernel, by decide +kernel, by decide +kernel⟩, by decide⟩
theorem mv_X4_takesSmall : am_MV mX4_takesSmall 1 := ⟨am_at 386 (by decide +kernel) rfl, am_at 1 (by decide +kernel) rfl, am_at 94 (by decide +kernel) rfl, am_at 387 (by decide +kernel) rfl, ⟨by decide +kernel, by decide +kernel, by decide +kernel⟩, by decide⟩
theorem ms_X9_size : am_MS mX9_size 1 := ⟨am_at 389 (by decide +kernel) rfl, am_at 101 (by decide +kernel) rfl, am_at 390 (by decide +kernel) rfl, ⟨by decide +kernel, by decide +kernel, by decide +kernel⟩, by decide⟩
theorem ms_X9_append : am_MS mX9_append 2 := ⟨am_at 394 (by decide +kernel) rfl, am_at 101 (by decide +kernel) rfl, am_at 395 (by decide +kernel) rfl, ⟨by decide +kernel, by decide +kernel, by decide +kernel⟩, by decide⟩
theorem ms_X10_isCapital : am_MS mX10_isCapital 1 := ⟨am_at 397 (by decide +kernel) rfl, am_at 90 (by decide +kernel) rfl, am_at 398 (by decide +kernel) rfl, ⟨by decide +kernel, by decide +kernel, by decide +kernel⟩, by decide⟩
theorem mv_X4_takesCapital : am_MV mX4_takesCapital 1 := ⟨am_at 401 (by decide +kernel) rfl, am_at 2 (by decide +kernel) rfl, am_at 94 (by decide +kernel) rfl, am_at 402 (by decide +kernel) rfl, ⟨by decide +kernel, by decide +kernel, by decide +kernel⟩, by decide⟩
theorem mv_X1_placeOf : am_MV mX1_placeOf 1 := ⟨am_at 404 (by decide +kernel) rfl, am_at 405 (by decide +kernel) rfl, am_at 92 (by decide +kernel) rfl, am_at 406 (by decide +kernel) rfl, ⟨by decide +kernel, by decide +kernel, by decide +kernel⟩, by decide⟩
theorem mv_X4_takesComma : am_MV mX4_takesComma 0 := ⟨am_at 409 (by decide +kernel) rfl, am_at 3 (by decide +kernel) rfl, am_at 94 (by decide +kernel) rfl, am_at 410 (by decide +kernel) rfl, ⟨by decide +kernel, by decide +kernel, by decide +kernel⟩, by decide⟩
theorem mv_X4_endRule : am_MV mX4_endRule 0 := ⟨am_at 413 (by decide +kernel) rfl, am_at 4 (by decide +kernel) rfl, am_at 94 (by decide +kernel) rfl, am_at 414 (by decide +kernel) rfl, ⟨by decide +kernel, by decide +kernel, by decide +kernel⟩, by decide⟩
theorem mv_X10_table : am_MV mX10_table 0 := ⟨am_at 417 (by decide +kernel) rfl, am_at 418 (by decide +kernel) rfl, am_at 90 (by decide +kernel) rfl, am_at 419 (by decide +kernel) rfl, ⟨by decide +kernel, by decide +kernel, by decide +kernel⟩, by decide⟩
theorem mv_X4_readWhole : am_MV mX4_readWhole 1 := ⟨am_at 421 (by decide +kernel) rfl, am_at 422 (by decide +kernel) rfl, am_at 94 (by decide +kernel) rfl, am_at 423 (by decide +kernel) rfl, ⟨by decide +kernel, by decide +kernel, by decide +kernel⟩, by decide⟩
theorem mv_X6_replace : am_MV mX6_replace 2 := ⟨am_at 426 (by decide +kernel) rfl, am_at 427 (by decide +kernel) rfl, am_at 91 (by decide +kernel) rfl, am_at 428 (by decide +kernel) rfl, ⟨by decide +kernel, by decide +kernel, by decide +kernel⟩, by decide⟩
theorem mv_X1_copy : am_MV mX1_copy 1 := ⟨am_at 430 (by decide +kernel) rfl, am_at 431 (by decide +kernel) rfl, am_at 92 (by decide +kernel) rfl, am_at 432 (by decide +kernel) rfl, ⟨by decide +kernel, by decide +kernel, by decide +kernel⟩, by decide⟩
theorem mv_X6_makeSigns : am_MV mX6_makeSigns 2 := ⟨am_at 434 (by decide +kernel) rfl, am_at 435 (by decide +kernel) rfl, am_at 91 (by decide +kernel) rfl, am_at 436 (by decide +kernel) rfl, ⟨by decide +kernel, by decide +kernel, by decide +kernel⟩, by decide⟩
theorem mv_X10_forgetTable : am_MV mX10_forgetTable 0 := ⟨am_at 444 (by decide +kernel) rfl, am_at 5 (by decide +kernel) rfl, am_at 90 (by decide +kernel) rfl, am_at 445 (by decide +kernel) rfl, ⟨by decide +kernel, by decide +kernel, by decide +kernel⟩, by decide⟩
theorem mv_X6_size : am_MV mX6_size 0 := ⟨am_at 447 (by decide +kernel) rfl, am_at 448 (by decide +kernel) rfl, am_at 91 (by decide +kernel) rfl, am_at 449 (by decide +kernel) rfl, ⟨by decide +kernel, by decide +kernel, by decide +kernel⟩, by decide⟩
theorem mv_X10_turn : am_MV mX10_turn 0 := ⟨am_at 451 (by decide +kernel) rfl, am_at 452 (by decide +kernel) rfl, am_at 90 (by decide +kernel) rfl, am_at 453 (by decide +kernel) rfl, ⟨by decide +kernel, by decide +kernel, by decide +kernel⟩, by decide⟩
theorem ms_X10_onlySmall : am_MS mX10_onlySmall 1 := ⟨am_at 455 (by decide +kernel) rfl, am_at 90 (by decide +kernel) rfl, am_at 456 (by decide +kernel) rfl, ⟨by decide +kernel, by decide +kernel, by decide +kernel⟩, by decide⟩
theorem ms_X2_decode : am_MS mX2_decode 3 := ⟨am_at 460 (by decide +kernel) rfl, am_at 102 (by decide +kernel) rfl, am_at 461 (by decide +kernel) rfl, ⟨by decide +kernel, by decide +kernel, by decide +kernel⟩, by decide⟩
theorem ms_X2_longest : am_MS mX2_longest 3 := ⟨am_at 465 (by decide +kernel) rfl, am_at 102 (by decide +kernel) rfl, am_at 466 (by decide +kernel) rfl, ⟨by decide +kernel, by decide +kernel, by decide +kernel⟩, by decide⟩
theorem ms_X2_endOf : am_MS mX2_endOf 3 := ⟨am_at 469 (by decide +kernel) rfl, am_at 102 (by decide +kernel) rfl, am_at 470 (by decide +kernel) rfl, ⟨by decide +kernel, by decide +kernel, by decide +kernel⟩, by decide⟩
theorem ms_X9_fromEnd : am_MS mX9_fromEnd 2 := ⟨am_at 473 (by decide +kernel) rfl, am_at 101 (by decide +kernel) rfl, am_at 474 (by decide +kernel) rfl, ⟨by decide +kernel, by decide +kernel, by decide +kernel⟩, by decide⟩
theorem mv_X6_spell : am_MV mX6_spell 2 := ⟨am_at 477 (by decide +kernel) rfl, am_at 478 (by decide +kernel) rfl, am_at 91 (by decide +kernel) rfl, am_at 479 (by decide +kernel) rfl, ⟨by decide +kernel, by decide +kernel, by decide +kernel⟩, by decide⟩
theorem mv_X1_addWord : am_MV mX1_addWord 1 := ⟨am_at 481 (by decide +kernel) rfl, am_at 482 (by decide +kernel) rfl, am_at 92 (by decide +kernel) rfl, am_at 483 (by decide +kernel) rfl, ⟨by decide +kernel, by decide +kernel, by decide +kernel⟩, by decide⟩
theorem mv_X10_text : am_MV mX10_text 0 := ⟨am_at 488 (by decide +kernel) rfl, am_at 489 (by decide +kernel) rfl, am_at 90 (by decide +kernel) rfl, am_at 490 (by decide +kernel) rfl, ⟨by decide +kernel, by decide +kernel, by decide +kernel⟩, by decide⟩
theorem ms_X10_onlyInk : am_MS mX10_onlyInk 1 := ⟨am_at 492 (by decide +kernel) rfl, am_at 90 (by decide +kernel) rfl, am_at 493 (by decide +kernel) rfl, ⟨by decide +kernel, by decide +kernel, by decide +kernel⟩, by decide⟩
theorem mv_X10_mark : am_MV mX10_mark 1 := ⟨am_at 497 (by decide +kernel) rfl, am_at 498 (by decide +kernel) rfl, am_at 90 (by decide +kernel) rfl, am_at 499 (by decide +kernel) rfl, ⟨by decide +kernel, by decide +kernel, by decide +kernel⟩, by decide⟩
theorem mv_X6_has : am_MV mX6_has 1 := ⟨am_at 501 (by decide +kernel) rfl, am_at 502 (by decide +kernel) rfl, am_at 91 (by decide +kernel) rfl, am_at 503 (by decide +kernel) rfl, ⟨by decide +kernel, by decide +kernel, by decide +kernel⟩, by decide⟩
theorem mv_X6_turnMark : am_MV mX6_turnMark 1 := ⟨am_at 505 (by decide +kernel) rfl, am_at 506 (by decide +kernel) rfl, am_at 91 (by decide +kernel) rfl, am_at 507 (by decide +kernel) rfl, ⟨by decide +kernel, by decide +kernel, by decide +kernel⟩, by decide⟩
theorem mv_X6_isMarked : am_MV mX6_isMarked 1 := ⟨am_at 510 (by decide +kernel) rfl, am_at 511 (by decide +kernel) rfl, am_at 91 (by decide +kernel) rfl, am_at 512 (by decide +kernel) rfl, ⟨by decide +kernel, by decide +kernel, by decide +kernel⟩, by decide⟩
theorem mv_X10_drop : am_MV mX10_drop 1 := ⟨am_at 514 (by decide +kernel) rfl, am_at 515 (by decide +kernel) rfl, am_at 90 (by decide +kernel) rfl, am_at 516 (by decide +kernel) rfl, ⟨by decide +kernel, by decide +kernel, by decide +kernel⟩, by decide⟩
theorem mv_X6_remove : am_MV mX6_remove 1 := ⟨am_at 518 (by decide +kernel) rfl, am_at 519 (by decide +kernel) rfl, am_at 91 (by decide +kernel) rfl, am_at 520 (by decide +kernel) rfl, ⟨by decide +kernel, by decide +kernel, by decide +kernel⟩, by decide⟩
theorem mv_X1_remove : am_MV mX1_remove 1 := ⟨am_at 522 (by decide +kernel) rfl, am_at 523 (by decide +kernel) rfl, am_at 92 (by decide +kernel) rfl, am_at 524 (by decide +kernel) rfl, ⟨by decide +kernel, by decide +kernel, by decide +kernel⟩, by decide⟩
theorem mv_X10_rule : am_MV mX10_rule 2 := ⟨am_at 526 (by decide +kernel) rfl, am_at 527 (by decide +kernel) rfl, am_at 90 (by decide +kernel) rfl, am_at 528 (by decide +kernel) rfl, ⟨by decide +kernel, by decide +kernel, by decide +kernel⟩, by decide⟩
theorem ms_X6_othersBeginning : am_MS mX6_othersBeginning 2 := ⟨am_at 531 (by decide +kernel) rfl, am_at 91 (by decide +kernel) rfl, am_at 532 (by decide +kernel) rfl, ⟨by decide +kernel, by decide +kernel, by decide +kernel⟩, by decide⟩
theorem ms_X9_begins : am_MS mX9_begins 2 := ⟨am_at 534 (by decide +kernel) rfl, am_at 101 (by decide +kernel) rfl, am_at 535 (by decide +kernel) rfl, ⟨by decide +kernel, by decide +kernel, by decide +kernel⟩, by decide⟩
theorem mv_X10_sign : am_MV mX10_sign 3 := ⟨am_at 538 (by decide +kernel) rfl, am_at 539 (by decide +kernel) rfl, am_at 90 (by decide +kernel) rfl, am_at 540 (by decide +kernel) rfl, ⟨by decide +kernel, by decide +kernel, by decide +kernel⟩, by decide⟩
theorem ms_X9_character : am_MS mX9_character 2 := ⟨am_at 542 (by decide +kernel) rfl, am_at 101 (by decide +kernel) rfl, am_at 543 (by decide +kernel) rfl, ⟨by decide +kernel, by decide +kernel, by decide +kernel⟩, by decide⟩
theorem mv_X10_ink : am_MV mX10_ink 1 := ⟨am_at 546 (by decide +kernel) rfl, am_at 547 (by decide +kernel) rfl, am_at 90 (by decide +kernel) rfl, am_at 548 (by decide +kernel) rfl, ⟨by decide +kernel, by decide +kernel, by decide +kernel⟩, by decide⟩
theorem mv_X10_back : am_MV mX10_back 1 := ⟨am_at 550 (by decide +kernel) rfl, am_at 551 (by decide +kernel) rfl, am_at 90 (by decide +kernel) rfl, am_at 552 (by decide +kernel) rfl, ⟨by decide +kernel, by decide +kernel, by decide +kernel⟩, by decide⟩
theorem mv_X10_stuckPlace : am_MV mX10_stuckPlace 1 := ⟨am_at 555 (by decide +kernel) rfl, am_at 6 (by decide +kernel) rfl, am_at 90 (by decide +kernel) rfl, am_at 556 (by decide +kernel) rfl, ⟨by decide +kernel, by decide +kernel, by decide +kernel⟩, by decide⟩
theorem mv_X10_backAt : am_MV mX10_backAt 1 := ⟨am_at 558 (by decide +kernel) rfl, am_at 559 (by decide +kernel) rfl, am_at 90 (by decide +kernel) rfl, am_at 560 (by decide +kernel) rfl, ⟨by decide +kernel, by decide +kernel, by decide +kernel⟩, by decide⟩
theorem mv_X10_ways : am_MV mX10_ways 0 := ⟨am_at 562 (by decide +kernel) rfl, am_at 563 (by decide +kernel) rfl, am_at 90 (by decide +kernel) rfl, am_at 564 (by decide +kernel) rfl, ⟨by decide +kernel, by decide +kernel, by decide +kernel⟩, by decide⟩
theorem mv_X7_weigh : am_MV mX7_weigh 2 := ⟨am_at 566 (by decide +kernel) rfl, am_at 567 (by decide +kernel) rfl, am_at 95 (by decide +kernel) rfl, am_at 568 (by decide +kernel) rfl, ⟨by decide +kernel, by decide +kernel, by decide +kernel⟩, by decide⟩
theorem ms_J9_min_7cf53 : am_MS mJ9_min_7cf53 2 := ⟨am_at 571 (by decide +kernel) rfl, am_at 93 (by decide +kernel) rfl, am_at 572 (by decide +kernel) rfl, ⟨by decide +kernel, by decide +kernel, by decide +kernel⟩, by decide⟩
theorem mv_X7_weighPlace : am_MV mX7_weighPlace 3 := ⟨am_at 575 (by decide +kernel) rfl, am_at 7 (by decide +kernel) rfl, am_at 95 (by decide +kernel) rfl, am_at 576 (by decide +kernel) rfl, ⟨by decide +kernel, by decide +kernel, by decide +kernel⟩, by decide⟩
theorem mv_X7_total : am_MV mX7_total 0 := ⟨am_at 581 (by decide +kernel) rfl, am_at 582 (by decide +kernel) rfl, am_at 95 (by decide +kernel) rfl, am_at 583 (by decide +kernel) rfl, ⟨by decide +kernel, by decide +kernel, by decide +kernel⟩, by decide⟩
theorem mv_X10_first : am_MV mX10_first 1 := ⟨am_at 585 (by decide +kernel) rfl, am_at 586 (by decide +kernel) rfl, am_at 90 (by decide +kernel) rfl, am_at 587 (by decide +kernel) rfl, ⟨by decide +kernel, by decide +kernel, by decide +kernel⟩, by decide⟩
theorem mv_X7_pick : am_MV mX7_pick 4 := ⟨am_at 589 (by decide +kernel) rfl, am_at 590 (by decide +kernel) rfl, am_at 95 (by decide +kernel) rfl, am_at 591 (by decide +kernel) rfl, ⟨by decide +kernel, by decide +kernel, by decide +kernel⟩, by decide⟩
theorem mv_X10_clash : am_MV mX10_clash 1 := ⟨am_at 595 (by decide +kernel) rfl, am_at 596 (by decide +kernel) rfl, am_at 90 (by decide +kernel) rfl, am_at 597 (by decide +kernel) rfl, ⟨by decide +kernel, by decide +kernel, by decide +kernel⟩, by decide⟩
theorem mv_X10_knowClashes : am_MV mX10_knowClashes 0 := ⟨am_at 600 (by decide +kernel) rfl, am_at 8 (by decide +kernel) rfl, am_at 90 (by decide +kernel) rfl, am_at 601 (by decide +kernel) rfl, ⟨by decide +kernel, by decide +kernel, by decide +kernel⟩, by decide⟩
theorem mv_X0_find : am_MV mX0_find 1 := ⟨am_at 603 (by decide +kernel) rfl, am_at 604 (by decide +kernel) rfl, am_at 96 (by decide +kernel) rfl, am_at 605 (by decide +kernel) rfl, ⟨by decide +kernel, by decide +kernel, by decide +kernel⟩, by decide⟩
theorem mv_X5_gather : am_MV mX5_gather 1 := ⟨am_at 607 (by decide +kernel) rfl, am_at 608 (by decide +kernel) rfl, am_at 97 (by decide +kernel) rfl, am_at 609 (by decide +kernel) rfl, ⟨by decide +kernel, by decide +kernel, by decide +kernel⟩, by decide⟩
theorem mv_X5_start : am_MV mX5_start 1 := ⟨am_at 612 (by decide +kernel) rfl, am_at 9 (by decide +kernel) rfl, am_at 97 (by decide +kernel) rfl, am_at 613 (by decide +kernel) rfl, ⟨by decide +kernel, by decide +kernel, by decide +kernel⟩, by decide⟩
theorem ms_X9_behind : am_MS mX9_behind 2 := ⟨am_at 619 (by decide +kernel) rfl, am_at 101 (by decide +kernel) rfl, am_at 620 (by decide +kernel) rfl, ⟨by decide +kernel, by decide +kernel, by decide +kernel⟩, by decide⟩
theorem mv_X5_note : am_MV mX5_note 1 := ⟨am_at 624 (by decide +kernel) rfl, am_at 10 (by decide +kernel) rfl, am_at 97 (by decide +kernel) rfl, am_at 625 (by decide +kernel) rfl, ⟨by decide +kernel, by decide +kernel, by decide +kernel⟩, by decide⟩
theorem mv_X5_follow : am_MV mX5_follow 2 := ⟨am_at 630 (by decide +kernel) rfl, am_at 11 (by decide +kernel) rfl, am_at 97 (by decide +kernel) rfl, am_at 631 (by decide +kernel) rfl, ⟨by decide +kernel, by decide +kernel, by decide +kernel⟩, by decide⟩
theorem mv_X1_sort : am_MV mX1_sort 0 := ⟨am_at 633 (by decide +kernel) rfl, am_at 634 (by decide +kernel) rfl, am_at 92 (by decide +kernel) rfl, am_at 635 (by decide +kernel) rfl, ⟨by decide +kernel, by decide +kernel, by decide +kernel⟩, by decide⟩
theorem mv_X5_areClean : am_MV mX5_areClean 0 := ⟨am_at 638 (by decide +kernel) rfl, am_at 639 (by decide +kernel) rfl, am_at 97 (by decide +kernel) rfl, am_at 640 (by decide +kernel) rfl, ⟨by decide +kernel, by decide +kernel, by decide +kernel⟩, by decide⟩
theorem mv_X0_findTexts : am_MV mX0_findTexts 1 := ⟨am_at 643 (by decide +kernel) rfl, am_at 12 (by decide +kernel) rfl, am_at 96 (by decide +kernel) rfl, am_at 644 (by decide +kernel) rfl, ⟨by decide +kernel, by decide +kernel, by decide +kernel⟩, by decide⟩
theorem mv_X0_startTexts : am_MV mX0_startTexts 1 := ⟨am_at 647 (by decide +kernel) rfl, am_at 13 (by decide +kernel) rfl, am_at 96 (by decide +kernel) rfl, am_at 648 (by decide +kernel) rfl, ⟨by decide +kernel, by decide +kernel, by decide +kernel⟩, by decide⟩
theorem mv_X0_take : am_MV mX0_take 1 := ⟨am_at 656 (by decide +kernel) rfl, am_at 14 (by decide +kernel) rfl, am_at 96 (by decide +kernel) rfl, am_at 657 (by decide +kernel) rfl, ⟨by decide +kernel, by decide +kernel, by decide +kernel⟩, by decide⟩
theorem mv_X1_isBefore : am_MV mX1_isBefore 1 := ⟨am_at 660 (by decide +kernel) rfl, am_at 661 (by decide +kernel) rfl, am_at 92 (by decide +kernel) rfl, am_at 662 (by decide +kernel) rfl, ⟨by decide +kernel, by decide +kernel, by decide +kernel⟩, by decide⟩
theorem mv_X0_followText : am_MV mX0_followText 2 := ⟨am_at 666 (by decide +kernel) rfl, am_at 15 (by decide +kernel) rfl, am_at 96 (by decide +kernel) rfl, am_at 667 (by decide +kernel) rfl, ⟨by decide +kernel, by decide +kernel, by decide +kernel⟩, by decide⟩
theorem mv_X0_value : am_MV mX0_value 1 := ⟨am_at 671 (by decide +kernel) rfl, am_at 672 (by decide +kernel) rfl, am_at 96 (by decide +kernel) rfl, am_at 673 (by decide +kernel) rfl, ⟨by decide +kernel, by decide +kernel, by decide +kernel⟩, by decide⟩
theorem mv_X10_clashAt : am_MV mX10_clashAt 1 := ⟨am_at 676 (by decide +kernel) rfl, am_at 677 (by decide +kernel) rfl, am_at 90 (by decide +kernel) rfl, am_at 678 (by decide +kernel) rfl, ⟨by decide +kernel, by decide +kernel, by decide +kernel⟩, by decide⟩
theorem mv_X10_clashing : am_MV mX10_clashing 2 := ⟨am_at 680 (by decide +kernel) rfl, am_at 681 (by decide +kernel) rfl, am_at 90 (by decide +kernel) rfl, am_at 682 (by decide +kernel) rfl, ⟨by decide +kernel, by decide +kernel, by decide +kernel⟩, by decide⟩
theorem mv_X10_ahead : am_MV mX10_ahead 1 := ⟨am_at 684 (by decide +kernel) rfl, am_at 685 (by decide +kernel) rfl, am_at 90 (by decide +kernel) rfl, am_at 686 (by decide +kernel) rfl, ⟨by decide +kernel, by decide +kernel, by decide +kernel⟩, by decide⟩
theorem mv_X10_aheadAt : am_MV mX10_aheadAt 2 := ⟨am_at 688 (by decide +kernel) rfl, am_at 689 (by decide +kernel) rfl, am_at 90 (by decide +kernel) rfl, am_at 690 (by decide +kernel) rfl, ⟨by decide +kernel, by decide +kernel, by decide +kernel⟩, by decide⟩
theorem mv_X10_parting : am_MV mX10_parting 1 := ⟨am_at 692 (by decide +kernel) rfl, am_at 693 (by decide +kernel) rfl, am_at 90 (by decide +kernel) rfl, am_at 694 (by decide +kernel) rfl, ⟨by decide +kernel, by decide +kernel, by decide +kernel⟩, by decide⟩
theorem mv_X10_knowPartings : am_MV mX10_knowPartings 0 := ⟨am_at 697 (by decide +kernel) rfl, am_at 16 (by decide +kernel) rfl, am_at 90 (by decide +kernel) rfl, am_at 698 (by decide +kernel) rfl, ⟨by decide +kernel, by decide +kernel, by decide +kernel⟩, by decide⟩
theorem mv_X3_find : am_MV mX3_find 1 := ⟨am_at 700 (by decide +kernel) rfl, am_at 701 (by decide +kernel) rfl, am_at 98 (by decide +kernel) rfl, am_at 702 (by decide +kernel) rfl, ⟨by decide +kernel, by decide +kernel, by decide +kernel⟩, by decide⟩
theorem ms_J6_bitCount_0f7a4 : am_MS mJ6_bitCount_0f7a4 1 := ⟨am_at 705 (by decide +kernel) rfl, am_at 103 (by decide +kernel) rfl, am_at 706 (by decide +kernel) rfl, ⟨by decide +kernel, by decide +kernel, by decide +kernel⟩, by decide⟩
theorem mv_X5_wouldBeClean : am_MV mX5_wouldBeClean 1 := ⟨am_at 712 (by decide +kernel) rfl, am_at 713 (by decide +kernel) rfl, am_at 97 (by decide +kernel) rfl, am_at 714 (by decide +kernel) rfl, ⟨by decide +kernel, by decide +kernel, by decide +kernel⟩, by decide⟩
theorem mv_X3_value : am_MV mX3_value 1 := ⟨am_at 716 (by decide +kernel) rfl, am_at 717 (by decide +kernel) rfl, am_at 98 (by decide +kernel) rfl, am_at 718 (by decide +kernel) rfl, ⟨by decide +kernel, by decide +kernel, by decide +kernel⟩, by decide⟩
theorem mv_X10_trial : am_MV mX10_trial 3 := ⟨am_at 720 (by decide +kernel) rfl, am_at 721 (by decide +kernel) rfl, am_at 90 (by decide +kernel) rfl, am_at 722 (by decide +kernel) rfl, ⟨by decide +kernel, by decide +kernel, by decide +kernel⟩, by decide⟩
theorem mv_X8_run : am_MV mX8_run 3 := ⟨am_at 724 (by decide +kernel) rfl, am_at 725 (by decide +kernel) rfl, am_at 99 (by decide +kernel) rfl, am_at 726 (by decide +kernel) rfl, ⟨by decide +kernel, by decide +kernel, by decide +kernel⟩, by decide⟩
theorem mv_X8_drawRow : am_MV mX8_drawRow 1 := ⟨am_at 730 (by decide +kernel) rfl, am_at 17 (by decide +kernel) rfl, am_at 99 (by decide +kernel) rfl, am_at 731 (by decide +kernel) rfl, ⟨by decide +kernel, by decide +kernel, by decide +kernel⟩, by decide⟩
theorem mv_X8_draw : am_MV mX8_draw 1 := ⟨am_at 735 (by decide +kernel) rfl, am_at 18 (by decide +kernel) rfl, am_at 99 (by decide +kernel) rfl, am_at 736 (by decide +kernel) rfl, ⟨by decide +kernel, by decide +kernel, by decide +kernel⟩, by decide⟩
theorem mv_X8_tryRow : am_MV mX8_tryRow 1 := ⟨am_at 744 (by decide +kernel) rfl, am_at 19 (by decide +kernel) rfl, am_at 99 (by decide +kernel) rfl, am_at 745 (by decide +kernel) rfl, ⟨by decide +kernel, by decide +kernel, by decide +kernel⟩, by decide⟩
theorem mv_X1_isSame : am_MV mX1_isSame 1 := ⟨am_at 750 (by decide +kernel) rfl, am_at 751 (by decide +kernel) rfl, am_at 92 (by decide +kernel) rfl, am_at 752 (by decide +kernel) rfl, ⟨by decide +kernel, by decide +kernel, by decide +kernel⟩, by decide⟩
theorem mv_X8_value : am_MV mX8_value 1 := ⟨am_at 754 (by decide +kernel) rfl, am_at 755 (by decide +kernel) rfl, am_at 99 (by decide +kernel) rfl, am_at 756 (by decide +kernel) rfl, ⟨by decide +kernel, by decide +kernel, by decide +kernel⟩, by decide⟩
theorem mv_X10_count : am_MV mX10_count 1 := ⟨am_at 758 (by decide +kernel) rfl, am_at 759 (by decide +kernel) rfl, am_at 90 (by decide +kernel) rfl, am_at 760 (by decide +kernel) rfl, ⟨by decide +kernel, by decide +kernel, by decide +kernel⟩, by decide⟩
theorem mv_X6_markedRules : am_MV mX6_markedRules 0 := ⟨am_at 762 (by decide +kernel) rfl, am_at 763 (by decide +kernel) rfl, am_at 91 (by decide +kernel) rfl, am_at 764 (by decide +kernel) rfl, ⟨by decide +kernel, by decide +kernel, by decide +kernel⟩, by decide⟩
theorem mv_X10_digest : am_MV mX10_digest 0 := ⟨am_at 767 (by decide +kernel) rfl, am_at 768 (by decide +kernel) rfl, am_at 90 (by decide +kernel) rfl, am_at 769 (by decide +kernel) rfl, ⟨by decide +kernel, by decide +kernel, by decide +kernel⟩, by decide⟩
theorem mv_X10_hashRules : am_MV mX10_hashRules 1 := ⟨am_at 773 (by decide +kernel) rfl, am_at 20 (by decide +kernel) rfl, am_at 90 (by decide +kernel) rfl, am_at 774 (by decide +kernel) rfl, ⟨by decide +kernel, by decide +kernel, by decide +kernel⟩, by decide⟩
theorem ms_X10_hashNumber : am_MS mX10_hashNumber 2 := ⟨am_at 777 (by decide +kernel) rfl, am_at 90 (by decide +kernel) rfl, am_at 778 (by decide +kernel) rfl, ⟨by decide +kernel, by decide +kernel, by decide +kernel⟩, by decide⟩
theorem ms_X10_hashWord : am_MS mX10_hashWord 2 := ⟨am_at 781 (by decide +kernel) rfl, am_at 90 (by decide +kernel) rfl, am_at 782 (by decide +kernel) rfl, ⟨by decide +kernel, by decide +kernel, by decide +kernel⟩, by decide⟩
theorem ms_X10_hashLine : am_MS mX10_hashLine 2 := ⟨am_at 784 (by decide +kernel) rfl, am_at 90 (by decide +kernel) rfl, am_at 785 (by decide +kernel) rfl, ⟨by decide +kernel, by decide +kernel, by decide +kernel⟩, by decide⟩
theorem mv_X10_hashRows : am_MV mX10_hashRows 1 := ⟨am_at 788 (by decide +kernel) rfl, am_at 21 (by decide +kernel) rfl, am_at 90 (by decide +kernel) rfl, am_at 789 (by decide +kernel) rfl, ⟨by decide +kernel, by decide +kernel, by decide +kernel⟩, by decide⟩
theorem mv_X10_hashClashes : am_MV mX10_hashClashes 1 := ⟨am_at 792 (by decide +kernel) rfl, am_at 22 (by decide +kernel) rfl, am_at 90 (by decide +kernel) rfl, am_at 793 (by decide +kernel) rfl, ⟨by decide +kernel, by decide +kernel, by decide +kernel⟩, by decide⟩
theorem mv_X11_letter : am_MV mX11_letter 1 := ⟨am_at 918 (by decide +kernel) rfl, am_at 919 (by decide +kernel) rfl, am_at 100 (by decide +kernel) rfl, am_at 920 (by decide +kernel) rfl, ⟨by decide +kernel, by decide +kernel, by decide +kernel⟩, by decide⟩
theorem ms_X11_within : am_MS mX11_within 3 := ⟨am_at 922 (by decide +kernel) rfl, am_at 100 (by decide +kernel) rfl, am_at 923 (by decide +kernel) rfl, ⟨by decide +kernel, by decide +kernel, by decide +kernel⟩, by decide⟩
theorem mv_X11_blank : am_MV mX11_blank 0 := ⟨am_at 925 (by decide +kernel) rfl, am_at 926 (by decide +kernel) rfl, am_at 100 (by decide +kernel) rfl, am_at 927 (by decide +kernel) rfl, ⟨by decide +kernel, by decide +kernel, by decide +kernel⟩, by decide⟩
theorem mv_X11_fault : am_MV mX11_fault 0 := ⟨am_at 929 (by decide +kernel) rfl, am_at 930 (by decide +kernel) rfl, am_at 100 (by decide +kernel) rfl, am_at 931 (by decide +kernel) rfl, ⟨by decide +kernel, by decide +kernel, by decide +kernel⟩, by decide⟩
theorem mv_X11_read : am_MV mX11_read 0 := ⟨am_at 934 (by decide +kernel) rfl, am_at 23 (by decide +kernel) rfl, am_at 100 (by decide +kernel) rfl, am_at 935 (by decide +kernel) rfl, ⟨by decide +kernel, by decide +kernel, by decide +kernel⟩, by decide⟩
theorem mv_X11_takes : am_MV mX11_takes 1 := ⟨am_at 938 (by decide +kernel) rfl, am_at 24 (by decide +kernel) rfl, am_at 100 (by decide +kernel) rfl, am_at 939 (by decide +kernel) rfl, ⟨by decide +kernel, by decide +kernel, by decide +kernel⟩, by decide⟩
theorem mv_X11_takesComma : am_MV mX11_takesComma 0 := ⟨am_at 942 (by decide +kernel) rfl, am_at 25 (by decide +kernel) rfl, am_at 100 (by decide +kernel) rfl, am_at 943 (by decide +kernel) rfl, ⟨by decide +kernel, by decide +kernel, by decide +kernel⟩, by decide⟩
theorem ms_X11_isSmall : am_MS mX11_isSmall 1 := ⟨am_at 945 (by decide +kernel) rfl, am_at 100 (by decide +kernel) rfl, am_at 946 (by decide +kernel) rfl, ⟨by decide +kernel, by decide +kernel, by decide +kernel⟩, by decide⟩
theorem mv_X11_takesLeft : am_MV mX11_takesLeft 1 := ⟨am_at 949 (by decide +kernel) rfl, am_at 26 (by decide +kernel) rfl, am_at 100 (by decide +kernel) rfl, am_at 950 (by decide +kernel) rfl, ⟨by decide +kernel, by decide +kernel, by decide +kernel⟩, by decide⟩
theorem ms_X11_isGreat : am_MS mX11_isGreat 1 := ⟨am_at 952 (by decide +kernel) rfl, am_at 100 (by decide +kernel) rfl, am_at 953 (by decide +kernel) rfl, ⟨by decide +kernel, by decide +kernel, by decide +kernel⟩, by decide⟩
theorem mv_X11_takesRight : am_MV mX11_takesRight 1 := ⟨am_at 956 (by decide +kernel) rfl, am_at 27 (by decide +kernel) rfl, am_at 100 (by decide +kernel) rfl, am_at 957 (by decide +kernel) rfl, ⟨by decide +kernel, by decide +kernel, by decide +kernel⟩, by decide⟩
theorem mv_X11_isTwice : am_MV mX11_isTwice 0 := ⟨am_at 960 (by decide +kernel) rfl, am_at 28 (by decide +kernel) rfl, am_at 100 (by decide +kernel) rfl, am_at 961 (by decide +kernel) rfl, ⟨by decide +kernel, by decide +kernel, by decide +kernel⟩, by decide⟩
theorem mv_X11_table : am_MV mX11_table 0 := ⟨am_at 963 (by decide +kernel) rfl, am_at 964 (by decide +kernel) rfl, am_at 100 (by decide +kernel) rfl, am_at 965 (by decide +kernel) rfl, ⟨by decide +kernel, by decide +kernel, by decide +kernel⟩, by decide⟩
theorem mv_X11_turn : am_MV mX11_turn 0 := ⟨am_at 967 (by decide +kernel) rfl, am_at 968 (by decide +kernel) rfl, am_at 100 (by decide +kernel) rfl, am_at 969 (by decide +kernel) rfl, ⟨by decide +kernel, by decide +kernel, by decide +kernel⟩, by decide⟩
theorem mv_X11_isSmallPage : am_MV mX11_isSmallPage 0 := ⟨am_at 972 (by decide +kernel) rfl, am_at 29 (by decide +kernel) rfl, am_at 100 (by decide +kernel) rfl, am_at 973 (by decide +kernel) rfl, ⟨by decide +kernel, by decide +kernel, by decide +kernel⟩, by decide⟩
theorem mv_X11_turnRow : am_MV mX11_turnRow 0 := ⟨am_at 976 (by decide +kernel) rfl, am_at 30 (by decide +kernel) rfl, am_at 100 (by decide +kernel) rfl, am_at 977 (by decide +kernel) rfl, ⟨by decide +kernel, by decide +kernel, by decide +kernel⟩, by decide⟩
theorem mv_X11_longestLeft : am_MV mX11_longestLeft 1 := ⟨am_at 980 (by decide +kernel) rfl, am_at 31 (by decide +kernel) rfl, am_at 100 (by decide +kernel) rfl, am_at 981 (by decide +kernel) rfl, ⟨by decide +kernel, by decide +kernel, by decide +kernel⟩, by decide⟩
theorem mv_X11_signLength : am_MV mX11_signLength 1 := ⟨am_at 984 (by decide +kernel) rfl, am_at 32 (by decide +kernel) rfl, am_at 100 (by decide +kernel) rfl, am_at 985 (by decide +kernel) rfl, ⟨by decide +kernel, by decide +kernel, by decide +kernel⟩, by decide⟩
theorem mv_X11_signAt : am_MV mX11_signAt 2 := ⟨am_at 988 (by decide +kernel) rfl, am_at 33 (by decide +kernel) rfl, am_at 100 (by decide +kernel) rfl, am_at 989 (by decide +kernel) rfl, ⟨by decide +kernel, by decide +kernel, by decide +kernel⟩, by decide⟩
theorem mv_X11_text : am_MV mX11_text 0 := ⟨am_at 991 (by decide +kernel) rfl, am_at 992 (by decide +kernel) rfl, am_at 100 (by decide +kernel) rfl, am_at 993 (by decide +kernel) rfl, ⟨by decide +kernel, by decide +kernel, by decide +kernel⟩, by decide⟩
theorem mv_X11_mark : am_MV mX11_mark 1 := ⟨am_at 995 (by decide +kernel) rfl, am_at 996 (by decide +kernel) rfl, am_at 100 (by decide +kernel) rfl, am_at 997 (by decide +kernel) rfl, ⟨by decide +kernel, by decide +kernel, by decide +kernel⟩, by decide⟩
theorem mv_X11_isRule : am_MV mX11_isRule 1 := ⟨am_at 1000 (by decide +kernel) rfl, am_at 34 (by decide +kernel) rfl, am_at 100 (by decide +kernel) rfl, am_at 1001 (by decide +kernel) rfl, ⟨by decide +kernel, by decide +kernel, by decide +kernel⟩, by decide⟩
theorem mv_X11_drop : am_MV mX11_drop 1 := ⟨am_at 1003 (by decide +kernel) rfl, am_at 1004 (by decide +kernel) rfl, am_at 100 (by decide +kernel) rfl, am_at 1005 (by decide +kernel) rfl, ⟨by decide +kernel, by decide +kernel, by decide +kernel⟩, by decide⟩
theorem mv_X11_rule : am_MV mX11_rule 2 := ⟨am_at 1007 (by decide +kernel) rfl, am_at 1008 (by decide +kernel) rfl, am_at 100 (by decide +kernel) rfl, am_at 1009 (by decide +kernel) rfl, ⟨by decide +kernel, by decide +kernel, by decide +kernel⟩, by decide⟩
theorem mv_X11_ruleNow : am_MV mX11_ruleNow 2 := ⟨am_at 1012 (by decide +kernel) rfl, am_at 35 (by decide +kernel) rfl, am_at 100 (by decide +kernel) rfl, am_at 1013 (by decide +kernel) rfl, ⟨by decide +kernel, by decide +kernel, by decide +kernel⟩, by decide⟩
theorem mv_X11_begunBy : am_MV mX11_begunBy 2 := ⟨am_at 1016 (by decide +kernel) rfl, am_at 36 (by decide +kernel) rfl, am_at 100 (by decide +kernel) rfl, am_at 1017 (by decide +kernel) rfl, ⟨by decide +kernel, by decide +kernel, by decide +kernel⟩, by decide⟩
theorem mv_X11_leftBegins : am_MV mX11_leftBegins 2 := ⟨am_at 1020 (by decide +kernel) rfl, am_at 37 (by decide +kernel) rfl, am_at 100 (by decide +kernel) rfl, am_at 1021 (by decide +kernel) rfl, ⟨by decide +kernel, by decide +kernel, by decide +kernel⟩, by decide⟩
theorem mv_X11_begins : am_MV mX11_begins 2 := ⟨am_at 1024 (by decide +kernel) rfl, am_at 38 (by decide +kernel) rfl, am_at 100 (by decide +kernel) rfl, am_at 1025 (by decide +kernel) rfl, ⟨by decide +kernel, by decide +kernel, by decide +kernel⟩, by decide⟩
theorem mv_X11_sign : am_MV mX11_sign 3 := ⟨am_at 1027 (by decide +kernel) rfl, am_at 1028 (by decide +kernel) rfl, am_at 100 (by decide +kernel) rfl, am_at 1029 (by decide +kernel) rfl, ⟨by decide +kernel, by decide +kernel, by decide +kernel⟩, by decide⟩
theorem mv_X11_ink : am_MV mX11_ink 1 := ⟨am_at 1031 (by decide +kernel) rfl, am_at 1032 (by decide +kernel) rfl, am_at 100 (by decide +kernel) rfl, am_at 1033 (by decide +kernel) rfl, ⟨by decide +kernel, by decide +kernel, by decide +kernel⟩, by decide⟩
theorem mv_X11_back : am_MV mX11_back 1 := ⟨am_at 1035 (by decide +kernel) rfl, am_at 1036 (by decide +kernel) rfl, am_at 100 (by decide +kernel) rfl, am_at 1037 (by decide +kernel) rfl, ⟨by decide +kernel, by decide +kernel, by decide +kernel⟩, by decide⟩
theorem mv_X11_backNow : am_MV mX11_backNow 1 := ⟨am_at 1040 (by decide +kernel) rfl, am_at 39 (by decide +kernel) rfl, am_at 100 (by decide +kernel) rfl, am_at 1041 (by decide +kernel) rfl, ⟨by decide +kernel, by decide +kernel, by decide +kernel⟩, by decide⟩
theorem mv_X11_workText : am_MV mX11_workText 0 := ⟨am_at 1044 (by decide +kernel) rfl, am_at 40 (by decide +kernel) rfl, am_at 100 (by decide +kernel) rfl, am_at 1045 (by decide +kernel) rfl, ⟨by decide +kernel, by decide +kernel, by decide +kernel⟩, by decide⟩
theorem mv_X11_layBack : am_MV mX11_layBack 0 := ⟨am_at 1048 (by decide +kernel) rfl, am_at 41 (by decide +kernel) rfl, am_at 100 (by decide +kernel) rfl, am_at 1049 (by decide +kernel) rfl, ⟨by decide +kernel, by decide +kernel, by decide +kernel⟩, by decide⟩
theorem mv_X11_longestSign : am_MV mX11_longestSign 1 := ⟨am_at 1052 (by decide +kernel) rfl, am_at 42 (by decide +kernel) rfl, am_at 100 (by decide +kernel) rfl, am_at 1053 (by decide +kernel) rfl, ⟨by decide +kernel, by decide +kernel, by decide +kernel⟩, by decide⟩
theorem mv_X11_lies : am_MV mX11_lies 2 := ⟨am_at 1056 (by decide +kernel) rfl, am_at 43 (by decide +kernel) rfl, am_at 100 (by decide +kernel) rfl, am_at 1057 (by decide +kernel) rfl, ⟨by decide +kernel, by decide +kernel, by decide +kernel⟩, by decide⟩
theorem mv_X11_backAt : am_MV mX11_backAt 1 := ⟨am_at 1059 (by decide +kernel) rfl, am_at 1060 (by decide +kernel) rfl, am_at 100 (by decide +kernel) rfl, am_at 1061 (by decide +kernel) rfl, ⟨by decide +kernel, by decide +kernel, by decide +kernel⟩, by decide⟩
theorem mv_X11_backAtNow : am_MV mX11_backAtNow 1 := ⟨am_at 1064 (by decide +kernel) rfl, am_at 44 (by decide +kernel) rfl, am_at 100 (by decide +kernel) rfl, am_at 1065 (by decide +kernel) rfl, ⟨by decide +kernel, by decide +kernel, by decide +kernel⟩, by decide⟩
theorem mv_X11_ways : am_MV mX11_ways 0 := ⟨am_at 1067 (by decide +kernel) rfl, am_at 1068 (by decide +kernel) rfl, am_at 100 (by decide +kernel) rfl, am_at 1069 (by decide +kernel) rfl, ⟨by decide +kernel, by decide +kernel, by decide +kernel⟩, by decide⟩
theorem mv_X11_waysNow : am_MV mX11_waysNow 0 := ⟨am_at 1072 (by decide +kernel) rfl, am_at 45 (by decide +kernel) rfl, am_at 100 (by decide +kernel) rfl, am_at 1073 (by decide +kernel) rfl, ⟨by decide +kernel, by decide +kernel, by decide +kernel⟩, by decide⟩
theorem mv_X11_layWays : am_MV mX11_layWays 0 := ⟨am_at 1076 (by decide +kernel) rfl, am_at 46 (by decide +kernel) rfl, am_at 100 (by decide +kernel) rfl, am_at 1077 (by decide +kernel) rfl, ⟨by decide +kernel, by decide +kernel, by decide +kernel⟩, by decide⟩
theorem mv_X11_first : am_MV mX11_first 1 := ⟨am_at 1080 (by decide +kernel) rfl, am_at 1081 (by decide +kernel) rfl, am_at 100 (by decide +kernel) rfl, am_at 1082 (by decide +kernel) rfl, ⟨by decide +kernel, by decide +kernel, by decide +kernel⟩, by decide⟩
theorem mv_X11_firstNow : am_MV mX11_firstNow 1 := ⟨am_at 1085 (by decide +kernel) rfl, am_at 47 (by decide +kernel) rfl, am_at 100 (by decide +kernel) rfl, am_at 1086 (by decide +kernel) rfl, ⟨by decide +kernel, by decide +kernel, by decide +kernel⟩, by decide⟩
theorem mv_X11_ruleIn : am_MV mX11_ruleIn 2 := ⟨am_at 1089 (by decide +kernel) rfl, am_at 48 (by decide +kernel) rfl, am_at 100 (by decide +kernel) rfl, am_at 1090 (by decide +kernel) rfl, ⟨by decide +kernel, by decide +kernel, by decide +kernel⟩, by decide⟩
theorem mv_X11_ahead : am_MV mX11_ahead 1 := ⟨am_at 1092 (by decide +kernel) rfl, am_at 1093 (by decide +kernel) rfl, am_at 100 (by decide +kernel) rfl, am_at 1094 (by decide +kernel) rfl, ⟨by decide +kernel, by decide +kernel, by decide +kernel⟩, by decide⟩
theorem mv_X11_layAheads : am_MV mX11_layAheads 0 := ⟨am_at 1097 (by decide +kernel) rfl, am_at 49 (by decide +kernel) rfl, am_at 100 (by decide +kernel) rfl, am_at 1098 (by decide +kernel) rfl, ⟨by decide +kernel, by decide +kernel, by decide +kernel⟩, by decide⟩
theorem mv_X11_comesAhead : am_MV mX11_comesAhead 1 := ⟨am_at 1101 (by decide +kernel) rfl, am_at 50 (by decide +kernel) rfl, am_at 100 (by decide +kernel) rfl, am_at 1102 (by decide +kernel) rfl, ⟨by decide +kernel, by decide +kernel, by decide +kernel⟩, by decide⟩
theorem mv_X11_leastOf : am_MV mX11_leastOf 1 := ⟨am_at 1105 (by decide +kernel) rfl, am_at 51 (by decide +kernel) rfl, am_at 100 (by decide +kernel) rfl, am_at 1106 (by decide +kernel) rfl, ⟨by decide +kernel, by decide +kernel, by decide +kernel⟩, by decide⟩
theorem mv_X11_isPart : am_MV mX11_isPart 1 := ⟨am_at 1109 (by decide +kernel) rfl, am_at 52 (by decide +kernel) rfl, am_at 100 (by decide +kernel) rfl, am_at 1110 (by decide +kernel) rfl, ⟨by decide +kernel, by decide +kernel, by decide +kernel⟩, by decide⟩
theorem mv_X11_areAlike : am_MV mX11_areAlike 2 := ⟨am_at 1113 (by decide +kernel) rfl, am_at 53 (by decide +kernel) rfl, am_at 100 (by decide +kernel) rfl, am_at 1114 (by decide +kernel) rfl, ⟨by decide +kernel, by decide +kernel, by decide +kernel⟩, by decide⟩
theorem mv_X11_lengthOf : am_MV mX11_lengthOf 1 := ⟨am_at 1117 (by decide +kernel) rfl, am_at 54 (by decide +kernel) rfl, am_at 100 (by decide +kernel) rfl, am_at 1118 (by decide +kernel) rfl, ⟨by decide +kernel, by decide +kernel, by decide +kernel⟩, by decide⟩
theorem mv_X11_letterOf : am_MV mX11_letterOf 2 := ⟨am_at 1121 (by decide +kernel) rfl, am_at 55 (by decide +kernel) rfl, am_at 100 (by decide +kernel) rfl, am_at 1122 (by decide +kernel) rfl, ⟨by decide +kernel, by decide +kernel, by decide +kernel⟩, by decide⟩
theorem mv_X11_goOnFrom : am_MV mX11_goOnFrom 1 := ⟨am_at 1125 (by decide +kernel) rfl, am_at 56 (by decide +kernel) rfl, am_at 100 (by decide +kernel) rfl, am_at 1126 (by decide +kernel) rfl, ⟨by decide +kernel, by decide +kernel, by decide +kernel⟩, by decide⟩
theorem mv_X11_partBegins : am_MV mX11_partBegins 2 := ⟨am_at 1129 (by decide +kernel) rfl, am_at 57 (by decide +kernel) rfl, am_at 100 (by decide +kernel) rfl, am_at 1130 (by decide +kernel) rfl, ⟨by decide +kernel, by decide +kernel, by decide +kernel⟩, by decide⟩
theorem mv_X11_signBegins : am_MV mX11_signBegins 2 := ⟨am_at 1133 (by decide +kernel) rfl, am_at 58 (by decide +kernel) rfl, am_at 100 (by decide +kernel) rfl, am_at 1134 (by decide +kernel) rfl, ⟨by decide +kernel, by decide +kernel, by decide +kernel⟩, by decide⟩
theorem mv_X11_aheadOf : am_MV mX11_aheadOf 1 := ⟨am_at 1137 (by decide +kernel) rfl, am_at 59 (by decide +kernel) rfl, am_at 100 (by decide +kernel) rfl, am_at 1138 (by decide +kernel) rfl, ⟨by decide +kernel, by decide +kernel, by decide +kernel⟩, by decide⟩
theorem mv_X11_isBefore : am_MV mX11_isBefore 2 := ⟨am_at 1141 (by decide +kernel) rfl, am_at 60 (by decide +kernel) rfl, am_at 100 (by decide +kernel) rfl, am_at 1142 (by decide +kernel) rfl, ⟨by decide +kernel, by decide +kernel, by decide +kernel⟩, by decide⟩
theorem mv_X11_aheadAt : am_MV mX11_aheadAt 2 := ⟨am_at 1144 (by decide +kernel) rfl, am_at 1145 (by decide +kernel) rfl, am_at 100 (by decide +kernel) rfl, am_at 1146 (by decide +kernel) rfl, ⟨by decide +kernel, by decide +kernel, by decide +kernel⟩, by decide⟩
theorem mv_X11_clash : am_MV mX11_clash 1 := ⟨am_at 1148 (by decide +kernel) rfl, am_at 1149 (by decide +kernel) rfl, am_at 100 (by decide +kernel) rfl, am_at 1150 (by decide +kernel) rfl, ⟨by decide +kernel, by decide +kernel, by decide +kernel⟩, by decide⟩
theorem mv_X11_clashNow : am_MV mX11_clashNow 1 := ⟨am_at 1153 (by decide +kernel) rfl, am_at 61 (by decide +kernel) rfl, am_at 100 (by decide +kernel) rfl, am_at 1154 (by decide +kernel) rfl, ⟨by decide +kernel, by decide +kernel, by decide +kernel⟩, by decide⟩
theorem mv_X11_isClean : am_MV mX11_isClean 0 := ⟨am_at 1157 (by decide +kernel) rfl, am_at 62 (by decide +kernel) rfl, am_at 100 (by decide +kernel) rfl, am_at 1158 (by decide +kernel) rfl, ⟨by decide +kernel, by decide +kernel, by decide +kernel⟩, by decide⟩
theorem mv_X11_aheadsMany : am_MV mX11_aheadsMany 0 := ⟨am_at 1161 (by decide +kernel) rfl, am_at 63 (by decide +kernel) rfl, am_at 100 (by decide +kernel) rfl, am_at 1162 (by decide +kernel) rfl, ⟨by decide +kernel, by decide +kernel, by decide +kernel⟩, by decide⟩
theorem mv_X11_clashTold : am_MV mX11_clashTold 1 := ⟨am_at 1165 (by decide +kernel) rfl, am_at 64 (by decide +kernel) rfl, am_at 100 (by decide +kernel) rfl, am_at 1166 (by decide +kernel) rfl, ⟨by decide +kernel, by decide +kernel, by decide +kernel⟩, by decide⟩
theorem mv_X11_layClash : am_MV mX11_layClash 0 := ⟨am_at 1169 (by decide +kernel) rfl, am_at 65 (by decide +kernel) rfl, am_at 100 (by decide +kernel) rfl, am_at 1170 (by decide +kernel) rfl, ⟨by decide +kernel, by decide +kernel, by decide +kernel⟩, by decide⟩
theorem mv_X11_layBehind : am_MV mX11_layBehind 0 := ⟨am_at 1173 (by decide +kernel) rfl, am_at 66 (by decide +kernel) rfl, am_at 100 (by decide +kernel) rfl, am_at 1174 (by decide +kernel) rfl, ⟨by decide +kernel, by decide +kernel, by decide +kernel⟩, by decide⟩
theorem mv_X11_goesOn : am_MV mX11_goesOn 1 := ⟨am_at 1177 (by decide +kernel) rfl, am_at 67 (by decide +kernel) rfl, am_at 100 (by decide +kernel) rfl, am_at 1178 (by decide +kernel) rfl, ⟨by decide +kernel, by decide +kernel, by decide +kernel⟩, by decide⟩
theorem mv_X11_goesOnBy : am_MV mX11_goesOnBy 2 := ⟨am_at 1181 (by decide +kernel) rfl, am_at 68 (by decide +kernel) rfl, am_at 100 (by decide +kernel) rfl, am_at 1182 (by decide +kernel) rfl, ⟨by decide +kernel, by decide +kernel, by decide +kernel⟩, by decide⟩
theorem mv_X11_tryBehind : am_MV mX11_tryBehind 1 := ⟨am_at 1185 (by decide +kernel) rfl, am_at 69 (by decide +kernel) rfl, am_at 100 (by decide +kernel) rfl, am_at 1186 (by decide +kernel) rfl, ⟨by decide +kernel, by decide +kernel, by decide +kernel⟩, by decide⟩
theorem mv_X11_tryLetter : am_MV mX11_tryLetter 1 := ⟨am_at 1189 (by decide +kernel) rfl, am_at 70 (by decide +kernel) rfl, am_at 100 (by decide +kernel) rfl, am_at 1190 (by decide +kernel) rfl, ⟨by decide +kernel, by decide +kernel, by decide +kernel⟩, by decide⟩
theorem mv_X11_takesTried : am_MV mX11_takesTried 1 := ⟨am_at 1193 (by decide +kernel) rfl, am_at 71 (by decide +kernel) rfl, am_at 100 (by decide +kernel) rfl, am_at 1194 (by decide +kernel) rfl, ⟨by decide +kernel, by decide +kernel, by decide +kernel⟩, by decide⟩
theorem mv_X11_isTriedLess : am_MV mX11_isTriedLess 1 := ⟨am_at 1197 (by decide +kernel) rfl, am_at 72 (by decide +kernel) rfl, am_at 100 (by decide +kernel) rfl, am_at 1198 (by decide +kernel) rfl, ⟨by decide +kernel, by decide +kernel, by decide +kernel⟩, by decide⟩
theorem mv_X11_clashOf : am_MV mX11_clashOf 2 := ⟨am_at 1201 (by decide +kernel) rfl, am_at 73 (by decide +kernel) rfl, am_at 100 (by decide +kernel) rfl, am_at 1202 (by decide +kernel) rfl, ⟨by decide +kernel, by decide +kernel, by decide +kernel⟩, by decide⟩
theorem mv_X11_isClashLess : am_MV mX11_isClashLess 0 := ⟨am_at 1205 (by decide +kernel) rfl, am_at 74 (by decide +kernel) rfl, am_at 100 (by decide +kernel) rfl, am_at 1206 (by decide +kernel) rfl, ⟨by decide +kernel, by decide +kernel, by decide +kernel⟩, by decide⟩
theorem mv_X11_rowMany : am_MV mX11_rowMany 1 := ⟨am_at 1209 (by decide +kernel) rfl, am_at 75 (by decide +kernel) rfl, am_at 100 (by decide +kernel) rfl, am_at 1210 (by decide +kernel) rfl, ⟨by decide +kernel, by decide +kernel, by decide +kernel⟩, by decide⟩
theorem mv_X11_clashAt : am_MV mX11_clashAt 1 := ⟨am_at 1212 (by decide +kernel) rfl, am_at 1213 (by decide +kernel) rfl, am_at 100 (by decide +kernel) rfl, am_at 1214 (by decide +kernel) rfl, ⟨by decide +kernel, by decide +kernel, by decide +kernel⟩, by decide⟩
theorem mv_X11_clashing : am_MV mX11_clashing 2 := ⟨am_at 1216 (by decide +kernel) rfl, am_at 1217 (by decide +kernel) rfl, am_at 100 (by decide +kernel) rfl, am_at 1218 (by decide +kernel) rfl, ⟨by decide +kernel, by decide +kernel, by decide +kernel⟩, by decide⟩
theorem mv_X11_clashingNow : am_MV mX11_clashingNow 2 := ⟨am_at 1221 (by decide +kernel) rfl, am_at 76 (by decide +kernel) rfl, am_at 100 (by decide +kernel) rfl, am_at 1222 (by decide +kernel) rfl, ⟨by decide +kernel, by decide +kernel, by decide +kernel⟩, by decide⟩
theorem mv_X11_parting : am_MV mX11_parting 1 := ⟨am_at 1224 (by decide +kernel) rfl, am_at 1225 (by decide +kernel) rfl, am_at 100 (by decide +kernel) rfl, am_at 1226 (by decide +kernel) rfl, ⟨by decide +kernel, by decide +kernel, by decide +kernel⟩, by decide⟩
theorem mv_X11_partingNow : am_MV mX11_partingNow 1 := ⟨am_at 1229 (by decide +kernel) rfl, am_at 77 (by decide +kernel) rfl, am_at 100 (by decide +kernel) rfl, am_at 1230 (by decide +kernel) rfl, ⟨by decide +kernel, by decide +kernel, by decide +kernel⟩, by decide⟩
theorem mv_X11_partingSet : am_MV mX11_partingSet 0 := ⟨am_at 1233 (by decide +kernel) rfl, am_at 78 (by decide +kernel) rfl, am_at 100 (by decide +kernel) rfl, am_at 1234 (by decide +kernel) rfl, ⟨by decide +kernel, by decide +kernel, by decide +kernel⟩, by decide⟩
theorem ms_X11_bits : am_MS mX11_bits 1 := ⟨am_at 1236 (by decide +kernel) rfl, am_at 100 (by decide +kernel) rfl, am_at 1237 (by decide +kernel) rfl, ⟨by decide +kernel, by decide +kernel, by decide +kernel⟩, by decide⟩
theorem mv_X11_trial : am_MV mX11_trial 3 := ⟨am_at 1239 (by decide +kernel) rfl, am_at 1240 (by decide +kernel) rfl, am_at 100 (by decide +kernel) rfl, am_at 1241 (by decide +kernel) rfl, ⟨by decide +kernel, by decide +kernel, by decide +kernel⟩, by decide⟩
theorem mv_X11_trialNow : am_MV mX11_trialNow 3 := ⟨am_at 1244 (by decide +kernel) rfl, am_at 79 (by decide +kernel) rfl, am_at 100 (by decide +kernel) rfl, am_at 1245 (by decide +kernel) rfl, ⟨by decide +kernel, by decide +kernel, by decide +kernel⟩, by decide⟩
theorem mv_X11_drawRow : am_MV mX11_drawRow 0 := ⟨am_at 1248 (by decide +kernel) rfl, am_at 80 (by decide +kernel) rfl, am_at 100 (by decide +kernel) rfl, am_at 1249 (by decide +kernel) rfl, ⟨by decide +kernel, by decide +kernel, by decide +kernel⟩, by decide⟩
theorem mv_X11_draw : am_MV mX11_draw 1 := ⟨am_at 1252 (by decide +kernel) rfl, am_at 81 (by decide +kernel) rfl, am_at 100 (by decide +kernel) rfl, am_at 1253 (by decide +kernel) rfl, ⟨by decide +kernel, by decide +kernel, by decide +kernel⟩, by decide⟩
theorem mv_X11_isSameRow : am_MV mX11_isSameRow 0 := ⟨am_at 1260 (by decide +kernel) rfl, am_at 82 (by decide +kernel) rfl, am_at 100 (by decide +kernel) rfl, am_at 1261 (by decide +kernel) rfl, ⟨by decide +kernel, by decide +kernel, by decide +kernel⟩, by decide⟩
theorem mv_X11_count : am_MV mX11_count 1 := ⟨am_at 1263 (by decide +kernel) rfl, am_at 1264 (by decide +kernel) rfl, am_at 100 (by decide +kernel) rfl, am_at 1265 (by decide +kernel) rfl, ⟨by decide +kernel, by decide +kernel, by decide +kernel⟩, by decide⟩
theorem mv_X11_howMany : am_MV mX11_howMany 1 := ⟨am_at 1268 (by decide +kernel) rfl, am_at 83 (by decide +kernel) rfl, am_at 100 (by decide +kernel) rfl, am_at 1269 (by decide +kernel) rfl, ⟨by decide +kernel, by decide +kernel, by decide +kernel⟩, by decide⟩
theorem mv_X11_digest : am_MV mX11_digest 0 := ⟨am_at 1271 (by decide +kernel) rfl, am_at 1272 (by decide +kernel) rfl, am_at 100 (by decide +kernel) rfl, am_at 1273 (by decide +kernel) rfl, ⟨by decide +kernel, by decide +kernel, by decide +kernel⟩, by decide⟩
theorem mv_X11_mixRules : am_MV mX11_mixRules 0 := ⟨am_at 1277 (by decide +kernel) rfl, am_at 84 (by decide +kernel) rfl, am_at 100 (by decide +kernel) rfl, am_at 1278 (by decide +kernel) rfl, ⟨by decide +kernel, by decide +kernel, by decide +kernel⟩, by decide⟩
theorem mv_X11_mix : am_MV mX11_mix 1 := ⟨am_at 1281 (by decide +kernel) rfl, am_at 85 (by decide +kernel) rfl, am_at 100 (by decide +kernel) rfl, am_at 1282 (by decide +kernel) rfl, ⟨by decide +kernel, by decide +kernel, by decide +kernel⟩, by decide⟩
theorem mv_X11_mixText : am_MV mX11_mixText 0 := ⟨am_at 1286 (by decide +kernel) rfl, am_at 86 (by decide +kernel) rfl, am_at 100 (by decide +kernel) rfl, am_at 1287 (by decide +kernel) rfl, ⟨by decide +kernel, by decide +kernel, by decide +kernel⟩, by decide⟩
theorem mv_X11_mixClash : am_MV mX11_mixClash 0 := ⟨am_at 1290 (by decide +kernel) rfl, am_at 87 (by decide +kernel) rfl, am_at 100 (by decide +kernel) rfl, am_at 1291 (by decide +kernel) rfl, ⟨by decide +kernel, by decide +kernel, by decide +kernel⟩, by decide⟩
theorem mv_X11_mixAheads : am_MV mX11_mixAheads 0 := ⟨am_at 1294 (by decide +kernel) rfl, am_at 88 (by decide +kernel) rfl, am_at 100 (by decide +kernel) rfl, am_at 1295 (by decide +kernel) rfl, ⟨by decide +kernel, by decide +kernel, by decide +kernel⟩, by decide⟩
theorem ml_X1_9 : Cond.methodLink RX1 9 yJ9_max_7cf53 ∈ am_tbl := am_at 124 (by decide +kernel) rfl
theorem ml_L_13 : Cond.methodLink RL 13 yX10_letter ∈ am_tbl := am_at 343 (by decide +kernel) rfl
theorem ml_X10_83 : Cond.methodLink RX10 83 yX1_size ∈ am_tbl := am_at 347 (by decide +kernel) rfl
theorem ml_X10_87 : Cond.methodLink RX10 87 yX1_add ∈ am_tbl := am_at 351 (by decide +kernel) rfl
theorem ml_L_18 : Cond.methodLink RL 18 yX10_blank ∈ am_tbl := am_at 355 (by decide +kernel) rfl
theorem ml_X10_90 : Cond.methodLink RX10 90 yX1_clear ∈ am_tbl := am_at 359 (by decide +kernel) rfl
theorem ml_L_23 : Cond.methodLink RL 23 yX10_fault ∈ am_tbl := am_at 363 (by decide +kernel) rfl
theorem ml_X10_93 : Cond.methodLink RX10 93 yX4_read ∈ am_tbl := am_at 367 (by decide +kernel) rfl
theorem ml_X4_32 : Cond.methodLink RX4 32 yX1_clear ∈ am_tbl := am_at 371 (by decide +kernel) rfl
theorem ml_X4_35 : Cond.methodLink RX4 35 yX1_size ∈ am_tbl := am_at 372 (by decide +kernel) rfl
theorem ml_X4_39 : Cond.methodLink RX4 39 yX1_at ∈ am_tbl := am_at 373 (by decide +kernel) rfl
theorem ml_X4_43 : Cond.methodLink RX4 43 yX4_takes ∈ am_tbl := am_at 377 (by decide +kernel) rfl
theorem ml_X4_57 : Cond.methodLink RX4 57 yX4_takesSmall ∈ am_tbl := am_at 384 (by decide +kernel) rfl
theorem ml_X4_70 : Cond.methodLink RX4 70 yX9_size ∈ am_tbl := am_at 388 (by decide +kernel) rfl
theorem ml_X4_72 : Cond.methodLink RX4 72 yX9_append ∈ am_tbl := am_at 393 (by decide +kernel) rfl
theorem ml_X4_63 : Cond.methodLink RX4 63 yX4_takesCapital ∈ am_tbl := am_at 399 (by decide +kernel) rfl
theorem ml_X4_76 : Cond.methodLink RX4 76 yX1_placeOf ∈ am_tbl := am_at 403 (by decide +kernel) rfl
theorem ml_X4_66 : Cond.methodLink RX4 66 yX4_takesComma ∈ am_tbl := am_at 407 (by decide +kernel) rfl
theorem ml_X4_51 : Cond.methodLink RX4 51 yX4_endRule ∈ am_tbl := am_at 411 (by decide +kernel) rfl
theorem ml_X4_79 : Cond.methodLink RX4 79 yX1_add ∈ am_tbl := am_at 415 (by decide +kernel) rfl
theorem ml_L_27 : Cond.methodLink RL 27 yX10_table ∈ am_tbl := am_at 416 (by decide +kernel) rfl
theorem ml_X10_97 : Cond.methodLink RX10 97 yX4_readWhole ∈ am_tbl := am_at 420 (by decide +kernel) rfl
theorem ml_X4_47 : Cond.methodLink RX4 47 yX4_read ∈ am_tbl := am_at 424 (by decide +kernel) rfl
theorem ml_X10_107 : Cond.methodLink RX10 107 yX6_replace ∈ am_tbl := am_at 425 (by decide +kernel) rfl
theorem ml_X6_44 : Cond.methodLink RX6 44 yX1_copy ∈ am_tbl := am_at 429 (by decide +kernel) rfl
theorem ml_X6_48 : Cond.methodLink RX6 48 yX6_makeSigns ∈ am_tbl := am_at 433 (by decide +kernel) rfl
theorem ml_X6_55 : Cond.methodLink RX6 55 yX1_clear ∈ am_tbl := am_at 437 (by decide +kernel) rfl
theorem ml_X6_30 : Cond.methodLink RX6 30 yX1_size ∈ am_tbl := am_at 438 (by decide +kernel) rfl
theorem ml_X6_58 : Cond.methodLink RX6 58 yX1_at ∈ am_tbl := am_at 439 (by decide +kernel) rfl
theorem ml_X6_61 : Cond.methodLink RX6 61 yX9_append ∈ am_tbl := am_at 440 (by decide +kernel) rfl
theorem ml_X6_67 : Cond.methodLink RX6 67 yX1_add ∈ am_tbl := am_at 441 (by decide +kernel) rfl
theorem ml_X10_111 : Cond.methodLink RX10 111 yX10_forgetTable ∈ am_tbl := am_at 442 (by decide +kernel) rfl
theorem ml_X10_114 : Cond.methodLink RX10 114 yX6_size ∈ am_tbl := am_at 446 (by decide +kernel) rfl
theorem ml_L_31 : Cond.methodLink RL 31 yX10_turn ∈ am_tbl := am_at 450 (by decide +kernel) rfl
theorem ml_X10_115 : Cond.methodLink RX10 115 yX10_onlySmall ∈ am_tbl := am_at 454 (by decide +kernel) rfl
theorem ml_X10_148 : Cond.methodLink RX10 148 yX1_at ∈ am_tbl := am_at 457 (by decide +kernel) rfl
theorem ml_X10_254 : Cond.methodLink RX10 254 yX10_isSmall ∈ am_tbl := am_at 458 (by decide +kernel) rfl
theorem ml_X10_119 : Cond.methodLink RX10 119 yX2_decode ∈ am_tbl := am_at 459 (by decide +kernel) rfl
theorem ml_X2_33 : Cond.methodLink RX2 33 yX1_clear ∈ am_tbl := am_at 462 (by decide +kernel) rfl
theorem ml_X2_24 : Cond.methodLink RX2 24 yX1_size ∈ am_tbl := am_at 463 (by decide +kernel) rfl
theorem ml_X2_36 : Cond.methodLink RX2 36 yX2_longest ∈ am_tbl := am_at 464 (by decide +kernel) rfl
theorem ml_X2_15 : Cond.methodLink RX2 15 yX1_at ∈ am_tbl := am_at 467 (by decide +kernel) rfl
theorem ml_X2_27 : Cond.methodLink RX2 27 yX2_endOf ∈ am_tbl := am_at 468 (by decide +kernel) rfl
theorem ml_X2_9 : Cond.methodLink RX2 9 yX9_size ∈ am_tbl := am_at 471 (by decide +kernel) rfl
theorem ml_X2_20 : Cond.methodLink RX2 20 yX9_fromEnd ∈ am_tbl := am_at 472 (by decide +kernel) rfl
theorem ml_X2_40 : Cond.methodLink RX2 40 yX1_add ∈ am_tbl := am_at 475 (by decide +kernel) rfl
theorem ml_X10_125 : Cond.methodLink RX10 125 yX6_spell ∈ am_tbl := am_at 476 (by decide +kernel) rfl
theorem ml_X6_70 : Cond.methodLink RX6 70 yX1_addWord ∈ am_tbl := am_at 480 (by decide +kernel) rfl
theorem ml_X1_25 : Cond.methodLink RX1 25 yX9_size ∈ am_tbl := am_at 484 (by decide +kernel) rfl
theorem ml_X1_30 : Cond.methodLink RX1 30 yX9_fromEnd ∈ am_tbl := am_at 485 (by decide +kernel) rfl
theorem ml_X1_33 : Cond.methodLink RX1 33 yX1_add ∈ am_tbl := am_at 486 (by decide +kernel) rfl
theorem ml_L_35 : Cond.methodLink RL 35 yX10_text ∈ am_tbl := am_at 487 (by decide +kernel) rfl
theorem ml_X10_128 : Cond.methodLink RX10 128 yX10_onlyInk ∈ am_tbl := am_at 491 (by decide +kernel) rfl
theorem ml_X10_257 : Cond.methodLink RX10 257 yX10_isCapital ∈ am_tbl := am_at 494 (by decide +kernel) rfl
theorem ml_X10_131 : Cond.methodLink RX10 131 yX1_copy ∈ am_tbl := am_at 495 (by decide +kernel) rfl
theorem ml_L_39 : Cond.methodLink RL 39 yX10_mark ∈ am_tbl := am_at 496 (by decide +kernel) rfl
theorem ml_X10_135 : Cond.methodLink RX10 135 yX6_has ∈ am_tbl := am_at 500 (by decide +kernel) rfl
theorem ml_X10_139 : Cond.methodLink RX10 139 yX6_turnMark ∈ am_tbl := am_at 504 (by decide +kernel) rfl
theorem ml_X6_34 : Cond.methodLink RX6 34 yX6_has ∈ am_tbl := am_at 508 (by decide +kernel) rfl
theorem ml_X10_142 : Cond.methodLink RX10 142 yX6_isMarked ∈ am_tbl := am_at 509 (by decide +kernel) rfl
theorem ml_L_43 : Cond.methodLink RL 43 yX10_drop ∈ am_tbl := am_at 513 (by decide +kernel) rfl
theorem ml_X10_145 : Cond.methodLink RX10 145 yX6_remove ∈ am_tbl := am_at 517 (by decide +kernel) rfl
theorem ml_X6_52 : Cond.methodLink RX6 52 yX1_remove ∈ am_tbl := am_at 521 (by decide +kernel) rfl
theorem ml_L_47 : Cond.methodLink RL 47 yX10_rule ∈ am_tbl := am_at 525 (by decide +kernel) rfl
theorem ml_X10_152 : Cond.methodLink RX10 152 yX9_size ∈ am_tbl := am_at 529 (by decide +kernel) rfl
theorem ml_X10_160 : Cond.methodLink RX10 160 yX6_othersBeginning ∈ am_tbl := am_at 530 (by decide +kernel) rfl
theorem ml_X6_73 : Cond.methodLink RX6 73 yX9_begins ∈ am_tbl := am_at 533 (by decide +kernel) rfl
theorem ml_X9_13 : Cond.methodLink RX9 13 yX9_size ∈ am_tbl := am_at 536 (by decide +kernel) rfl
theorem ml_L_52 : Cond.methodLink RL 52 yX10_sign ∈ am_tbl := am_at 537 (by decide +kernel) rfl
theorem ml_X10_164 : Cond.methodLink RX10 164 yX9_character ∈ am_tbl := am_at 541 (by decide +kernel) rfl
theorem ml_X9_17 : Cond.methodLink RX9 17 yX9_fromEnd ∈ am_tbl := am_at 544 (by decide +kernel) rfl
theorem ml_L_57 : Cond.methodLink RL 57 yX10_ink ∈ am_tbl := am_at 545 (by decide +kernel) rfl
theorem ml_L_61 : Cond.methodLink RL 61 yX10_back ∈ am_tbl := am_at 549 (by decide +kernel) rfl
theorem ml_X10_168 : Cond.methodLink RX10 168 yX10_stuckPlace ∈ am_tbl := am_at 553 (by decide +kernel) rfl
theorem ml_L_65 : Cond.methodLink RL 65 yX10_backAt ∈ am_tbl := am_at 557 (by decide +kernel) rfl
theorem ml_L_69 : Cond.methodLink RL 69 yX10_ways ∈ am_tbl := am_at 561 (by decide +kernel) rfl
theorem ml_X10_171 : Cond.methodLink RX10 171 yX7_weigh ∈ am_tbl := am_at 565 (by decide +kernel) rfl
theorem ml_X7_22 : Cond.methodLink RX7 22 yX1_size ∈ am_tbl := am_at 569 (by decide +kernel) rfl
theorem ml_X7_28 : Cond.methodLink RX7 28 yJ9_min_7cf53 ∈ am_tbl := am_at 570 (by decide +kernel) rfl
theorem ml_X7_34 : Cond.methodLink RX7 34 yX7_weighPlace ∈ am_tbl := am_at 573 (by decide +kernel) rfl
theorem ml_X7_38 : Cond.methodLink RX7 38 yX1_at ∈ am_tbl := am_at 577 (by decide +kernel) rfl
theorem ml_X7_42 : Cond.methodLink RX7 42 yX2_endOf ∈ am_tbl := am_at 578 (by decide +kernel) rfl
theorem ml_X10_174 : Cond.methodLink RX10 174 yX7_total ∈ am_tbl := am_at 580 (by decide +kernel) rfl
theorem ml_L_73 : Cond.methodLink RL 73 yX10_first ∈ am_tbl := am_at 584 (by decide +kernel) rfl
theorem ml_X10_177 : Cond.methodLink RX10 177 yX7_pick ∈ am_tbl := am_at 588 (by decide +kernel) rfl
theorem ml_X7_49 : Cond.methodLink RX7 49 yX1_clear ∈ am_tbl := am_at 592 (by decide +kernel) rfl
theorem ml_X7_52 : Cond.methodLink RX7 52 yX1_add ∈ am_tbl := am_at 593 (by decide +kernel) rfl
theorem ml_L_77 : Cond.methodLink RL 77 yX10_clash ∈ am_tbl := am_at 594 (by decide +kernel) rfl
theorem ml_X10_181 : Cond.methodLink RX10 181 yX10_knowClashes ∈ am_tbl := am_at 598 (by decide +kernel) rfl
theorem ml_X10_248 : Cond.methodLink RX10 248 yX0_find ∈ am_tbl := am_at 602 (by decide +kernel) rfl
theorem ml_X0_61 : Cond.methodLink RX0 61 yX5_gather ∈ am_tbl := am_at 606 (by decide +kernel) rfl
theorem ml_X5_24 : Cond.methodLink RX5 24 yX5_start ∈ am_tbl := am_at 610 (by decide +kernel) rfl
theorem ml_X5_43 : Cond.methodLink RX5 43 yX1_clear ∈ am_tbl := am_at 614 (by decide +kernel) rfl
theorem ml_X5_28 : Cond.methodLink RX5 28 yX1_size ∈ am_tbl := am_at 615 (by decide +kernel) rfl
theorem ml_X5_32 : Cond.methodLink RX5 32 yX1_at ∈ am_tbl := am_at 616 (by decide +kernel) rfl
theorem ml_X5_46 : Cond.methodLink RX5 46 yX9_begins ∈ am_tbl := am_at 617 (by decide +kernel) rfl
theorem ml_X5_52 : Cond.methodLink RX5 52 yX9_behind ∈ am_tbl := am_at 618 (by decide +kernel) rfl
theorem ml_X9_21 : Cond.methodLink RX9 21 yJ9_max_7cf53 ∈ am_tbl := am_at 621 (by decide +kernel) rfl
theorem ml_X5_56 : Cond.methodLink RX5 56 yX5_note ∈ am_tbl := am_at 622 (by decide +kernel) rfl
theorem ml_X5_59 : Cond.methodLink RX5 59 yX1_placeOf ∈ am_tbl := am_at 626 (by decide +kernel) rfl
theorem ml_X5_62 : Cond.methodLink RX5 62 yX1_add ∈ am_tbl := am_at 627 (by decide +kernel) rfl
theorem ml_X5_36 : Cond.methodLink RX5 36 yX5_follow ∈ am_tbl := am_at 628 (by decide +kernel) rfl
theorem ml_X5_40 : Cond.methodLink RX5 40 yX1_sort ∈ am_tbl := am_at 632 (by decide +kernel) rfl
theorem ml_X0_65 : Cond.methodLink RX0 65 yX1_clear ∈ am_tbl := am_at 636 (by decide +kernel) rfl
theorem ml_X0_54 : Cond.methodLink RX0 54 yX5_areClean ∈ am_tbl := am_at 637 (by decide +kernel) rfl
theorem ml_X0_68 : Cond.methodLink RX0 68 yX0_findTexts ∈ am_tbl := am_at 641 (by decide +kernel) rfl
theorem ml_X0_82 : Cond.methodLink RX0 82 yX0_startTexts ∈ am_tbl := am_at 645 (by decide +kernel) rfl
theorem ml_X0_50 : Cond.methodLink RX0 50 yX1_size ∈ am_tbl := am_at 649 (by decide +kernel) rfl
theorem ml_X0_89 : Cond.methodLink RX0 89 yX1_at ∈ am_tbl := am_at 650 (by decide +kernel) rfl
theorem ml_X0_93 : Cond.methodLink RX0 93 yX9_begins ∈ am_tbl := am_at 651 (by decide +kernel) rfl
theorem ml_X0_99 : Cond.methodLink RX0 99 yX1_addWord ∈ am_tbl := am_at 652 (by decide +kernel) rfl
theorem ml_X0_102 : Cond.methodLink RX0 102 yX9_behind ∈ am_tbl := am_at 653 (by decide +kernel) rfl
theorem ml_X0_106 : Cond.methodLink RX0 106 yX0_take ∈ am_tbl := am_at 654 (by decide +kernel) rfl
theorem ml_X0_110 : Cond.methodLink RX0 110 yX1_placeOf ∈ am_tbl := am_at 658 (by decide +kernel) rfl
theorem ml_X0_113 : Cond.methodLink RX0 113 yX1_isBefore ∈ am_tbl := am_at 659 (by decide +kernel) rfl
theorem ml_X0_71 : Cond.methodLink RX0 71 yX1_copy ∈ am_tbl := am_at 663 (by decide +kernel) rfl
theorem ml_X0_85 : Cond.methodLink RX0 85 yX0_followText ∈ am_tbl := am_at 664 (by decide +kernel) rfl
theorem ml_X0_74 : Cond.methodLink RX0 74 yX7_weigh ∈ am_tbl := am_at 668 (by decide +kernel) rfl
theorem ml_X0_78 : Cond.methodLink RX0 78 yX7_pick ∈ am_tbl := am_at 669 (by decide +kernel) rfl
theorem ml_X10_184 : Cond.methodLink RX10 184 yX0_value ∈ am_tbl := am_at 670 (by decide +kernel) rfl
theorem ml_X0_58 : Cond.methodLink RX0 58 yX7_total ∈ am_tbl := am_at 674 (by decide +kernel) rfl
theorem ml_L_81 : Cond.methodLink RL 81 yX10_clashAt ∈ am_tbl := am_at 675 (by decide +kernel) rfl
theorem ml_L_85 : Cond.methodLink RL 85 yX10_clashing ∈ am_tbl := am_at 679 (by decide +kernel) rfl
theorem ml_L_89 : Cond.methodLink RL 89 yX10_ahead ∈ am_tbl := am_at 683 (by decide +kernel) rfl
theorem ml_L_93 : Cond.methodLink RL 93 yX10_aheadAt ∈ am_tbl := am_at 687 (by decide +kernel) rfl
theorem ml_L_97 : Cond.methodLink RL 97 yX10_parting ∈ am_tbl := am_at 691 (by decide +kernel) rfl
theorem ml_X10_205 : Cond.methodLink RX10 205 yX10_knowPartings ∈ am_tbl := am_at 695 (by decide +kernel) rfl
theorem ml_X10_251 : Cond.methodLink RX10 251 yX3_find ∈ am_tbl := am_at 699 (by decide +kernel) rfl
theorem ml_X3_37 : Cond.methodLink RX3 37 yX6_size ∈ am_tbl := am_at 703 (by decide +kernel) rfl
theorem ml_X3_31 : Cond.methodLink RX3 31 yJ6_bitCount_0f7a4 ∈ am_tbl := am_at 704 (by decide +kernel) rfl
theorem ml_X3_43 : Cond.methodLink RX3 43 yX6_makeSigns ∈ am_tbl := am_at 710 (by decide +kernel) rfl
theorem ml_X3_47 : Cond.methodLink RX3 47 yX5_wouldBeClean ∈ am_tbl := am_at 711 (by decide +kernel) rfl
theorem ml_X10_208 : Cond.methodLink RX10 208 yX3_value ∈ am_tbl := am_at 715 (by decide +kernel) rfl
theorem ml_L_101 : Cond.methodLink RL 101 yX10_trial ∈ am_tbl := am_at 719 (by decide +kernel) rfl
theorem ml_X10_209 : Cond.methodLink RX10 209 yX8_run ∈ am_tbl := am_at 723 (by decide +kernel) rfl
theorem ml_X8_43 : Cond.methodLink RX8 43 yX6_size ∈ am_tbl := am_at 727 (by decide +kernel) rfl
theorem ml_X8_49 : Cond.methodLink RX8 49 yX8_drawRow ∈ am_tbl := am_at 728 (by decide +kernel) rfl
theorem ml_X8_56 : Cond.methodLink RX8 56 yX1_clear ∈ am_tbl := am_at 732 (by decide +kernel) rfl
theorem ml_X8_59 : Cond.methodLink RX8 59 yX8_draw ∈ am_tbl := am_at 733 (by decide +kernel) rfl
theorem ml_X8_63 : Cond.methodLink RX8 63 yX1_add ∈ am_tbl := am_at 741 (by decide +kernel) rfl
theorem ml_X8_52 : Cond.methodLink RX8 52 yX8_tryRow ∈ am_tbl := am_at 742 (by decide +kernel) rfl
theorem ml_X8_66 : Cond.methodLink RX8 66 yX6_spell ∈ am_tbl := am_at 746 (by decide +kernel) rfl
theorem ml_X8_70 : Cond.methodLink RX8 70 yX1_size ∈ am_tbl := am_at 747 (by decide +kernel) rfl
theorem ml_X8_74 : Cond.methodLink RX8 74 yX2_decode ∈ am_tbl := am_at 748 (by decide +kernel) rfl
theorem ml_X8_80 : Cond.methodLink RX8 80 yX1_isSame ∈ am_tbl := am_at 749 (by decide +kernel) rfl
theorem ml_X10_213 : Cond.methodLink RX10 213 yX8_value ∈ am_tbl := am_at 753 (by decide +kernel) rfl
theorem ml_L_105 : Cond.methodLink RL 105 yX10_count ∈ am_tbl := am_at 757 (by decide +kernel) rfl
theorem ml_X10_214 : Cond.methodLink RX10 214 yX6_markedRules ∈ am_tbl := am_at 761 (by decide +kernel) rfl
theorem ml_X6_38 : Cond.methodLink RX6 38 yJ6_bitCount_0f7a4 ∈ am_tbl := am_at 765 (by decide +kernel) rfl
theorem ml_L_109 : Cond.methodLink RL 109 yX10_digest ∈ am_tbl := am_at 766 (by decide +kernel) rfl
theorem ml_X10_219 : Cond.methodLink RX10 219 yX10_hashRules ∈ am_tbl := am_at 771 (by decide +kernel) rfl
theorem ml_X10_240 : Cond.methodLink RX10 240 yX10_rule ∈ am_tbl := am_at 775 (by decide +kernel) rfl
theorem ml_X10_233 : Cond.methodLink RX10 233 yX10_hashNumber ∈ am_tbl := am_at 776 (by decide +kernel) rfl
theorem ml_X10_243 : Cond.methodLink RX10 243 yX10_hashWord ∈ am_tbl := am_at 780 (by decide +kernel) rfl
theorem ml_X10_223 : Cond.methodLink RX10 223 yX10_hashLine ∈ am_tbl := am_at 783 (by decide +kernel) rfl
theorem ml_X10_227 : Cond.methodLink RX10 227 yX10_hashRows ∈ am_tbl := am_at 786 (by decide +kernel) rfl
theorem ml_X10_230 : Cond.methodLink RX10 230 yX10_hashClashes ∈ am_tbl := am_at 790 (by decide +kernel) rfl
theorem ml_X10_237 : Cond.methodLink RX10 237 yX10_count ∈ am_tbl := am_at 794 (by decide +kernel) rfl
theorem ml_L_17 : Cond.methodLink RL 17 yX11_letter ∈ am_tbl := am_at 917 (by decide +kernel) rfl
theorem ml_X11_71 : Cond.methodLink RX11 71 yX11_within ∈ am_tbl := am_at 921 (by decide +kernel) rfl
theorem ml_L_22 : Cond.methodLink RL 22 yX11_blank ∈ am_tbl := am_at 924 (by decide +kernel) rfl
theorem ml_L_26 : Cond.methodLink RL 26 yX11_fault ∈ am_tbl := am_at 928 (by decide +kernel) rfl
theorem ml_X11_105 : Cond.methodLink RX11 105 yX11_read ∈ am_tbl := am_at 932 (by decide +kernel) rfl
theorem ml_X11_102 : Cond.methodLink RX11 102 yX11_takes ∈ am_tbl := am_at 936 (by decide +kernel) rfl
theorem ml_X11_86 : Cond.methodLink RX11 86 yX11_takesComma ∈ am_tbl := am_at 940 (by decide +kernel) rfl
theorem ml_X11_89 : Cond.methodLink RX11 89 yX11_isSmall ∈ am_tbl := am_at 944 (by decide +kernel) rfl
theorem ml_X11_93 : Cond.methodLink RX11 93 yX11_takesLeft ∈ am_tbl := am_at 947 (by decide +kernel) rfl
theorem ml_X11_96 : Cond.methodLink RX11 96 yX11_isGreat ∈ am_tbl := am_at 951 (by decide +kernel) rfl
theorem ml_X11_99 : Cond.methodLink RX11 99 yX11_takesRight ∈ am_tbl := am_at 954 (by decide +kernel) rfl
theorem ml_X11_82 : Cond.methodLink RX11 82 yX11_isTwice ∈ am_tbl := am_at 958 (by decide +kernel) rfl
theorem ml_L_30 : Cond.methodLink RL 30 yX11_table ∈ am_tbl := am_at 962 (by decide +kernel) rfl
theorem ml_L_34 : Cond.methodLink RL 34 yX11_turn ∈ am_tbl := am_at 966 (by decide +kernel) rfl
theorem ml_X11_131 : Cond.methodLink RX11 131 yX11_isSmallPage ∈ am_tbl := am_at 970 (by decide +kernel) rfl
theorem ml_X11_134 : Cond.methodLink RX11 134 yX11_turnRow ∈ am_tbl := am_at 974 (by decide +kernel) rfl
theorem ml_X11_127 : Cond.methodLink RX11 127 yX11_longestLeft ∈ am_tbl := am_at 978 (by decide +kernel) rfl
theorem ml_X11_137 : Cond.methodLink RX11 137 yX11_signLength ∈ am_tbl := am_at 982 (by decide +kernel) rfl
theorem ml_X11_140 : Cond.methodLink RX11 140 yX11_signAt ∈ am_tbl := am_at 986 (by decide +kernel) rfl
theorem ml_L_38 : Cond.methodLink RL 38 yX11_text ∈ am_tbl := am_at 990 (by decide +kernel) rfl
theorem ml_L_42 : Cond.methodLink RL 42 yX11_mark ∈ am_tbl := am_at 994 (by decide +kernel) rfl
theorem ml_X11_150 : Cond.methodLink RX11 150 yX11_isRule ∈ am_tbl := am_at 998 (by decide +kernel) rfl
theorem ml_L_46 : Cond.methodLink RL 46 yX11_drop ∈ am_tbl := am_at 1002 (by decide +kernel) rfl
theorem ml_L_51 : Cond.methodLink RL 51 yX11_rule ∈ am_tbl := am_at 1006 (by decide +kernel) rfl
theorem ml_X11_164 : Cond.methodLink RX11 164 yX11_ruleNow ∈ am_tbl := am_at 1010 (by decide +kernel) rfl
theorem ml_X11_160 : Cond.methodLink RX11 160 yX11_begunBy ∈ am_tbl := am_at 1014 (by decide +kernel) rfl
theorem ml_X11_153 : Cond.methodLink RX11 153 yX11_leftBegins ∈ am_tbl := am_at 1018 (by decide +kernel) rfl
theorem ml_X11_157 : Cond.methodLink RX11 157 yX11_begins ∈ am_tbl := am_at 1022 (by decide +kernel) rfl
theorem ml_L_56 : Cond.methodLink RL 56 yX11_sign ∈ am_tbl := am_at 1026 (by decide +kernel) rfl
theorem ml_L_60 : Cond.methodLink RL 60 yX11_ink ∈ am_tbl := am_at 1030 (by decide +kernel) rfl
theorem ml_L_64 : Cond.methodLink RL 64 yX11_back ∈ am_tbl := am_at 1034 (by decide +kernel) rfl
theorem ml_X11_189 : Cond.methodLink RX11 189 yX11_backNow ∈ am_tbl := am_at 1038 (by decide +kernel) rfl
theorem ml_X11_183 : Cond.methodLink RX11 183 yX11_workText ∈ am_tbl := am_at 1042 (by decide +kernel) rfl
theorem ml_X11_186 : Cond.methodLink RX11 186 yX11_layBack ∈ am_tbl := am_at 1046 (by decide +kernel) rfl
theorem ml_X11_180 : Cond.methodLink RX11 180 yX11_longestSign ∈ am_tbl := am_at 1050 (by decide +kernel) rfl
theorem ml_X11_170 : Cond.methodLink RX11 170 yX11_lies ∈ am_tbl := am_at 1054 (by decide +kernel) rfl
theorem ml_L_68 : Cond.methodLink RL 68 yX11_backAt ∈ am_tbl := am_at 1058 (by decide +kernel) rfl
theorem ml_X11_192 : Cond.methodLink RX11 192 yX11_backAtNow ∈ am_tbl := am_at 1062 (by decide +kernel) rfl
theorem ml_L_72 : Cond.methodLink RL 72 yX11_ways ∈ am_tbl := am_at 1066 (by decide +kernel) rfl
theorem ml_X11_198 : Cond.methodLink RX11 198 yX11_waysNow ∈ am_tbl := am_at 1070 (by decide +kernel) rfl
theorem ml_X11_195 : Cond.methodLink RX11 195 yX11_layWays ∈ am_tbl := am_at 1074 (by decide +kernel) rfl
theorem ml_L_76 : Cond.methodLink RL 76 yX11_first ∈ am_tbl := am_at 1079 (by decide +kernel) rfl
theorem ml_X11_204 : Cond.methodLink RX11 204 yX11_firstNow ∈ am_tbl := am_at 1083 (by decide +kernel) rfl
theorem ml_X11_201 : Cond.methodLink RX11 201 yX11_ruleIn ∈ am_tbl := am_at 1087 (by decide +kernel) rfl
theorem ml_L_92 : Cond.methodLink RL 92 yX11_ahead ∈ am_tbl := am_at 1091 (by decide +kernel) rfl
theorem ml_X11_239 : Cond.methodLink RX11 239 yX11_layAheads ∈ am_tbl := am_at 1095 (by decide +kernel) rfl
theorem ml_X11_229 : Cond.methodLink RX11 229 yX11_comesAhead ∈ am_tbl := am_at 1099 (by decide +kernel) rfl
theorem ml_X11_219 : Cond.methodLink RX11 219 yX11_leastOf ∈ am_tbl := am_at 1103 (by decide +kernel) rfl
theorem ml_X11_213 : Cond.methodLink RX11 213 yX11_isPart ∈ am_tbl := am_at 1107 (by decide +kernel) rfl
theorem ml_X11_216 : Cond.methodLink RX11 216 yX11_areAlike ∈ am_tbl := am_at 1111 (by decide +kernel) rfl
theorem ml_X11_207 : Cond.methodLink RX11 207 yX11_lengthOf ∈ am_tbl := am_at 1115 (by decide +kernel) rfl
theorem ml_X11_210 : Cond.methodLink RX11 210 yX11_letterOf ∈ am_tbl := am_at 1119 (by decide +kernel) rfl
theorem ml_X11_236 : Cond.methodLink RX11 236 yX11_goOnFrom ∈ am_tbl := am_at 1123 (by decide +kernel) rfl
theorem ml_X11_226 : Cond.methodLink RX11 226 yX11_partBegins ∈ am_tbl := am_at 1127 (by decide +kernel) rfl
theorem ml_X11_233 : Cond.methodLink RX11 233 yX11_signBegins ∈ am_tbl := am_at 1131 (by decide +kernel) rfl
theorem ml_X11_245 : Cond.methodLink RX11 245 yX11_aheadOf ∈ am_tbl := am_at 1135 (by decide +kernel) rfl
theorem ml_X11_242 : Cond.methodLink RX11 242 yX11_isBefore ∈ am_tbl := am_at 1139 (by decide +kernel) rfl
theorem ml_L_96 : Cond.methodLink RL 96 yX11_aheadAt ∈ am_tbl := am_at 1143 (by decide +kernel) rfl
theorem ml_L_80 : Cond.methodLink RL 80 yX11_clash ∈ am_tbl := am_at 1147 (by decide +kernel) rfl
theorem ml_X11_297 : Cond.methodLink RX11 297 yX11_clashNow ∈ am_tbl := am_at 1151 (by decide +kernel) rfl
theorem ml_X11_288 : Cond.methodLink RX11 288 yX11_isClean ∈ am_tbl := am_at 1155 (by decide +kernel) rfl
theorem ml_X11_291 : Cond.methodLink RX11 291 yX11_aheadsMany ∈ am_tbl := am_at 1159 (by decide +kernel) rfl
theorem ml_X11_294 : Cond.methodLink RX11 294 yX11_clashTold ∈ am_tbl := am_at 1163 (by decide +kernel) rfl
theorem ml_X11_282 : Cond.methodLink RX11 282 yX11_layClash ∈ am_tbl := am_at 1167 (by decide +kernel) rfl
theorem ml_X11_275 : Cond.methodLink RX11 275 yX11_layBehind ∈ am_tbl := am_at 1171 (by decide +kernel) rfl
theorem ml_X11_266 : Cond.methodLink RX11 266 yX11_goesOn ∈ am_tbl := am_at 1175 (by decide +kernel) rfl
theorem ml_X11_263 : Cond.methodLink RX11 263 yX11_goesOnBy ∈ am_tbl := am_at 1179 (by decide +kernel) rfl
theorem ml_X11_257 : Cond.methodLink RX11 257 yX11_tryBehind ∈ am_tbl := am_at 1183 (by decide +kernel) rfl
theorem ml_X11_251 : Cond.methodLink RX11 251 yX11_tryLetter ∈ am_tbl := am_at 1187 (by decide +kernel) rfl
theorem ml_X11_260 : Cond.methodLink RX11 260 yX11_takesTried ∈ am_tbl := am_at 1191 (by decide +kernel) rfl
theorem ml_X11_254 : Cond.methodLink RX11 254 yX11_isTriedLess ∈ am_tbl := am_at 1195 (by decide +kernel) rfl
theorem ml_X11_278 : Cond.methodLink RX11 278 yX11_clashOf ∈ am_tbl := am_at 1199 (by decide +kernel) rfl
theorem ml_X11_272 : Cond.methodLink RX11 272 yX11_isClashLess ∈ am_tbl := am_at 1203 (by decide +kernel) rfl
theorem ml_X11_285 : Cond.methodLink RX11 285 yX11_rowMany ∈ am_tbl := am_at 1207 (by decide +kernel) rfl
theorem ml_L_84 : Cond.methodLink RL 84 yX11_clashAt ∈ am_tbl := am_at 1211 (by decide +kernel) rfl
theorem ml_L_88 : Cond.methodLink RL 88 yX11_clashing ∈ am_tbl := am_at 1215 (by decide +kernel) rfl
theorem ml_X11_300 : Cond.methodLink RX11 300 yX11_clashingNow ∈ am_tbl := am_at 1219 (by decide +kernel) rfl
theorem ml_L_100 : Cond.methodLink RL 100 yX11_parting ∈ am_tbl := am_at 1223 (by decide +kernel) rfl
theorem ml_X11_309 : Cond.methodLink RX11 309 yX11_partingNow ∈ am_tbl := am_at 1227 (by decide +kernel) rfl
theorem ml_X11_306 : Cond.methodLink RX11 306 yX11_partingSet ∈ am_tbl := am_at 1231 (by decide +kernel) rfl
theorem ml_X11_303 : Cond.methodLink RX11 303 yX11_bits ∈ am_tbl := am_at 1235 (by decide +kernel) rfl
theorem ml_L_104 : Cond.methodLink RL 104 yX11_trial ∈ am_tbl := am_at 1238 (by decide +kernel) rfl
theorem ml_X11_333 : Cond.methodLink RX11 333 yX11_trialNow ∈ am_tbl := am_at 1242 (by decide +kernel) rfl
theorem ml_X11_327 : Cond.methodLink RX11 327 yX11_drawRow ∈ am_tbl := am_at 1246 (by decide +kernel) rfl
theorem ml_X11_324 : Cond.methodLink RX11 324 yX11_draw ∈ am_tbl := am_at 1250 (by decide +kernel) rfl
theorem ml_X11_330 : Cond.methodLink RX11 330 yX11_isSameRow ∈ am_tbl := am_at 1258 (by decide +kernel) rfl
theorem ml_L_108 : Cond.methodLink RL 108 yX11_count ∈ am_tbl := am_at 1262 (by decide +kernel) rfl
theorem ml_X11_337 : Cond.methodLink RX11 337 yX11_howMany ∈ am_tbl := am_at 1266 (by decide +kernel) rfl
theorem ml_L_113 : Cond.methodLink RL 113 yX11_digest ∈ am_tbl := am_at 1270 (by decide +kernel) rfl
theorem ml_X11_353 : Cond.methodLink RX11 353 yX11_mixRules ∈ am_tbl := am_at 1275 (by decide +kernel) rfl
theorem ml_X11_345 : Cond.methodLink RX11 345 yX11_mix ∈ am_tbl := am_at 1279 (by decide +kernel) rfl
theorem ml_X11_356 : Cond.methodLink RX11 356 yX11_mixText ∈ am_tbl := am_at 1284 (by decide +kernel) rfl
theorem ml_X11_359 : Cond.methodLink RX11 359 yX11_mixClash ∈ am_tbl := am_at 1288 (by decide +kernel) rfl
theorem ml_X11_362 : Cond.methodLink RX11 362 yX11_mixAheads ∈ am_tbl := am_at 1292 (by decide +kernel) rfl
theorem ml_X4_54 : (RX4, 54, yX10_isSmall, "SpellTables") ∈ am_nest := by decide +kernel
theorem ml_X4_60 : (RX4, 60, yX10_isCapital, "SpellTables") ∈ am_nest := by decide +kernel
theorem kc_X9_11 : Cond.constant RX9 11 (iZ (2097152)) ∈ am_tbl := am_at 391 (by decide +kernel) rfl
theorem kc_X9_12 : Cond.constant RX9 12 (iZ (268435456)) ∈ am_tbl := am_at 392 (by decide +kernel) rfl
theorem kc_X7_48 : Cond.constant RX7 48 (iZ (1000000)) ∈ am_tbl := am_at 579 (by decide +kernel) rfl
theorem kc_J6_265 : Cond.constant RJ6 265 (iZ (1431655765)) ∈ am_tbl := am_at 707 (by decide +kernel) rfl
theorem kc_J6_266 : Cond.constant RJ6 266 (iZ (858993459)) ∈ am_tbl := am_at 708 (by decide +kernel) rfl
theorem kc_J6_267 : Cond.constant RJ6 267 (iZ (252645135)) ∈ am_tbl := am_at 709 (by decide +kernel) rfl
theorem kc_X11_173 : Cond.constant RX11 173 (iZ (1000000)) ∈ am_tbl := am_at 1078 (by decide +kernel) rfl
theorem kc_X8_84 : Cond.constantLong RX8 84 (lZ (1103515245)) ∈ am_tbl := am_at 737 (by decide +kernel) rfl
theorem kc_X8_86 : Cond.constantLong RX8 86 (lZ (12345)) ∈ am_tbl := am_at 738 (by decide +kernel) rfl
theorem kc_X8_88 : Cond.constantLong RX8 88 (lZ (2147483648)) ∈ am_tbl := am_at 739 (by decide +kernel) rfl
theorem kc_X8_90 : Cond.constantLong RX8 90 (lZ (65536)) ∈ am_tbl := am_at 740 (by decide +kernel) rfl
theorem kc_X10_217 : Cond.constantLong RX10 217 (lZ (1583)) ∈ am_tbl := am_at 770 (by decide +kernel) rfl
theorem kc_X10_246 : Cond.constantLong RX10 246 (lZ (31)) ∈ am_tbl := am_at 779 (by decide +kernel) rfl
theorem kc_X11_312 : Cond.constantLong RX11 312 (lZ (1103515245)) ∈ am_tbl := am_at 1254 (by decide +kernel) rfl
theorem kc_X11_318 : Cond.constantLong RX11 318 (lZ (12345)) ∈ am_tbl := am_at 1255 (by decide +kernel) rfl
theorem kc_X11_320 : Cond.constantLong RX11 320 (lZ (2147483648)) ∈ am_tbl := am_at 1256 (by decide +kernel) rfl
theorem kc_X11_322 : Cond.constantLong RX11 322 (lZ (65536)) ∈ am_tbl := am_at 1257 (by decide +kernel) rfl
theorem kc_X11_351 : Cond.constantLong RX11 351 (lZ (1583)) ∈ am_tbl := am_at 1274 (by decide +kernel) rfl
theorem kc_X11_340 : Cond.constantLong RX11 340 (lZ (31)) ∈ am_tbl := am_at 1283 (by decide +kernel) rfl
theorem kc_X11_349 : Cond.constantLong RX11 349 (lZ (-1)) ∈ am_tbl := am_at 1296 (by decide +kernel) rfl
end
section
/-! ===== rows by number: locals, calls, returns ===== -/
def am_rI (P : Int → am_St → Prop) : Option Value → am_St → Prop := fun r σ => ∃ x : Int, r = some (.int (iZ x)) ∧ P x σ
def am_rL (P : Int → am_St → Prop) : Option Value → am_St → Prop := fun r σ => ∃ x : Int, r = some (.long (lZ x)) ∧ P x σ
def am_rV (P : am_St → Prop) : Option Value → am_St → Prop := fun r σ => r = none ∧ P σ
section AMN
variable {sh : am_Sh} {M : am_M} {d : Nat} {Q : Option Value → am_St → Prop} {pc : Nat} {lv : List (Option Value)} {st : List Value} {σ : am_St} {M2 : am_M} {d2 idx n : Nat}
theorem go_ist0 {a0 : Option Value} {r : List (Option Value)} {x : Int32} (hd : decode M.2.1 pc = .ok (.istore_n 0, 1)) (hn : 0 < M.2.2.1) (k : am_Go sh M d Q (pc + 1) (some (.int x) :: r) (st) σ) : am_Go sh M d Q pc (a0 :: r) (.int x :: st) σ :=
  go_istore_n (i := 0) hd hn (fun j o h1 h2 => by omega) k
theorem go_ist1 {a0 a1 : Option Value} {r : List (Option Value)} {x : Int32} (hd : decode M.2.1 pc = .ok (.istore_n 1, 1)) (hn : 1 < M.2.2.1) (hp : am_nl a0 = true) (k : am_Go sh M d Q (pc + 1) (a0 :: some (.int x) :: r) (st) σ) : am_Go sh M d Q pc (a0 :: a1 :: r) (.int x :: st) σ :=
  go_istore_n (i := 1) hd hn (fun j o h1 h2 => by
    obtain rfl : j = 0 := by omega
    have h3 : some a0 = some o := h2
    cases h3
    exact hp) k
theorem go_ist2 {a0 a1 a2 : Option Value} {r : List (Option Value)} {x : Int32} (hd : decode M.2.1 pc = .ok (.istore_n 2, 1)) (hn : 2 < M.2.2.1) (hp : am_nl a1 = true) (k : am_Go sh M d Q (pc + 1) (a0 :: a1 :: some (.int x) :: r) (st) σ) : am_Go sh M d Q pc (a0 :: a1 :: a2 :: r) (.int x :: st) σ :=
  go_istore_n (i := 2) hd hn (fun j o h1 h2 => by
    obtain rfl : j = 1 := by omega
    have h3 : some a1 = some o := h2
    cases h3
    exact hp) k
theorem go_ist3 {a0 a1 a2 a3 : Option Value} {r : List (Option Value)} {x : Int32} (hd : decode M.2.1 pc = .ok (.istore_n 3, 1)) (hn : 3 < M.2.2.1) (hp : am_nl a2 = true) (k : am_Go sh M d Q (pc + 1) (a0 :: a1 :: a2 :: some (.int x) :: r) (st) σ) : am_Go sh M d Q pc (a0 :: a1 :: a2 :: a3 :: r) (.int x :: st) σ :=
  go_istore_n (i := 3) hd hn (fun j o h1 h2 => by
    obtain rfl : j = 2 := by omega
    have h3 : some a2 = some o := h2
    cases h3
    exact hp) k
theorem go_ist4 {a0 a1 a2 a3 a4 : Option Value} {r : List (Option Value)} {x : Int32} (hd : decode M.2.1 pc = .ok (.istore 4, 2)) (hn : 4 < M.2.2.1) (hp : am_nl a3 = true) (k : am_Go sh M d Q (pc + 2) (a0 :: a1 :: a2 :: a3 :: some (.int x) :: r) (st) σ) : am_Go sh M d Q pc (a0 :: a1 :: a2 :: a3 :: a4 :: r) (.int x :: st) σ :=
  go_istore  hd hn (fun j o h1 h2 => by
    obtain rfl : j = 3 := by omega
    have h3 : some a3 = some o := h2
    cases h3
    exact hp) k
theorem go_ist5 {a0 a1 a2 a3 a4 a5 : Option Value} {r : List (Option Value)} {x : Int32} (hd : decode M.2.1 pc = .ok (.istore 5, 2)) (hn : 5 < M.2.2.1) (hp : am_nl a4 = true) (k : am_Go sh M d Q (pc + 2) (a0 :: a1 :: a2 :: a3 :: a4 :: some (.int x) :: r) (st) σ) : am_Go sh M d Q pc (a0 :: a1 :: a2 :: a3 :: a4 :: a5 :: r) (.int x :: st) σ :=
  go_istore  hd hn (fun j o h1 h2 => by
    obtain rfl : j = 4 := by omega
    have h3 : some a4 = some o := h2
    cases h3
    exact hp) k
theorem go_ist6 {a0 a1 a2 a3 a4 a5 a6 : Option Value} {r : List (Option Value)} {x : Int32} (hd : decode M.2.1 pc = .ok (.istore 6, 2)) (hn : 6 < M.2.2.1) (hp : am_nl a5 = true) (k : am_Go sh M d Q (pc + 2) (a0 :: a1 :: a2 :: a3 :: a4 :: a5 :: some (.int x) :: r) (st) σ) : am_Go sh M d Q pc (a0 :: a1 :: a2 :: a3 :: a4 :: a5 :: a6 :: r) (.int x :: st) σ :=
  go_istore  hd hn (fun j o h1 h2 => by
    obtain rfl : j = 5 := by omega
    have h3 : some a5 = some o := h2
    cases h3
    exact hp) k
theorem go_ist7 {a0 a1 a2 a3 a4 a5 a6 a7 : Option Value} {r : List (Option Value)} {x : Int32} (hd : decode M.2.1 pc = .ok (.istore 7, 2)) (hn : 7 < M.2.2.1) (hp : am_nl a6 = true) (k : am_Go sh M d Q (pc + 2) (a0 :: a1 :: a2 :: a3 :: a4 :: a5 :: a6 :: some (.int x) :: r) (st) σ) : am_Go sh M d Q pc (a0 :: a1 :: a2 :: a3 :: a4 :: a5 :: a6 :: a7 :: r) (.int x :: st) σ :=
  go_istore  hd hn (fun j o h1 h2 => by
    obtain rfl : j = 6 := by omega
    have h3 : some a6 = some o := h2
    cases h3
    exact hp) k
theorem go_ist8 {a0 a1 a2 a3 a4 a5 a6 a7 a8 : Option Value} {r : List (Option Value)} {x : Int32} (hd : decode M.2.1 pc = .ok (.istore 8, 2)) (hn : 8 < M.2.2.1) (hp : am_nl a7 = true) (k : am_Go sh M d Q (pc + 2) (a0 :: a1 :: a2 :: a3 :: a4 :: a5 :: a6 :: a7 :: some (.int x) :: r) (st) σ) : am_Go sh M d Q pc (a0 :: a1 :: a2 :: a3 :: a4 :: a5 :: a6 :: a7 :: a8 :: r) (.int x :: st) σ :=
  go_istore  hd hn (fun j o h1 h2 => by
    obtain rfl : j = 7 := by omega
    have h3 : some a7 = some o := h2
    cases h3
    exact hp) k
theorem go_ist9 {a0 a1 a2 a3 a4 a5 a6 a7 a8 a9 : Option Value} {r : List (Option Value)} {x : Int32} (hd : decode M.2.1 pc = .ok (.istore 9, 2)) (hn : 9 < M.2.2.1) (hp : am_nl a8 = true) (k : am_Go sh M d Q (pc + 2) (a0 :: a1 :: a2 :: a3 :: a4 :: a5 :: a6 :: a7 :: a8 :: some (.int x) :: r) (st) σ) : am_Go sh M d Q pc (a0 :: a1 :: a2 :: a3 :: a4 :: a5 :: a6 :: a7 :: a8 :: a9 :: r) (.int x :: st) σ :=
  go_istore  hd hn (fun j o h1 h2 => by
    obtain rfl : j = 8 := by omega
    have h3 : some a8 = some o := h2
    cases h3
    exact hp) k
theorem go_ist10 {a0 a1 a2 a3 a4 a5 a6 a7 a8 a9 a10 : Option Value} {r : List (Option Value)} {x : Int32} (hd : decode M.2.1 pc = .ok (.istore 10, 2)) (hn : 10 < M.2.2.1) (hp : am_nl a9 = true) (k : am_Go sh M d Q (pc + 2) (a0 :: a1 :: a2 :: a3 :: a4 :: a5 :: a6 :: a7 :: a8 :: a9 :: some (.int x) :: r) (st) σ) : am_Go sh M d Q pc (a0 :: a1 :: a2 :: a3 :: a4 :: a5 :: a6 :: a7 :: a8 :: a9 :: a10 :: r) (.int x :: st) σ :=
  go_istore  hd hn (fun j o h1 h2 => by
    obtain rfl : j = 9 := by omega
    have h3 : some a9 = some o := h2
    cases h3
    exact hp) k
theorem go_ast0 {a0 : Option Value} {r : List (Option Value)} {x : Nat} (hd : decode M.2.1 pc = .ok (.astore_n 0, 1)) (hn : 0 < M.2.2.1) (k : am_Go sh M d Q (pc + 1) (some (.ref x) :: r) (st) σ) : am_Go sh M d Q pc (a0 :: r) (.ref x :: st) σ :=
  go_astore_n (i := 0) hd hn (fun j o h1 h2 => by omega) k
theorem go_ast1 {a0 a1 : Option Value} {r : List (Option Value)} {x : Nat} (hd : decode M.2.1 pc = .ok (.astore_n 1, 1)) (hn : 1 < M.2.2.1) (hp : am_nl a0 = true) (k : am_Go sh M d Q (pc + 1) (a0 :: some (.ref x) :: r) (st) σ) : am_Go sh M d Q pc (a0 :: a1 :: r) (.ref x :: st) σ :=
  go_astore_n (i := 1) hd hn (fun j o h1 h2 => by
    obtain rfl : j = 0 := by omega
    have h3 : some a0 = some o := h2
    cases h3
    exact hp) k
theorem go_ast2 {a0 a1 a2 : Option Value} {r : List (Option Value)} {x : Nat} (hd : decode M.2.1 pc = .ok (.astore_n 2, 1)) (hn : 2 < M.2.2.1) (hp : am_nl a1 = true) (k : am_Go sh M d Q (pc + 1) (a0 :: a1 :: some (.ref x) :: r) (st) σ) : am_Go sh M d Q pc (a0 :: a1 :: a2 :: r) (.ref x :: st) σ :=
  go_astore_n (i := 2) hd hn (fun j o h1 h2 => by
    obtain rfl : j = 1 := by omega
    have h3 : some a1 = some o := h2
    cases h3
    exact hp) k
theorem go_ast3 {a0 a1 a2 a3 : Option Value} {r : List (Option Value)} {x : Nat} (hd : decode M.2.1 pc = .ok (.astore_n 3, 1)) (hn : 3 < M.2.2.1) (hp : am_nl a2 = true) (k : am_Go sh M d Q (pc + 1) (a0 :: a1 :: a2 :: some (.ref x) :: r) (st) σ) : am_Go sh M d Q pc (a0 :: a1 :: a2 :: a3 :: r) (.ref x :: st) σ :=
  go_astore_n (i := 3) hd hn (fun j o h1 h2 => by
    obtain rfl : j = 2 := by omega
    have h3 : some a2 = some o := h2
    cases h3
    exact hp) k
theorem go_lst0 {a0 a1 : Option Value} {r : List (Option Value)} {x : Int64} (hd : decode M.2.1 pc = .ok (.lstore_n 0, 1)) (hn : 1 < M.2.2.1) (k : am_Go sh M d Q (pc + 1) (some (.long x) :: none :: r) (st) σ) : am_Go sh M d Q pc (a0 :: a1 :: r) (.long x :: st) σ :=
  go_lstore_n (i := 0) hd hn (fun j o h1 h2 => by omega) k
theorem go_lst1 {a0 a1 a2 : Option Value} {r : List (Option Value)} {x : Int64} (hd : decode M.2.1 pc = .ok (.lstore_n 1, 1)) (hn : 2 < M.2.2.1) (hp : am_nl a0 = true) (k : am_Go sh M d Q (pc + 1) (a0 :: some (.long x) :: none :: r) (st) σ) : am_Go sh M d Q pc (a0 :: a1 :: a2 :: r) (.long x :: st) σ :=
  go_lstore_n (i := 1) hd hn (fun j o h1 h2 => by
    obtain rfl : j = 0 := by omega
    have h3 : some a0 = some o := h2
    cases h3
    exact hp) k
theorem go_lst2 {a0 a1 a2 a3 : Option Value} {r : List (Option Value)} {x : Int64} (hd : decode M.2.1 pc = .ok (.lstore_n 2, 1)) (hn : 3 < M.2.2.1) (hp : am_nl a1 = true) (k : am_Go sh M d Q (pc + 1) (a0 :: a1 :: some (.long x) :: none :: r) (st) σ) : am_Go sh M d Q pc (a0 :: a1 :: a2 :: a3 :: r) (.long x :: st) σ :=
  go_lstore_n (i := 2) hd hn (fun j o h1 h2 => by
    obtain rfl : j = 1 := by omega
    have h3 : some a1 = some o := h2
    cases h3
    exact hp) k
theorem go_lst3 {a0 a1 a2 a3 a4 : Option Value} {r : List (Option Value)} {x : Int64} (hd : decode M.2.1 pc = .ok (.lstore_n 3, 1)) (hn : 4 < M.2.2.1) (hp : am_nl a2 = true) (k : am_Go sh M d Q (pc + 1) (a0 :: a1 :: a2 :: some (.long x) :: none :: r) (st) σ) : am_Go sh M d Q pc (a0 :: a1 :: a2 :: a3 :: a4 :: r) (.long x :: st) σ :=
  go_lstore_n (i := 3) hd hn (fun j o h1 h2 => by
    obtain rfl : j = 2 := by omega
    have h3 : some a2 = some o := h2
    cases h3
    exact hp) k
theorem go_lst4 {a0 a1 a2 a3 a4 a5 : Option Value} {r : List (Option Value)} {x : Int64} (hd : decode M.2.1 pc = .ok (.lstore 4, 2)) (hn : 5 < M.2.2.1) (hp : am_nl a3 = true) (k : am_Go sh M d Q (pc + 2) (a0 :: a1 :: a2 :: a3 :: some (.long x) :: none :: r) (st) σ) : am_Go sh M d Q pc (a0 :: a1 :: a2 :: a3 :: a4 :: a5 :: r) (.long x :: st) σ :=
  go_lstore  hd hn (fun j o h1 h2 => by
    obtain rfl : j = 3 := by omega
    have h3 : some a3 = some o := h2
    cases h3
    exact hp) k
theorem go_lst5 {a0 a1 a2 a3 a4 a5 a6 : Option Value} {r : List (Option Value)} {x : Int64} (hd : decode M.2.1 pc = .ok (.lstore 5, 2)) (hn : 6 < M.2.2.1) (hp : am_nl a4 = true) (k : am_Go sh M d Q (pc + 2) (a0 :: a1 :: a2 :: a3 :: a4 :: some (.long x) :: none :: r) (st) σ) : am_Go sh M d Q pc (a0 :: a1 :: a2 :: a3 :: a4 :: a5 :: a6 :: r) (.long x :: st) σ :=
  go_lstore  hd hn (fun j o h1 h2 => by
    obtain rfl : j = 4 := by omega
    have h3 : some a4 = some o := h2
    cases h3
    exact hp) k
theorem go_lst6 {a0 a1 a2 a3 a4 a5 a6 a7 : Option Value} {r : List (Option Value)} {x : Int64} (hd : decode M.2.1 pc = .ok (.lstore 6, 2)) (hn : 7 < M.2.2.1) (hp : am_nl a5 = true) (k : am_Go sh M d Q (pc + 2) (a0 :: a1 :: a2 :: a3 :: a4 :: a5 :: some (.long x) :: none :: r) (st) σ) : am_Go sh M d Q pc (a0 :: a1 :: a2 :: a3 :: a4 :: a5 :: a6 :: a7 :: r) (.long x :: st) σ :=
  go_lstore  hd hn (fun j o h1 h2 => by
    obtain rfl : j = 5 := by omega
    have h3 : some a5 = some o := h2
    cases h3
    exact hp) k
theorem go_lst7 {a0 a1 a2 a3 a4 a5 a6 a7 a8 : Option Value} {r : List (Option Value)} {x : Int64} (hd : decode M.2.1 pc = .ok (.lstore 7, 2)) (hn : 8 < M.2.2.1) (hp : am_nl a6 = true) (k : am_Go sh M d Q (pc + 2) (a0 :: a1 :: a2 :: a3 :: a4 :: a5 :: a6 :: some (.long x) :: none :: r) (st) σ) : am_Go sh M d Q pc (a0 :: a1 :: a2 :: a3 :: a4 :: a5 :: a6 :: a7 :: a8 :: r) (.long x :: st) σ :=
  go_lstore  hd hn (fun j o h1 h2 => by
    obtain rfl : j = 6 := by omega
    have h3 : some a6 = some o := h2
    cases h3
    exact hp) k
theorem go_inc0 {r : List (Option Value)} {n a : Int} (hd : decode M.2.1 pc = .ok (.iinc 0 n, 3)) (hn : 0 < M.2.2.1) (k : am_Go sh M d Q (pc + 3) (some (.int (iZ (a + n))) :: r) (st) σ) : am_Go sh M d Q pc (some (.int (iZ a)) :: r) (st) σ :=
  go_iinc (i := 0) hd rfl hn (fun j o h1 h2 => by omega) k
theorem go_inc1 {a0 : Option Value} {r : List (Option Value)} {n a : Int} (hd : decode M.2.1 pc = .ok (.iinc 1 n, 3)) (hn : 1 < M.2.2.1) (hp : am_nl a0 = true) (k : am_Go sh M d Q (pc + 3) (a0 :: some (.int (iZ (a + n))) :: r) (st) σ) : am_Go sh M d Q pc (a0 :: some (.int (iZ a)) :: r) (st) σ :=
  go_iinc (i := 1) hd rfl hn (fun j o h1 h2 => by
    obtain rfl : j = 0 := by omega
    have h3 : some a0 = some o := h2
    cases h3
    exact hp) k
theorem go_inc2 {a0 a1 : Option Value} {r : List (Option Value)} {n a : Int} (hd : decode M.2.1 pc = .ok (.iinc 2 n, 3)) (hn : 2 < M.2.2.1) (hp : am_nl a1 = true) (k : am_Go sh M d Q (pc + 3) (a0 :: a1 :: some (.int (iZ (a + n))) :: r) (st) σ) : am_Go sh M d Q pc (a0 :: a1 :: some (.int (iZ a)) :: r) (st) σ :=
  go_iinc (i := 2) hd rfl hn (fun j o h1 h2 => by
    obtain rfl : j = 1 := by omega
    have h3 : some a1 = some o := h2
    cases h3
    exact hp) k
theorem go_inc3 {a0 a1 a2 : Option Value} {r : List (Option Value)} {n a : Int} (hd : decode M.2.1 pc = .ok (.iinc 3 n, 3)) (hn : 3 < M.2.2.1) (hp : am_nl a2 = true) (k : am_Go sh M d Q (pc + 3) (a0 :: a1 :: a2 :: some (.int (iZ (a + n))) :: r) (st) σ) : am_Go sh M d Q pc (a0 :: a1 :: a2 :: some (.int (iZ a)) :: r) (st) σ :=
  go_iinc (i := 3) hd rfl hn (fun j o h1 h2 => by
    obtain rfl : j = 2 := by omega
    have h3 : some a2 = some o := h2
    cases h3
    exact hp) k
theorem go_inc4 {a0 a1 a2 a3 : Option Value} {r : List (Option Value)} {n a : Int} (hd : decode M.2.1 pc = .ok (.iinc 4 n, 3)) (hn : 4 < M.2.2.1) (hp : am_nl a3 = true) (k : am_Go sh M d Q (pc + 3) (a0 :: a1 :: a2 :: a3 :: some (.int (iZ (a + n))) :: r) (st) σ) : am_Go sh M d Q pc (a0 :: a1 :: a2 :: a3 :: some (.int (iZ a)) :: r) (st) σ :=
  go_iinc (i := 4) hd rfl hn (fun j o h1 h2 => by
    obtain rfl : j = 3 := by omega
    have h3 : some a3 = some o := h2
    cases h3
    exact hp) k
theorem go_inc5 {a0 a1 a2 a3 a4 : Option Value} {r : List (Option Value)} {n a : Int} (hd : decode M.2.1 pc = .ok (.iinc 5 n, 3)) (hn : 5 < M.2.2.1) (hp : am_nl a4 = true) (k : am_Go sh M d Q (pc + 3) (a0 :: a1 :: a2 :: a3 :: a4 :: some (.int (iZ (a + n))) :: r) (st) σ) : am_Go sh M d Q pc (a0 :: a1 :: a2 :: a3 :: a4 :: some (.int (iZ a)) :: r) (st) σ :=
  go_iinc (i := 5) hd rfl hn (fun j o h1 h2 => by
    obtain rfl : j = 4 := by omega
    have h3 : some a4 = some o := h2
    cases h3
    exact hp) k
theorem go_inc6 {a0 a1 a2 a3 a4 a5 : Option Value} {r : List (Option Value)} {n a : Int} (hd : decode M.2.1 pc = .ok (.iinc 6 n, 3)) (hn : 6 < M.2.2.1) (hp : am_nl a5 = true) (k : am_Go sh M d Q (pc + 3) (a0 :: a1 :: a2 :: a3 :: a4 :: a5 :: some (.int (iZ (a + n))) :: r) (st) σ) : am_Go sh M d Q pc (a0 :: a1 :: a2 :: a3 :: a4 :: a5 :: some (.int (iZ a)) :: r) (st) σ :=
  go_iinc (i := 6) hd rfl hn (fun j o h1 h2 => by
    obtain rfl : j = 5 := by omega
    have h3 : some a5 = some o := h2
    cases h3
    exact hp) k
theorem go_inc7 {a0 a1 a2 a3 a4 a5 a6 : Option Value} {r : List (Option Value)} {n a : Int} (hd : decode M.2.1 pc = .ok (.iinc 7 n, 3)) (hn : 7 < M.2.2.1) (hp : am_nl a6 = true) (k : am_Go sh M d Q (pc + 3) (a0 :: a1 :: a2 :: a3 :: a4 :: a5 :: a6 :: some (.int (iZ (a + n))) :: r) (st) σ) : am_Go sh M d Q pc (a0 :: a1 :: a2 :: a3 :: a4 :: a5 :: a6 :: some (.int (iZ a)) :: r) (st) σ :=
  go_iinc (i := 7) hd rfl hn (fun j o h1 h2 => by
    obtain rfl : j = 6 := by omega
    have h3 : some a6 = some o := h2
    cases h3
    exact hp) k
theorem go_inc8 {a0 a1 a2 a3 a4 a5 a6 a7 : Option Value} {r : List (Option Value)} {n a : Int} (hd : decode M.2.1 pc = .ok (.iinc 8 n, 3)) (hn : 8 < M.2.2.1) (hp : am_nl a7 = true) (k : am_Go sh M d Q (pc + 3) (a0 :: a1 :: a2 :: a3 :: a4 :: a5 :: a6 :: a7 :: some (.int (iZ (a + n))) :: r) (st) σ) : am_Go sh M d Q pc (a0 :: a1 :: a2 :: a3 :: a4 :: a5 :: a6 :: a7 :: some (.int (iZ a)) :: r) (st) σ :=
  go_iinc (i := 8) hd rfl hn (fun j o h1 h2 => by
    obtain rfl : j = 7 := by omega
    have h3 : some a7 = some o := h2
    cases h3
    exact hp) k
theorem go_inc9 {a0 a1 a2 a3 a4 a5 a6 a7 a8 : Option Value} {r : List (Option Value)} {n a : Int} (hd : decode M.2.1 pc = .ok (.iinc 9 n, 3)) (hn : 9 < M.2.2.1) (hp : am_nl a8 = true) (k : am_Go sh M d Q (pc + 3) (a0 :: a1 :: a2 :: a3 :: a4 :: a5 :: a6 :: a7 :: a8 :: some (.int (iZ (a + n))) :: r) (st) σ) : am_Go sh M d Q pc (a0 :: a1 :: a2 :: a3 :: a4 :: a5 :: a6 :: a7 :: a8 :: some (.int (iZ a)) :: r) (st) σ :=
  go_iinc (i := 9) hd rfl hn (fun j o h1 h2 => by
    obtain rfl : j = 8 := by omega
    have h3 : some a8 = some o := h2
    cases h3
    exact hp) k
theorem go_inc10 {a0 a1 a2 a3 a4 a5 a6 a7 a8 a9 : Option Value} {r : List (Option Value)} {n a : Int} (hd : decode M.2.1 pc = .ok (.iinc 10 n, 3)) (hn : 10 < M.2.2.1) (hp : am_nl a9 = true) (k : am_Go sh M d Q (pc + 3) (a0 :: a1 :: a2 :: a3 :: a4 :: a5 :: a6 :: a7 :: a8 :: a9 :: some (.int (iZ (a + n))) :: r) (st) σ) : am_Go sh M d Q pc (a0 :: a1 :: a2 :: a3 :: a4 :: a5 :: a6 :: a7 :: a8 :: a9 :: some (.int (iZ a)) :: r) (st) σ :=
  go_iinc (i := 10) hd rfl hn (fun j o h1 h2 => by
    obtain rfl : j = 9 := by omega
    have h3 : some a9 = some o := h2
    cases h3
    exact hp) k
theorem go_retI {P : Int → am_St → Prop} {a : Int} (hd : decode M.2.1 pc = .ok (.ireturn, 1)) (hr : M.2.2.2 = some .int) (q : P a σ) : am_Go sh M d (am_rI P) pc lv [.int (iZ a)] σ := go_ireturn hd hr ⟨a, rfl, q⟩
theorem go_retZ {P : Int → am_St → Prop} {a : Int} (hd : decode M.2.1 pc = .ok (.ireturn, 1)) (hr : M.2.2.2 = some .boolean) (ha : a = 0 ∨ a = 1) (q : P a σ) : am_Go sh M d (am_rI P) pc lv [.int (iZ a)] σ := go_zreturn hd hr ha ⟨a, rfl, q⟩
theorem go_retL {P : Int → am_St → Prop} {a : Int} (hd : decode M.2.1 pc = .ok (.lreturn, 1)) (hr : M.2.2.2 = some .long) (q : P a σ) : am_Go sh M d (am_rL P) pc lv [.long (lZ a)] σ := go_lreturn hd hr ⟨a, rfl, q⟩
theorem go_retV {P : am_St → Prop} (hd : decode M.2.1 pc = .ok (.return_, 1)) (hr : M.2.2.2 = none) (q : P σ) : am_Go sh M d (am_rV P) pc lv [] σ := go_return hd hr ⟨rfl, q⟩
theorem go_cvI0 {P2 : Int → am_St → Prop} {k ci : Nat} {ks : List Nat} {r0 : vw_C} (hd : decode M.2.1 pc = .ok (.invokevirtual idx, 3)) (hL : Cond.methodLink M.1.cls idx M2.1 ∈ am_tbl) (hM : am_MV M2 0) (hk : sh[k]? = some (.inr (ci, ks))) (hci : am_cl[ci]? = some r0) (hcn : r0.1 = M2.1.cls) (hr : (st.map fun v => v.category).sum ≤ 8) (hdep : d2 < d) (hE : am_Ev sh M2 d2 (.ref k :: []) σ (am_rI P2)) (kk : ∀ x σ2, P2 x σ2 → am_Go sh M d Q (pc + 3) lv (.int (iZ x) :: st) σ2) : am_Go sh M d Q pc lv (.ref k :: st) σ :=
  go_callV (As := []) hd hL hM hk hci hcn rfl hr hdep hE (fun r σ2 hq => by obtain ⟨x, rfl, h⟩ := hq; exact kk x σ2 h)
theorem go_cvP0 {v : Int} {k ci : Nat} {ks : List Nat} {r0 : vw_C} (hd : decode M.2.1 pc = .ok (.invokevirtual idx, 3)) (hL : Cond.methodLink M.1.cls idx M2.1 ∈ am_tbl) (hM : am_MV M2 0) (hk : sh[k]? = some (.inr (ci, ks))) (hci : am_cl[ci]? = some r0) (hcn : r0.1 = M2.1.cls) (hr : (st.map fun v => v.category).sum ≤ 8) (hdep : d2 < d) (hE : am_Ev sh M2 d2 (.ref k :: []) σ (am_rI (fun x σ2 => x = v ∧ σ2 = σ))) (kk : am_Go sh M d Q (pc + 3) lv (.int (iZ v) :: st) σ) : am_Go sh M d Q pc lv (.ref k :: st) σ :=
  go_callV (As := []) hd hL hM hk hci hcn rfl hr hdep hE (fun r σ2 hq => by obtain ⟨x, rfl, rfl, rfl⟩ := hq; exact kk)
theorem go_cvL0 {P2 : Int → am_St → Prop} {k ci : Nat} {ks : List Nat} {r0 : vw_C} (hd : decode M.2.1 pc = .ok (.invokevirtual idx, 3)) (hL : Cond.methodLink M.1.cls idx M2.1 ∈ am_tbl) (hM : am_MV M2 0) (hk : sh[k]? = some (.inr (ci, ks))) (hci : am_cl[ci]? = some r0) (hcn : r0.1 = M2.1.cls) (hr : (st.map fun v => v.category).sum ≤ 8) (hdep : d2 < d) (hE : am_Ev sh M2 d2 (.ref k :: []) σ (am_rL P2)) (kk : ∀ x σ2, P2 x σ2 → am_Go sh M d Q (pc + 3) lv (.long (lZ x) :: st) σ2) : am_Go sh M d Q pc lv (.ref k :: st) σ :=
  go_callV (As := []) hd hL hM hk hci hcn rfl hr hdep hE (fun r σ2 hq => by obtain ⟨x, rfl, h⟩ := hq; exact kk x σ2 h)
theorem go_cvV0 {P2 : am_St → Prop} {k ci : Nat} {ks : List Nat} {r0 : vw_C} (hd : decode M.2.1 pc = .ok (.invokevirtual idx, 3)) (hL : Cond.methodLink M.1.cls idx M2.1 ∈ am_tbl) (hM : am_MV M2 0) (hk : sh[k]? = some (.inr (ci, ks))) (hci : am_cl[ci]? = some r0) (hcn : r0.1 = M2.1.cls) (hr : (st.map fun v => v.category).sum ≤ 8) (hdep : d2 < d) (hE : am_Ev sh M2 d2 (.ref k :: []) σ (am_rV P2)) (kk : ∀ σ2, P2 σ2 → am_Go sh M d Q (pc + 3) lv st σ2) : am_Go sh M d Q pc lv (.ref k :: st) σ :=
  go_callV (As := []) hd hL hM hk hci hcn rfl hr hdep hE (fun r σ2 hq => by obtain ⟨rfl, h⟩ := hq; exact kk σ2 h)
theorem go_csI0 {P2 : Int → am_St → Prop} (hd : decode M.2.1 pc = .ok (.invokestatic idx, 3)) (hL : Cond.methodLink M.1.cls idx M2.1 ∈ am_tbl) (hM : am_MS M2 0) (hr : (st.map fun v => v.category).sum ≤ 8) (hdep : d2 < d) (hE : am_Ev sh M2 d2 [] σ (am_rI P2)) (kk : ∀ x σ2, P2 x σ2 → am_Go sh M d Q (pc + 3) lv (.int (iZ x) :: st) σ2) : am_Go sh M d Q pc lv (st) σ :=
  go_callS (As := []) hd hL hM rfl hr hdep hE (fun r σ2 hq => by obtain ⟨x, rfl, h⟩ := hq; exact kk x σ2 h)
theorem go_csP0 {v : Int} (hd : decode M.2.1 pc = .ok (.invokestatic idx, 3)) (hL : Cond.methodLink M.1.cls idx M2.1 ∈ am_tbl) (hM : am_MS M2 0) (hr : (st.map fun v => v.category).sum ≤ 8) (hdep : d2 < d) (hE : am_Ev sh M2 d2 [] σ (am_rI (fun x σ2 => x = v ∧ σ2 = σ))) (kk : am_Go sh M d Q (pc + 3) lv (.int (iZ v) :: st) σ) : am_Go sh M d Q pc lv (st) σ :=
  go_callS (As := []) hd hL hM rfl hr hdep hE (fun r σ2 hq => by obtain ⟨x, rfl, rfl, rfl⟩ := hq; exact kk)
theorem go_csL0 {P2 : Int → am_St → Prop} (hd : decode M.2.1 pc = .ok (.invokestatic idx, 3)) (hL : Cond.methodLink M.1.cls idx M2.1 ∈ am_tbl) (hM : am_MS M2 0) (hr : (st.map fun v => v.category).sum ≤ 8) (hdep : d2 < d) (hE : am_Ev sh M2 d2 [] σ (am_rL P2)) (kk : ∀ x σ2, P2 x σ2 → am_Go sh M d Q (pc + 3) lv (.long (lZ x) :: st) σ2) : am_Go sh M d Q pc lv (st) σ :=
  go_callS (As := []) hd hL hM rfl hr hdep hE (fun r σ2 hq => by obtain ⟨x, rfl, h⟩ := hq; exact kk x σ2 h)
theorem go_csV0 {P2 : am_St → Prop} (hd : decode M.2.1 pc = .ok (.invokestatic idx, 3)) (hL : Cond.methodLink M.1.cls idx M2.1 ∈ am_tbl) (hM : am_MS M2 0) (hr : (st.map fun v => v.category).sum ≤ 8) (hdep : d2 < d) (hE : am_Ev sh M2 d2 [] σ (am_rV P2)) (kk : ∀ σ2, P2 σ2 → am_Go sh M d Q (pc + 3) lv st σ2) : am_Go sh M d Q pc lv (st) σ :=
  go_callS (As := []) hd hL hM rfl hr hdep hE (fun r σ2 hq => by obtain ⟨rfl, h⟩ := hq; exact kk σ2 h)
theorem go_cnI0 {P2 : Int → am_St → Prop} {host : String} (hd : decode M.2.1 pc = .ok (.invokestatic idx, 3)) (hL : (M.1.cls, idx, M2.1, host) ∈ am_nest) (hM : am_MS M2 0) (hr : (st.map fun v => v.category).sum ≤ 8) (hdep : d2 < d) (hE : am_Ev sh M2 d2 [] σ (am_rI P2)) (kk : ∀ x σ2, P2 x σ2 → am_Go sh M d Q (pc + 3) lv (.int (iZ x) :: st) σ2) : am_Go sh M d Q pc lv (st) σ :=
  go_callSN (As := []) hd hL hM rfl hr hdep hE (fun r σ2 hq => by obtain ⟨x, rfl, h⟩ := hq; exact kk x σ2 h)
theorem go_cnP0 {v : Int} {host : String} (hd : decode M.2.1 pc = .ok (.invokestatic idx, 3)) (hL : (M.1.cls, idx, M2.1, host) ∈ am_nest) (hM : am_MS M2 0) (hr : (st.map fun v => v.category).sum ≤ 8) (hdep : d2 < d) (hE : am_Ev sh M2 d2 [] σ (am_rI (fun x σ2 => x = v ∧ σ2 = σ))) (kk : am_Go sh M d Q (pc + 3) lv (.int (iZ v) :: st) σ) : am_Go sh M d Q pc lv (st) σ :=
  go_callSN (As := []) hd hL hM rfl hr hdep hE (fun r σ2 hq => by obtain ⟨x, rfl, rfl, rfl⟩ := hq; exact kk)
theorem go_cnL0 {P2 : Int → am_St → Prop} {host : String} (hd : decode M.2.1 pc = .ok (.invokestatic idx, 3)) (hL : (M.1.cls, idx, M2.1, host) ∈ am_nest) (hM : am_MS M2 0) (hr : (st.map fun v => v.category).sum ≤ 8) (hdep : d2 < d) (hE : am_Ev sh M2 d2 [] σ (am_rL P2)) (kk : ∀ x σ2, P2 x σ2 → am_Go sh M d Q (pc + 3) lv (.long (lZ x) :: st) σ2) : am_Go sh M d Q pc lv (st) σ :=
  go_callSN (As := []) hd hL hM rfl hr hdep hE (fun r σ2 hq => by obtain ⟨x, rfl, h⟩ := hq; exact kk x σ2 h)
theorem go_cnV0 {P2 : am_St → Prop} {host : String} (hd : decode M.2.1 pc = .ok (.invokestatic idx, 3)) (hL : (M.1.cls, idx, M2.1, host) ∈ am_nest) (hM : am_MS M2 0) (hr : (st.map fun v => v.category).sum ≤ 8) (hdep : d2 < d) (hE : am_Ev sh M2 d2 [] σ (am_rV P2)) (kk : ∀ σ2, P2 σ2 → am_Go sh M d Q (pc + 3) lv st σ2) : am_Go sh M d Q pc lv (st) σ :=
  go_callSN (As := []) hd hL hM rfl hr hdep hE (fun r σ2 hq => by obtain ⟨rfl, h⟩ := hq; exact kk σ2 h)
theorem go_cvI1 {P2 : Int → am_St → Prop} {k ci : Nat} {ks : List Nat} {r0 : vw_C} {b1 : Value} (hd : decode M.2.1 pc = .ok (.invokevirtual idx, 3)) (hL : Cond.methodLink M.1.cls idx M2.1 ∈ am_tbl) (hM : am_MV M2 1) (hk : sh[k]? = some (.inr (ci, ks))) (hci : am_cl[ci]? = some r0) (hcn : r0.1 = M2.1.cls) (hr : (st.map fun v => v.category).sum ≤ 8) (hdep : d2 < d) (hE : am_Ev sh M2 d2 (.ref k :: [b1]) σ (am_rI P2)) (kk : ∀ x σ2, P2 x σ2 → am_Go sh M d Q (pc + 3) lv (.int (iZ x) :: st) σ2) : am_Go sh M d Q pc lv (b1 :: .ref k :: st) σ :=
  go_callV (As := [b1]) hd hL hM hk hci hcn rfl hr hdep hE (fun r σ2 hq => by obtain ⟨x, rfl, h⟩ := hq; exact kk x σ2 h)
theorem go_cvP1 {v : Int} {k ci : Nat} {ks : List Nat} {r0 : vw_C} {b1 : Value} (hd : decode M.2.1 pc = .ok (.invokevirtual idx, 3)) (hL : Cond.methodLink M.1.cls idx M2.1 ∈ am_tbl) (hM : am_MV M2 1) (hk : sh[k]? = some (.inr (ci, ks))) (hci : am_cl[ci]? = some r0) (hcn : r0.1 = M2.1.cls) (hr : (st.map fun v => v.category).sum ≤ 8) (hdep : d2 < d) (hE : am_Ev sh M2 d2 (.ref k :: [b1]) σ (am_rI (fun x σ2 => x = v ∧ σ2 = σ))) (kk : am_Go sh M d Q (pc + 3) lv (.int (iZ v) :: st) σ) : am_Go sh M d Q pc lv (b1 :: .ref k :: st) σ :=
  go_callV (As := [b1]) hd hL hM hk hci hcn rfl hr hdep hE (fun r σ2 hq => by obtain ⟨x, rfl, rfl, rfl⟩ := hq; exact kk)
theorem go_cvL1 {P2 : Int → am_St → Prop} {k ci : Nat} {ks : List Nat} {r0 : vw_C} {b1 : Value} (hd : decode M.2.1 pc = .ok (.invokevirtual idx, 3)) (hL : Cond.methodLink M.1.cls idx M2.1 ∈ am_tbl) (hM : am_MV M2 1) (hk : sh[k]? = some (.inr (ci, ks))) (hci : am_cl[ci]? = some r0) (hcn : r0.1 = M2.1.cls) (hr : (st.map fun v => v.category).sum ≤ 8) (hdep : d2 < d) (hE : am_Ev sh M2 d2 (.ref k :: [b1]) σ (am_rL P2)) (kk : ∀ x σ2, P2 x σ2 → am_Go sh M d Q (pc + 3) lv (.long (lZ x) :: st) σ2) : am_Go sh M d Q pc lv (b1 :: .ref k :: st) σ :=
  go_callV (As := [b1]) hd hL hM hk hci hcn rfl hr hdep hE (fun r σ2 hq => by obtain ⟨x, rfl, h⟩ := hq; exact kk x σ2 h)
theorem go_cvV1 {P2 : am_St → Prop} {k ci : Nat} {ks : List Nat} {r0 : vw_C} {b1 : Value} (hd : decode M.2.1 pc = .ok (.invokevirtual idx, 3)) (hL : Cond.methodLink M.1.cls idx M2.1 ∈ am_tbl) (hM : am_MV M2 1) (hk : sh[k]? = some (.inr (ci, ks))) (hci : am_cl[ci]? = some r0) (hcn : r0.1 = M2.1.cls) (hr : (st.map fun v => v.category).sum ≤ 8) (hdep : d2 < d) (hE : am_Ev sh M2 d2 (.ref k :: [b1]) σ (am_rV P2)) (kk : ∀ σ2, P2 σ2 → am_Go sh M d Q (pc + 3) lv st σ2) : am_Go sh M d Q pc lv (b1 :: .ref k :: st) σ :=
  go_callV (As := [b1]) hd hL hM hk hci hcn rfl hr hdep hE (fun r σ2 hq => by obtain ⟨rfl, h⟩ := hq; exact kk σ2 h)
theorem go_csI1 {P2 : Int → am_St → Prop} {b1 : Value} (hd : decode M.2.1 pc = .ok (.invokestatic idx, 3)) (hL : Cond.methodLink M.1.cls idx M2.1 ∈ am_tbl) (hM : am_MS M2 1) (hr : (st.map fun v => v.category).sum ≤ 8) (hdep : d2 < d) (hE : am_Ev sh M2 d2 [b1] σ (am_rI P2)) (kk : ∀ x σ2, P2 x σ2 → am_Go sh M d Q (pc + 3) lv (.int (iZ x) :: st) σ2) : am_Go sh M d Q pc lv (b1 :: st) σ :=
  go_callS (As := [b1]) hd hL hM rfl hr hdep hE (fun r σ2 hq => by obtain ⟨x, rfl, h⟩ := hq; exact kk x σ2 h)
theorem go_csP1 {v : Int} {b1 : Value} (hd : decode M.2.1 pc = .ok (.invokestatic idx, 3)) (hL : Cond.methodLink M.1.cls idx M2.1 ∈ am_tbl) (hM : am_MS M2 1) (hr : (st.map fun v => v.category).sum ≤ 8) (hdep : d2 < d) (hE : am_Ev sh M2 d2 [b1] σ (am_rI (fun x σ2 => x = v ∧ σ2 = σ))) (kk : am_Go sh M d Q (pc + 3) lv (.int (iZ v) :: st) σ) : am_Go sh M d Q pc lv (b1 :: st) σ :=
  go_callS (As := [b1]) hd hL hM rfl hr hdep hE (fun r σ2 hq => by obtain ⟨x, rfl, rfl, rfl⟩ := hq; exact kk)
theorem go_csL1 {P2 : Int → am_St → Prop} {b1 : Value} (hd : decode M.2.1 pc = .ok (.invokestatic idx, 3)) (hL : Cond.methodLink M.1.cls idx M2.1 ∈ am_tbl) (hM : am_MS M2 1) (hr : (st.map fun v => v.category).sum ≤ 8) (hdep : d2 < d) (hE : am_Ev sh M2 d2 [b1] σ (am_rL P2)) (kk : ∀ x σ2, P2 x σ2 → am_Go sh M d Q (pc + 3) lv (.long (lZ x) :: st) σ2) : am_Go sh M d Q pc lv (b1 :: st) σ :=
  go_callS (As := [b1]) hd hL hM rfl hr hdep hE (fun r σ2 hq => by obtain ⟨x, rfl, h⟩ := hq; exact kk x σ2 h)
theorem go_csV1 {P2 : am_St → Prop} {b1 : Value} (hd : decode M.2.1 pc = .ok (.invokestatic idx, 3)) (hL : Cond.methodLink M.1.cls idx M2.1 ∈ am_tbl) (hM : am_MS M2 1) (hr : (st.map fun v => v.category).sum ≤ 8) (hdep : d2 < d) (hE : am_Ev sh M2 d2 [b1] σ (am_rV P2)) (kk : ∀ σ2, P2 σ2 → am_Go sh M d Q (pc + 3) lv st σ2) : am_Go sh M d Q pc lv (b1 :: st) σ :=
  go_callS (As := [b1]) hd hL hM rfl hr hdep hE (fun r σ2 hq => by obtain ⟨rfl, h⟩ := hq; exact kk σ2 h)
theorem go_cnI1 {P2 : Int → am_St → Prop} {host : String} {b1 : Value} (hd : decode M.2.1 pc = .ok (.invokestatic idx, 3)) (hL : (M.1.cls, idx, M2.1, host) ∈ am_nest) (hM : am_MS M2 1) (hr : (st.map fun v => v.category).sum ≤ 8) (hdep : d2 < d) (hE : am_Ev sh M2 d2 [b1] σ (am_rI P2)) (kk : ∀ x σ2, P2 x σ2 → am_Go sh M d Q (pc + 3) lv (.int (iZ x) :: st) σ2) : am_Go sh M d Q pc lv (b1 :: st) σ :=
  go_callSN (As := [b1]) hd hL hM rfl hr hdep hE (fun r σ2 hq => by obtain ⟨x, rfl, h⟩ := hq; exact kk x σ2 h)
theorem go_cnP1 {v : Int} {host : String} {b1 : Value} (hd : decode M.2.1 pc = .ok (.invokestatic idx, 3)) (hL : (M.1.cls, idx, M2.1, host) ∈ am_nest) (hM : am_MS M2 1) (hr : (st.map fun v => v.category).sum ≤ 8) (hdep : d2 < d) (hE : am_Ev sh M2 d2 [b1] σ (am_rI (fun x σ2 => x = v ∧ σ2 = σ))) (kk : am_Go sh M d Q (pc + 3) lv (.int (iZ v) :: st) σ) : am_Go sh M d Q pc lv (b1 :: st) σ :=
  go_callSN (As := [b1]) hd hL hM rfl hr hdep hE (fun r σ2 hq => by obtain ⟨x, rfl, rfl, rfl⟩ := hq; exact kk)
theorem go_cnL1 {P2 : Int → am_St → Prop} {host : String} {b1 : Value} (hd : decode M.2.1 pc = .ok (.invokestatic idx, 3)) (hL : (M.1.cls, idx, M2.1, host) ∈ am_nest) (hM : am_MS M2 1) (hr : (st.map fun v => v.category).sum ≤ 8) (hdep : d2 < d) (hE : am_Ev sh M2 d2 [b1] σ (am_rL P2)) (kk : ∀ x σ2, P2 x σ2 → am_Go sh M d Q (pc + 3) lv (.long (lZ x) :: st) σ2) : am_Go sh M d Q pc lv (b1 :: st) σ :=
  go_callSN (As := [b1]) hd hL hM rfl hr hdep hE (fun r σ2 hq => by obtain ⟨x, rfl, h⟩ := hq; exact kk x σ2 h)
theorem go_cnV1 {P2 : am_St → Prop} {host : String} {b1 : Value} (hd : decode M.2.1 pc = .ok (.invokestatic idx, 3)) (hL : (M.1.cls, idx, M2.1, host) ∈ am_nest) (hM : am_MS M2 1) (hr : (st.map fun v => v.category).sum ≤ 8) (hdep : d2 < d) (hE : am_Ev sh M2 d2 [b1] σ (am_rV P2)) (kk : ∀ σ2, P2 σ2 → am_Go sh M d Q (pc + 3) lv st σ2) : am_Go sh M d Q pc lv (b1 :: st) σ :=
  go_callSN (As := [b1]) hd hL hM rfl hr hdep hE (fun r σ2 hq => by obtain ⟨rfl, h⟩ := hq; exact kk σ2 h)
theorem go_cvI2 {P2 : Int → am_St → Prop} {k ci : Nat} {ks : List Nat} {r0 : vw_C} {b1 b2 : Value} (hd : decode M.2.1 pc = .ok (.invokevirtual idx, 3)) (hL : Cond.methodLink M.1.cls idx M2.1 ∈ am_tbl) (hM : am_MV M2 2) (hk : sh[k]? = some (.inr (ci, ks))) (hci : am_cl[ci]? = some r0) (hcn : r0.1 = M2.1.cls) (hr : (st.map fun v => v.category).sum ≤ 8) (hdep : d2 < d) (hE : am_Ev sh M2 d2 (.ref k :: [b1, b2]) σ (am_rI P2)) (kk : ∀ x σ2, P2 x σ2 → am_Go sh M d Q (pc + 3) lv (.int (iZ x) :: st) σ2) : am_Go sh M d Q pc lv (b2 :: b1 :: .ref k :: st) σ :=
  go_callV (As := [b1, b2]) hd hL hM hk hci hcn rfl hr hdep hE (fun r σ2 hq => by obtain ⟨x, rfl, h⟩ := hq; exact kk x σ2 h)
theorem go_cvP2 {v : Int} {k ci : Nat} {ks : List Nat} {r0 : vw_C} {b1 b2 : Value} (hd : decode M.2.1 pc = .ok (.invokevirtual idx, 3)) (hL : Cond.methodLink M.1.cls idx M2.1 ∈ am_tbl) (hM : am_MV M2 2) (hk : sh[k]? = some (.inr (ci, ks))) (hci : am_cl[ci]? = some r0) (hcn : r0.1 = M2.1.cls) (hr : (st.map fun v => v.category).sum ≤ 8) (hdep : d2 < d) (hE : am_Ev sh M2 d2 (.ref k :: [b1, b2]) σ (am_rI (fun x σ2 => x = v ∧ σ2 = σ))) (kk : am_Go sh M d Q (pc + 3) lv (.int (iZ v) :: st) σ) : am_Go sh M d Q pc lv (b2 :: b1 :: .ref k :: st) σ :=
  go_callV (As := [b1, b2]) hd hL hM hk hci hcn rfl hr hdep hE (fun r σ2 hq => by obtain ⟨x, rfl, rfl, rfl⟩ := hq; exact kk)
theorem go_cvL2 {P2 : Int → am_St → Prop} {k ci : Nat} {ks : List Nat} {r0 : vw_C} {b1 b2 : Value} (hd : decode M.2.1 pc = .ok (.invokevirtual idx, 3)) (hL : Cond.methodLink M.1.cls idx M2.1 ∈ am_tbl) (hM : am_MV M2 2) (hk : sh[k]? = some (.inr (ci, ks))) (hci : am_cl[ci]? = some r0) (hcn : r0.1 = M2.1.cls) (hr : (st.map fun v => v.category).sum ≤ 8) (hdep : d2 < d) (hE : am_Ev sh M2 d2 (.ref k :: [b1, b2]) σ (am_rL P2)) (kk : ∀ x σ2, P2 x σ2 → am_Go sh M d Q (pc + 3) lv (.long (lZ x) :: st) σ2) : am_Go sh M d Q pc lv (b2 :: b1 :: .ref k :: st) σ :=
  go_callV (As := [b1, b2]) hd hL hM hk hci hcn rfl hr hdep hE (fun r σ2 hq => by obtain ⟨x, rfl, h⟩ := hq; exact kk x σ2 h)
theorem go_cvV2 {P2 : am_St → Prop} {k ci : Nat} {ks : List Nat} {r0 : vw_C} {b1 b2 : Value} (hd : decode M.2.1 pc = .ok (.invokevirtual idx, 3)) (hL : Cond.methodLink M.1.cls idx M2.1 ∈ am_tbl) (hM : am_MV M2 2) (hk : sh[k]? = some (.inr (ci, ks))) (hci : am_cl[ci]? = some r0) (hcn : r0.1 = M2.1.cls) (hr : (st.map fun v => v.category).sum ≤ 8) (hdep : d2 < d) (hE : am_Ev sh M2 d2 (.ref k :: [b1, b2]) σ (am_rV P2)) (kk : ∀ σ2, P2 σ2 → am_Go sh M d Q (pc + 3) lv st σ2) : am_Go sh M d Q pc lv (b2 :: b1 :: .ref k :: st) σ :=
  go_callV (As := [b1, b2]) hd hL hM hk hci hcn rfl hr hdep hE (fun r σ2 hq => by obtain ⟨rfl, h⟩ := hq; exact kk σ2 h)
theorem go_csI2 {P2 : Int → am_St → Prop} {b1 b2 : Value} (hd : decode M.2.1 pc = .ok (.invokestatic idx, 3)) (hL : Cond.methodLink M.1.cls idx M2.1 ∈ am_tbl) (hM : am_MS M2 2) (hr : (st.map fun v => v.category).sum ≤ 8) (hdep : d2 < d) (hE : am_Ev sh M2 d2 [b1, b2] σ (am_rI P2)) (kk : ∀ x σ2, P2 x σ2 → am_Go sh M d Q (pc + 3) lv (.int (iZ x) :: st) σ2) : am_Go sh M d Q pc lv (b2 :: b1 :: st) σ :=
  go_callS (As := [b1, b2]) hd hL hM rfl hr hdep hE (fun r σ2 hq => by obtain ⟨x, rfl, h⟩ := hq; exact kk x σ2 h)
theorem go_csP2 {v : Int} {b1 b2 : Value} (hd : decode M.2.1 pc = .ok (.invokestatic idx, 3)) (hL : Cond.methodLink M.1.cls idx M2.1 ∈ am_tbl) (hM : am_MS M2 2) (hr : (st.map fun v => v.category).sum ≤ 8) (hdep : d2 < d) (hE : am_Ev sh M2 d2 [b1, b2] σ (am_rI (fun x σ2 => x = v ∧ σ2 = σ))) (kk : am_Go sh M d Q (pc + 3) lv (.int (iZ v) :: st) σ) : am_Go sh M d Q pc lv (b2 :: b1 :: st) σ :=
  go_callS (As := [b1, b2]) hd hL hM rfl hr hdep hE (fun r σ2 hq => by obtain ⟨x, rfl, rfl, rfl⟩ := hq; exact kk)
theorem go_csL2 {P2 : Int → am_St → Prop} {b1 b2 : Value} (hd : decode M.2.1 pc = .ok (.invokestatic idx, 3)) (hL : Cond.methodLink M.1.cls idx M2.1 ∈ am_tbl) (hM : am_MS M2 2) (hr : (st.map fun v => v.category).sum ≤ 8) (hdep : d2 < d) (hE : am_Ev sh M2 d2 [b1, b2] σ (am_rL P2)) (kk : ∀ x σ2, P2 x σ2 → am_Go sh M d Q (pc + 3) lv (.long (lZ x) :: st) σ2) : am_Go sh M d Q pc lv (b2 :: b1 :: st) σ :=
  go_callS (As := [b1, b2]) hd hL hM rfl hr hdep hE (fun r σ2 hq => by obtain ⟨x, rfl, h⟩ := hq; exact kk x σ2 h)
theorem go_csV2 {P2 : am_St → Prop} {b1 b2 : Value} (hd : decode M.2.1 pc = .ok (.invokestatic idx, 3)) (hL : Cond.methodLink M.1.cls idx M2.1 ∈ am_tbl) (hM : am_MS M2 2) (hr : (st.map fun v => v.category).sum ≤ 8) (hdep : d2 < d) (hE : am_Ev sh M2 d2 [b1, b2] σ (am_rV P2)) (kk : ∀ σ2, P2 σ2 → am_Go sh M d Q (pc + 3) lv st σ2) : am_Go sh M d Q pc lv (b2 :: b1 :: st) σ :=
  go_callS (As := [b1, b2]) hd hL hM rfl hr hdep hE (fun r σ2 hq => by obtain ⟨rfl, h⟩ := hq; exact kk σ2 h)
theorem go_cnI2 {P2 : Int → am_St → Prop} {host : String} {b1 b2 : Value} (hd : decode M.2.1 pc = .ok (.invokestatic idx, 3)) (hL : (M.1.cls, idx, M2.1, host) ∈ am_nest) (hM : am_MS M2 2) (hr : (st.map fun v => v.category).sum ≤ 8) (hdep : d2 < d) (hE : am_Ev sh M2 d2 [b1, b2] σ (am_rI P2)) (kk : ∀ x σ2, P2 x σ2 → am_Go sh M d Q (pc + 3) lv (.int (iZ x) :: st) σ2) : am_Go sh M d Q pc lv (b2 :: b1 :: st) σ :=
  go_callSN (As := [b1, b2]) hd hL hM rfl hr hdep hE (fun r σ2 hq => by obtain ⟨x, rfl, h⟩ := hq; exact kk x σ2 h)
theorem go_cnP2 {v : Int} {host : String} {b1 b2 : Value} (hd : decode M.2.1 pc = .ok (.invokestatic idx, 3)) (hL : (M.1.cls, idx, M2.1, host) ∈ am_nest) (hM : am_MS M2 2) (hr : (st.map fun v => v.category).sum ≤ 8) (hdep : d2 < d) (hE : am_Ev sh M2 d2 [b1, b2] σ (am_rI (fun x σ2 => x = v ∧ σ2 = σ))) (kk : am_Go sh M d Q (pc + 3) lv (.int (iZ v) :: st) σ) : am_Go sh M d Q pc lv (b2 :: b1 :: st) σ :=
  go_callSN (As := [b1, b2]) hd hL hM rfl hr hdep hE (fun r σ2 hq => by obtain ⟨x, rfl, rfl, rfl⟩ := hq; exact kk)
theorem go_cnL2 {P2 : Int → am_St → Prop} {host : String} {b1 b2 : Value} (hd : decode M.2.1 pc = .ok (.invokestatic idx, 3)) (hL : (M.1.cls, idx, M2.1, host) ∈ am_nest) (hM : am_MS M2 2) (hr : (st.map fun v => v.category).sum ≤ 8) (hdep : d2 < d) (hE : am_Ev sh M2 d2 [b1, b2] σ (am_rL P2)) (kk : ∀ x σ2, P2 x σ2 → am_Go sh M d Q (pc + 3) lv (.long (lZ x) :: st) σ2) : am_Go sh M d Q pc lv (b2 :: b1 :: st) σ :=
  go_callSN (As := [b1, b2]) hd hL hM rfl hr hdep hE (fun r σ2 hq => by obtain ⟨x, rfl, h⟩ := hq; exact kk x σ2 h)
theorem go_cnV2 {P2 : am_St → Prop} {host : String} {b1 b2 : Value} (hd : decode M.2.1 pc = .ok (.invokestatic idx, 3)) (hL : (M.1.cls, idx, M2.1, host) ∈ am_nest) (hM : am_MS M2 2) (hr : (st.map fun v => v.category).sum ≤ 8) (hdep : d2 < d) (hE : am_Ev sh M2 d2 [b1, b2] σ (am_rV P2)) (kk : ∀ σ2, P2 σ2 → am_Go sh M d Q (pc + 3) lv st σ2) : am_Go sh M d Q pc lv (b2 :: b1 :: st) σ :=
  go_callSN (As := [b1, b2]) hd hL hM rfl hr hdep hE (fun r σ2 hq => by obtain ⟨rfl, h⟩ := hq; exact kk σ2 h)
theorem go_cvI3 {P2 : Int → am_St → Prop} {k ci : Nat} {ks : List Nat} {r0 : vw_C} {b1 b2 b3 : Value} (hd : decode M.2.1 pc = .ok (.invokevirtual idx, 3)) (hL : Cond.methodLink M.1.cls idx M2.1 ∈ am_tbl) (hM : am_MV M2 3) (hk : sh[k]? = some (.inr (ci, ks))) (hci : am_cl[ci]? = some r0) (hcn : r0.1 = M2.1.cls) (hr : (st.map fun v => v.category).sum ≤ 8) (hdep : d2 < d) (hE : am_Ev sh M2 d2 (.ref k :: [b1, b2, b3]) σ (am_rI P2)) (kk : ∀ x σ2, P2 x σ2 → am_Go sh M d Q (pc + 3) lv (.int (iZ x) :: st) σ2) : am_Go sh M d Q pc lv (b3 :: b2 :: b1 :: .ref k :: st) σ :=
  go_callV (As := [b1, b2, b3]) hd hL hM hk hci hcn rfl hr hdep hE (fun r σ2 hq => by obtain ⟨x, rfl, h⟩ := hq; exact kk x σ2 h)
theorem go_cvP3 {v : Int} {k ci : Nat} {ks : List Nat} {r0 : vw_C} {b1 b2 b3 : Value} (hd : decode M.2.1 pc = .ok (.invokevirtual idx, 3)) (hL : Cond.methodLink M.1.cls idx M2.1 ∈ am_tbl) (hM : am_MV M2 3) (hk : sh[k]? = some (.inr (ci, ks))) (hci : am_cl[ci]? = some r0) (hcn : r0.1 = M2.1.cls) (hr : (st.map fun v => v.category).sum ≤ 8) (hdep : d2 < d) (hE : am_Ev sh M2 d2 (.ref k :: [b1, b2, b3]) σ (am_rI (fun x σ2 => x = v ∧ σ2 = σ))) (kk : am_Go sh M d Q (pc + 3) lv (.int (iZ v) :: st) σ) : am_Go sh M d Q pc lv (b3 :: b2 :: b1 :: .ref k :: st) σ :=
  go_callV (As := [b1, b2, b3]) hd hL hM hk hci hcn rfl hr hdep hE (fun r σ2 hq => by obtain ⟨x, rfl, rfl, rfl⟩ := hq; exact kk)
theorem go_cvL3 {P2 : Int → am_St → Prop} {k ci : Nat} {ks : List Nat} {r0 : vw_C} {b1 b2 b3 : Value} (hd : decode M.2.1 pc = .ok (.invokevirtual idx, 3)) (hL : Cond.methodLink M.1.cls idx M2.1 ∈ am_tbl) (hM : am_MV M2 3) (hk : sh[k]? = some (.inr (ci, ks))) (hci : am_cl[ci]? = some r0) (hcn : r0.1 = M2.1.cls) (hr : (st.map fun v => v.category).sum ≤ 8) (hdep : d2 < d) (hE : am_Ev sh M2 d2 (.ref k :: [b1, b2, b3]) σ (am_rL P2)) (kk : ∀ x σ2, P2 x σ2 → am_Go sh M d Q (pc + 3) lv (.long (lZ x) :: st) σ2) : am_Go sh M d Q pc lv (b3 :: b2 :: b1 :: .ref k :: st) σ :=
  go_callV (As := [b1, b2, b3]) hd hL hM hk hci hcn rfl hr hdep hE (fun r σ2 hq => by obtain ⟨x, rfl, h⟩ := hq; exact kk x σ2 h)
theorem go_cvV3 {P2 : am_St → Prop} {k ci : Nat} {ks : List Nat} {r0 : vw_C} {b1 b2 b3 : Value} (hd : decode M.2.1 pc = .ok (.invokevirtual idx, 3)) (hL : Cond.methodLink M.1.cls idx M2.1 ∈ am_tbl) (hM : am_MV M2 3) (hk : sh[k]? = some (.inr (ci, ks))) (hci : am_cl[ci]? = some r0) (hcn : r0.1 = M2.1.cls) (hr : (st.map fun v => v.category).sum ≤ 8) (hdep : d2 < d) (hE : am_Ev sh M2 d2 (.ref k :: [b1, b2, b3]) σ (am_rV P2)) (kk : ∀ σ2, P2 σ2 → am_Go sh M d Q (pc + 3) lv st σ2) : am_Go sh M d Q pc lv (b3 :: b2 :: b1 :: .ref k :: st) σ :=
  go_callV (As := [b1, b2, b3]) hd hL hM hk hci hcn rfl hr hdep hE (fun r σ2 hq => by obtain ⟨rfl, h⟩ := hq; exact kk σ2 h)
theorem go_csI3 {P2 : Int → am_St → Prop} {b1 b2 b3 : Value} (hd : decode M.2.1 pc = .ok (.invokestatic idx, 3)) (hL : Cond.methodLink M.1.cls idx M2.1 ∈ am_tbl) (hM : am_MS M2 3) (hr : (st.map fun v => v.category).sum ≤ 8) (hdep : d2 < d) (hE : am_Ev sh M2 d2 [b1, b2, b3] σ (am_rI P2)) (kk : ∀ x σ2, P2 x σ2 → am_Go sh M d Q (pc + 3) lv (.int (iZ x) :: st) σ2) : am_Go sh M d Q pc lv (b3 :: b2 :: b1 :: st) σ :=
  go_callS (As := [b1, b2, b3]) hd hL hM rfl hr hdep hE (fun r σ2 hq => by obtain ⟨x, rfl, h⟩ := hq; exact kk x σ2 h)
theorem go_csP3 {v : Int} {b1 b2 b3 : Value} (hd : decode M.2.1 pc = .ok (.invokestatic idx, 3)) (hL : Cond.methodLink M.1.cls idx M2.1 ∈ am_tbl) (hM : am_MS M2 3) (hr : (st.map fun v => v.category).sum ≤ 8) (hdep : d2 < d) (hE : am_Ev sh M2 d2 [b1, b2, b3] σ (am_rI (fun x σ2 => x = v ∧ σ2 = σ))) (kk : am_Go sh M d Q (pc + 3) lv (.int (iZ v) :: st) σ) : am_Go sh M d Q pc lv (b3 :: b2 :: b1 :: st) σ :=
  go_callS (As := [b1, b2, b3]) hd hL hM rfl hr hdep hE (fun r σ2 hq => by obtain ⟨x, rfl, rfl, rfl⟩ := hq; exact kk)
theorem go_csL3 {P2 : Int → am_St → Prop} {b1 b2 b3 : Value} (hd : decode M.2.1 pc = .ok (.invokestatic idx, 3)) (hL : Cond.methodLink M.1.cls idx M2.1 ∈ am_tbl) (hM : am_MS M2 3) (hr : (st.map fun v => v.category).sum ≤ 8) (hdep : d2 < d) (hE : am_Ev sh M2 d2 [b1, b2, b3] σ (am_rL P2)) (kk : ∀ x σ2, P2 x σ2 → am_Go sh M d Q (pc + 3) lv (.long (lZ x) :: st) σ2) : am_Go sh M d Q pc lv (b3 :: b2 :: b1 :: st) σ :=
  go_callS (As := [b1, b2, b3]) hd hL hM rfl hr hdep hE (fun r σ2 hq => by obtain ⟨x, rfl, h⟩ := hq; exact kk x σ2 h)
theorem go_csV3 {P2 : am_St → Prop} {b1 b2 b3 : Value} (hd : decode M.2.1 pc = .ok (.invokestatic idx, 3)) (hL : Cond.methodLink M.1.cls idx M2.1 ∈ am_tbl) (hM : am_MS M2 3) (hr : (st.map fun v => v.category).sum ≤ 8) (hdep : d2 < d) (hE : am_Ev sh M2 d2 [b1, b2, b3] σ (am_rV P2)) (kk : ∀ σ2, P2 σ2 → am_Go sh M d Q (pc + 3) lv st σ2) : am_Go sh M d Q pc lv (b3 :: b2 :: b1 :: st) σ :=
  go_callS (As := [b1, b2, b3]) hd hL hM rfl hr hdep hE (fun r σ2 hq => by obtain ⟨rfl, h⟩ := hq; exact kk σ2 h)
theorem go_cnI3 {P2 : Int → am_St → Prop} {host : String} {b1 b2 b3 : Value} (hd : decode M.2.1 pc = .ok (.invokestatic idx, 3)) (hL : (M.1.cls, idx, M2.1, host) ∈ am_nest) (hM : am_MS M2 3) (hr : (st.map fun v => v.category).sum ≤ 8) (hdep : d2 < d) (hE : am_Ev sh M2 d2 [b1, b2, b3] σ (am_rI P2)) (kk : ∀ x σ2, P2 x σ2 → am_Go sh M d Q (pc + 3) lv (.int (iZ x) :: st) σ2) : am_Go sh M d Q pc lv (b3 :: b2 :: b1 :: st) σ :=
  go_callSN (As := [b1, b2, b3]) hd hL hM rfl hr hdep hE (fun r σ2 hq => by obtain ⟨x, rfl, h⟩ := hq; exact kk x σ2 h)
theorem go_cnP3 {v : Int} {host : String} {b1 b2 b3 : Value} (hd : decode M.2.1 pc = .ok (.invokestatic idx, 3)) (hL : (M.1.cls, idx, M2.1, host) ∈ am_nest) (hM : am_MS M2 3) (hr : (st.map fun v => v.category).sum ≤ 8) (hdep : d2 < d) (hE : am_Ev sh M2 d2 [b1, b2, b3] σ (am_rI (fun x σ2 => x = v ∧ σ2 = σ))) (kk : am_Go sh M d Q (pc + 3) lv (.int (iZ v) :: st) σ) : am_Go sh M d Q pc lv (b3 :: b2 :: b1 :: st) σ :=
  go_callSN (As := [b1, b2, b3]) hd hL hM rfl hr hdep hE (fun r σ2 hq => by obtain ⟨x, rfl, rfl, rfl⟩ := hq; exact kk)
theorem go_cnL3 {P2 : Int → am_St → Prop} {host : String} {b1 b2 b3 : Value} (hd : decode M.2.1 pc = .ok (.invokestatic idx, 3)) (hL : (M.1.cls, idx, M2.1, host) ∈ am_nest) (hM : am_MS M2 3) (hr : (st.map fun v => v.category).sum ≤ 8) (hdep : d2 < d) (hE : am_Ev sh M2 d2 [b1, b2, b3] σ (am_rL P2)) (kk : ∀ x σ2, P2 x σ2 → am_Go sh M d Q (pc + 3) lv (.long (lZ x) :: st) σ2) : am_Go sh M d Q pc lv (b3 :: b2 :: b1 :: st) σ :=
  go_callSN (As := [b1, b2, b3]) hd hL hM rfl hr hdep hE (fun r σ2 hq => by obtain ⟨x, rfl, h⟩ := hq; exact kk x σ2 h)
theorem go_cnV3 {P2 : am_St → Prop} {host : String} {b1 b2 b3 : Value} (hd : decode M.2.1 pc = .ok (.invokestatic idx, 3)) (hL : (M.1.cls, idx, M2.1, host) ∈ am_nest) (hM : am_MS M2 3) (hr : (st.map fun v => v.category).sum ≤ 8) (hdep : d2 < d) (hE : am_Ev sh M2 d2 [b1, b2, b3] σ (am_rV P2)) (kk : ∀ σ2, P2 σ2 → am_Go sh M d Q (pc + 3) lv st σ2) : am_Go sh M d Q pc lv (b3 :: b2 :: b1 :: st) σ :=
  go_callSN (As := [b1, b2, b3]) hd hL hM rfl hr hdep hE (fun r σ2 hq => by obtain ⟨rfl, h⟩ := hq; exact kk σ2 h)
end AMN
/-- the same, of a member of the JDK that the machine has no entry for -/
theorem am_evF {sh : am_Sh} {M : am_M} {d : Nat} {av : List Value} {σ : am_St} {Q : Option Value → am_St → Prop} (hy : plainFor M.1 = true) (lv : List (Option Value)) (hlv : am_ent av ++ List.replicate (M.2.2.1 - (am_ent av).length) none = lv) (hle : (am_ent av).length ≤ M.2.2.1) (k : am_Go sh M d Q 0 lv [] σ) : am_Ev sh M d av σ Q := by
  intro l D dA z φ
  refine va_MetF (cc := M.2.1) (maxL := M.2.2.1) (ret := M.2.2.2) hy rfl ?_
  intro p e s m args below meth c s₁ B hml hv
  obtain ⟨rfl, hP, hK⟩ := hv
  have hts := atoms_spec (ws := am_wd M) B.pre
  have hl := lv_entry (av.map (am_v φ)) (n := M.2.2.1) (by rw [am_sl_len]; exact hle)
  rw [lg_entry_eq]
  refine k p l e D dA z φ s m _ below meth c ⟨B.exec, B.bytes, B.returns, hml, findClass_of_methodNamed B.named, hts, B.notSynchronized, hK⟩ s.heap [] _ hP va_S.rf ⟨hl.1, hl.2.1, fun i v hi => ?_⟩
  subst hlv
  by_cases h : i < (am_ent av).length
  · rw [List.getElem?_append_left h] at hi
    have := am_ent_args φ av 0 i v hi
    rw [Nat.zero_add] at this
    exact hl.2.2 _ this
  · rw [List.getElem?_append_right (by omega)] at hi
    have := List.mem_of_getElem? hi
    rw [List.mem_replicate] at this
    cases this.2
end
section
/-! ===== the cells of the two objects: the reference 0 (its arrays 1 to 20), the class 21 ===== -/
def SH : am_Sh := [.inr (9, [0, 4, 5, 6, 7, 0, 0, 0, 8, 0, 9, 0, 0, 0, 0, 10, 11, 12, 13, 0, 14, 0, 15, 16, 17, 0, 0, 18, 19, 0, 20, 21, 0, 22, 0, 23, 1, 1]), .inl (0, 8, none), .inl (0, 8, none), .inl (0, 24, none), .inl (0, 24, none), .inl (0, 56, none), .inl (0, 56, none), .inl (0, 8, none), .inl (0, 8, none), .inl (0, 24, none), .inl (0, 24, none), .inl (0, 12, none), .inl (0, 200, none), .inl (0, 201, none), .inl (0, 201, none), .inl (0, 200, none), .inl (1, 40, none), .inl (0, 40, none), .inl (0, 8000, none), .inl (0, 200, none), .inl (0, 200, none), .inr (8, [25, 32, 34, 36, 38, 43, 46, 112, 118, 0, 0, 0, 0, 0]), .inr (5, [26, 28, 30, 0]), .inr (1, [27, 0]), .inl (0, 8, none), .inr (1, [29, 0]), .inl (0, 8, none), .inr (1, [31, 0]), .inl (0, 8, none), .inr (1, [33, 0]), .inl (0, 56, none), .inr (1, [35, 0]), .inl (0, 56, none), .inr (1, [37, 0]), .inl (0, 56, none), .inr (3, [39, 41, 0, 0]), .inr (1, [40, 0]), .inl (0, 8, none), .inr (1, [42, 0]), .inl (0, 8, none), .inr (6, [44, 45, 0]), .inl (0, 57, none), .inl (0, 57, none), .inr (0, [47, 50, 52, 54, 56, 107, 109]), .inr (4, [48, 0]), .inr (1, [49, 0]), .inl (0, 25, none), .inr (1, [51, 0]), .inl (0, 56, none), .inr (1, [53, 0]), .inl (0, 56, none), .inr (1, [55, 0]), .inl (0, 56, none), .inl (2, 25, some (fun i => if i < 25 then some (54 + 2 * i) else none)), .inr (1, [58, 0]), .inl (0, 56, none), .inr (1, [60, 0]), .inl (0, 56, none), .inr (1, [62, 0]), .inl (0, 56, none), .inr (1, [64, 0]), .inl (0, 56, none), .inr (1, [66, 0]), .inl (0, 56, none), .inr (1, [68, 0]), .inl (0, 56, none), .inr (1, [70, 0]), .inl (0, 56, none), .inr (1, [72, 0]), .inl (0, 56, none), .inr (1, [74, 0]), .inl (0, 56, none), .inr (1, [76, 0]), .inl (0, 56, none), .inr (1, [78, 0]), .inl (0, 56, none), .inr (1, [80, 0]), .inl (0, 56, none), .inr (1, [82, 0]), .inl (0, 56, none), .inr (1, [84, 0]), .inl (0, 56, none), .inr (1, [86, 0]), .inl (0, 56, none), .inr (1, [88, 0]), .inl (0, 56, none), .inr (1, [90, 0]), .inl (0, 56, none), .inr (1, [92, 0]), .inl (0, 56, none), .inr (1, [94, 0]), .inl (0, 56, none), .inr (1, [96, 0]), .inl (0, 56, none), .inr (1, [98, 0]), .inl (0, 56, none), .inr (1, [100, 0]), .inl (0, 56, none), .inr (1, [102, 0]), .inl (0, 56, none), .inr (1, [104, 0]), .inl (0, 56, none), .inr (1, [106, 0]), .inl (0, 56, none), .inr (1, [108, 0]), .inl (0, 56, none), .inr (6, [110, 111, 0]), .inl (0, 57, none), .inl (0, 57, none), .inr (2, [113, 116, 0]), .inr (4, [114, 0]), .inr (1, [115, 0]), .inl (0, 25, none), .inr (1, [117, 0]), .inl (0, 8, none), .inr (7, [119, 121, 123, 1, 0, 0, 0, 0]), .inr (1, [120, 0]), .inl (0, 5, none), .inr (1, [122, 0]), .inl (0, 56, none), .inr (1, [124, 0]), .inl (0, 56, none)]
theorem sh_0 : SH[0]? = some (.inr (9, [0, 4, 5, 6, 7, 0, 0, 0, 8, 0, 9, 0, 0, 0, 0, 10, 11, 12, 13, 0, 14, 0, 15, 16, 17, 0, 0, 18, 19, 0, 20, 21, 0, 22, 0, 23, 1, 1])) := rfl
theorem sh_1 : SH[1]? = some (.inl (0, 8, none)) := rfl
theorem sh_2 : SH[2]? = some (.inl (0, 8, none)) := rfl
theorem sh_3 : SH[3]? = some (.inl (0, 24, none)) := rfl
theorem sh_4 : SH[4]? = some (.inl (0, 24, none)) := rfl
theorem sh_5 : SH[5]? = some (.inl (0, 56, none)) := rfl
theorem sh_6 : SH[6]? = some (.inl (0, 56, none)) := rfl
theorem sh_7 : SH[7]? = some (.inl (0, 8, none)) := rfl
theorem sh_8 : SH[8]? = some (.inl (0, 8, none)) := rfl
theorem sh_9 : SH[9]? = some (.inl (0, 24, none)) := rfl
theorem sh_10 : SH[10]? = some (.inl (0, 24, none)) := rfl
theorem sh_11 : SH[11]? = some (.inl (0, 12, none)) := rfl
theorem sh_12 : SH[12]? = some (.inl (0, 200, none)) := rfl
theorem sh_13 : SH[13]? = some (.inl (0, 201, none)) := rfl
theorem sh_14 : SH[14]? = some (.inl (0, 201, none)) := rfl
theorem sh_15 : SH[15]? = some (.inl (0, 200, none)) := rfl
theorem sh_16 : SH[16]? = some (.inl (1, 40, none)) := rfl
theorem sh_17 : SH[17]? = some (.inl (0, 40, none)) := rfl
theorem sh_18 : SH[18]? = some (.inl (0, 8000, none)) := rfl
theorem sh_19 : SH[19]? = some (.inl (0, 200, none)) := rfl
theorem sh_20 : SH[20]? = some (.inl (0, 200, none)) := rfl
theorem sh_21 : SH[21]? = some (.inr (8, [25, 32, 34, 36, 38, 43, 46, 112, 118, 0, 0, 0, 0, 0])) := rfl
theorem sh_22 : SH[22]? = some (.inr (5, [26, 28, 30, 0])) := rfl
theorem sh_23 : SH[23]? = some (.inr (1, [27, 0])) := rfl
theorem sh_24 : SH[24]? = some (.inl (0, 8, none)) := rfl
theorem sh_25 : SH[25]? = some (.inr (1, [29, 0])) := rfl
theorem sh_26 : SH[26]? = some (.inl (0, 8, none)) := rfl
theorem sh_27 : SH[27]? = some (.inr (1, [31, 0])) := rfl
theorem sh_28 : SH[28]? = some (.inl (0, 8, none)) := rfl
theorem sh_29 : SH[29]? = some (.inr (1, [33, 0])) := rfl
theorem sh_30 : SH[30]? = some (.inl (0, 56, none)) := rfl
theorem sh_31 : SH[31]? = some (.inr (1, [35, 0])) := rfl
theorem sh_32 : SH[32]? = some (.inl (0, 56, none)) := rfl
theorem sh_33 : SH[33]? = some (.inr (1, [37, 0])) := rfl
theorem sh_34 : SH[34]? = some (.inl (0, 56, none)) := rfl
theorem sh_35 : SH[35]? = some (.inr (3, [39, 41, 0, 0])) := rfl
theorem sh_36 : SH[36]? = some (.inr (1, [40, 0])) := rfl
theorem sh_37 : SH[37]? = some (.inl (0, 8, none)) := rfl
theorem sh_38 : SH[38]? = some (.inr (1, [42, 0])) := rfl
theorem sh_39 : SH[39]? = some (.inl (0, 8, none)) := rfl
theorem sh_40 : SH[40]? = some (.inr (6, [44, 45, 0])) := rfl
theorem sh_41 : SH[41]? = some (.inl (0, 57, none)) := rfl
theorem sh_42 : SH[42]? = some (.inl (0, 57, none)) := rfl
theorem sh_43 : SH[43]? = some (.inr (0, [47, 50, 52, 54, 56, 107, 109])) := rfl
theorem sh_44 : SH[44]? = some (.inr (4, [48, 0])) := rfl
theorem sh_45 : SH[45]? = some (.inr (1, [49, 0])) := rfl
theorem sh_46 : SH[46]? = some (.inl (0, 25, none)) := rfl
theorem sh_47 : SH[47]? = some (.inr (1, [51, 0])) := rfl
theorem sh_48 : SH[48]? = some (.inl (0, 56, none)) := rfl
theorem sh_49 : SH[49]? = some (.inr (1, [53, 0])) := rfl
theorem sh_50 : SH[50]? = some (.inl (0, 56, none)) := rfl
theorem sh_51 : SH[51]? = some (.inr (1, [55, 0])) := rfl
theorem sh_52 : SH[52]? = some (.inl (0, 56, none)) := rfl
theorem sh_53 : SH[53]? = some (.inl (2, 25, some (fun i => if i < 25 then some (54 + 2 * i) else none))) := rfl
theorem sh_54 : SH[54]? = some (.inr (1, [58, 0])) := rfl
theorem sh_55 : SH[55]? = some (.inl (0, 56, none)) := rfl
theorem sh_56 : SH[56]? = some (.inr (1, [60, 0])) := rfl
theorem sh_57 : SH[57]? = some (.inl (0, 56, none)) := rfl
theorem sh_58 : SH[58]? = some (.inr (1, [62, 0])) := rfl
theorem sh_59 : SH[59]? = some (.inl (0, 56, none)) := rfl
theorem sh_60 : SH[60]? = some (.inr (1, [64, 0])) := rfl
theorem sh_61 : SH[61]? = some (.inl (0, 56, none)) := rfl
theorem sh_62 : SH[62]? = some (.inr (1, [66, 0])) := rfl
theorem sh_63 : SH[63]? = some (.inl (0, 56, none)) := rfl
theorem sh_64 : SH[64]? = some (.inr (1, [68, 0])) := rfl
theorem sh_65 : SH[65]? = some (.inl (0, 56, none)) := rfl
theorem sh_66 : SH[66]? = some (.inr (1, [70, 0])) := rfl
theorem sh_67 : SH[67]? = some (.inl (0, 56, none)) := rfl
theorem sh_68 : SH[68]? = some (.inr (1, [72, 0])) := rfl
theorem sh_69 : SH[69]? = some (.inl (0, 56, none)) := rfl
theorem sh_70 : SH[70]? = some (.inr (1, [74, 0])) := rfl
theorem sh_71 : SH[71]? = some (.inl (0, 56, none)) := rfl
theorem sh_72 : SH[72]? = some (.inr (1, [76, 0])) := rfl
theorem sh_73 : SH[73]? = some (.inl (0, 56, none)) := rfl
theorem sh_74 : SH[74]? = some (.inr (1, [78, 0])) := rfl
theorem sh_75 : SH[75]? = some (.inl (0, 56, none)) := rfl
theorem sh_76 : SH[76]? = some (.inr (1, [80, 0])) := rfl
theorem sh_77 : SH[77]? = some (.inl (0, 56, none)) := rfl
theorem sh_78 : SH[78]? = some (.inr (1, [82, 0])) := rfl
theorem sh_79 : SH[79]? = some (.inl (0, 56, none)) := rfl
theorem sh_80 : SH[80]? = some (.inr (1, [84, 0])) := rfl
theorem sh_81 : SH[81]? = some (.inl (0, 56, none)) := rfl
theorem sh_82 : SH[82]? = some (.inr (1, [86, 0])) := rfl
theorem sh_83 : SH[83]? = some (.inl (0, 56, none)) := rfl
theorem sh_84 : SH[84]? = some (.inr (1, [88, 0])) := rfl
theorem sh_85 : SH[85]? = some (.inl (0, 56, none)) := rfl
theorem sh_86 : SH[86]? = some (.inr (1, [90, 0])) := rfl
theorem sh_87 : SH[87]? = some (.inl (0, 56, none)) := rfl
theorem sh_88 : SH[88]? = some (.inr (1, [92, 0])) := rfl
theorem sh_89 : SH[89]? = some (.inl (0, 56, none)) := rfl
theorem sh_90 : SH[90]? = some (.inr (1, [94, 0])) := rfl
theorem sh_91 : SH[91]? = some (.inl (0, 56, none)) := rfl
theorem sh_92 : SH[92]? = some (.inr (1, [96, 0])) := rfl
theorem sh_93 : SH[93]? = some (.inl (0, 56, none)) := rfl
theorem sh_94 : SH[94]? = some (.inr (1, [98, 0])) := rfl
theorem sh_95 : SH[95]? = some (.inl (0, 56, none)) := rfl
theorem sh_96 : SH[96]? = some (.inr (1, [100, 0])) := rfl
theorem sh_97 : SH[97]? = some (.inl (0, 56, none)) := rfl
theorem sh_98 : SH[98]? = some (.inr (1, [102, 0])) := rfl
theorem sh_99 : SH[99]? = some (.inl (0, 56, none)) := rfl
theorem sh_100 : SH[100]? = some (.inr (1, [104, 0])) := rfl
theorem sh_101 : SH[101]? = some (.inl (0, 56, none)) := rfl
theorem sh_102 : SH[102]? = some (.inr (1, [106, 0])) := rfl
theorem sh_103 : SH[103]? = some (.inl (0, 56, none)) := rfl
theorem sh_104 : SH[104]? = some (.inr (1, [108, 0])) := rfl
theorem sh_105 : SH[105]? = some (.inl (0, 56, none)) := rfl
theorem sh_106 : SH[106]? = some (.inr (6, [110, 111, 0])) := rfl
theorem sh_107 : SH[107]? = some (.inl (0, 57, none)) := rfl
theorem sh_108 : SH[108]? = some (.inl (0, 57, none)) := rfl
theorem sh_109 : SH[109]? = some (.inr (2, [113, 116, 0])) := rfl
theorem sh_110 : SH[110]? = some (.inr (4, [114, 0])) := rfl
theorem sh_111 : SH[111]? = some (.inr (1, [115, 0])) := rfl
theorem sh_112 : SH[112]? = some (.inl (0, 25, none)) := rfl
theorem sh_113 : SH[113]? = some (.inr (1, [117, 0])) := rfl
theorem sh_114 : SH[114]? = some (.inl (0, 8, none)) := rfl
theorem sh_115 : SH[115]? = some (.inr (7, [119, 121, 123, 1, 0, 0, 0, 0])) := rfl
theorem sh_116 : SH[116]? = some (.inr (1, [120, 0])) := rfl
theorem sh_117 : SH[117]? = some (.inl (0, 5, none)) := rfl
theorem sh_118 : SH[118]? = some (.inr (1, [122, 0])) := rfl
theorem sh_119 : SH[119]? = some (.inl (0, 56, none)) := rfl
theorem sh_120 : SH[120]? = some (.inr (1, [124, 0])) := rfl
theorem sh_121 : SH[121]? = some (.inl (0, 56, none)) := rfl
-- {'m': 0, 'x': 21, 'ru': 22, 'pg': 29, 'ik': 31, 'rw': 33, 'rd': 35, 'sp': 40, 'cl': 43, 'r': 44, 'le': 47, 'on': 49, 'ot': 51, 'tx': 53, 'ts0': 54, 'of': 104, 's2': 106, 'pa': 109, 'r2': 110, 'sg': 113, 'tr': 115, 't1': 116, 't2': 118, 't3': 120}
end
section
/-! ===== Word, Math.max, Math.min ===== -/
def wd_sz (w : Int) : Int := if w < 16384 then (if w < 128 then 0 else 1) else if w < 2097152 then 2 else if w < 268435456 then 3 else 4
def wd_fe (w o : Int) : Int := am_and (am_shr w (7 * o)) 127
def wd_ap (w c : Int) : Int := am_or (am_shl w 7) (am_and c 127)
def wd_be (w s : Int) : Int := if 0 ≤ wd_sz w - wd_sz s ∧ am_shr w (7 * (wd_sz w - wd_sz s)) = s then 1 else 0
def wd_hi (w s : Int) : Int := am_or (am_shl 1 (7 * max 0 (wd_sz w - wd_sz s))) (am_and w (am_shl 1 (7 * max 0 (wd_sz w - wd_sz s)) - 1))
theorem wd_sz_bd (w : Int) : 0 ≤ wd_sz w ∧ wd_sz w ≤ 4 := by unfold wd_sz; split <;> (try split) <;> (try split) <;> omega
theorem am_and_R (a b : Int) : inR (am_and a b) := inR_of _
theorem am_or_R (a b : Int) : inR (am_or a b) := inR_of _
theorem am_xor_R (a b : Int) : inR (am_xor a b) := inR_of _
theorem am_shl_R (a b : Int) : inR (am_shl a b) := inR_of _
theorem am_shr_R (a b : Int) : inR (am_shr a b) := inR_of _
theorem ev_J9_max {σ : am_St} {a b : Int} (ha : inR a) (hb : inR b) : am_Ev SH mJ9_max_7cf53 0 [.int (iZ a), .int (iZ b)] σ (am_rI (fun x σ2 => x = max a b ∧ σ2 = σ)) := by
  refine am_evF (by decide +kernel) [some (.int (iZ (a))), some (.int (iZ (b)))] rfl (Nat.le_of_ble_eq_true rfl) ?_
  refine go_iload_n dJ9_max_7cf53_0 rfl ?_
  refine go_iload_n dJ9_max_7cf53_1 rfl ?_
  refine go_icmp_lt (tgt := 9) dJ9_max_7cf53_2 (by decide) ha hb (fun b2 => ?_) (fun b2 => ?_)
  · skip
    refine go_iload_n dJ9_max_7cf53_9 rfl ?_
    refine go_retI dJ9_max_7cf53_10 rfl ?_
    exact ⟨by omega, rfl⟩
  · skip
    refine go_iload_n dJ9_max_7cf53_5 rfl ?_
    refine go_goto (tgt := 10) dJ9_max_7cf53_6 (by decide) ?_
    refine go_retI dJ9_max_7cf53_10 rfl ?_
    exact ⟨by omega, rfl⟩
theorem ev_J9_min {σ : am_St} {a b : Int} (ha : inR a) (hb : inR b) : am_Ev SH mJ9_min_7cf53 0 [.int (iZ a), .int (iZ b)] σ (am_rI (fun x σ2 => x = min a b ∧ σ2 = σ)) := by
  refine am_evF (by decide +kernel) [some (.int (iZ (a))), some (.int (iZ (b)))] rfl (Nat.le_of_ble_eq_true rfl) ?_
  refine go_iload_n dJ9_min_7cf53_0 rfl ?_
  refine go_iload_n dJ9_min_7cf53_1 rfl ?_
  refine go_icmp_gt (tgt := 9) dJ9_min_7cf53_2 (by decide) ha hb (fun b2 => ?_) (fun b2 => ?_)
  · skip
    refine go_iload_n dJ9_min_7cf53_9 rfl ?_
    refine go_retI dJ9_min_7cf53_10 rfl ?_
    exact ⟨by omega, rfl⟩
  · skip
    refine go_iload_n dJ9_min_7cf53_5 rfl ?_
    refine go_goto (tgt := 10) dJ9_min_7cf53_6 (by decide) ?_
    refine go_retI dJ9_min_7cf53_10 rfl ?_
    exact ⟨by omega, rfl⟩
theorem ev_X9_size {σ : am_St} {w : Int} (hw : inR w) : am_Ev SH mX9_size 0 [.int (iZ w)] σ (am_rI (fun x σ2 => x = wd_sz w ∧ σ2 = σ)) := by
  unfold inR at hw
  refine am_ev (by decide) [some (.int (iZ (w)))] rfl (Nat.le_of_ble_eq_true rfl) ?_
  refine go_iload_n dX9_size_0 rfl ?_
  refine go_sipush dX9_size_1 rfl ?_
  refine go_icmp_ge (tgt := 20) dX9_size_4 (by decide) (by unfold inR; omega) (by unfold inR; omega) (fun b4 => ?_) (fun b4 => ?_)
  · skip
    refine go_iload_n dX9_size_20 rfl ?_
    refine go_ldc dX9_size_21 kc_X9_11 ?_
    refine go_icmp_ge (tgt := 28) dX9_size_23 (by decide) (by unfold inR; omega) (by unfold inR; omega) (fun b23 => ?_) (fun b23 => ?_)
    · skip
      refine go_iload_n dX9_size_28 rfl ?_
      refine go_ldc dX9_size_29 kc_X9_12 ?_
      refine go_icmp_ge (tgt := 38) dX9_size_31 (by decide) (by unfold inR; omega) (by unfold inR; omega) (fun b31 => ?_) (fun b31 => ?_)
      · skip
        refine go_iconst dX9_size_38 ?_
        refine go_retI dX9_size_39 rfl ?_
        refine ⟨?_, rfl⟩
        unfold wd_sz
        (repeat' split) <;> omega
      · skip
        refine go_iconst dX9_size_34 ?_
        refine go_goto (tgt := 39) dX9_size_35 (by decide) ?_
        refine go_retI dX9_size_39 rfl ?_
        refine ⟨?_, rfl⟩
        unfold wd_sz
        (repeat' split) <;> omega
    · skip
      refine go_iconst dX9_size_26 ?_
      refine go_retI dX9_size_27 rfl ?_
      refine ⟨?_, rfl⟩
      unfold wd_sz
      (repeat' split) <;> omega
  · skip
    refine go_iload_n dX9_size_7 rfl ?_
    refine go_sipush dX9_size_8 rfl ?_
    refine go_icmp_ge (tgt := 18) dX9_size_11 (by decide) (by unfold inR; omega) (by unfold inR; omega) (fun b11 => ?_) (fun b11 => ?_)
    · skip
      refine go_iconst dX9_size_18 ?_
      refine go_retI dX9_size_19 rfl ?_
      refine ⟨?_, rfl⟩
      unfold wd_sz
      (repeat' split) <;> omega
    · skip
      refine go_iconst dX9_size_14 ?_
      refine go_goto (tgt := 19) dX9_size_15 (by decide) ?_
      refine go_retI dX9_size_19 rfl ?_
      refine ⟨?_, rfl⟩
      unfold wd_sz
      (repeat' split) <;> omega
theorem ev_X9_append {σ : am_St} {w c : Int} : am_Ev SH mX9_append 0 [.int (iZ w), .int (iZ c)] σ (am_rI (fun x σ2 => x = wd_ap w c ∧ σ2 = σ)) := by
  refine am_ev (by decide) [some (.int (iZ (w))), some (.int (iZ (c)))] rfl (Nat.le_of_ble_eq_true rfl) ?_
  refine go_iload_n dX9_append_0 rfl ?_
  refine go_bipush dX9_append_1 rfl ?_
  refine go_ishl dX9_append_3 ?_
  refine go_iload_n dX9_append_4 rfl ?_
  refine go_bipush dX9_append_5 rfl ?_
  refine go_iand dX9_append_7 ?_
  refine go_ior dX9_append_8 ?_
  refine go_retI dX9_append_9 rfl ?_
  exact ⟨rfl, rfl⟩
theorem ev_X9_fromEnd {σ : am_St} {w c : Int} : am_Ev SH mX9_fromEnd 0 [.int (iZ w), .int (iZ c)] σ (am_rI (fun x σ2 => x = wd_fe w c ∧ σ2 = σ)) := by
  refine am_ev (by decide) [some (.int (iZ (w))), some (.int (iZ (c)))] rfl (Nat.le_of_ble_eq_true rfl) ?_
  refine go_iload_n dX9_fromEnd_0 rfl ?_
  refine go_bipush dX9_fromEnd_1 rfl ?_
  refine go_iload_n dX9_fromEnd_3 rfl ?_
  refine go_imul dX9_fromEnd_4 ?_
  refine go_ishr dX9_fromEnd_5 ?_
  refine go_bipush dX9_fromEnd_6 rfl ?_
  refine go_iand dX9_fromEnd_8 ?_
  refine go_retI dX9_fromEnd_9 rfl ?_
  exact ⟨rfl, rfl⟩
theorem ev_X9_character {σ : am_St} {w p : Int} (hw : inR w) (hp : inR p) : am_Ev SH mX9_character 1 [.int (iZ w), .int (iZ p)] σ (am_rI (fun x σ2 => x = (if p < 0 ∨ wd_sz w ≤ p then -101 else wd_fe w (wd_sz w - 1 - p)) ∧ σ2 = σ)) := by
  have hz := wd_sz_bd w
  refine am_ev (by decide) [some (.int (iZ (w))), some (.int (iZ (p))), none] rfl (Nat.le_of_ble_eq_true rfl) ?_
  refine go_iload_n dX9_character_0 rfl ?_
  refine go_csP1 (M2 := mX9_size) dX9_character_1 ml_X9_13 ms_X9_size (Nat.le_of_ble_eq_true rfl) (by decide) (ev_X9_size hw) ?_
  refine go_ist2 dX9_character_4 (Nat.le_of_ble_eq_true rfl) rfl ?_
  refine go_iload_n dX9_character_5 rfl ?_
  refine go_if_lt (tgt := 14) dX9_character_6 (by decide) hp (fun b6 => ?_) (fun b6 => ?_)
  · skip
    refine go_bipush dX9_character_14 rfl ?_
    refine go_retI dX9_character_16 rfl ?_
    refine ⟨?_, rfl⟩
    split <;> omega
  · skip
    refine go_iload_n dX9_character_9 rfl ?_
    refine go_iload_n dX9_character_10 rfl ?_
    refine go_icmp_lt (tgt := 17) dX9_character_11 (by decide) hp (by unfold inR; omega) (fun b11 => ?_) (fun b11 => ?_)
    · skip
      refine go_iload_n dX9_character_17 rfl ?_
      refine go_iload_n dX9_character_18 rfl ?_
      refine go_iconst dX9_character_19 ?_
      refine go_isub dX9_character_20 ?_
      refine go_iload_n dX9_character_21 rfl ?_
      refine go_isub dX9_character_22 ?_
      refine go_csP2 (M2 := mX9_fromEnd) dX9_character_23 ml_X9_17 ms_X9_fromEnd (Nat.le_of_ble_eq_true rfl) (by decide) (ev_X9_fromEnd) ?_
      refine go_retI dX9_character_26 rfl ?_
      refine ⟨?_, rfl⟩
      split <;> omega
    · skip
      refine go_bipush dX9_character_14 rfl ?_
      refine go_retI dX9_character_16 rfl ?_
      refine ⟨?_, rfl⟩
      split <;> omega
theorem ev_X9_begins {σ : am_St} {w s : Int} (hw : inR w) (hs : inR s) : am_Ev SH mX9_begins 1 [.int (iZ w), .int (iZ s)] σ (am_rI (fun x σ2 => x = wd_be w s ∧ σ2 = σ)) := by
  have hz := wd_sz_bd w
  have hy := wd_sz_bd s
  refine am_ev (by decide) [some (.int (iZ (w))), some (.int (iZ (s))), none] rfl (Nat.le_of_ble_eq_true rfl) ?_
  refine go_iload_n dX9_begins_0 rfl ?_
  refine go_csP1 (M2 := mX9_size) dX9_begins_1 ml_X9_13 ms_X9_size (Nat.le_of_ble_eq_true rfl) (by decide) (ev_X9_size hw) ?_
  refine go_iload_n dX9_begins_4 rfl ?_
  refine go_csP1 (M2 := mX9_size) dX9_begins_5 ml_X9_13 ms_X9_size (Nat.le_of_ble_eq_true rfl) (by decide) (ev_X9_size hs) ?_
  refine go_isub dX9_begins_8 ?_
  refine go_ist2 dX9_begins_9 (Nat.le_of_ble_eq_true rfl) rfl ?_
  refine go_iload_n dX9_begins_10 rfl ?_
  refine go_if_lt (tgt := 28) dX9_begins_11 (by decide) (by unfold inR; omega) (fun b11 => ?_) (fun b11 => ?_)
  · skip
    refine go_iconst dX9_begins_28 ?_
    refine go_retZ dX9_begins_29 rfl (by omega) ?_
    refine ⟨?_, rfl⟩
    unfold wd_be
    split <;> omega
  · skip
    refine go_iload_n dX9_begins_14 rfl ?_
    refine go_bipush dX9_begins_15 rfl ?_
    refine go_iload_n dX9_begins_17 rfl ?_
    refine go_imul dX9_begins_18 ?_
    refine go_ishr dX9_begins_19 ?_
    refine go_iload_n dX9_begins_20 rfl ?_
    refine go_icmp_ne (tgt := 28) dX9_begins_21 (by decide) (am_shr_R _ _) hs (fun b21 => ?_) (fun b21 => ?_)
    · skip
      refine go_iconst dX9_begins_28 ?_
      refine go_retZ dX9_begins_29 rfl (by omega) ?_
      refine ⟨?_, rfl⟩
      unfold wd_be
      split <;> omega
    · skip
      refine go_iconst dX9_begins_24 ?_
      refine go_goto (tgt := 29) dX9_begins_25 (by decide) ?_
      refine go_retZ dX9_begins_29 rfl (by omega) ?_
      refine ⟨?_, rfl⟩
      unfold wd_be
      split <;> omega
theorem ev_X9_behind {σ : am_St} {w s : Int} (hw : inR w) (hs : inR s) : am_Ev SH mX9_behind 1 [.int (iZ w), .int (iZ s)] σ (am_rI (fun x σ2 => x = wd_hi w s ∧ σ2 = σ)) := by
  have hz := wd_sz_bd w
  have hy := wd_sz_bd s
  refine am_ev (by decide) [some (.int (iZ (w))), some (.int (iZ (s))), none, none] rfl (Nat.le_of_ble_eq_true rfl) ?_
  refine go_bipush dX9_behind_0 rfl ?_
  refine go_iconst dX9_behind_2 ?_
  refine go_iload_n dX9_behind_3 rfl ?_
  refine go_csP1 (M2 := mX9_size) dX9_behind_4 ml_X9_13 ms_X9_size (Nat.le_of_ble_eq_true rfl) (by decide) (ev_X9_size hw) ?_
  refine go_iload_n dX9_behind_7 rfl ?_
  refine go_csP1 (M2 := mX9_size) dX9_behind_8 ml_X9_13 ms_X9_size (Nat.le_of_ble_eq_true rfl) (by decide) (ev_X9_size hs) ?_
  refine go_isub dX9_behind_11 ?_
  refine go_csP2 (M2 := mJ9_max_7cf53) dX9_behind_12 ml_X9_21 ms_J9_max_7cf53 (Nat.le_of_ble_eq_true rfl) (by decide) (ev_J9_max (by unfold inR; omega) (by unfold inR; omega)) ?_
  refine go_imul dX9_behind_15 ?_
  refine go_ist2 dX9_behind_16 (Nat.le_of_ble_eq_true rfl) rfl ?_
  refine go_iconst dX9_behind_17 ?_
  refine go_iload_n dX9_behind_18 rfl ?_
  refine go_ishl dX9_behind_19 ?_
  refine go_ist3 dX9_behind_20 (Nat.le_of_ble_eq_true rfl) rfl ?_
  refine go_iload_n dX9_behind_21 rfl ?_
  refine go_iload_n dX9_behind_22 rfl ?_
  refine go_iload_n dX9_behind_23 rfl ?_
  refine go_iconst dX9_behind_24 ?_
  refine go_isub dX9_behind_25 ?_
  refine go_iand dX9_behind_26 ?_
  refine go_ior dX9_behind_27 ?_
  refine go_retI dX9_behind_28 rfl ?_
  exact ⟨rfl, rfl⟩
end
section
/-! ===== Line: a cell k and its array k + 1 hold a list ===== -/
def hold (σ : am_St) (k n : Nat) (xs : List Int) : Prop := SH[k]? = some (.inr (1, [k + 4, 0])) ∧ SH[k + 1]? = some (.inl (0, n, none)) ∧ n < 2147483648 ∧ σ.1 k 1 = (xs.length : Int) ∧ xs.length ≤ n ∧ (∀ (i : Nat) (x : Int), xs[i]? = some x → σ.2.2 (k + 1) (i : Int) = x) ∧ ∀ x ∈ xs, inR x
def am_off (ks : List Nat) (σ σ' : am_St) : Prop := ∀ p, p ∉ ks → (∀ j, σ'.1 p j = σ.1 p j) ∧ (∀ j, σ'.2.1 p j = σ.2.1 p j) ∧ ∀ i, σ'.2.2 p i = σ.2.2 p i
theorem am_off.rf {ks : List Nat} {σ : am_St} : am_off ks σ σ := fun _ _ => ⟨fun _ => rfl, fun _ => rfl, fun _ => rfl⟩
theorem am_off.tr {ks : List Nat} {σ σ' σ'' : am_St} (h1 : am_off ks σ σ') (h2 : am_off ks σ' σ'') : am_off ks σ σ'' := fun p hp => ⟨fun j => ((h2 p hp).1 j).trans ((h1 p hp).1 j), fun j => ((h2 p hp).2.1 j).trans ((h1 p hp).2.1 j), fun j => ((h2 p hp).2.2 j).trans ((h1 p hp).2.2 j)⟩
theorem am_off.wk {ks ks' : List Nat} {σ σ' : am_St} (h : am_off ks σ σ') (hs : ∀ p ∈ ks, p ∈ ks') : am_off ks' σ σ' := fun p hp => h p (fun q => hp (hs p q))
theorem am_off_si {σ : am_St} {k j : Nat} {v : Int} {ks : List Nat} (hk : k ∈ ks) : am_off ks σ (am_si σ k j v) := fun p hp => ⟨fun i => by
    have : ¬ p = k := fun e => hp (e ▸ hk)
    simp [am_si, this], fun _ => rfl, fun _ => rfl⟩
theorem am_off_sl {σ : am_St} {k j : Nat} {v : Int} {ks : List Nat} (hk : k ∈ ks) : am_off ks σ (am_sl σ k j v) := fun p hp => ⟨fun _ => rfl, fun i => by
    have : ¬ p = k := fun e => hp (e ▸ hk)
    simp [am_sl, this], fun _ => rfl⟩
theorem am_off_sa {σ : am_St} {k : Nat} {j v : Int} {ks : List Nat} (hk : k ∈ ks) : am_off ks σ (am_sa σ k j v) := fun p hp => ⟨fun _ => rfl, fun _ => rfl, fun i => by
    have : ¬ p = k := fun e => hp (e ▸ hk)
    simp [am_sa, this]⟩
theorem hold.off {σ σ' : am_St} {k n : Nat} {xs : List Int} {ks : List Nat} (h : hold σ k n xs) (ho : am_off ks σ σ') (h1 : k ∉ ks) (h2 : k + 1 ∉ ks) : hold σ' k n xs :=
  ⟨h.1, h.2.1, h.2.2.1, ((ho k h1).1 1).trans h.2.2.2.1, h.2.2.2.2.1, fun i x hx => ((ho (k + 1) h2).2.2 i).trans (h.2.2.2.2.2.1 i x hx), h.2.2.2.2.2.2⟩
def ln_at (xs : List Int) (p : Int) : Int := if p < 0 ∨ (xs.length : Int) ≤ p then -101 else xs.getD p.toNat 0
theorem ln_at_in {xs : List Int} {p : Int} {f : Int → Int} (h6 : ∀ (i : Nat) (x : Int), xs[i]? = some x → f (i : Int) = x) (h0 : 0 ≤ p) (h1 : p < xs.length) : f p = ln_at xs p := by
  have hlt : p.toNat < xs.length := by omega
  have := h6 p.toNat (xs[p.toNat]) (List.getElem?_eq_getElem hlt)
  rw [Int.toNat_of_nonneg h0] at this
  unfold ln_at
  rw [if_neg (by omega), this, List.getD_eq_getElem?_getD, List.getElem?_eq_getElem hlt]
  rfl
theorem ln_at_get {xs : List Int} {i : Nat} {x : Int} (h : xs[i]? = some x) : ln_at xs (i : Int) = x := by
  have hlt := (List.getElem?_eq_some_iff.mp h).1
  unfold ln_at
  rw [if_neg (by omega), Int.toNat_natCast, List.getD_eq_getElem?_getD, h]
  rfl
theorem ln_at_R {xs : List Int} {p : Int} (h : ∀ x ∈ xs, inR x) : inR (ln_at xs p) := by
  unfold ln_at
  split
  · unfold inR; omega
  · rename_i hp
    have hlt : p.toNat < xs.length := by omega
    rw [List.getD_eq_getElem?_getD, List.getElem?_eq_getElem hlt]
    exact h _ (List.getElem_mem hlt)
theorem go_aln {sh : am_Sh} {M : am_M} {d : Nat} {Q : Option Value → am_St → Prop} {pc : Nat} {lv : List (Option Value)} {st : List Value} {σ : am_St} {k t n : Nat} {g : Option (Nat → Option Nat)} (hd : decode M.2.1 pc = .ok (.arraylength, 1)) (hk : sh[k]? = some (.inl (t, n, g))) (ht : t < 3) (kk : am_Go sh M d Q (pc + 1) lv (.int (iZ (n : Int)) :: st) σ) : am_Go sh M d Q pc lv (.ref k :: st) σ := go_alen ht hd hk kk
theorem ev_X1_size {σ : am_St} {k n : Nat} {xs : List Int} (h : hold σ k n xs) : am_Ev SH mX1_size 0 [.ref k] σ (am_rI (fun x σ2 => x = xs.length ∧ σ2 = σ)) := by
  obtain ⟨h1, h2, h3, h4, h5, h6, h7⟩ := h
  refine am_ev (by decide) [some (.ref k)] rfl (Nat.le_of_ble_eq_true rfl) ?_
  refine go_aload_n dX1_size_0 rfl ?_
  refine go_geti fl_X1_21 dX1_size_1 (by assumption) rfl ?_
  refine go_retI dX1_size_4 rfl ?_
  exact ⟨h4, rfl⟩
theorem ev_X1_at {σ : am_St} {k n : Nat} {xs : List Int} {p : Int} (h : hold σ k n xs) (hp : inR p) : am_Ev SH mX1_at 0 [.ref k, .int (iZ p)] σ (am_rI (fun x σ2 => x = ln_at xs p ∧ σ2 = σ)) := by
  obtain ⟨h1, h2, h3, h4, h5, h6, h7⟩ := h
  refine am_ev (by decide) [some (.ref k), some (.int (iZ (p)))] rfl (Nat.le_of_ble_eq_true rfl) ?_
  refine go_iload_n dX1_at_0 rfl ?_
  refine go_if_lt (tgt := 12) dX1_at_1 (by decide) hp (fun hp0 => ?_) (fun hp0 => ?_)
  · skip
    refine go_bipush dX1_at_12 rfl ?_
    refine go_goto (tgt := 23) dX1_at_14 (by decide) ?_
    refine go_retI dX1_at_23 rfl ?_
    first | exact ⟨ln_at_in h6 (by omega) (by omega), rfl⟩ | (refine ⟨?_, rfl⟩; unfold ln_at; rw [if_pos (by omega)])
  · skip
    refine go_iload_n dX1_at_4 rfl ?_
    refine go_aload_n dX1_at_5 rfl ?_
    refine go_geti fl_X1_21 dX1_at_6 (by assumption) rfl ?_
    refine go_icmp_lt (tgt := 17) dX1_at_9 (by decide) hp (by unfold inR; omega) (fun hp1 => ?_) (fun hp1 => ?_)
    · skip
      refine go_aload_n dX1_at_17 rfl ?_
      refine go_getr fl_X1_15 dX1_at_18 (by assumption) rfl ?_
      refine go_iload_n dX1_at_21 rfl ?_
      refine go_iaload dX1_at_22 (by first | assumption | rfl) (by first | assumption | exact Nat.le_of_ble_eq_true rfl) (by omega) (by omega) ?_
      refine go_retI dX1_at_23 rfl ?_
      first | exact ⟨ln_at_in h6 (by omega) (by omega), rfl⟩ | (refine ⟨?_, rfl⟩; unfold ln_at; rw [if_pos (by omega)])
    · skip
      refine go_bipush dX1_at_12 rfl ?_
      refine go_goto (tgt := 23) dX1_at_14 (by decide) ?_
      refine go_retI dX1_at_23 rfl ?_
      first | exact ⟨ln_at_in h6 (by omega) (by omega), rfl⟩ | (refine ⟨?_, rfl⟩; unfold ln_at; rw [if_pos (by omega)])
theorem ev_X1_placeOf {σ : am_St} {k n : Nat} {xs : List Int} {item : Int} (h : hold σ k n xs) (hi : inR item) : am_Ev SH mX1_placeOf 0 [.ref k, .int (iZ item)] σ (am_rI (fun x σ2 => ((x = -1 ∧ item ∉ xs) ∨ ∃ j : Nat, x = j ∧ xs[j]? = some item ∧ ∀ i, i < j → xs[i]? ≠ some item) ∧ σ2 = σ)) := by
  obtain ⟨h1, h2, h3, h4, h5, h6, h7⟩ := h
  have loop : ∀ (m : Nat) (i : Int), (xs.length : Int) - i < m → 0 ≤ i → i ≤ xs.length → (∀ j : Nat, (j : Int) < i → xs[j]? ≠ some item) → am_Go SH mX1_placeOf 0 (am_rI (fun x σ2 => ((x = -1 ∧ item ∉ xs) ∨ ∃ j : Nat, x = j ∧ xs[j]? = some item ∧ ∀ i, i < j → xs[i]? ≠ some item) ∧ σ2 = σ)) 2 [some (.ref k), some (.int (iZ item)), some (.int (iZ i))] [] σ := by
    intro m
    induction m with
    | zero => intro i hm h0 hl; exact absurd hm (by omega)
    | succ m ih =>
      intro i hm h0 hl hno
      refine go_iload_n dX1_placeOf_2 rfl ?_
      refine go_aload_n dX1_placeOf_3 rfl ?_
      refine go_geti fl_X1_21 dX1_placeOf_4 (by assumption) rfl ?_
      refine go_icmp_ge (tgt := 28) dX1_placeOf_7 (by decide) (by unfold inR; omega) (by unfold inR; omega) (fun b7 => ?_) (fun b7 => ?_)
      · skip
        refine go_iconst dX1_placeOf_28 ?_
        refine go_retI dX1_placeOf_29 rfl ?_
        refine ⟨Or.inl ⟨rfl, fun hm => ?_⟩, rfl⟩
        obtain ⟨j, hj⟩ := List.getElem?_of_mem hm
        exact hno j (by have := (List.getElem?_eq_some_iff.mp hj).1; omega) hj
      · skip
        refine go_aload_n dX1_placeOf_10 rfl ?_
        refine go_getr fl_X1_15 dX1_placeOf_11 (by assumption) rfl ?_
        refine go_iload_n dX1_placeOf_14 rfl ?_
        refine go_iaload dX1_placeOf_15 (by first | assumption | rfl) (by first | assumption | exact Nat.le_of_ble_eq_true rfl) (by omega) (by omega) ?_
        have hlt : i.toNat < xs.length := by omega
        have hat : σ.2.2 (k + 1) i = xs[i.toNat] := by have := h6 i.toNat _ (List.getElem?_eq_getElem hlt); rwa [Int.toNat_of_nonneg h0] at this
        have hR : inR (σ.2.2 (k + 1) i) := by rw [hat]; exact h7 _ (List.getElem_mem hlt)
        refine go_iload_n dX1_placeOf_16 rfl ?_
        refine go_icmp_ne (tgt := 22) dX1_placeOf_17 (by decide) hR hi (fun b17 => ?_) (fun b17 => ?_)
        · skip
          refine go_inc2 dX1_placeOf_22 (Nat.le_of_ble_eq_true rfl) rfl ?_
          refine go_goto (tgt := 2) dX1_placeOf_25 (by decide) ?_
          refine ih (i + 1) (by omega) (by omega) (by omega) (fun j hj hc => ?_)
          by_cases hji : (j : Int) = i
          · have := h6 j item hc; rw [hji] at this; exact b17 this
          · exact hno j (by omega) hc
        · skip
          refine go_iload_n dX1_placeOf_20 rfl ?_
          refine go_retI dX1_placeOf_21 rfl ?_
          exact ⟨Or.inr ⟨i.toNat, by omega, by rw [List.getElem?_eq_getElem hlt, ← hat, b17], fun j hj => hno j (by omega)⟩, rfl⟩
  refine am_ev (by decide) [some (.ref k), some (.int (iZ (item))), none] rfl (Nat.le_of_ble_eq_true rfl) ?_
  refine go_iconst dX1_placeOf_0 ?_
  refine go_ist2 dX1_placeOf_1 (Nat.le_of_ble_eq_true rfl) rfl ?_
  exact loop (xs.length + 1) 0 (by omega) (by omega) (by omega) (fun j hj => absurd hj (by omega))
theorem ev_X1_clear {σ : am_St} {k n : Nat} {xs : List Int} (h : hold σ k n xs) : am_Ev SH mX1_clear 0 [.ref k] σ (am_rV (fun σ2 => hold σ2 k n [] ∧ am_off [k, k + 1] σ σ2)) := by
  obtain ⟨h1, h2, h3, h4, h5, h6, h7⟩ := h
  refine am_ev (by decide) [some (.ref k)] rfl (Nat.le_of_ble_eq_true rfl) ?_
  refine go_aload_n dX1_clear_0 rfl ?_
  refine go_iconst dX1_clear_1 ?_
  refine go_puti fl_X1_21 dX1_clear_2 (by assumption) rfl am_fit_int ?_
  refine go_retV dX1_clear_5 rfl ?_
  refine ⟨⟨h1, h2, h3, by simp [am_si], Nat.zero_le _, fun i x hx => by simp at hx, fun x hx => by simp at hx⟩, am_off_si (by simp)⟩
theorem ev_X1_add {σ : am_St} {k n : Nat} {xs : List Int} {item : Int} (h : hold σ k n xs) (hi : inR item) (hlen : xs.length < n) : am_Ev SH mX1_add 0 [.ref k, .int (iZ item)] σ (am_rV (fun σ2 => hold σ2 k n (xs ++ [item]) ∧ am_off [k, k + 1] σ σ2)) := by
  obtain ⟨h1, h2, h3, h4, h5, h6, h7⟩ := h
  refine am_ev (by decide) [some (.ref k), some (.int (iZ (item)))] rfl (Nat.le_of_ble_eq_true rfl) ?_
  refine go_aload_n dX1_add_0 rfl ?_
  refine go_geti fl_X1_21 dX1_add_1 (by assumption) rfl ?_
  refine go_aload_n dX1_add_4 rfl ?_
  refine go_getr fl_X1_15 dX1_add_5 (by assumption) rfl ?_
  refine go_aln dX1_add_8 (by first | assumption | rfl) (by decide) ?_
  refine go_icmp_ge (tgt := 32) dX1_add_9 (by decide) (by unfold inR; omega) (by unfold inR; omega) (fun b9 => ?_) (fun b9 => ?_)
  · skip
    exact absurd b9 (by omega)
  · skip
    refine go_aload_n dX1_add_12 rfl ?_
    refine go_getr fl_X1_15 dX1_add_13 (by assumption) rfl ?_
    refine go_aload_n dX1_add_16 rfl ?_
    refine go_geti fl_X1_21 dX1_add_17 (by assumption) rfl ?_
    refine go_iload_n dX1_add_20 rfl ?_
    refine go_iastore dX1_add_21 (by first | assumption | rfl) (by first | assumption | exact Nat.le_of_ble_eq_true rfl) (by omega) (by omega) ?_
    refine go_aload_n dX1_add_22 rfl ?_
    refine go_dup dX1_add_23 rfl ?_
    refine go_geti fl_X1_21 dX1_add_24 (by assumption) rfl ?_
    refine go_iconst dX1_add_27 ?_
    refine go_iadd dX1_add_28 ?_
    refine go_puti fl_X1_21 dX1_add_29 (by assumption) rfl am_fit_int ?_
    refine go_retV dX1_add_32 rfl ?_
    refine ⟨⟨h1, h2, h3, ?_, ?_, fun i x hx => ?_, fun x hx => ?_⟩, (am_off_sa (by simp)).tr (am_off_si (by simp))⟩
    · simp [am_si, am_sa, h4]
    · simp; omega
    · simp only [am_si, am_sa]
      by_cases hix : i = xs.length
      · subst hix; rw [List.getElem?_append_right (Nat.le_refl _)] at hx; simp at hx; simp [h4, hx]
      · have hl : i < xs.length := by have := (List.getElem?_eq_some_iff.mp hx).1; simp at this; omega
        rw [List.getElem?_append_left hl] at hx
        rw [if_neg (by omega)]; exact h6 i x hx
    · rcases List.mem_append.mp hx with hx | hx
      · exact h7 x hx
      · simp at hx; rw [hx]; exact hi
end
section
/-! ===== Line: addWord, copy, remove, sort, isSame, isBefore ===== -/
/-- the characters of a word, from the o-th from the end on -/
def wd_cs (w : Int) : Nat → List Int
  | 0 => []
  | o + 1 => wd_fe w (o : Int) :: wd_cs w o
theorem wd_fe_R (w o : Int) : inR (wd_fe w o) := am_and_R _ _
theorem wd_cs_len (w : Int) : ∀ o, (wd_cs w o).length = o
  | 0 => rfl
  | o + 1 => by show (wd_cs w o).length + 1 = _; rw [wd_cs_len w o]
theorem ev_X1_addWord {σ : am_St} {k n : Nat} {xs : List Int} {w : Int} (h : hold σ k n xs) (hw : inR w) (hlen : xs.length + (wd_sz w).toNat ≤ n) : am_Ev SH mX1_addWord 1 [.ref k, .int (iZ w)] σ (am_rV (fun σ2 => hold σ2 k n (xs ++ wd_cs w (wd_sz w).toNat) ∧ am_off [k, k + 1] σ σ2)) := by
  have hz := wd_sz_bd w
  have loop : ∀ (m : Nat) (ys : List Int) (σ1 : am_St), hold σ1 k n ys → ys.length + m ≤ n → am_off [k, k + 1] σ σ1 → (m : Int) ≤ 4 → ys ++ wd_cs w m = xs ++ wd_cs w (wd_sz w).toNat → am_Go SH mX1_addWord 1 (am_rV (fun σ2 => hold σ2 k n (xs ++ wd_cs w (wd_sz w).toNat) ∧ am_off [k, k + 1] σ σ2)) 7 [some (.ref k), some (.int (iZ w)), some (.int (iZ ((m : Int) - 1)))] [] σ1 := by
    intro m
    induction m with
    | zero =>
      intro ys σ1 hh hl ho hm he
      have h1 := hh.1
      refine go_iload_n dX1_addWord_7 rfl ?_
      refine go_if_lt (tgt := 26) dX1_addWord_8 (by decide) (by unfold inR; omega) (fun b8 => ?_) (fun b8 => ?_)
      · skip
        refine go_retV dX1_addWord_26 rfl ?_
        exact ⟨by rw [← he]; simpa [wd_cs] using hh, ho⟩
      · skip
        omega
    | succ m ih =>
      intro ys σ1 hh hl ho hm he
      have h1 := hh.1
      refine go_iload_n dX1_addWord_7 rfl ?_
      refine go_if_lt (tgt := 26) dX1_addWord_8 (by decide) (by unfold inR; omega) (fun b8 => ?_) (fun b8 => ?_)
      · skip
        exact absurd b8 (by omega)
      · skip
        refine go_aload_n dX1_addWord_11 rfl ?_
        refine go_iload_n dX1_addWord_12 rfl ?_
        refine go_iload_n dX1_addWord_13 rfl ?_
        refine go_csP2 (M2 := mX9_fromEnd) dX1_addWord_14 ml_X1_30 ms_X9_fromEnd (Nat.le_of_ble_eq_true rfl) (by decide) (ev_X9_fromEnd) ?_
        refine go_cvV1 (M2 := mX1_add) dX1_addWord_17 ml_X1_33 mv_X1_add (by assumption) rfl rfl (Nat.le_of_ble_eq_true rfl) (by decide) (ev_X1_add hh (wd_fe_R _ _) (by omega)) (fun σ2 hq => ?_)
        refine go_inc2 dX1_addWord_20 (Nat.le_of_ble_eq_true rfl) rfl ?_
        refine go_goto (tgt := 7) dX1_addWord_23 (by decide) ?_
        have e1 : (↑(m + 1) : Int) - 1 = (m : Int) := by omega
        rw [e1] at hq
        have e2 : (↑(m + 1) : Int) - 1 + -1 = (m : Int) - 1 := by omega
        rw [e2]
        exact ih (ys ++ [wd_fe w m]) σ2 hq.1 (by simp; omega) (ho.tr hq.2) (by omega) (by rw [← he]; simp [wd_cs])
  refine am_ev (by decide) [some (.ref k), some (.int (iZ (w))), none] rfl (Nat.le_of_ble_eq_true rfl) ?_
  refine go_iload_n dX1_addWord_0 rfl ?_
  refine go_csP1 (M2 := mX9_size) dX1_addWord_1 ml_X1_25 ms_X9_size (Nat.le_of_ble_eq_true rfl) (by decide) (ev_X9_size hw) ?_
  refine go_iconst dX1_addWord_4 ?_
  refine go_isub dX1_addWord_5 ?_
  refine go_ist2 dX1_addWord_6 (Nat.le_of_ble_eq_true rfl) rfl ?_
  have e0 : wd_sz w - 1 = ((wd_sz w).toNat : Int) - 1 := by omega
  rw [e0]
  exact loop (wd_sz w).toNat xs σ h hlen am_off.rf (by omega) rfl
theorem ev_X1_copy {σ : am_St} {k n k2 n2 : Nat} {xs ys : List Int} (h : hold σ k n xs) (g : hold σ k2 n2 ys) (hlen : ys.length ≤ n) (hne : k2 ≠ k) (hne2 : k2 + 1 ≠ k) (hne3 : k2 ≠ k + 1) : am_Ev SH mX1_copy 0 [.ref k, .ref k2] σ (am_rV (fun σ2 => hold σ2 k n ys ∧ am_off [k, k + 1] σ σ2)) := by
  obtain ⟨h1, h2, h3, h4, h5, h6, h7⟩ := h
  obtain ⟨g1, g2, g3, g4, g5, g6, g7⟩ := g
  have loop : ∀ (m : Nat) (i : Int) (σ1 : am_St), (ys.length : Int) - i < m → 0 ≤ i → i ≤ ys.length → σ1.1 k 1 = ys.length → am_off [k, k + 1] σ σ1 → (∀ (j : Nat) (x : Int), (j : Int) < i → ys[j]? = some x → σ1.2.2 (k + 1) (j : Int) = x) → am_Go SH mX1_copy 0 (am_rV (fun σ2 => hold σ2 k n ys ∧ am_off [k, k + 1] σ σ2)) 30 [some (.ref k), some (.ref k2), some (.int (iZ i))] [] σ1 := by
    intro m
    induction m with
    | zero => intro i σ1 hm h0 hl; exact absurd hm (by omega)
    | succ m ih =>
      intro i σ1 hm h0 hl hs ho hin
      have hk2 := ho (k2 + 1) (by simp; omega)
      refine go_iload_n dX1_copy_30 rfl ?_
      refine go_aload_n dX1_copy_31 rfl ?_
      refine go_geti fl_X1_21 dX1_copy_32 (by assumption) rfl ?_
      refine go_icmp_ge (tgt := 56) dX1_copy_35 (by decide) (by unfold inR; omega) (by unfold inR; omega) (fun b35 => ?_) (fun b35 => ?_)
      · skip
        refine go_retV dX1_copy_56 rfl ?_
        exact ⟨⟨h1, h2, h3, hs, hlen, fun j x hx => hin j x (by have := (List.getElem?_eq_some_iff.mp hx).1; omega) hx, g7⟩, ho⟩
      · skip
        refine go_aload_n dX1_copy_38 rfl ?_
        refine go_getr fl_X1_15 dX1_copy_39 (by assumption) rfl ?_
        refine go_iload_n dX1_copy_42 rfl ?_
        refine go_aload_n dX1_copy_43 rfl ?_
        refine go_getr fl_X1_15 dX1_copy_44 (by assumption) rfl ?_
        refine go_iload_n dX1_copy_47 rfl ?_
        refine go_iaload dX1_copy_48 (by first | assumption | rfl) (by first | assumption | exact Nat.le_of_ble_eq_true rfl) (by omega) (by omega) ?_
        refine go_iastore dX1_copy_49 (by first | assumption | rfl) (by first | assumption | exact Nat.le_of_ble_eq_true rfl) (by omega) (by omega) ?_
        refine go_inc2 dX1_copy_50 (Nat.le_of_ble_eq_true rfl) rfl ?_
        refine go_goto (tgt := 30) dX1_copy_53 (by decide) ?_
        refine ih (i + 1) _ (by omega) (by omega) (by omega) hs (ho.tr (am_off_sa (by simp))) (fun j x hj hx => ?_)
        simp only [am_sa]
        by_cases hji : (j : Int) = i
        · rw [if_pos ⟨trivial, hji⟩, hk2.2.2]; rw [← hji]; exact g6 j x hx
        · rw [if_neg (by simp [hji])]; exact hin j x (by omega) hx
  refine am_ev (by decide) [some (.ref k), some (.ref k2), none] rfl (Nat.le_of_ble_eq_true rfl) ?_
  refine go_aload_n dX1_copy_0 rfl ?_
  refine go_aload_n dX1_copy_1 rfl ?_
  refine go_geti fl_X1_21 dX1_copy_2 (by assumption) rfl ?_
  refine go_aload_n dX1_copy_5 rfl ?_
  refine go_getr fl_X1_15 dX1_copy_6 (by assumption) rfl ?_
  refine go_aln dX1_copy_9 (by first | assumption | rfl) (by decide) ?_
  refine go_icmp_ge (tgt := 20) dX1_copy_10 (by decide) (by unfold inR; omega) (by unfold inR; omega) (fun b10 => ?_) (fun b10 => ?_)
  · skip
    refine go_aload_n dX1_copy_20 rfl ?_
    refine go_getr fl_X1_15 dX1_copy_21 (by assumption) rfl ?_
    refine go_aln dX1_copy_24 (by first | assumption | rfl) (by decide) ?_
    refine go_puti fl_X1_21 dX1_copy_25 (by assumption) rfl am_fit_int ?_
    refine go_iconst dX1_copy_28 ?_
    refine go_ist2 dX1_copy_29 (Nat.le_of_ble_eq_true rfl) rfl ?_
    refine loop (ys.length + 1) 0 _ (by omega) (by omega) (by omega) ?_ (am_off_si (by simp)) (fun j x hj => absurd hj (by omega))
    simp [am_si]; omega
  · skip
    refine go_aload_n dX1_copy_13 rfl ?_
    refine go_geti fl_X1_21 dX1_copy_14 (by assumption) rfl ?_
    refine go_goto (tgt := 25) dX1_copy_17 (by decide) ?_
    refine go_puti fl_X1_21 dX1_copy_25 (by assumption) rfl am_fit_int ?_
    refine go_iconst dX1_copy_28 ?_
    refine go_ist2 dX1_copy_29 (Nat.le_of_ble_eq_true rfl) rfl ?_
    refine loop (ys.length + 1) 0 _ (by omega) (by omega) (by omega) ?_ (am_off_si (by simp)) (fun j x hj => absurd hj (by omega))
    simp [am_si]; omega
theorem ev_X1_remove {σ : am_St} {k n : Nat} {xs : List Int} {p : Int} (h : hold σ k n xs) (h0 : 0 ≤ p) (hp : p < xs.length) : am_Ev SH mX1_remove 0 [.ref k, .int (iZ p)] σ (am_rV (fun σ2 => hold σ2 k n (xs.eraseIdx p.toNat) ∧ am_off [k, k + 1] σ σ2)) := by
  obtain ⟨h1, h2, h3, h4, h5, h6, h7⟩ := h
  have loop : ∀ (m : Nat) (i : Int) (σ1 : am_St), (xs.length : Int) - i < m → p < i → i ≤ xs.length → σ1.1 k 1 = xs.length → am_off [k, k + 1] σ σ1 → (∀ j : Int, 0 ≤ j → j < xs.length → σ1.2.2 (k + 1) j = if p ≤ j ∧ j < i - 1 then σ.2.2 (k + 1) (j + 1) else σ.2.2 (k + 1) j) → am_Go SH mX1_remove 0 (am_rV (fun σ2 => hold σ2 k n (xs.eraseIdx p.toNat) ∧ am_off [k, k + 1] σ σ2)) 17 [some (.ref k), some (.int (iZ p)), some (.int (iZ i))] [] σ1 := by
    intro m
    induction m with
    | zero => intro i σ1 hm h0 hl; exact absurd hm (by omega)
    | succ m ih =>
      intro i σ1 hm hpi hl hs ho hin
      refine go_iload_n dX1_remove_17 rfl ?_
      refine go_aload_n dX1_remove_18 rfl ?_
      refine go_geti fl_X1_21 dX1_remove_19 (by assumption) rfl ?_
      refine go_icmp_ge (tgt := 45) dX1_remove_22 (by decide) (by unfold inR; omega) (by unfold inR; omega) (fun b22 => ?_) (fun b22 => ?_)
      · skip
        refine go_aload_n dX1_remove_45 rfl ?_
        refine go_dup dX1_remove_46 rfl ?_
        refine go_geti fl_X1_21 dX1_remove_47 (by assumption) rfl ?_
        refine go_iconst dX1_remove_50 ?_
        refine go_isub dX1_remove_51 ?_
        refine go_puti fl_X1_21 dX1_remove_52 (by assumption) rfl am_fit_int ?_
        refine go_retV dX1_remove_55 rfl ?_
        refine ⟨⟨h1, h2, h3, ?_, ?_, fun j x hx => ?_, fun x hx => h7 x (List.mem_of_mem_eraseIdx hx)⟩, ho.tr (am_off_si (by simp))⟩
        · simp only [am_si]; rw [if_pos ⟨trivial, trivial⟩, List.length_eraseIdx, if_pos (by omega)]; omega
        · have := List.length_eraseIdx_le xs p.toNat; omega
        · have hj := (List.getElem?_eq_some_iff.mp hx).1
          rw [List.length_eraseIdx, if_pos (by omega)] at hj
          rw [List.getElem?_eraseIdx] at hx
          show σ1.2.2 (k + 1) (j : Int) = x
          rw [hin j (by omega) (by omega)]
          split at hx
          · rw [if_neg (by omega)]; exact h6 j x hx
          · rw [if_pos (by omega)]; exact h6 (j + 1) x hx
      · skip
        refine go_aload_n dX1_remove_25 rfl ?_
        refine go_getr fl_X1_15 dX1_remove_26 (by assumption) rfl ?_
        refine go_iload_n dX1_remove_29 rfl ?_
        refine go_iconst dX1_remove_30 ?_
        refine go_isub dX1_remove_31 ?_
        refine go_aload_n dX1_remove_32 rfl ?_
        refine go_getr fl_X1_15 dX1_remove_33 (by assumption) rfl ?_
        refine go_iload_n dX1_remove_36 rfl ?_
        refine go_iaload dX1_remove_37 (by first | assumption | rfl) (by first | assumption | exact Nat.le_of_ble_eq_true rfl) (by omega) (by omega) ?_
        refine go_iastore dX1_remove_38 (by first | assumption | rfl) (by first | assumption | exact Nat.le_of_ble_eq_true rfl) (by omega) (by omega) ?_
        refine go_inc2 dX1_remove_39 (Nat.le_of_ble_eq_true rfl) rfl ?_
        refine go_goto (tgt := 17) dX1_remove_42 (by decide) ?_
        refine ih (i + 1) _ (by omega) (by omega) (by omega) hs (ho.tr (am_off_sa (by simp))) (fun j hj0 hj => ?_)
        simp only [am_sa]
        by_cases hji : j = i - 1
        · rw [if_pos ⟨trivial, hji⟩, hin i (by omega) (by omega), if_neg (by omega), if_pos (by omega), show j + 1 = i by omega]
        · rw [if_neg (by simp [hji]), hin j hj0 hj]; by_cases hc : p ≤ j ∧ j < i - 1
          · rw [if_pos hc, if_pos (by omega)]
          · rw [if_neg hc, if_neg (by omega)]
  refine am_ev (by decide) [some (.ref k), some (.int (iZ (p))), none] rfl (Nat.le_of_ble_eq_true rfl) ?_
  refine go_iload_n dX1_remove_0 rfl ?_
  refine go_if_lt (tgt := 12) dX1_remove_1 (by decide) (by unfold inR; omega) (fun b1 => ?_) (fun b1 => ?_)
  · skip
    exact absurd b1 (by omega)
  · skip
    refine go_iload_n dX1_remove_4 rfl ?_
    refine go_aload_n dX1_remove_5 rfl ?_
    refine go_geti fl_X1_21 dX1_remove_6 (by assumption) rfl ?_
    refine go_icmp_lt (tgt := 13) dX1_remove_9 (by decide) (by unfold inR; omega) (by unfold inR; omega) (fun b9 => ?_) (fun b9 => ?_)
    · skip
      refine go_iload_n dX1_remove_13 rfl ?_
      refine go_iconst dX1_remove_14 ?_
      refine go_iadd dX1_remove_15 ?_
      refine go_ist2 dX1_remove_16 (Nat.le_of_ble_eq_true rfl) rfl ?_
      exact loop (xs.length + 1) (p + 1) σ (by omega) (by omega) (by omega) h4 am_off.rf (fun j hj0 hj => by rw [if_neg (by omega)])
    · skip
      exact absurd b9 (by omega)
theorem ev_X1_isSame {σ : am_St} {k n k2 n2 : Nat} {xs ys : List Int} (h : hold σ k n xs) (g : hold σ k2 n2 ys) : am_Ev SH mX1_isSame 0 [.ref k, .ref k2] σ (am_rI (fun x σ2 => x = (if xs = ys then 1 else 0) ∧ σ2 = σ)) := by
  obtain ⟨h1, h2, h3, h4, h5, h6, h7⟩ := h
  obtain ⟨g1, g2, g3, g4, g5, g6, g7⟩ := g
  have loop : ∀ (m : Nat) (i : Int), (xs.length : Int) - i < m → 0 ≤ i → i ≤ xs.length → xs.length = ys.length → (∀ j : Nat, (j : Int) < i → xs[j]? = ys[j]?) → am_Go SH mX1_isSame 0 (am_rI (fun x σ2 => x = (if xs = ys then 1 else 0) ∧ σ2 = σ)) 15 [some (.ref k), some (.ref k2), some (.int (iZ i))] [] σ := by
    intro m
    induction m with
    | zero => intro i hm h0 hl; exact absurd hm (by omega)
    | succ m ih =>
      intro i hm h0 hl hxy hin
      refine go_iload_n dX1_isSame_15 rfl ?_
      refine go_aload_n dX1_isSame_16 rfl ?_
      refine go_geti fl_X1_21 dX1_isSame_17 (by assumption) rfl ?_
      refine go_icmp_ge (tgt := 46) dX1_isSame_20 (by decide) (by unfold inR; omega) (by unfold inR; omega) (fun b20 => ?_) (fun b20 => ?_)
      · skip
        refine go_iconst dX1_isSame_46 ?_
        refine go_retZ dX1_isSame_47 rfl (by omega) ?_
        refine ⟨?_, rfl⟩
        rw [if_pos]
        apply List.ext_getElem?
        intro j
        by_cases hj : j < xs.length
        · exact hin j (by omega)
        · rw [List.getElem?_eq_none (by omega), List.getElem?_eq_none (by omega)]
      · skip
        refine go_aload_n dX1_isSame_23 rfl ?_
        refine go_getr fl_X1_15 dX1_isSame_24 (by assumption) rfl ?_
        refine go_iload_n dX1_isSame_27 rfl ?_
        refine go_iaload dX1_isSame_28 (by first | assumption | rfl) (by first | assumption | exact Nat.le_of_ble_eq_true rfl) (by omega) (by omega) ?_
        refine go_aload_n dX1_isSame_29 rfl ?_
        refine go_getr fl_X1_15 dX1_isSame_30 (by assumption) rfl ?_
        refine go_iload_n dX1_isSame_33 rfl ?_
        refine go_iaload dX1_isSame_34 (by first | assumption | rfl) (by first | assumption | exact Nat.le_of_ble_eq_true rfl) (by omega) (by omega) ?_
        have hlt : i.toNat < xs.length := by omega
        have hlt2 : i.toNat < ys.length := by omega
        have e1 : σ.2.2 (k + 1) i = xs[i.toNat] := by have := h6 i.toNat _ (List.getElem?_eq_getElem hlt); rwa [Int.toNat_of_nonneg h0] at this
        have e2 : σ.2.2 (k2 + 1) i = ys[i.toNat] := by have := g6 i.toNat _ (List.getElem?_eq_getElem hlt2); rwa [Int.toNat_of_nonneg h0] at this
        refine go_icmp_eq (tgt := 40) dX1_isSame_35 (by decide) (by rw [e1]; exact h7 _ (List.getElem_mem hlt)) (by rw [e2]; exact g7 _ (List.getElem_mem hlt2)) (fun b35 => ?_) (fun b35 => ?_)
        · skip
          refine go_inc2 dX1_isSame_40 (Nat.le_of_ble_eq_true rfl) rfl ?_
          refine go_goto (tgt := 15) dX1_isSame_43 (by decide) ?_
          refine ih (i + 1) (by omega) (by omega) (by omega) hxy (fun j hj => ?_)
          by_cases hji : (j : Int) = i
          · have hj : j = i.toNat := by omega
            subst hj; rw [List.getElem?_eq_getElem hlt, List.getElem?_eq_getElem hlt2, ← e1, ← e2, b35]
          · exact hin j (by omega)
        · skip
          refine go_iconst dX1_isSame_38 ?_
          refine go_retZ dX1_isSame_39 rfl (by omega) ?_
          refine ⟨?_, rfl⟩
          rw [if_neg (fun e => b35 (by rw [e1, e2]; subst e; rfl))]
  refine am_ev (by decide) [some (.ref k), some (.ref k2), none] rfl (Nat.le_of_ble_eq_true rfl) ?_
  refine go_aload_n dX1_isSame_0 rfl ?_
  refine go_geti fl_X1_21 dX1_isSame_1 (by assumption) rfl ?_
  refine go_aload_n dX1_isSame_4 rfl ?_
  refine go_geti fl_X1_21 dX1_isSame_5 (by assumption) rfl ?_
  refine go_icmp_eq (tgt := 13) dX1_isSame_8 (by decide) (by unfold inR; omega) (by unfold inR; omega) (fun b8 => ?_) (fun b8 => ?_)
  · skip
    refine go_iconst dX1_isSame_13 ?_
    refine go_ist2 dX1_isSame_14 (Nat.le_of_ble_eq_true rfl) rfl ?_
    exact loop (xs.length + 1) 0 (by omega) (by omega) (by omega) (by omega) (fun j hj => absurd hj (by omega))
  · skip
    refine go_iconst dX1_isSame_11 ?_
    refine go_retZ dX1_isSame_12 rfl (by omega) ?_
    refine ⟨?_, rfl⟩
    rw [if_neg (fun e => b8 (by rw [h4, g4, e]))]
/-- shorter, or as long and earlier by its numbers -/
def ln_bf (xs ys : List Int) : Prop := xs.length < ys.length ∨ (xs.length = ys.length ∧ ∃ i : Nat, (∀ j, j < i → xs[j]? = ys[j]?) ∧ ∃ a b, xs[i]? = some a ∧ ys[i]? = some b ∧ a < b)
theorem ev_X1_isBefore {σ : am_St} {k n k2 n2 : Nat} {xs ys : List Int} (h : hold σ k n xs) (g : hold σ k2 n2 ys) : am_Ev SH mX1_isBefore 0 [.ref k, .ref k2] σ (am_rI (fun x σ2 => ((x = 1 ∧ ln_bf xs ys) ∨ (x = 0 ∧ ¬ ln_bf xs ys)) ∧ σ2 = σ)) := by
  obtain ⟨h1, h2, h3, h4, h5, h6, h7⟩ := h
  obtain ⟨g1, g2, g3, g4, g5, g6, g7⟩ := g
  have loop : ∀ (m : Nat) (i : Int), (xs.length : Int) - i < m → 0 ≤ i → i ≤ xs.length → xs.length = ys.length → (∀ j : Nat, (j : Int) < i → xs[j]? = ys[j]?) → am_Go SH mX1_isBefore 0 (am_rI (fun x σ2 => ((x = 1 ∧ ln_bf xs ys) ∨ (x = 0 ∧ ¬ ln_bf xs ys)) ∧ σ2 = σ)) 30 [some (.ref k), some (.ref k2), some (.int (iZ i))] [] σ := by
    intro m
    induction m with
    | zero => intro i hm h0 hl; exact absurd hm (by omega)
    | succ m ih =>
      intro i hm h0 hl hxy hin
      refine go_iload_n dX1_isBefore_30 rfl ?_
      refine go_aload_n dX1_isBefore_31 rfl ?_
      refine go_geti fl_X1_21 dX1_isBefore_32 (by assumption) rfl ?_
      refine go_icmp_ge (tgt := 80) dX1_isBefore_35 (by decide) (by unfold inR; omega) (by unfold inR; omega) (fun b35 => ?_) (fun b35 => ?_)
      · skip
        refine go_iconst dX1_isBefore_80 ?_
        refine go_retZ dX1_isBefore_81 rfl (by omega) ?_
        refine ⟨Or.inr ⟨rfl, fun hb => ?_⟩, rfl⟩
        rcases hb with hb | ⟨-, i2, hb1, a, b, hb2, hb3, hb4⟩
        · omega
        · have := (List.getElem?_eq_some_iff.mp hb2).1
          have := hin i2 (by omega); rw [hb2, hb3] at this; have := Option.some.inj this; omega
      · skip
        have hlt : i.toNat < xs.length := by omega
        have hlt2 : i.toNat < ys.length := by omega
        have e1 : σ.2.2 (k + 1) i = xs[i.toNat] := by have := h6 i.toNat _ (List.getElem?_eq_getElem hlt); rwa [Int.toNat_of_nonneg h0] at this
        have e2 : σ.2.2 (k2 + 1) i = ys[i.toNat] := by have := g6 i.toNat _ (List.getElem?_eq_getElem hlt2); rwa [Int.toNat_of_nonneg h0] at this
        have r1 : inR (σ.2.2 (k + 1) i) := by rw [e1]; exact h7 _ (List.getElem_mem hlt)
        have r2 : inR (σ.2.2 (k2 + 1) i) := by rw [e2]; exact g7 _ (List.getElem_mem hlt2)
        refine go_aload_n dX1_isBefore_38 rfl ?_
        refine go_getr fl_X1_15 dX1_isBefore_39 (by assumption) rfl ?_
        refine go_iload_n dX1_isBefore_42 rfl ?_
        refine go_iaload dX1_isBefore_43 (by first | assumption | rfl) (by first | assumption | exact Nat.le_of_ble_eq_true rfl) (by omega) (by omega) ?_
        refine go_aload_n dX1_isBefore_44 rfl ?_
        refine go_getr fl_X1_15 dX1_isBefore_45 (by assumption) rfl ?_
        refine go_iload_n dX1_isBefore_48 rfl ?_
        refine go_iaload dX1_isBefore_49 (by first | assumption | rfl) (by first | assumption | exact Nat.le_of_ble_eq_true rfl) (by omega) (by omega) ?_
        refine go_icmp_eq (tgt := 74) dX1_isBefore_50 (by decide) r1 r2 (fun b50 => ?_) (fun b50 => ?_)
        · skip
          refine go_inc2 dX1_isBefore_74 (Nat.le_of_ble_eq_true rfl) rfl ?_
          refine go_goto (tgt := 30) dX1_isBefore_77 (by decide) ?_
          refine ih (i + 1) (by omega) (by omega) (by omega) hxy (fun j hj => ?_)
          by_cases hji : (j : Int) = i
          · have hj : j = i.toNat := by omega
            subst hj; rw [List.getElem?_eq_getElem hlt, List.getElem?_eq_getElem hlt2, ← e1, ← e2, b50]
          · exact hin j (by omega)
        · skip
          refine go_aload_n dX1_isBefore_53 rfl ?_
          refine go_getr fl_X1_15 dX1_isBefore_54 (by assumption) rfl ?_
          refine go_iload_n dX1_isBefore_57 rfl ?_
          refine go_iaload dX1_isBefore_58 (by first | assumption | rfl) (by first | assumption | exact Nat.le_of_ble_eq_true rfl) (by omega) (by omega) ?_
          refine go_aload_n dX1_isBefore_59 rfl ?_
          refine go_getr fl_X1_15 dX1_isBefore_60 (by assumption) rfl ?_
          refine go_iload_n dX1_isBefore_63 rfl ?_
          refine go_iaload dX1_isBefore_64 (by first | assumption | rfl) (by first | assumption | exact Nat.le_of_ble_eq_true rfl) (by omega) (by omega) ?_
          refine go_icmp_ge (tgt := 72) dX1_isBefore_65 (by decide) r1 r2 (fun b65 => ?_) (fun b65 => ?_)
          · skip
            refine go_iconst dX1_isBefore_72 ?_
            refine go_retZ dX1_isBefore_73 rfl (by omega) ?_
            first | exact ⟨Or.inl ⟨rfl, hb⟩, rfl⟩ | skip
            all_goals refine ⟨Or.inr ⟨rfl, fun hb => ?_⟩, rfl⟩
            all_goals rcases hb with hb | ⟨-, i2, hb1, a, b, hb2, hb3, hb4⟩
            all_goals first | omega | skip
            all_goals rcases Nat.lt_trichotomy i2 i.toNat with q | q | q
            all_goals first | (have := hin i2 (by omega); rw [hb2, hb3] at this; have := Option.some.inj this; omega) | (subst q; rw [List.getElem?_eq_getElem hlt] at hb2; rw [List.getElem?_eq_getElem hlt2] at hb3; have := Option.some.inj hb2; have := Option.some.inj hb3; omega) | (have := hb1 _ q; rw [List.getElem?_eq_getElem hlt, List.getElem?_eq_getElem hlt2] at this; have := Option.some.inj this; omega)
          · skip
            refine go_iconst dX1_isBefore_68 ?_
            have hb : ln_bf xs ys := Or.inr ⟨hxy, i.toNat, fun j hj => hin j (by omega), _, _, List.getElem?_eq_getElem hlt, List.getElem?_eq_getElem hlt2, by omega⟩
            refine go_goto (tgt := 73) dX1_isBefore_69 (by decide) ?_
            refine go_retZ dX1_isBefore_73 rfl (by omega) ?_
            first | exact ⟨Or.inl ⟨rfl, hb⟩, rfl⟩ | skip
            all_goals refine ⟨Or.inr ⟨rfl, fun hb => ?_⟩, rfl⟩
            all_goals rcases hb with hb | ⟨-, i2, hb1, a, b, hb2, hb3, hb4⟩
            all_goals first | omega | skip
            all_goals rcases Nat.lt_trichotomy i2 i.toNat with q | q | q
            all_goals first | (have := hin i2 (by omega); rw [hb2, hb3] at this; have := Option.some.inj this; omega) | (subst q; rw [List.getElem?_eq_getElem hlt] at hb2; rw [List.getElem?_eq_getElem hlt2] at hb3; have := Option.some.inj hb2; have := Option.some.inj hb3; omega) | (have := hb1 _ q; rw [List.getElem?_eq_getElem hlt, List.getElem?_eq_getElem hlt2] at this; have := Option.some.inj this; omega)
  refine am_ev (by decide) [some (.ref k), some (.ref k2), none] rfl (Nat.le_of_ble_eq_true rfl) ?_
  refine go_aload_n dX1_isBefore_0 rfl ?_
  refine go_geti fl_X1_21 dX1_isBefore_1 (by assumption) rfl ?_
  refine go_aload_n dX1_isBefore_4 rfl ?_
  refine go_geti fl_X1_21 dX1_isBefore_5 (by assumption) rfl ?_
  refine go_icmp_eq (tgt := 28) dX1_isBefore_8 (by decide) (by unfold inR; omega) (by unfold inR; omega) (fun b8 => ?_) (fun b8 => ?_)
  · skip
    refine go_iconst dX1_isBefore_28 ?_
    refine go_ist2 dX1_isBefore_29 (Nat.le_of_ble_eq_true rfl) rfl ?_
    exact loop (xs.length + 1) 0 (by omega) (by omega) (by omega) (by omega) (fun j hj => absurd hj (by omega))
  · skip
    refine go_aload_n dX1_isBefore_11 rfl ?_
    refine go_geti fl_X1_21 dX1_isBefore_12 (by assumption) rfl ?_
    refine go_aload_n dX1_isBefore_15 rfl ?_
    refine go_geti fl_X1_21 dX1_isBefore_16 (by assumption) rfl ?_
    refine go_icmp_ge (tgt := 26) dX1_isBefore_19 (by decide) (by unfold inR; omega) (by unfold inR; omega) (fun b19 => ?_) (fun b19 => ?_)
    · skip
      refine go_iconst dX1_isBefore_26 ?_
      refine go_retZ dX1_isBefore_27 rfl (by omega) ?_
      first | exact ⟨Or.inl ⟨rfl, Or.inl (by omega)⟩, rfl⟩ | exact ⟨Or.inr ⟨rfl, fun hb => by rcases hb with hb | hb <;> omega⟩, rfl⟩
    · skip
      refine go_iconst dX1_isBefore_22 ?_
      refine go_goto (tgt := 27) dX1_isBefore_23 (by decide) ?_
      refine go_retZ dX1_isBefore_27 rfl (by omega) ?_
      first | exact ⟨Or.inl ⟨rfl, Or.inl (by omega)⟩, rfl⟩ | exact ⟨Or.inr ⟨rfl, fun hb => by rcases hb with hb | hb <;> omega⟩, rfl⟩
end
section
/-! ===== bits (fa_: pasted from the kit's laws/NUMBERS.to-paste) ===== -/
theorem fa_lit (n : Nat) : (OfNat.ofNat n : Int32) = nI n := rfl
theorem fa_litL (n : Nat) : (OfNat.ofNat n : Int64) = lN n := rfl
/-! ===== bits of a number: 'or', masks, one bit ===== -/
theorem fa_and (a b : Nat) : nI a &&& nI b = nI (a &&& b) := by
  apply Int32.toBitVec_inj.1
  show BitVec.ofNat 32 a &&& BitVec.ofNat 32 b = BitVec.ofNat 32 (a &&& b)
  apply BitVec.eq_of_getLsbD_eq
  intro i hi
  simp [hi]
theorem fa_or (a b : Nat) : nI a ||| nI b = nI (a ||| b) := by
  apply Int32.toBitVec_inj.1
  show BitVec.ofNat 32 a ||| BitVec.ofNat 32 b = BitVec.ofNat 32 (a ||| b)
  apply BitVec.eq_of_getLsbD_eq
  intro i hi
  simp [hi]
/-- a remainder by a power of two, as a mask -/
theorem fa_mask (n k : Nat) : nI n &&& nI (2 ^ k - 1) = nI (n % 2 ^ k) := by rw [fa_and, Nat.and_two_pow_sub_one_eq_mod]
/-- 'or' of a high part and a low one that don't meet is their sum -/
theorem fa_or_sum {a k : Nat} (b : Nat) (h : a < 2 ^ k) : nI (2 ^ k * b) ||| nI a = nI (2 ^ k * b + a) := by rw [fa_or, Nat.two_pow_add_eq_or_of_lt h]
theorem fx_xor (a b : Nat) : nI a ^^^ nI b = nI (a ^^^ b) := by
  apply Int32.toBitVec_inj.1
  show BitVec.ofNat 32 a ^^^ BitVec.ofNat 32 b = BitVec.ofNat 32 (a ^^^ b)
  apply BitVec.eq_of_getLsbD_eq
  intro i hi
  simp [hi]
theorem iZ_nI (n : Nat) : iZ (n : Int) = nI n := Int32.ofInt_eq_ofNat
theorem am_andN {a b : Nat} (ha : a < 2 ^ 31) : am_and (a : Int) (b : Int) = ((a &&& b : Nat) : Int) := by
  unfold am_and
  rw [iZ_nI, iZ_nI, fa_and, nI_toInt (Nat.lt_of_le_of_lt Nat.and_le_left ha)]
theorem am_orN {a b : Nat} (ha : a < 2 ^ 31) (hb : b < 2 ^ 31) : am_or (a : Int) (b : Int) = ((a ||| b : Nat) : Int) := by
  unfold am_or
  rw [iZ_nI, iZ_nI, fa_or, nI_toInt (Nat.or_lt_two_pow ha hb)]
theorem am_xorN {a b : Nat} (ha : a < 2 ^ 31) (hb : b < 2 ^ 31) : am_xor (a : Int) (b : Int) = ((a ^^^ b : Nat) : Int) := by
  unfold am_xor
  rw [iZ_nI, iZ_nI, fx_xor, nI_toInt (Nat.xor_lt_two_pow ha hb)]
theorem fx_amt : ∀ b : Fin 32, (((nI b.val) &&& 31).toBitVec.smod 32).toNat = b.val := by decide +kernel
theorem am_shrN {a b : Nat} (ha : a < 2 ^ 31) (hb : b < 32) : am_shr (a : Int) (b : Int) = ((a / 2 ^ b : Nat) : Int) := by
  unfold am_shr
  rw [iZ_nI, iZ_nI, pk_shrN ha _ b (fx_amt ⟨b, hb⟩), nI_toInt (Nat.lt_of_le_of_lt (Nat.div_le_self _ _) ha)]
theorem am_shlN {a b : Nat} (hb : b < 32) (h : a * 2 ^ b < 2 ^ 31) : am_shl (a : Int) (b : Int) = ((a * 2 ^ b : Nat) : Int) := by
  unfold am_shl
  rw [iZ_nI, iZ_nI, pk_shlN _ b (fx_amt ⟨b, hb⟩) (Nat.lt_trans h (by decide)), nI_toInt h]
/-! ===== words as numbers ===== -/
def encN (l : List Int) : Nat := l.foldl (fun a c => a * 128 + c.toNat) 1
abbrev enc (l : List Int) : Int := (encN l : Int)
def okc (c : Int) : Prop := 0 ≤ c ∧ c < 128
def okl (l : List Int) : Prop := ∀ c ∈ l, okc c
theorem encN_nil : encN [] = 1 := rfl
theorem encN_snoc (l : List Int) (c : Int) : encN (l ++ [c]) = encN l * 128 + c.toNat := by
  unfold encN; rw [List.foldl_append]; rfl
theorem okl_app {a b : List Int} : okl (a ++ b) ↔ okl a ∧ okl b := by
  unfold okl
  constructor
  · intro h; exact ⟨fun c hc => h c (List.mem_append_left _ hc), fun c hc => h c (List.mem_append_right _ hc)⟩
  · rintro ⟨h1, h2⟩ c hc
    rcases List.mem_append.mp hc with h | h
    · exact h1 c h
    · exact h2 c h
theorem okl.take {l : List Int} (h : okl l) (n : Nat) : okl (l.take n) := fun c hc => h c (List.mem_of_mem_take hc)
theorem okl.drop {l : List Int} (h : okl l) (n : Nat) : okl (l.drop n) := fun c hc => h c (List.mem_of_mem_drop hc)
theorem encN_app (a : List Int) : ∀ (n : Nat) (b : List Int), b.length = n → okl b → 128 ^ n ≤ encN b ∧ encN b < 2 * 128 ^ n ∧ encN (a ++ b) = encN a * 128 ^ n + (encN b - 128 ^ n) := by
  intro n
  induction n with
  | zero =>
    intro b hb hk
    have : b = [] := List.length_eq_zero_iff.mp hb
    subst this
    simp [encN_nil]
  | succ n ih =>
    intro b hb hk
    obtain ⟨b', c, rfl⟩ : ∃ b' c, b = b' ++ [c] := by
      have hne : b ≠ [] := by intro e; rw [e] at hb; cases hb
      exact ⟨b.dropLast, b.getLast hne, (List.dropLast_concat_getLast hne).symm⟩
    rw [List.length_append] at hb
    have hl : b'.length = n := by simpa using hb
    obtain ⟨hk1, hk2⟩ := okl_app.mp hk
    have hc : okc c := hk2 c (by simp)
    obtain ⟨h1, h2, h3⟩ := ih b' hl hk1
    unfold okc at hc
    rw [← List.append_assoc, encN_snoc, encN_snoc, h3, Nat.pow_succ]
    have e : encN a * 128 ^ n * 128 = encN a * (128 ^ n * 128) := Nat.mul_assoc _ _ _
    refine ⟨by omega, by omega, ?_⟩
    rw [Nat.add_mul, e]
    omega
theorem encN_bd {l : List Int} (h : okl l) : 128 ^ l.length ≤ encN l ∧ encN l < 2 * 128 ^ l.length := ⟨(encN_app [] _ l rfl h).1, (encN_app [] _ l rfl h).2.1⟩
theorem encN_cat (a : List Int) {b : List Int} (h : okl b) : encN (a ++ b) = encN a * 128 ^ b.length + (encN b - 128 ^ b.length) := (encN_app a _ b rfl h).2.2
theorem encN_div {a b : List Int} (h : okl b) : encN (a ++ b) / 128 ^ b.length = encN a := by
  obtain ⟨h1, h2⟩ := encN_bd h
  rw [encN_cat a h, Nat.mul_comm, Nat.mul_add_div (Nat.pow_pos (by decide)), Nat.div_eq_of_lt (by omega)]
  rfl
theorem encN_mod {a b : List Int} (h : okl b) : encN (a ++ b) % 128 ^ b.length = encN b - 128 ^ b.length := by
  obtain ⟨h1, h2⟩ := encN_bd h
  rw [encN_cat a h, Nat.mul_comm, Nat.mul_add_mod, Nat.mod_eq_of_lt (by omega)]
theorem encN_len {a b : List Int} (ha : okl a) (hb : okl b) (h : a.length < b.length) : encN a < encN b := by
  obtain ⟨h1, h2⟩ := encN_bd ha
  obtain ⟨h3, h4⟩ := encN_bd hb
  have : 128 ^ (a.length + 1) ≤ 128 ^ b.length := Nat.pow_le_pow_right (by decide) h
  rw [Nat.pow_succ] at this
  omega
theorem encN_lex : ∀ (n : Nat) (a b : List Int), a.length = n → b.length = n → okl a → okl b → (encN a < encN b ↔ ln_bf a b) ∧ (encN a = encN b ↔ a = b) := by
  intro n
  induction n with
  | zero =>
    intro a b h1 h2 _ _
    have e1 : a = [] := List.length_eq_zero_iff.mp h1
    have e2 : b = [] := List.length_eq_zero_iff.mp h2
    subst e1; subst e2
    refine ⟨⟨fun h => absurd h (Nat.lt_irrefl _), fun h => ?_⟩, by simp⟩
    rcases h with h | ⟨-, i, -, x, y, hx, -⟩
    · exact absurd h (Nat.lt_irrefl _)
    · simp at hx
  | succ n ih =>
    intro a b h1 h2 ka kb
    cases a with
    | nil => cases h1
    | cons x a =>
      cases b with
      | nil => cases h2
      | cons y b =>
        have l1 : a.length = n := by simpa using h1
        have l2 : b.length = n := by simpa using h2
        have ka2 : okl a := fun c hc => ka c (List.mem_cons_of_mem _ hc)
        have kb2 : okl b := fun c hc => kb c (List.mem_cons_of_mem _ hc)
        obtain ⟨q1, q2⟩ := ih a b l1 l2 ka2 kb2
        have cx : okc x := ka x List.mem_cons_self
        have cy : okc y := kb y List.mem_cons_self
        unfold okc at cx cy
        have ea := encN_cat [x] ka2
        have eb := encN_cat [y] kb2
        obtain ⟨m1, m2⟩ := encN_bd ka2
        obtain ⟨m3, m4⟩ := encN_bd kb2
        have ex : encN [x] = 128 + x.toNat := by simp [encN]
        have ey : encN [y] = 128 + y.toNat := by simp [encN]
        rw [List.singleton_append] at ea eb
        rw [ex, l1] at ea
        rw [ey, l2] at eb
        rw [l1] at m1 m2
        rw [l2] at m3 m4
        generalize 128 ^ n = P at *
        have key : ∀ u v : Nat, u < v → u * P + P ≤ v * P := fun u v huv => by
          have := Nat.mul_le_mul_right P huv
          rwa [Nat.succ_mul] at this
        rcases Int.lt_trichotomy x y with hxy | hxy | hxy
        · have := key (128 + x.toNat) (128 + y.toNat) (by omega)
          refine ⟨⟨fun _ => Or.inr ⟨by simp [l1, l2], 0, fun j hj => absurd hj (Nat.not_lt_zero _), x, y, rfl, rfl, hxy⟩, fun _ => by rw [ea, eb]; omega⟩, ⟨fun h => ?_, fun h => ?_⟩⟩
          · rw [ea, eb] at h; omega
          · simp at h; omega
        · subst hxy
          refine ⟨⟨fun h => ?_, fun h => ?_⟩, ⟨fun h => ?_, fun h => ?_⟩⟩
          · rw [ea, eb] at h
            rcases q1.mp (by omega) with h | ⟨-, i, g1, u, v, g2, g3, g4⟩
            · omega
            · refine Or.inr ⟨by simp [l1, l2], i + 1, fun j hj => ?_, u, v, g2, g3, g4⟩
              cases j with
              | zero => rfl
              | succ j => exact g1 j (by omega)
          · rcases h with h | ⟨-, i, g1, u, v, g2, g3, g4⟩
            · simp [l1, l2] at h
            · cases i with
              | zero => simp at g2 g3; omega
              | succ i =>
                have := q1.mpr (Or.inr ⟨by omega, i, fun j hj => g1 (j + 1) (by omega), u, v, g2, g3, g4⟩)
                rw [ea, eb]; omega
          · rw [ea, eb] at h
            rw [q2.mp (by omega)]
          · simp at h; rw [h]
        · have := key (128 + y.toNat) (128 + x.toNat) (by omega)
          refine ⟨⟨fun h => ?_, fun h => ?_⟩, ⟨fun h => ?_, fun h => ?_⟩⟩
          · rw [ea, eb] at h; omega
          · rcases h with h | ⟨-, i, g1, u, v, g2, g3, g4⟩
            · simp [l1, l2] at h
            · cases i with
              | zero => simp at g2 g3; omega
              | succ i => have := g1 0 (by omega); simp at this; omega
          · rw [ea, eb] at h; omega
          · simp at h; omega
theorem encN_lt {a b : List Int} (ha : okl a) (hb : okl b) : encN a < encN b ↔ ln_bf a b := by
  rcases Nat.lt_trichotomy a.length b.length with h | h | h
  · exact ⟨fun _ => Or.inl h, fun _ => encN_len ha hb h⟩
  · exact (encN_lex _ a b h rfl ha hb).1
  · have := encN_len hb ha h
    refine ⟨fun q => by omega, fun q => ?_⟩
    rcases q with q | q <;> omega
theorem encN_inj {a b : List Int} (ha : okl a) (hb : okl b) : encN a = encN b ↔ a = b := by
  rcases Nat.lt_trichotomy a.length b.length with h | h | h
  · have := encN_len ha hb h
    exact ⟨fun q => by omega, fun q => by rw [q] at h; omega⟩
  · exact (encN_lex _ a b h rfl ha hb).2
  · have := encN_len hb ha h
    exact ⟨fun q => by omega, fun q => by rw [q] at h; omega⟩
/-! ===== Word's methods on words ===== -/
theorem wd_sz_enc {l : List Int} (h : okl l) (h4 : l.length ≤ 4) : wd_sz (enc l) = l.length := by
  obtain ⟨h1, h2⟩ := encN_bd h
  unfold wd_sz enc
  rcases (show l.length = 0 ∨ l.length = 1 ∨ l.length = 2 ∨ l.length = 3 ∨ l.length = 4 by omega) with e | e | e | e | e <;> rw [e] at h1 h2 ⊢ <;> simp only [Nat.pow_zero, Nat.pow_succ] at h1 h2 <;> (repeat' split) <;> omega
theorem enc_R {l : List Int} (h : okl l) (h4 : l.length ≤ 4) : encN l < 2 ^ 30 := by
  obtain ⟨h1, h2⟩ := encN_bd h
  have : 128 ^ l.length ≤ 128 ^ 4 := Nat.pow_le_pow_right (by decide) h4
  have e : (128 : Nat) ^ 4 = 268435456 := by decide
  omega
theorem enc_inR {l : List Int} (h : okl l) (h4 : l.length ≤ 4) : inR (enc l) := by
  have := enc_R h h4
  unfold inR enc
  omega
theorem pow128 (o : Nat) : 2 ^ (7 * o) = 128 ^ o := by rw [Nat.pow_mul]
theorem wd_fe_enc {l : List Int} (h : okl l) (h4 : l.length ≤ 4) {o : Nat} (ho : o < l.length) : l[l.length - 1 - o]? = some (wd_fe (enc l) (o : Int)) := by
  have hr := enc_R h h4
  unfold wd_fe
  rw [show (7 * (o : Int)) = ((7 * o : Nat) : Int) by omega, am_shrN (by omega) (by omega), show (127 : Int) = ((127 : Nat) : Int) from rfl, am_andN (Nat.lt_of_le_of_lt (Nat.div_le_self _ _) (by omega)), pow128]
  have e0 : l = l.take (l.length - o) ++ l.drop (l.length - o) := (List.take_append_drop _ l).symm
  have hd : (l.drop (l.length - o)).length = o := by rw [List.length_drop]; omega
  have e1 := encN_div (a := l.take (l.length - o)) (h.drop (l.length - o))
  rw [← e0, hd] at e1
  rw [e1]
  have hlt : l.length - 1 - o < l.length := by omega
  have e2 : l.take (l.length - o) = l.take (l.length - 1 - o) ++ [l[l.length - 1 - o]] := by
    rw [show l.length - o = l.length - 1 - o + 1 by omega, List.take_add_one, List.getElem?_eq_getElem hlt]
    rfl
  rw [e2, encN_snoc, show (127 : Nat) = 2 ^ 7 - 1 from rfl, Nat.and_two_pow_sub_one_eq_mod, List.getElem?_eq_getElem hlt]
  have hc : okc l[l.length - 1 - o] := h _ (List.getElem_mem hlt)
  unfold okc at hc
  congr 1
  omega
theorem wd_cs_enc {l : List Int} (h : okl l) (h4 : l.length ≤ 4) : wd_cs (enc l) l.length = l := by
  have : ∀ o, o ≤ l.length → wd_cs (enc l) o = l.drop (l.length - o) := by
    intro o
    induction o with
    | zero => intro _; simp [wd_cs]
    | succ o ih =>
      intro ho
      show wd_fe (enc l) (o : Int) :: wd_cs (enc l) o = _
      have h1 := wd_fe_enc h h4 (o := o) (by omega)
      have hlt : l.length - 1 - o < l.length := by omega
      rw [List.getElem?_eq_getElem hlt] at h1
      rw [ih (by omega), show l.length - (o + 1) = l.length - 1 - o by omega, List.drop_eq_getElem_cons hlt, Option.some.inj h1, show l.length - 1 - o + 1 = l.length - o by omega]
  rw [this l.length (Nat.le_refl _), Nat.sub_self]
  rfl
theorem wd_ap_enc {l : List Int} {c : Int} (h : okl l) (hc : okc c) (h3 : l.length ≤ 3) : wd_ap (enc l) c = enc (l ++ [c]) := by
  have hr : encN l < 2 ^ 23 := by
    obtain ⟨h1, h2⟩ := encN_bd h
    have : 128 ^ l.length ≤ 128 ^ 3 := Nat.pow_le_pow_right (by decide) h3
    have e : (128 : Nat) ^ 3 = 2097152 := by decide
    omega
  unfold okc at hc
  obtain ⟨n, rfl⟩ : ∃ n : Nat, c = n := ⟨c.toNat, by omega⟩
  unfold wd_ap
  rw [show (7 : Int) = ((7 : Nat) : Int) from rfl, am_shlN (by decide) (by omega), show (127 : Int) = ((127 : Nat) : Int) from rfl, am_andN (by omega), am_orN (by omega) (Nat.lt_of_le_of_lt Nat.and_le_left (by omega))]
  rw [show (127 : Nat) = 2 ^ 7 - 1 from rfl, Nat.and_two_pow_sub_one_eq_mod, Nat.mod_eq_of_lt (by omega), Nat.mul_comm, ← Nat.two_pow_add_eq_or_of_lt (by omega)]
  unfold enc
  rw [encN_snoc]
  congr 1
  omega
theorem wd_be_enc {w s : List Int} (hw : okl w) (hs : okl s) (w4 : w.length ≤ 4) (s4 : s.length ≤ 4) : wd_be (enc w) (enc s) = if s <+: w then 1 else 0 := by
  unfold wd_be
  rw [wd_sz_enc hw w4, wd_sz_enc hs s4]
  have hr := enc_R hw w4
  by_cases hl : s.length ≤ w.length
  · rw [show (7 * ((w.length : Int) - s.length)) = ((7 * (w.length - s.length) : Nat) : Int) by omega, am_shrN (by omega) (by omega), pow128]
    have hd : (w.drop s.length).length = w.length - s.length := List.length_drop
    have e1 := encN_div (a := w.take s.length) (hw.drop s.length)
    rw [List.take_append_drop, hd] at e1
    rw [e1]
    have e2 : s <+: w ↔ w.take s.length = s := by rw [List.prefix_iff_eq_take]; exact eq_comm
    have e3 := encN_inj (hw.take s.length) hs
    unfold enc
    by_cases hp : s <+: w
    · rw [if_pos hp, if_pos ⟨by omega, by rw [e3.mpr (e2.mp hp)]⟩]
    · rw [if_neg hp, if_neg (fun q => hp (e2.mpr (e3.mp (by omega))))]
  · rw [if_neg (by omega), if_neg (fun q => hl q.length_le)]
theorem wd_hi_enc {w s : List Int} (hw : okl w) (hs : okl s) (w4 : w.length ≤ 4) (s4 : s.length ≤ 4) (hp : s <+: w) : wd_hi (enc w) (enc s) = enc (w.drop s.length) := by
  have hl := hp.length_le
  have hr := enc_R hw w4
  unfold wd_hi
  rw [wd_sz_enc hw w4, wd_sz_enc hs s4, show max 0 ((w.length : Int) - s.length) = ((w.length - s.length : Nat) : Int) by omega, show (7 * ((w.length - s.length : Nat) : Int)) = ((7 * (w.length - s.length) : Nat) : Int) by omega]
  have hpw : 1 * 2 ^ (7 * (w.length - s.length)) < 2 ^ 31 := by
    rw [Nat.one_mul]; exact Nat.pow_lt_pow_right (by decide) (by omega)
  rw [show (1 : Int) = ((1 : Nat) : Int) from rfl, am_shlN (by omega) hpw, Nat.one_mul]
  rw [Nat.one_mul] at hpw
  have hpos : 0 < 2 ^ (7 * (w.length - s.length)) := Nat.two_pow_pos _
  rw [show ((2 ^ (7 * (w.length - s.length)) : Nat) : Int) - ((1 : Nat) : Int) = ((2 ^ (7 * (w.length - s.length)) - 1 : Nat) : Int) by omega, am_andN (by omega), Nat.and_two_pow_sub_one_eq_mod, am_orN hpw (Nat.lt_of_le_of_lt (Nat.mod_le _ _) (by omega))]
  have hd : (w.drop s.length).length = w.length - s.length := List.length_drop
  have e1 := encN_mod (a := w.take s.length) (hw.drop s.length)
  obtain ⟨b1, b2⟩ := encN_bd (hw.drop s.length)
  rw [List.take_append_drop, hd] at e1
  rw [hd] at b1 b2
  rw [pow128, e1]
  have e2 := Nat.two_pow_add_eq_or_of_lt (i := 7 * (w.length - s.length)) (b := encN (w.drop s.length) - 128 ^ (w.length - s.length)) (by rw [pow128]; omega) 1
  rw [Nat.mul_one, pow128] at e2
  rw [← e2]
  unfold enc
  omega
end
section
/-! ===== longest match: the mathematics, and the class's Match ===== -/
/-- the first rule with the longest sign that stands at the beginning of t; -1: none -/
def mt_lg (t : List Int) : List (List Int) → Int → Int → Nat → Int
  | [], _, b, _ => b
  | s :: S, i, b, L => if s <+: t ∧ L < s.length then mt_lg t S (i + 1) i s.length else mt_lg t S (i + 1) b L
def mt_long (S : List (List Int)) (t : List Int) : Int := mt_lg t S 0 (-1) 0
/-- the rules of the decoding by longest match, and the place where it ends -/
def mt_dec (S : List (List Int)) : Nat → List Int → Int → List Int × Int
  | 0, _, p => ([], p)
  | f + 1, t, p => if t = [] then ([], p) else if mt_long S t = -1 then ([], p) else
      ((mt_long S t) :: (mt_dec S f (t.drop (S.getD (mt_long S t).toNat []).length) (p + (S.getD (mt_long S t).toNat []).length)).1,
       (mt_dec S f (t.drop (S.getD (mt_long S t).toNat []).length) (p + (S.getD (mt_long S t).toNat []).length)).2)
/-- words of at most four characters -/
def okw (S : List (List Int)) : Prop := ∀ s ∈ S, okl s ∧ s.length ≤ 4
theorem mt_lg_bd (t : List Int) : ∀ (S : List (List Int)) (i b : Int) (L : Nat), (b = -1 ∨ (0 ≤ b ∧ b < i)) → 0 ≤ i → mt_lg t S i b L = -1 ∨ (0 ≤ mt_lg t S i b L ∧ mt_lg t S i b L < i + S.length)
  | [], i, b, L, h, h0 => by
    show b = -1 ∨ (0 ≤ b ∧ b < i + (0 : Nat))
    rcases h with h | h
    · exact Or.inl h
    · exact Or.inr ⟨h.1, by omega⟩
  | s :: S, i, b, L, h, h0 => by
    unfold mt_lg
    have e : ((s :: S).length : Int) = S.length + 1 := by simp
    rw [e]
    split
    · rcases mt_lg_bd t S (i + 1) i s.length (Or.inr ⟨h0, by omega⟩) (by omega) with q | q
      · exact Or.inl q
      · exact Or.inr ⟨q.1, by omega⟩
    · rcases mt_lg_bd t S (i + 1) b L (by omega) (by omega) with q | q
      · exact Or.inl q
      · exact Or.inr ⟨q.1, by omega⟩
theorem mt_long_bd (S : List (List Int)) (t : List Int) : mt_long S t = -1 ∨ (0 ≤ mt_long S t ∧ mt_long S t < S.length) := by
  rcases mt_lg_bd t S 0 (-1) 0 (Or.inl rfl) (by omega) with h | h
  · exact Or.inl h
  · exact Or.inr ⟨h.1, by have := h.2; unfold mt_long; omega⟩
theorem mt_len (S : List (List Int)) : ∀ (f : Nat) (t : List Int) (p : Int), (mt_dec S f t p).1.length ≤ f ∧ ∀ r ∈ (mt_dec S f t p).1, 0 ≤ r ∧ r < S.length
  | 0, t, p => by simp [mt_dec]
  | f + 1, t, p => by
    unfold mt_dec
    split
    · simp
    · split
      · simp
      · rename_i h1 h2
        have ih := mt_len S f (t.drop (S.getD (mt_long S t).toNat []).length) (p + (S.getD (mt_long S t).toNat []).length)
        refine ⟨by simp only [List.length_cons]; omega, fun r hr => ?_⟩
        rcases List.mem_cons.mp hr with h | h
        · rw [h]
          rcases mt_long_bd S t with q | q
          · exact absurd q h2
          · exact q
        · exact ih.2 r h
theorem ln_at_map {S : List (List Int)} {i : Int} (h0 : 0 ≤ i) (h1 : i < S.length) : ln_at (S.map enc) i = enc (S.getD i.toNat []) := by
  have hlt : i.toNat < S.length := by omega
  have : (S.map enc)[i.toNat]? = some (enc (S.getD i.toNat [])) := by
    rw [List.getElem?_map, List.getElem?_eq_getElem hlt, List.getD_eq_getElem?_getD, List.getElem?_eq_getElem hlt]
    rfl
  have h2 := ln_at_get this
  rwa [Int.toNat_of_nonneg h0] at h2
theorem okw_get {S : List (List Int)} (h : okw S) (i : Nat) : okl (S.getD i []) ∧ (S.getD i []).length ≤ 4 := by
  rw [List.getD_eq_getElem?_getD]
  cases hs : S[i]? with
  | none => exact ⟨fun c hc => by simp at hc, by simp⟩
  | some s => exact h s (List.mem_of_getElem? hs)
theorem ev_X2_endOf {σ : am_St} {k n : Nat} {xs l : List Int} {p : Int} (h : hold σ k n xs) (hl : okl l) (h4 : l.length ≤ 4) (h0 : 0 ≤ p) (h1 : p ≤ n) (hn : n < 1000000) : am_Ev SH mX2_endOf 1 [.int (iZ (enc l)), .ref k, .int (iZ p)] σ (am_rI (fun x σ2 => x = (if l <+: xs.drop p.toNat then p + l.length else -1) ∧ σ2 = σ)) := by
  have hk := h.1
  have loop : ∀ (m : Nat) (i : Nat), l.length - i < m → i ≤ l.length → (∀ j, j < i → (xs.drop p.toNat)[j]? = l[j]?) → am_Go SH mX2_endOf 1 (am_rI (fun x σ2 => x = (if l <+: xs.drop p.toNat then p + l.length else -1) ∧ σ2 = σ)) 10 [some (.int (iZ (enc l))), some (.ref k), some (.int (iZ p)), some (.int (iZ (p + l.length))), some (.int (iZ (p + i)))] [] σ := by
    intro m
    induction m with
    | zero => intro i hm; exact absurd hm (by omega)
    | succ m ih =>
      intro i hm hil hin
      refine go_iload dX2_endOf_10 rfl ?_
      refine go_iload_n dX2_endOf_12 rfl ?_
      refine go_icmp_ge (tgt := 43) dX2_endOf_13 (by decide) (by unfold inR; omega) (by unfold inR; omega) (fun b13 => ?_) (fun b13 => ?_)
      · skip
        refine go_iload_n dX2_endOf_43 rfl ?_
        refine go_retI dX2_endOf_44 rfl ?_
        refine ⟨?_, rfl⟩
        have hfull : i = l.length := by omega
        subst hfull
        rw [if_pos (List.prefix_iff_getElem?.mpr (fun j hj => by rw [hin j hj, List.getElem?_eq_getElem hj]))]
      · skip
        refine go_aload_n dX2_endOf_16 rfl ?_
        refine go_iload dX2_endOf_17 rfl ?_
        refine go_cvP1 (M2 := mX1_at) dX2_endOf_19 ml_X2_15 mv_X1_at (by assumption) rfl rfl (Nat.le_of_ble_eq_true rfl) (by decide) (ev_X1_at h (by unfold inR; omega)) ?_
        refine go_iload_n dX2_endOf_22 rfl ?_
        refine go_iload_n dX2_endOf_23 rfl ?_
        refine go_iconst dX2_endOf_24 ?_
        refine go_isub dX2_endOf_25 ?_
        refine go_iload dX2_endOf_26 rfl ?_
        refine go_isub dX2_endOf_28 ?_
        refine go_csP2 (M2 := mX9_fromEnd) dX2_endOf_29 ml_X2_20 ms_X9_fromEnd (Nat.le_of_ble_eq_true rfl) (by decide) (ev_X9_fromEnd) ?_
        have e1 : p + (l.length : Int) - 1 - (p + i) = ((l.length - 1 - i : Nat) : Int) := by omega
        rw [e1]
        have e2 := wd_fe_enc hl h4 (o := l.length - 1 - i) (by omega)
        rw [show l.length - 1 - (l.length - 1 - i) = i by omega] at e2
        have ei : ((p + (i : Int)).toNat) = p.toNat + i := by omega
        have ec : okc (wd_fe (enc l) ((l.length - 1 - i : Nat) : Int)) := hl _ (List.mem_of_getElem? e2)
        refine go_icmp_eq (tgt := 37) dX2_endOf_32 (by decide) (ln_at_R h.2.2.2.2.2.2) (wd_fe_R _ _) (fun b32 => ?_) (fun b32 => ?_)
        · skip
          refine go_inc4 dX2_endOf_37 (Nat.le_of_ble_eq_true rfl) rfl ?_
          refine go_goto (tgt := 10) dX2_endOf_40 (by decide) ?_
          rw [show p + (i : Int) + 1 = p + ((i + 1 : Nat) : Int) by omega]
          refine ih (i + 1) (by omega) (by omega) (fun j hj => ?_)
          by_cases hji : j = i
          · subst hji
            have hx : (xs.length : Int) > p + j := by
              apply Int.not_le.mp
              intro q
              unfold ln_at at b32
              rw [if_pos (Or.inr q)] at b32
              unfold okc at ec
              omega
            rw [List.getElem?_drop, e2, ← b32, ← ei]
            unfold ln_at
            rw [if_neg (by omega), List.getD_eq_getElem?_getD, List.getElem?_eq_getElem (by omega)]
            rfl
          · exact hin j (by omega)
        · skip
          refine go_iconst dX2_endOf_35 ?_
          refine go_retI dX2_endOf_36 rfl ?_
          refine ⟨?_, rfl⟩
          rw [if_neg]
          intro hp
          have q := List.prefix_iff_getElem?.mp hp i (by omega)
          rw [List.getElem?_drop, ← ei] at q
          have q2 := ln_at_get q
          rw [Int.toNat_of_nonneg (by omega)] at q2
          rw [List.getElem?_eq_getElem (show i < l.length by omega)] at e2
          exact b32 (by rw [q2, ← Option.some.inj e2])
  refine am_ev (by decide) [some (.int (iZ (enc l))), some (.ref k), some (.int (iZ (p))), none, none] rfl (Nat.le_of_ble_eq_true rfl) ?_
  refine go_iload_n dX2_endOf_0 rfl ?_
  refine go_iload_n dX2_endOf_1 rfl ?_
  refine go_csP1 (M2 := mX9_size) dX2_endOf_2 ml_X2_9 ms_X9_size (Nat.le_of_ble_eq_true rfl) (by decide) (ev_X9_size (enc_inR hl h4)) ?_
  rw [wd_sz_enc hl h4]
  refine go_iadd dX2_endOf_5 ?_
  refine go_ist3 dX2_endOf_6 (Nat.le_of_ble_eq_true rfl) rfl ?_
  refine go_iload_n dX2_endOf_7 rfl ?_
  refine go_ist4 dX2_endOf_8 (Nat.le_of_ble_eq_true rfl) rfl ?_
  have := loop (l.length + 1) 0 (by omega) (by omega) (fun j hj => absurd hj (by omega))
  rwa [show p + ((0 : Nat) : Int) = p by omega] at this
theorem ev_X2_longest {σ : am_St} {k n k2 n2 : Nat} {xs : List Int} {S : List (List Int)} {p : Int} (h : hold σ k n (S.map enc)) (g : hold σ k2 n2 xs) (hS : okw S) (h0 : 0 ≤ p) (h1 : p ≤ n2) (hn : n2 < 1000000) : am_Ev SH mX2_longest 2 [.ref k, .ref k2, .int (iZ p)] σ (am_rI (fun x σ2 => x = mt_long S (xs.drop p.toNat) ∧ σ2 = σ)) := by
  have hk := h.1
  have hk2 := g.1
  have hl5 := h.2.2.2.2.1
  have hl3 := h.2.2.1
  have loop : ∀ (m : Nat) (i : Nat) (b : Int) (L : Nat), S.length - i < m → i ≤ S.length → inR b → L ≤ 4 → mt_lg (xs.drop p.toNat) (S.drop i) i b L = mt_long S (xs.drop p.toNat) → ∀ w : Option Value, am_Go SH mX2_longest 2 (am_rI (fun x σ2 => x = mt_long S (xs.drop p.toNat) ∧ σ2 = σ)) 8 [some (.ref k), some (.ref k2), some (.int (iZ p)), some (.int (iZ b)), some (.int (iZ (p + L))), some (.int (iZ i)), w] [] σ := by
    intro m
    induction m with
    | zero => intro i b L hm; exact absurd hm (by omega)
    | succ m ih =>
      intro i b L hm hil hb hL4 hinv w
      rw [List.length_map] at hl5
      refine go_iload dX2_longest_8 rfl ?_
      refine go_aload_n dX2_longest_10 rfl ?_
      refine go_cvP0 (M2 := mX1_size) dX2_longest_11 ml_X2_24 mv_X1_size (by assumption) rfl rfl (Nat.le_of_ble_eq_true rfl) (by decide) (ev_X1_size h) ?_
      rw [List.length_map]
      refine go_icmp_ge (tgt := 50) dX2_longest_14 (by decide) (by unfold inR; omega) (by unfold inR; omega) (fun b14 => ?_) (fun b14 => ?_)
      · skip
        refine go_iload_n dX2_longest_50 rfl ?_
        refine go_retI dX2_longest_51 rfl ?_
        refine ⟨?_, rfl⟩
        have hfull : i = S.length := by omega
        subst hfull
        rw [List.drop_length] at hinv
        exact hinv
      · skip
        refine go_aload_n dX2_longest_17 rfl ?_
        refine go_iload dX2_longest_18 rfl ?_
        refine go_cvP1 (M2 := mX1_at) dX2_longest_20 ml_X2_15 mv_X1_at (by assumption) rfl rfl (Nat.le_of_ble_eq_true rfl) (by decide) (ev_X1_at h (by unfold inR; omega)) ?_
        rw [ln_at_map (by omega) (by omega), Int.toNat_natCast]
        refine go_aload_n dX2_longest_23 rfl ?_
        refine go_iload_n dX2_longest_24 rfl ?_
        refine go_csP3 (M2 := mX2_endOf) dX2_longest_25 ml_X2_27 ms_X2_endOf (Nat.le_of_ble_eq_true rfl) (by decide) (ev_X2_endOf g (okw_get hS i).1 (okw_get hS i).2 h0 h1 hn) ?_
        have hlt : i < S.length := by omega
        have hsi : S.getD i [] = S[i] := by rw [List.getD_eq_getElem?_getD, List.getElem?_eq_getElem hlt]; rfl
        have hs4 := (okw_get hS i).2
        rw [List.drop_eq_getElem_cons hlt] at hinv
        unfold mt_lg at hinv
        rw [← hsi] at hinv
        obtain ⟨E, hE⟩ : ∃ E : Int, E = (if S.getD i [] <+: xs.drop p.toNat then p + (S.getD i []).length else -1) := ⟨_, rfl⟩
        rw [← hE]
        have hER : inR E := by rw [hE]; unfold inR; split <;> omega
        refine go_ist6 dX2_longest_28 (Nat.le_of_ble_eq_true rfl) rfl ?_
        refine go_iload dX2_longest_30 rfl ?_
        refine go_iload dX2_longest_32 rfl ?_
        refine go_icmp_le (tgt := 44) dX2_longest_34 (by decide) hER (by unfold inR; omega) (fun b34 => ?_) (fun b34 => ?_)
        · skip
          skip
          refine go_inc5 dX2_longest_44 (Nat.le_of_ble_eq_true rfl) rfl ?_
          refine go_goto (tgt := 8) dX2_longest_47 (by decide) ?_
          rw [show (i : Int) + 1 = ((i + 1 : Nat) : Int) by omega]
          first
            | (have hc : S.getD i [] <+: xs.drop p.toNat ∧ L < (S.getD i []).length := by
                 by_cases hp : S.getD i [] <+: xs.drop p.toNat
                 · rw [if_pos hp] at hE; exact ⟨hp, by omega⟩
                 · rw [if_neg hp] at hE; exfalso; omega
               rw [if_pos hc] at hinv
               rw [if_pos hc.1] at hE
               have := ih (i + 1) i (S.getD i []).length (by omega) (by omega) (by unfold inR; omega) hs4 (by rw [← hinv]; congr 1) (some (.int (iZ E)))
               rw [← hE] at this
               exact this)
            | (have hc : ¬ (S.getD i [] <+: xs.drop p.toNat ∧ L < (S.getD i []).length) := by
                 rintro ⟨hp, hq⟩
                 rw [if_pos hp] at hE; omega
               rw [if_neg hc] at hinv
               exact ih (i + 1) b L (by omega) (by omega) hb hL4 (by rw [← hinv]; congr 1) _)
        · skip
          refine go_iload dX2_longest_37 rfl ?_
          refine go_ist3 dX2_longest_39 (Nat.le_of_ble_eq_true rfl) rfl ?_
          refine go_iload dX2_longest_40 rfl ?_
          refine go_ist4 dX2_longest_42 (Nat.le_of_ble_eq_true rfl) rfl ?_
          skip
          refine go_inc5 dX2_longest_44 (Nat.le_of_ble_eq_true rfl) rfl ?_
          refine go_goto (tgt := 8) dX2_longest_47 (by decide) ?_
          rw [show (i : Int) + 1 = ((i + 1 : Nat) : Int) by omega]
          first
            | (have hc : S.getD i [] <+: xs.drop p.toNat ∧ L < (S.getD i []).length := by
                 by_cases hp : S.getD i [] <+: xs.drop p.toNat
                 · rw [if_pos hp] at hE; exact ⟨hp, by omega⟩
                 · rw [if_neg hp] at hE; exfalso; omega
               rw [if_pos hc] at hinv
               rw [if_pos hc.1] at hE
               have := ih (i + 1) i (S.getD i []).length (by omega) (by omega) (by unfold inR; omega) hs4 (by rw [← hinv]; congr 1) (some (.int (iZ E)))
               rw [← hE] at this
               exact this)
            | (have hc : ¬ (S.getD i [] <+: xs.drop p.toNat ∧ L < (S.getD i []).length) := by
                 rintro ⟨hp, hq⟩
                 rw [if_pos hp] at hE; omega
               rw [if_neg hc] at hinv
               exact ih (i + 1) b L (by omega) (by omega) hb hL4 (by rw [← hinv]; congr 1) _)
  refine am_ev (by decide) [some (.ref k), some (.ref k2), some (.int (iZ (p))), none, none, none, none] rfl (Nat.le_of_ble_eq_true rfl) ?_
  refine go_iconst dX2_longest_0 ?_
  refine go_ist3 dX2_longest_1 (Nat.le_of_ble_eq_true rfl) rfl ?_
  refine go_iload_n dX2_longest_2 rfl ?_
  refine go_ist4 dX2_longest_3 (Nat.le_of_ble_eq_true rfl) rfl ?_
  refine go_iconst dX2_longest_5 ?_
  refine go_ist5 dX2_longest_6 (Nat.le_of_ble_eq_true rfl) rfl ?_
  have := loop (S.length + 1) 0 (-1) 0 (by omega) (by omega) (by unfold inR; omega) (by omega) rfl none
  rwa [show p + ((0 : Nat) : Int) = p by omega] at this
end
