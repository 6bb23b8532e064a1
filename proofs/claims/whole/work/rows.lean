section
-- ===== PART A: goes FIRST, ahead of the names: the tables' words, and 'selects' of the private methods out of them =====
/-- a private method of a class that the tables say can be made, by its rows of tables_1 -/
def lw_okq (q : MethodName × Nat) : Prop := (q.1.cls ≠ "java/lang/invoke/MethodHandle" ∧ q.1.cls ≠ "java/lang/invoke/VarHandle") ∧ Cond.instantiable q.1.cls q.2 ∈ tables_1 ∧ Cond.privateMethod q.1 ∈ tables_1 ∧ Cond.instanceMethod q.1 ∈ tables_1
theorem lw_p0 : lw_okq (⟨"SpellTables$Reader", "takes", "(I)Z"⟩, 4) := ⟨⟨by decide +kernel, by decide +kernel⟩, List.mem_of_getElem? (i := 66) (by decide +kernel), List.mem_of_getElem? (i := 289) (by decide +kernel), List.mem_of_getElem? (i := 290) (by decide +kernel)⟩
theorem lw_p1 : lw_okq (⟨"SpellTables$Reader", "takesSmall", "(I)Z"⟩, 4) := ⟨⟨by decide +kernel, by decide +kernel⟩, List.mem_of_getElem? (i := 66) (by decide +kernel), List.mem_of_getElem? (i := 296) (by decide +kernel), List.mem_of_getElem? (i := 297) (by decide +kernel)⟩
theorem lw_p2 : lw_okq (⟨"SpellTables$Reader", "takesCapital", "(I)Z"⟩, 4) := ⟨⟨by decide +kernel, by decide +kernel⟩, List.mem_of_getElem? (i := 66) (by decide +kernel), List.mem_of_getElem? (i := 311) (by decide +kernel), List.mem_of_getElem? (i := 312) (by decide +kernel)⟩
theorem lw_p3 : lw_okq (⟨"SpellTables$Reader", "takesComma", "()Z"⟩, 4) := ⟨⟨by decide +kernel, by decide +kernel⟩, List.mem_of_getElem? (i := 66) (by decide +kernel), List.mem_of_getElem? (i := 319) (by decide +kernel), List.mem_of_getElem? (i := 320) (by decide +kernel)⟩
theorem lw_p4 : lw_okq (⟨"SpellTables$Reader", "endRule", "()V"⟩, 4) := ⟨⟨by decide +kernel, by decide +kernel⟩, List.mem_of_getElem? (i := 66) (by decide +kernel), List.mem_of_getElem? (i := 323) (by decide +kernel), List.mem_of_getElem? (i := 324) (by decide +kernel)⟩
theorem lw_p5 : lw_okq (⟨"SpellTables", "forgetTable", "()V"⟩, 14) := ⟨⟨by decide +kernel, by decide +kernel⟩, List.mem_of_getElem? (i := 16) (by decide +kernel), List.mem_of_getElem? (i := 354) (by decide +kernel), List.mem_of_getElem? (i := 355) (by decide +kernel)⟩
theorem lw_p6 : lw_okq (⟨"SpellTables", "stuckPlace", "(I)I"⟩, 14) := ⟨⟨by decide +kernel, by decide +kernel⟩, List.mem_of_getElem? (i := 16) (by decide +kernel), List.mem_of_getElem? (i := 465) (by decide +kernel), List.mem_of_getElem? (i := 466) (by decide +kernel)⟩
theorem lw_p7 : lw_okq (⟨"SpellTables$Spellings", "weighPlace", "(LSpellTables$Line;LSpellTables$Line;I)V"⟩, 3) := ⟨⟨by decide +kernel, by decide +kernel⟩, List.mem_of_getElem? (i := 89) (by decide +kernel), List.mem_of_getElem? (i := 485) (by decide +kernel), List.mem_of_getElem? (i := 486) (by decide +kernel)⟩
theorem lw_p8 : lw_okq (⟨"SpellTables", "knowClashes", "()V"⟩, 14) := ⟨⟨by decide +kernel, by decide +kernel⟩, List.mem_of_getElem? (i := 16) (by decide +kernel), List.mem_of_getElem? (i := 510) (by decide +kernel), List.mem_of_getElem? (i := 511) (by decide +kernel)⟩
theorem lw_p9 : lw_okq (⟨"SpellTables$Remainders", "start", "(LSpellTables$Line;)V"⟩, 2) := ⟨⟨by decide +kernel, by decide +kernel⟩, List.mem_of_getElem? (i := 111) (by decide +kernel), List.mem_of_getElem? (i := 522) (by decide +kernel), List.mem_of_getElem? (i := 523) (by decide +kernel)⟩
theorem lw_p10 : lw_okq (⟨"SpellTables$Remainders", "note", "(I)V"⟩, 2) := ⟨⟨by decide +kernel, by decide +kernel⟩, List.mem_of_getElem? (i := 111) (by decide +kernel), List.mem_of_getElem? (i := 534) (by decide +kernel), List.mem_of_getElem? (i := 535) (by decide +kernel)⟩
theorem lw_p11 : lw_okq (⟨"SpellTables$Remainders", "follow", "(ILSpellTables$Line;)V"⟩, 2) := ⟨⟨by decide +kernel, by decide +kernel⟩, List.mem_of_getElem? (i := 111) (by decide +kernel), List.mem_of_getElem? (i := 540) (by decide +kernel), List.mem_of_getElem? (i := 541) (by decide +kernel)⟩
theorem lw_p12 : lw_okq (⟨"SpellTables$Clashes", "findTexts", "(LSpellTables$Line;)V"⟩, 7) := ⟨⟨by decide +kernel, by decide +kernel⟩, List.mem_of_getElem? (i := 105) (by decide +kernel), List.mem_of_getElem? (i := 553) (by decide +kernel), List.mem_of_getElem? (i := 554) (by decide +kernel)⟩
theorem lw_p13 : lw_okq (⟨"SpellTables$Clashes", "startTexts", "(LSpellTables$Line;)V"⟩, 7) := ⟨⟨by decide +kernel, by decide +kernel⟩, List.mem_of_getElem? (i := 105) (by decide +kernel), List.mem_of_getElem? (i := 557) (by decide +kernel), List.mem_of_getElem? (i := 558) (by decide +kernel)⟩
theorem lw_p14 : lw_okq (⟨"SpellTables$Clashes", "take", "(I)Z"⟩, 7) := ⟨⟨by decide +kernel, by decide +kernel⟩, List.mem_of_getElem? (i := 105) (by decide +kernel), List.mem_of_getElem? (i := 566) (by decide +kernel), List.mem_of_getElem? (i := 567) (by decide +kernel)⟩
theorem lw_p15 : lw_okq (⟨"SpellTables$Clashes", "followText", "(LSpellTables$Line;I)Z"⟩, 7) := ⟨⟨by decide +kernel, by decide +kernel⟩, List.mem_of_getElem? (i := 105) (by decide +kernel), List.mem_of_getElem? (i := 576) (by decide +kernel), List.mem_of_getElem? (i := 577) (by decide +kernel)⟩
def lw_privs_1 : List (MethodName × Nat) := [(⟨"SpellTables$Reader", "takes", "(I)Z"⟩, 4), (⟨"SpellTables$Reader", "takesSmall", "(I)Z"⟩, 4), (⟨"SpellTables$Reader", "takesCapital", "(I)Z"⟩, 4), (⟨"SpellTables$Reader", "takesComma", "()Z"⟩, 4), (⟨"SpellTables$Reader", "endRule", "()V"⟩, 4), (⟨"SpellTables", "forgetTable", "()V"⟩, 14), (⟨"SpellTables", "stuckPlace", "(I)I"⟩, 14), (⟨"SpellTables$Spellings", "weighPlace", "(LSpellTables$Line;LSpellTables$Line;I)V"⟩, 3), (⟨"SpellTables", "knowClashes", "()V"⟩, 14), (⟨"SpellTables$Remainders", "start", "(LSpellTables$Line;)V"⟩, 2), (⟨"SpellTables$Remainders", "note", "(I)V"⟩, 2), (⟨"SpellTables$Remainders", "follow", "(ILSpellTables$Line;)V"⟩, 2), (⟨"SpellTables$Clashes", "findTexts", "(LSpellTables$Line;)V"⟩, 7), (⟨"SpellTables$Clashes", "startTexts", "(LSpellTables$Line;)V"⟩, 7), (⟨"SpellTables$Clashes", "take", "(I)Z"⟩, 7), (⟨"SpellTables$Clashes", "followText", "(LSpellTables$Line;I)Z"⟩, 7)]
theorem lw_r1 : ∀ q ∈ lw_privs_1, lw_okq q := List.forall_mem_cons.mpr ⟨lw_p0, List.forall_mem_cons.mpr ⟨lw_p1, List.forall_mem_cons.mpr ⟨lw_p2, List.forall_mem_cons.mpr ⟨lw_p3, List.forall_mem_cons.mpr ⟨lw_p4, List.forall_mem_cons.mpr ⟨lw_p5, List.forall_mem_cons.mpr ⟨lw_p6, List.forall_mem_cons.mpr ⟨lw_p7, List.forall_mem_cons.mpr ⟨lw_p8, List.forall_mem_cons.mpr ⟨lw_p9, List.forall_mem_cons.mpr ⟨lw_p10, List.forall_mem_cons.mpr ⟨lw_p11, List.forall_mem_cons.mpr ⟨lw_p12, List.forall_mem_cons.mpr ⟨lw_p13, List.forall_mem_cons.mpr ⟨lw_p14, List.forall_mem_cons.mpr ⟨lw_p15, fun _ h => absurd h List.not_mem_nil⟩⟩⟩⟩⟩⟩⟩⟩⟩⟩⟩⟩⟩⟩⟩⟩
theorem lw_p16 : lw_okq (⟨"SpellTables", "knowPartings", "()V"⟩, 14) := ⟨⟨by decide +kernel, by decide +kernel⟩, List.mem_of_getElem? (i := 16) (by decide +kernel), List.mem_of_getElem? (i := 607) (by decide +kernel), List.mem_of_getElem? (i := 608) (by decide +kernel)⟩
theorem lw_p17 : lw_okq (⟨"SpellTables$Trials", "drawRow", "(I)V"⟩, 8) := ⟨⟨by decide +kernel, by decide +kernel⟩, List.mem_of_getElem? (i := 179) (by decide +kernel), List.mem_of_getElem? (i := 640) (by decide +kernel), List.mem_of_getElem? (i := 641) (by decide +kernel)⟩
theorem lw_p18 : lw_okq (⟨"SpellTables$Trials", "draw", "(I)I"⟩, 8) := ⟨⟨by decide +kernel, by decide +kernel⟩, List.mem_of_getElem? (i := 179) (by decide +kernel), List.mem_of_getElem? (i := 645) (by decide +kernel), List.mem_of_getElem? (i := 646) (by decide +kernel)⟩
theorem lw_p19 : lw_okq (⟨"SpellTables$Trials", "tryRow", "(LSpellTables$Rules;)V"⟩, 8) := ⟨⟨by decide +kernel, by decide +kernel⟩, List.mem_of_getElem? (i := 179) (by decide +kernel), List.mem_of_getElem? (i := 654) (by decide +kernel), List.mem_of_getElem? (i := 655) (by decide +kernel)⟩
theorem lw_p20 : lw_okq (⟨"SpellTables", "hashRules", "(J)J"⟩, 14) := ⟨⟨by decide +kernel, by decide +kernel⟩, List.mem_of_getElem? (i := 16) (by decide +kernel), List.mem_of_getElem? (i := 683) (by decide +kernel), List.mem_of_getElem? (i := 684) (by decide +kernel)⟩
theorem lw_p21 : lw_okq (⟨"SpellTables", "hashRows", "(J)J"⟩, 14) := ⟨⟨by decide +kernel, by decide +kernel⟩, List.mem_of_getElem? (i := 16) (by decide +kernel), List.mem_of_getElem? (i := 698) (by decide +kernel), List.mem_of_getElem? (i := 699) (by decide +kernel)⟩
theorem lw_p22 : lw_okq (⟨"SpellTables", "hashClashes", "(J)J"⟩, 14) := ⟨⟨by decide +kernel, by decide +kernel⟩, List.mem_of_getElem? (i := 16) (by decide +kernel), List.mem_of_getElem? (i := 702) (by decide +kernel), List.mem_of_getElem? (i := 703) (by decide +kernel)⟩
theorem lw_p23 : lw_okq (⟨"SpellTablesModel", "read", "()I"⟩, 38) := ⟨⟨by decide +kernel, by decide +kernel⟩, List.mem_of_getElem? (i := 707) (by decide +kernel), List.mem_of_getElem? (i := 844) (by decide +kernel), List.mem_of_getElem? (i := 845) (by decide +kernel)⟩
theorem lw_p24 : lw_okq (⟨"SpellTablesModel", "takes", "(I)Z"⟩, 38) := ⟨⟨by decide +kernel, by decide +kernel⟩, List.mem_of_getElem? (i := 707) (by decide +kernel), List.mem_of_getElem? (i := 848) (by decide +kernel), List.mem_of_getElem? (i := 849) (by decide +kernel)⟩
theorem lw_p25 : lw_okq (⟨"SpellTablesModel", "takesComma", "()Z"⟩, 38) := ⟨⟨by decide +kernel, by decide +kernel⟩, List.mem_of_getElem? (i := 707) (by decide +kernel), List.mem_of_getElem? (i := 852) (by decide +kernel), List.mem_of_getElem? (i := 853) (by decide +kernel)⟩
theorem lw_p26 : lw_okq (⟨"SpellTablesModel", "takesLeft", "(I)Z"⟩, 38) := ⟨⟨by decide +kernel, by decide +kernel⟩, List.mem_of_getElem? (i := 707) (by decide +kernel), List.mem_of_getElem? (i := 859) (by decide +kernel), List.mem_of_getElem? (i := 860) (by decide +kernel)⟩
theorem lw_p27 : lw_okq (⟨"SpellTablesModel", "takesRight", "(I)Z"⟩, 38) := ⟨⟨by decide +kernel, by decide +kernel⟩, List.mem_of_getElem? (i := 707) (by decide +kernel), List.mem_of_getElem? (i := 866) (by decide +kernel), List.mem_of_getElem? (i := 867) (by decide +kernel)⟩
theorem lw_p28 : lw_okq (⟨"SpellTablesModel", "isTwice", "()Z"⟩, 38) := ⟨⟨by decide +kernel, by decide +kernel⟩, List.mem_of_getElem? (i := 707) (by decide +kernel), List.mem_of_getElem? (i := 870) (by decide +kernel), List.mem_of_getElem? (i := 871) (by decide +kernel)⟩
theorem lw_p29 : lw_okq (⟨"SpellTablesModel", "isSmallPage", "()Z"⟩, 38) := ⟨⟨by decide +kernel, by decide +kernel⟩, List.mem_of_getElem? (i := 707) (by decide +kernel), List.mem_of_getElem? (i := 882) (by decide +kernel), List.mem_of_getElem? (i := 883) (by decide +kernel)⟩
theorem lw_p30 : lw_okq (⟨"SpellTablesModel", "turnRow", "()I"⟩, 38) := ⟨⟨by decide +kernel, by decide +kernel⟩, List.mem_of_getElem? (i := 707) (by decide +kernel), List.mem_of_getElem? (i := 886) (by decide +kernel), List.mem_of_getElem? (i := 887) (by decide +kernel)⟩
theorem lw_p31 : lw_okq (⟨"SpellTablesModel", "longestLeft", "(I)I"⟩, 38) := ⟨⟨by decide +kernel, by decide +kernel⟩, List.mem_of_getElem? (i := 707) (by decide +kernel), List.mem_of_getElem? (i := 890) (by decide +kernel), List.mem_of_getElem? (i := 891) (by decide +kernel)⟩
def lw_privs_2 : List (MethodName × Nat) := [(⟨"SpellTables", "knowPartings", "()V"⟩, 14), (⟨"SpellTables$Trials", "drawRow", "(I)V"⟩, 8), (⟨"SpellTables$Trials", "draw", "(I)I"⟩, 8), (⟨"SpellTables$Trials", "tryRow", "(LSpellTables$Rules;)V"⟩, 8), (⟨"SpellTables", "hashRules", "(J)J"⟩, 14), (⟨"SpellTables", "hashRows", "(J)J"⟩, 14), (⟨"SpellTables", "hashClashes", "(J)J"⟩, 14), (⟨"SpellTablesModel", "read", "()I"⟩, 38), (⟨"SpellTablesModel", "takes", "(I)Z"⟩, 38), (⟨"SpellTablesModel", "takesComma", "()Z"⟩, 38), (⟨"SpellTablesModel", "takesLeft", "(I)Z"⟩, 38), (⟨"SpellTablesModel", "takesRight", "(I)Z"⟩, 38), (⟨"SpellTablesModel", "isTwice", "()Z"⟩, 38), (⟨"SpellTablesModel", "isSmallPage", "()Z"⟩, 38), (⟨"SpellTablesModel", "turnRow", "()I"⟩, 38), (⟨"SpellTablesModel", "longestLeft", "(I)I"⟩, 38)]
theorem lw_r2 : ∀ q ∈ lw_privs_2, lw_okq q := List.forall_mem_cons.mpr ⟨lw_p16, List.forall_mem_cons.mpr ⟨lw_p17, List.forall_mem_cons.mpr ⟨lw_p18, List.forall_mem_cons.mpr ⟨lw_p19, List.forall_mem_cons.mpr ⟨lw_p20, List.forall_mem_cons.mpr ⟨lw_p21, List.forall_mem_cons.mpr ⟨lw_p22, List.forall_mem_cons.mpr ⟨lw_p23, List.forall_mem_cons.mpr ⟨lw_p24, List.forall_mem_cons.mpr ⟨lw_p25, List.forall_mem_cons.mpr ⟨lw_p26, List.forall_mem_cons.mpr ⟨lw_p27, List.forall_mem_cons.mpr ⟨lw_p28, List.forall_mem_cons.mpr ⟨lw_p29, List.forall_mem_cons.mpr ⟨lw_p30, List.forall_mem_cons.mpr ⟨lw_p31, fun _ h => absurd h List.not_mem_nil⟩⟩⟩⟩⟩⟩⟩⟩⟩⟩⟩⟩⟩⟩⟩⟩
theorem lw_p32 : lw_okq (⟨"SpellTablesModel", "signLength", "(I)I"⟩, 38) := ⟨⟨by decide +kernel, by decide +kernel⟩, List.mem_of_getElem? (i := 707) (by decide +kernel), List.mem_of_getElem? (i := 894) (by decide +kernel), List.mem_of_getElem? (i := 895) (by decide +kernel)⟩
theorem lw_p33 : lw_okq (⟨"SpellTablesModel", "signAt", "(II)I"⟩, 38) := ⟨⟨by decide +kernel, by decide +kernel⟩, List.mem_of_getElem? (i := 707) (by decide +kernel), List.mem_of_getElem? (i := 898) (by decide +kernel), List.mem_of_getElem? (i := 899) (by decide +kernel)⟩
theorem lw_p34 : lw_okq (⟨"SpellTablesModel", "isRule", "(I)Z"⟩, 38) := ⟨⟨by decide +kernel, by decide +kernel⟩, List.mem_of_getElem? (i := 707) (by decide +kernel), List.mem_of_getElem? (i := 910) (by decide +kernel), List.mem_of_getElem? (i := 911) (by decide +kernel)⟩
theorem lw_p35 : lw_okq (⟨"SpellTablesModel", "ruleNow", "(II)I"⟩, 38) := ⟨⟨by decide +kernel, by decide +kernel⟩, List.mem_of_getElem? (i := 707) (by decide +kernel), List.mem_of_getElem? (i := 922) (by decide +kernel), List.mem_of_getElem? (i := 923) (by decide +kernel)⟩
theorem lw_p36 : lw_okq (⟨"SpellTablesModel", "begunBy", "(IZ)I"⟩, 38) := ⟨⟨by decide +kernel, by decide +kernel⟩, List.mem_of_getElem? (i := 707) (by decide +kernel), List.mem_of_getElem? (i := 926) (by decide +kernel), List.mem_of_getElem? (i := 927) (by decide +kernel)⟩
theorem lw_p37 : lw_okq (⟨"SpellTablesModel", "leftBegins", "(II)Z"⟩, 38) := ⟨⟨by decide +kernel, by decide +kernel⟩, List.mem_of_getElem? (i := 707) (by decide +kernel), List.mem_of_getElem? (i := 930) (by decide +kernel), List.mem_of_getElem? (i := 931) (by decide +kernel)⟩
theorem lw_p38 : lw_okq (⟨"SpellTablesModel", "begins", "(II)Z"⟩, 38) := ⟨⟨by decide +kernel, by decide +kernel⟩, List.mem_of_getElem? (i := 707) (by decide +kernel), List.mem_of_getElem? (i := 934) (by decide +kernel), List.mem_of_getElem? (i := 935) (by decide +kernel)⟩
theorem lw_p39 : lw_okq (⟨"SpellTablesModel", "backNow", "(I)I"⟩, 38) := ⟨⟨by decide +kernel, by decide +kernel⟩, List.mem_of_getElem? (i := 707) (by decide +kernel), List.mem_of_getElem? (i := 950) (by decide +kernel), List.mem_of_getElem? (i := 951) (by decide +kernel)⟩
theorem lw_p40 : lw_okq (⟨"SpellTablesModel", "workText", "()V"⟩, 38) := ⟨⟨by decide +kernel, by decide +kernel⟩, List.mem_of_getElem? (i := 707) (by decide +kernel), List.mem_of_getElem? (i := 954) (by decide +kernel), List.mem_of_getElem? (i := 955) (by decide +kernel)⟩
theorem lw_p41 : lw_okq (⟨"SpellTablesModel", "layBack", "()V"⟩, 38) := ⟨⟨by decide +kernel, by decide +kernel⟩, List.mem_of_getElem? (i := 707) (by decide +kernel), List.mem_of_getElem? (i := 958) (by decide +kernel), List.mem_of_getElem? (i := 959) (by decide +kernel)⟩
theorem lw_p42 : lw_okq (⟨"SpellTablesModel", "longestSign", "(I)I"⟩, 38) := ⟨⟨by decide +kernel, by decide +kernel⟩, List.mem_of_getElem? (i := 707) (by decide +kernel), List.mem_of_getElem? (i := 962) (by decide +kernel), List.mem_of_getElem? (i := 963) (by decide +kernel)⟩
theorem lw_p43 : lw_okq (⟨"SpellTablesModel", "lies", "(II)Z"⟩, 38) := ⟨⟨by decide +kernel, by decide +kernel⟩, List.mem_of_getElem? (i := 707) (by decide +kernel), List.mem_of_getElem? (i := 966) (by decide +kernel), List.mem_of_getElem? (i := 967) (by decide +kernel)⟩
theorem lw_p44 : lw_okq (⟨"SpellTablesModel", "backAtNow", "(I)I"⟩, 38) := ⟨⟨by decide +kernel, by decide +kernel⟩, List.mem_of_getElem? (i := 707) (by decide +kernel), List.mem_of_getElem? (i := 974) (by decide +kernel), List.mem_of_getElem? (i := 975) (by decide +kernel)⟩
theorem lw_p45 : lw_okq (⟨"SpellTablesModel", "waysNow", "()I"⟩, 38) := ⟨⟨by decide +kernel, by decide +kernel⟩, List.mem_of_getElem? (i := 707) (by decide +kernel), List.mem_of_getElem? (i := 982) (by decide +kernel), List.mem_of_getElem? (i := 983) (by decide +kernel)⟩
theorem lw_p46 : lw_okq (⟨"SpellTablesModel", "layWays", "()V"⟩, 38) := ⟨⟨by decide +kernel, by decide +kernel⟩, List.mem_of_getElem? (i := 707) (by decide +kernel), List.mem_of_getElem? (i := 986) (by decide +kernel), List.mem_of_getElem? (i := 987) (by decide +kernel)⟩
theorem lw_p47 : lw_okq (⟨"SpellTablesModel", "firstNow", "(I)I"⟩, 38) := ⟨⟨by decide +kernel, by decide +kernel⟩, List.mem_of_getElem? (i := 707) (by decide +kernel), List.mem_of_getElem? (i := 995) (by decide +kernel), List.mem_of_getElem? (i := 996) (by decide +kernel)⟩
def lw_privs_3 : List (MethodName × Nat) := [(⟨"SpellTablesModel", "signLength", "(I)I"⟩, 38), (⟨"SpellTablesModel", "signAt", "(II)I"⟩, 38), (⟨"SpellTablesModel", "isRule", "(I)Z"⟩, 38), (⟨"SpellTablesModel", "ruleNow", "(II)I"⟩, 38), (⟨"SpellTablesModel", "begunBy", "(IZ)I"⟩, 38), (⟨"SpellTablesModel", "leftBegins", "(II)Z"⟩, 38), (⟨"SpellTablesModel", "begins", "(II)Z"⟩, 38), (⟨"SpellTablesModel", "backNow", "(I)I"⟩, 38), (⟨"SpellTablesModel", "workText", "()V"⟩, 38), (⟨"SpellTablesModel", "layBack", "()V"⟩, 38), (⟨"SpellTablesModel", "longestSign", "(I)I"⟩, 38), (⟨"SpellTablesModel", "lies", "(II)Z"⟩, 38), (⟨"SpellTablesModel", "backAtNow", "(I)I"⟩, 38), (⟨"SpellTablesModel", "waysNow", "()I"⟩, 38), (⟨"SpellTablesModel", "layWays", "()V"⟩, 38), (⟨"SpellTablesModel", "firstNow", "(I)I"⟩, 38)]
theorem lw_r3 : ∀ q ∈ lw_privs_3, lw_okq q := List.forall_mem_cons.mpr ⟨lw_p32, List.forall_mem_cons.mpr ⟨lw_p33, List.forall_mem_cons.mpr ⟨lw_p34, List.forall_mem_cons.mpr ⟨lw_p35, List.forall_mem_cons.mpr ⟨lw_p36, List.forall_mem_cons.mpr ⟨lw_p37, List.forall_mem_cons.mpr ⟨lw_p38, List.forall_mem_cons.mpr ⟨lw_p39, List.forall_mem_cons.mpr ⟨lw_p40, List.forall_mem_cons.mpr ⟨lw_p41, List.forall_mem_cons.mpr ⟨lw_p42, List.forall_mem_cons.mpr ⟨lw_p43, List.forall_mem_cons.mpr ⟨lw_p44, List.forall_mem_cons.mpr ⟨lw_p45, List.forall_mem_cons.mpr ⟨lw_p46, List.forall_mem_cons.mpr ⟨lw_p47, fun _ h => absurd h List.not_mem_nil⟩⟩⟩⟩⟩⟩⟩⟩⟩⟩⟩⟩⟩⟩⟩⟩
theorem lw_p48 : lw_okq (⟨"SpellTablesModel", "ruleIn", "(II)I"⟩, 38) := ⟨⟨by decide +kernel, by decide +kernel⟩, List.mem_of_getElem? (i := 707) (by decide +kernel), List.mem_of_getElem? (i := 999) (by decide +kernel), List.mem_of_getElem? (i := 1000) (by decide +kernel)⟩
theorem lw_p49 : lw_okq (⟨"SpellTablesModel", "layAheads", "()V"⟩, 38) := ⟨⟨by decide +kernel, by decide +kernel⟩, List.mem_of_getElem? (i := 707) (by decide +kernel), List.mem_of_getElem? (i := 1007) (by decide +kernel), List.mem_of_getElem? (i := 1008) (by decide +kernel)⟩
theorem lw_p50 : lw_okq (⟨"SpellTablesModel", "comesAhead", "(I)V"⟩, 38) := ⟨⟨by decide +kernel, by decide +kernel⟩, List.mem_of_getElem? (i := 707) (by decide +kernel), List.mem_of_getElem? (i := 1011) (by decide +kernel), List.mem_of_getElem? (i := 1012) (by decide +kernel)⟩
theorem lw_p51 : lw_okq (⟨"SpellTablesModel", "leastOf", "(I)I"⟩, 38) := ⟨⟨by decide +kernel, by decide +kernel⟩, List.mem_of_getElem? (i := 707) (by decide +kernel), List.mem_of_getElem? (i := 1015) (by decide +kernel), List.mem_of_getElem? (i := 1016) (by decide +kernel)⟩
theorem lw_p52 : lw_okq (⟨"SpellTablesModel", "isPart", "(I)Z"⟩, 38) := ⟨⟨by decide +kernel, by decide +kernel⟩, List.mem_of_getElem? (i := 707) (by decide +kernel), List.mem_of_getElem? (i := 1019) (by decide +kernel), List.mem_of_getElem? (i := 1020) (by decide +kernel)⟩
theorem lw_p53 : lw_okq (⟨"SpellTablesModel", "areAlike", "(II)Z"⟩, 38) := ⟨⟨by decide +kernel, by decide +kernel⟩, List.mem_of_getElem? (i := 707) (by decide +kernel), List.mem_of_getElem? (i := 1023) (by decide +kernel), List.mem_of_getElem? (i := 1024) (by decide +kernel)⟩
theorem lw_p54 : lw_okq (⟨"SpellTablesModel", "lengthOf", "(I)I"⟩, 38) := ⟨⟨by decide +kernel, by decide +kernel⟩, List.mem_of_getElem? (i := 707) (by decide +kernel), List.mem_of_getElem? (i := 1027) (by decide +kernel), List.mem_of_getElem? (i := 1028) (by decide +kernel)⟩
theorem lw_p55 : lw_okq (⟨"SpellTablesModel", "letterOf", "(II)I"⟩, 38) := ⟨⟨by decide +kernel, by decide +kernel⟩, List.mem_of_getElem? (i := 707) (by decide +kernel), List.mem_of_getElem? (i := 1031) (by decide +kernel), List.mem_of_getElem? (i := 1032) (by decide +kernel)⟩
theorem lw_p56 : lw_okq (⟨"SpellTablesModel", "goOnFrom", "(I)V"⟩, 38) := ⟨⟨by decide +kernel, by decide +kernel⟩, List.mem_of_getElem? (i := 707) (by decide +kernel), List.mem_of_getElem? (i := 1035) (by decide +kernel), List.mem_of_getElem? (i := 1036) (by decide +kernel)⟩
theorem lw_p57 : lw_okq (⟨"SpellTablesModel", "partBegins", "(II)Z"⟩, 38) := ⟨⟨by decide +kernel, by decide +kernel⟩, List.mem_of_getElem? (i := 707) (by decide +kernel), List.mem_of_getElem? (i := 1039) (by decide +kernel), List.mem_of_getElem? (i := 1040) (by decide +kernel)⟩
theorem lw_p58 : lw_okq (⟨"SpellTablesModel", "signBegins", "(II)Z"⟩, 38) := ⟨⟨by decide +kernel, by decide +kernel⟩, List.mem_of_getElem? (i := 707) (by decide +kernel), List.mem_of_getElem? (i := 1043) (by decide +kernel), List.mem_of_getElem? (i := 1044) (by decide +kernel)⟩
theorem lw_p59 : lw_okq (⟨"SpellTablesModel", "aheadOf", "(I)I"⟩, 38) := ⟨⟨by decide +kernel, by decide +kernel⟩, List.mem_of_getElem? (i := 707) (by decide +kernel), List.mem_of_getElem? (i := 1047) (by decide +kernel), List.mem_of_getElem? (i := 1048) (by decide +kernel)⟩
theorem lw_p60 : lw_okq (⟨"SpellTablesModel", "isBefore", "(II)Z"⟩, 38) := ⟨⟨by decide +kernel, by decide +kernel⟩, List.mem_of_getElem? (i := 707) (by decide +kernel), List.mem_of_getElem? (i := 1051) (by decide +kernel), List.mem_of_getElem? (i := 1052) (by decide +kernel)⟩
theorem lw_p61 : lw_okq (⟨"SpellTablesModel", "clashNow", "(I)I"⟩, 38) := ⟨⟨by decide +kernel, by decide +kernel⟩, List.mem_of_getElem? (i := 707) (by decide +kernel), List.mem_of_getElem? (i := 1063) (by decide +kernel), List.mem_of_getElem? (i := 1064) (by decide +kernel)⟩
theorem lw_p62 : lw_okq (⟨"SpellTablesModel", "isClean", "()Z"⟩, 38) := ⟨⟨by decide +kernel, by decide +kernel⟩, List.mem_of_getElem? (i := 707) (by decide +kernel), List.mem_of_getElem? (i := 1067) (by decide +kernel), List.mem_of_getElem? (i := 1068) (by decide +kernel)⟩
theorem lw_p63 : lw_okq (⟨"SpellTablesModel", "aheadsMany", "()I"⟩, 38) := ⟨⟨by decide +kernel, by decide +kernel⟩, List.mem_of_getElem? (i := 707) (by decide +kernel), List.mem_of_getElem? (i := 1071) (by decide +kernel), List.mem_of_getElem? (i := 1072) (by decide +kernel)⟩
def lw_privs_4 : List (MethodName × Nat) := [(⟨"SpellTablesModel", "ruleIn", "(II)I"⟩, 38), (⟨"SpellTablesModel", "layAheads", "()V"⟩, 38), (⟨"SpellTablesModel", "comesAhead", "(I)V"⟩, 38), (⟨"SpellTablesModel", "leastOf", "(I)I"⟩, 38), (⟨"SpellTablesModel", "isPart", "(I)Z"⟩, 38), (⟨"SpellTablesModel", "areAlike", "(II)Z"⟩, 38), (⟨"SpellTablesModel", "lengthOf", "(I)I"⟩, 38), (⟨"SpellTablesModel", "letterOf", "(II)I"⟩, 38), (⟨"SpellTablesModel", "goOnFrom", "(I)V"⟩, 38), (⟨"SpellTablesModel", "partBegins", "(II)Z"⟩, 38), (⟨"SpellTablesModel", "signBegins", "(II)Z"⟩, 38), (⟨"SpellTablesModel", "aheadOf", "(I)I"⟩, 38), (⟨"SpellTablesModel", "isBefore", "(II)Z"⟩, 38), (⟨"SpellTablesModel", "clashNow", "(I)I"⟩, 38), (⟨"SpellTablesModel", "isClean", "()Z"⟩, 38), (⟨"SpellTablesModel", "aheadsMany", "()I"⟩, 38)]
theorem lw_r4 : ∀ q ∈ lw_privs_4, lw_okq q := List.forall_mem_cons.mpr ⟨lw_p48, List.forall_mem_cons.mpr ⟨lw_p49, List.forall_mem_cons.mpr ⟨lw_p50, List.forall_mem_cons.mpr ⟨lw_p51, List.forall_mem_cons.mpr ⟨lw_p52, List.forall_mem_cons.mpr ⟨lw_p53, List.forall_mem_cons.mpr ⟨lw_p54, List.forall_mem_cons.mpr ⟨lw_p55, List.forall_mem_cons.mpr ⟨lw_p56, List.forall_mem_cons.mpr ⟨lw_p57, List.forall_mem_cons.mpr ⟨lw_p58, List.forall_mem_cons.mpr ⟨lw_p59, List.forall_mem_cons.mpr ⟨lw_p60, List.forall_mem_cons.mpr ⟨lw_p61, List.forall_mem_cons.mpr ⟨lw_p62, List.forall_mem_cons.mpr ⟨lw_p63, fun _ h => absurd h List.not_mem_nil⟩⟩⟩⟩⟩⟩⟩⟩⟩⟩⟩⟩⟩⟩⟩⟩
theorem lw_p64 : lw_okq (⟨"SpellTablesModel", "clashTold", "(I)I"⟩, 38) := ⟨⟨by decide +kernel, by decide +kernel⟩, List.mem_of_getElem? (i := 707) (by decide +kernel), List.mem_of_getElem? (i := 1075) (by decide +kernel), List.mem_of_getElem? (i := 1076) (by decide +kernel)⟩
theorem lw_p65 : lw_okq (⟨"SpellTablesModel", "layClash", "()V"⟩, 38) := ⟨⟨by decide +kernel, by decide +kernel⟩, List.mem_of_getElem? (i := 707) (by decide +kernel), List.mem_of_getElem? (i := 1079) (by decide +kernel), List.mem_of_getElem? (i := 1080) (by decide +kernel)⟩
theorem lw_p66 : lw_okq (⟨"SpellTablesModel", "layBehind", "()V"⟩, 38) := ⟨⟨by decide +kernel, by decide +kernel⟩, List.mem_of_getElem? (i := 707) (by decide +kernel), List.mem_of_getElem? (i := 1083) (by decide +kernel), List.mem_of_getElem? (i := 1084) (by decide +kernel)⟩
theorem lw_p67 : lw_okq (⟨"SpellTablesModel", "goesOn", "(I)Z"⟩, 38) := ⟨⟨by decide +kernel, by decide +kernel⟩, List.mem_of_getElem? (i := 707) (by decide +kernel), List.mem_of_getElem? (i := 1087) (by decide +kernel), List.mem_of_getElem? (i := 1088) (by decide +kernel)⟩
theorem lw_p68 : lw_okq (⟨"SpellTablesModel", "goesOnBy", "(II)Z"⟩, 38) := ⟨⟨by decide +kernel, by decide +kernel⟩, List.mem_of_getElem? (i := 707) (by decide +kernel), List.mem_of_getElem? (i := 1091) (by decide +kernel), List.mem_of_getElem? (i := 1092) (by decide +kernel)⟩
theorem lw_p69 : lw_okq (⟨"SpellTablesModel", "tryBehind", "(I)V"⟩, 38) := ⟨⟨by decide +kernel, by decide +kernel⟩, List.mem_of_getElem? (i := 707) (by decide +kernel), List.mem_of_getElem? (i := 1095) (by decide +kernel), List.mem_of_getElem? (i := 1096) (by decide +kernel)⟩
theorem lw_p70 : lw_okq (⟨"SpellTablesModel", "tryLetter", "(I)V"⟩, 38) := ⟨⟨by decide +kernel, by decide +kernel⟩, List.mem_of_getElem? (i := 707) (by decide +kernel), List.mem_of_getElem? (i := 1099) (by decide +kernel), List.mem_of_getElem? (i := 1100) (by decide +kernel)⟩
theorem lw_p71 : lw_okq (⟨"SpellTablesModel", "takesTried", "(I)Z"⟩, 38) := ⟨⟨by decide +kernel, by decide +kernel⟩, List.mem_of_getElem? (i := 707) (by decide +kernel), List.mem_of_getElem? (i := 1103) (by decide +kernel), List.mem_of_getElem? (i := 1104) (by decide +kernel)⟩
theorem lw_p72 : lw_okq (⟨"SpellTablesModel", "isTriedLess", "(I)Z"⟩, 38) := ⟨⟨by decide +kernel, by decide +kernel⟩, List.mem_of_getElem? (i := 707) (by decide +kernel), List.mem_of_getElem? (i := 1107) (by decide +kernel), List.mem_of_getElem? (i := 1108) (by decide +kernel)⟩
theorem lw_p73 : lw_okq (⟨"SpellTablesModel", "clashOf", "(II)V"⟩, 38) := ⟨⟨by decide +kernel, by decide +kernel⟩, List.mem_of_getElem? (i := 707) (by decide +kernel), List.mem_of_getElem? (i := 1111) (by decide +kernel), List.mem_of_getElem? (i := 1112) (by decide +kernel)⟩
theorem lw_p74 : lw_okq (⟨"SpellTablesModel", "isClashLess", "()Z"⟩, 38) := ⟨⟨by decide +kernel, by decide +kernel⟩, List.mem_of_getElem? (i := 707) (by decide +kernel), List.mem_of_getElem? (i := 1115) (by decide +kernel), List.mem_of_getElem? (i := 1116) (by decide +kernel)⟩
theorem lw_p75 : lw_okq (⟨"SpellTablesModel", "rowMany", "(I)I"⟩, 38) := ⟨⟨by decide +kernel, by decide +kernel⟩, List.mem_of_getElem? (i := 707) (by decide +kernel), List.mem_of_getElem? (i := 1119) (by decide +kernel), List.mem_of_getElem? (i := 1120) (by decide +kernel)⟩
theorem lw_p76 : lw_okq (⟨"SpellTablesModel", "clashingNow", "(II)I"⟩, 38) := ⟨⟨by decide +kernel, by decide +kernel⟩, List.mem_of_getElem? (i := 707) (by decide +kernel), List.mem_of_getElem? (i := 1131) (by decide +kernel), List.mem_of_getElem? (i := 1132) (by decide +kernel)⟩
theorem lw_p77 : lw_okq (⟨"SpellTablesModel", "partingNow", "(I)I"⟩, 38) := ⟨⟨by decide +kernel, by decide +kernel⟩, List.mem_of_getElem? (i := 707) (by decide +kernel), List.mem_of_getElem? (i := 1139) (by decide +kernel), List.mem_of_getElem? (i := 1140) (by decide +kernel)⟩
theorem lw_p78 : lw_okq (⟨"SpellTablesModel", "partingSet", "()I"⟩, 38) := ⟨⟨by decide +kernel, by decide +kernel⟩, List.mem_of_getElem? (i := 707) (by decide +kernel), List.mem_of_getElem? (i := 1143) (by decide +kernel), List.mem_of_getElem? (i := 1144) (by decide +kernel)⟩
theorem lw_p79 : lw_okq (⟨"SpellTablesModel", "trialNow", "(III)I"⟩, 38) := ⟨⟨by decide +kernel, by decide +kernel⟩, List.mem_of_getElem? (i := 707) (by decide +kernel), List.mem_of_getElem? (i := 1154) (by decide +kernel), List.mem_of_getElem? (i := 1155) (by decide +kernel)⟩
def lw_privs_5 : List (MethodName × Nat) := [(⟨"SpellTablesModel", "clashTold", "(I)I"⟩, 38), (⟨"SpellTablesModel", "layClash", "()V"⟩, 38), (⟨"SpellTablesModel", "layBehind", "()V"⟩, 38), (⟨"SpellTablesModel", "goesOn", "(I)Z"⟩, 38), (⟨"SpellTablesModel", "goesOnBy", "(II)Z"⟩, 38), (⟨"SpellTablesModel", "tryBehind", "(I)V"⟩, 38), (⟨"SpellTablesModel", "tryLetter", "(I)V"⟩, 38), (⟨"SpellTablesModel", "takesTried", "(I)Z"⟩, 38), (⟨"SpellTablesModel", "isTriedLess", "(I)Z"⟩, 38), (⟨"SpellTablesModel", "clashOf", "(II)V"⟩, 38), (⟨"SpellTablesModel", "isClashLess", "()Z"⟩, 38), (⟨"SpellTablesModel", "rowMany", "(I)I"⟩, 38), (⟨"SpellTablesModel", "clashingNow", "(II)I"⟩, 38), (⟨"SpellTablesModel", "partingNow", "(I)I"⟩, 38), (⟨"SpellTablesModel", "partingSet", "()I"⟩, 38), (⟨"SpellTablesModel", "trialNow", "(III)I"⟩, 38)]
theorem lw_r5 : ∀ q ∈ lw_privs_5, lw_okq q := List.forall_mem_cons.mpr ⟨lw_p64, List.forall_mem_cons.mpr ⟨lw_p65, List.forall_mem_cons.mpr ⟨lw_p66, List.forall_mem_cons.mpr ⟨lw_p67, List.forall_mem_cons.mpr ⟨lw_p68, List.forall_mem_cons.mpr ⟨lw_p69, List.forall_mem_cons.mpr ⟨lw_p70, List.forall_mem_cons.mpr ⟨lw_p71, List.forall_mem_cons.mpr ⟨lw_p72, List.forall_mem_cons.mpr ⟨lw_p73, List.forall_mem_cons.mpr ⟨lw_p74, List.forall_mem_cons.mpr ⟨lw_p75, List.forall_mem_cons.mpr ⟨lw_p76, List.forall_mem_cons.mpr ⟨lw_p77, List.forall_mem_cons.mpr ⟨lw_p78, List.forall_mem_cons.mpr ⟨lw_p79, fun _ h => absurd h List.not_mem_nil⟩⟩⟩⟩⟩⟩⟩⟩⟩⟩⟩⟩⟩⟩⟩⟩
theorem lw_p80 : lw_okq (⟨"SpellTablesModel", "drawRow", "()V"⟩, 38) := ⟨⟨by decide +kernel, by decide +kernel⟩, List.mem_of_getElem? (i := 707) (by decide +kernel), List.mem_of_getElem? (i := 1158) (by decide +kernel), List.mem_of_getElem? (i := 1159) (by decide +kernel)⟩
theorem lw_p81 : lw_okq (⟨"SpellTablesModel", "draw", "(I)I"⟩, 38) := ⟨⟨by decide +kernel, by decide +kernel⟩, List.mem_of_getElem? (i := 707) (by decide +kernel), List.mem_of_getElem? (i := 1162) (by decide +kernel), List.mem_of_getElem? (i := 1163) (by decide +kernel)⟩
theorem lw_p82 : lw_okq (⟨"SpellTablesModel", "isSameRow", "()Z"⟩, 38) := ⟨⟨by decide +kernel, by decide +kernel⟩, List.mem_of_getElem? (i := 707) (by decide +kernel), List.mem_of_getElem? (i := 1170) (by decide +kernel), List.mem_of_getElem? (i := 1171) (by decide +kernel)⟩
theorem lw_p83 : lw_okq (⟨"SpellTablesModel", "howMany", "(I)I"⟩, 38) := ⟨⟨by decide +kernel, by decide +kernel⟩, List.mem_of_getElem? (i := 707) (by decide +kernel), List.mem_of_getElem? (i := 1178) (by decide +kernel), List.mem_of_getElem? (i := 1179) (by decide +kernel)⟩
theorem lw_p84 : lw_okq (⟨"SpellTablesModel", "mixRules", "()V"⟩, 38) := ⟨⟨by decide +kernel, by decide +kernel⟩, List.mem_of_getElem? (i := 707) (by decide +kernel), List.mem_of_getElem? (i := 1187) (by decide +kernel), List.mem_of_getElem? (i := 1188) (by decide +kernel)⟩
theorem lw_p85 : lw_okq (⟨"SpellTablesModel", "mix", "(J)V"⟩, 38) := ⟨⟨by decide +kernel, by decide +kernel⟩, List.mem_of_getElem? (i := 707) (by decide +kernel), List.mem_of_getElem? (i := 1191) (by decide +kernel), List.mem_of_getElem? (i := 1192) (by decide +kernel)⟩
theorem lw_p86 : lw_okq (⟨"SpellTablesModel", "mixText", "()V"⟩, 38) := ⟨⟨by decide +kernel, by decide +kernel⟩, List.mem_of_getElem? (i := 707) (by decide +kernel), List.mem_of_getElem? (i := 1196) (by decide +kernel), List.mem_of_getElem? (i := 1197) (by decide +kernel)⟩
theorem lw_p87 : lw_okq (⟨"SpellTablesModel", "mixClash", "()V"⟩, 38) := ⟨⟨by decide +kernel, by decide +kernel⟩, List.mem_of_getElem? (i := 707) (by decide +kernel), List.mem_of_getElem? (i := 1200) (by decide +kernel), List.mem_of_getElem? (i := 1201) (by decide +kernel)⟩
theorem lw_p88 : lw_okq (⟨"SpellTablesModel", "mixAheads", "()V"⟩, 38) := ⟨⟨by decide +kernel, by decide +kernel⟩, List.mem_of_getElem? (i := 707) (by decide +kernel), List.mem_of_getElem? (i := 1204) (by decide +kernel), List.mem_of_getElem? (i := 1205) (by decide +kernel)⟩
def lw_privs_6 : List (MethodName × Nat) := [(⟨"SpellTablesModel", "drawRow", "()V"⟩, 38), (⟨"SpellTablesModel", "draw", "(I)I"⟩, 38), (⟨"SpellTablesModel", "isSameRow", "()Z"⟩, 38), (⟨"SpellTablesModel", "howMany", "(I)I"⟩, 38), (⟨"SpellTablesModel", "mixRules", "()V"⟩, 38), (⟨"SpellTablesModel", "mix", "(J)V"⟩, 38), (⟨"SpellTablesModel", "mixText", "()V"⟩, 38), (⟨"SpellTablesModel", "mixClash", "()V"⟩, 38), (⟨"SpellTablesModel", "mixAheads", "()V"⟩, 38)]
theorem lw_r6 : ∀ q ∈ lw_privs_6, lw_okq q := List.forall_mem_cons.mpr ⟨lw_p80, List.forall_mem_cons.mpr ⟨lw_p81, List.forall_mem_cons.mpr ⟨lw_p82, List.forall_mem_cons.mpr ⟨lw_p83, List.forall_mem_cons.mpr ⟨lw_p84, List.forall_mem_cons.mpr ⟨lw_p85, List.forall_mem_cons.mpr ⟨lw_p86, List.forall_mem_cons.mpr ⟨lw_p87, List.forall_mem_cons.mpr ⟨lw_p88, fun _ h => absurd h List.not_mem_nil⟩⟩⟩⟩⟩⟩⟩⟩⟩
def lw_privs : List (MethodName × Nat) := lw_privs_1 ++ (lw_privs_2 ++ (lw_privs_3 ++ (lw_privs_4 ++ (lw_privs_5 ++ (lw_privs_6)))))
def lw_tbl : List Cond := k2_sels lw_privs ++ tables_1
theorem lw_privs_ok : ∀ q ∈ lw_privs, lw_okq q := by
  show ∀ q ∈ lw_privs_1 ++ (lw_privs_2 ++ (lw_privs_3 ++ (lw_privs_4 ++ (lw_privs_5 ++ (lw_privs_6))))), lw_okq q
  exact List.forall_mem_append.mpr ⟨lw_r1, List.forall_mem_append.mpr ⟨lw_r2, List.forall_mem_append.mpr ⟨lw_r3, List.forall_mem_append.mpr ⟨lw_r4, List.forall_mem_append.mpr ⟨lw_r5, lw_r6⟩⟩⟩⟩⟩
end
section
/-! ===== BEGIN printed: names, fields, word lists, decode rows ===== -/
def RX0 : String := "SpellTables$Clashes"
def TX0 : u_T := fun k => match k with
  | 0 => ("SpellTables$Clashes", "remainders", "LSpellTables$Remainders;", true)
  | 1 => ("SpellTables$Clashes", "least", "LSpellTables$Line;", true)
  | 2 => ("SpellTables$Clashes", "one", "LSpellTables$Line;", true)
  | 3 => ("SpellTables$Clashes", "other", "LSpellTables$Line;", true)
  | 4 => ("SpellTables$Clashes", "texts", "[LSpellTables$Line;", true)
  | 5 => ("SpellTables$Clashes", "offered", "LSpellTables$Line;", true)
  | _ => ("SpellTables$Clashes", "spellings", "LSpellTables$Spellings;", true)
def tyX0 : Nat → FieldType := fun k => match k with
  | 0 => .object "SpellTables$Remainders"
  | 1 => .object "SpellTables$Line"
  | 2 => .object "SpellTables$Line"
  | 3 => .object "SpellTables$Line"
  | 4 => .array (.object "SpellTables$Line")
  | 5 => .object "SpellTables$Line"
  | _ => .object "SpellTables$Spellings"
abbrev wsX00 : List Cond := u_ws RX0 TX0 7
theorem nmX0 : ∀ a, a < 7 → ∀ b, b < 7 → a ≠ b → (TX0 a).2.1 ≠ (TX0 b).2.1 := by decide +kernel
theorem tyX0_ok : ∀ k, k < 7 → parseFieldDescriptor (TX0 k).2.2.1 = some (tyX0 k) := by decide +kernel
abbrev cX0_init : ByteArray := prog_2_method_1_code
def yX0_init : MethodName := ⟨RX0, "<init>", "()V"⟩
abbrev cX0_value : ByteArray := prog_2_method_2_code
def yX0_value : MethodName := ⟨RX0, "value", "(I)I"⟩
abbrev cX0_find : ByteArray := prog_2_method_3_code
def yX0_find : MethodName := ⟨RX0, "find", "(LSpellTables$Line;)V"⟩
abbrev cX0_findTexts : ByteArray := prog_2_method_4_code
def yX0_findTexts : MethodName := ⟨RX0, "findTexts", "(LSpellTables$Line;)V"⟩
abbrev cX0_startTexts : ByteArray := prog_2_method_5_code
def yX0_startTexts : MethodName := ⟨RX0, "startTexts", "(LSpellTables$Line;)V"⟩
abbrev cX0_followText : ByteArray := prog_2_method_6_code
def yX0_followText : MethodName := ⟨RX0, "followText", "(LSpellTables$Line;I)Z"⟩
abbrev cX0_take : ByteArray := prog_2_method_7_code
def yX0_take : MethodName := ⟨RX0, "take", "(I)Z"⟩
def RX1 : String := "SpellTables$Line"
def TX1 : u_T := fun k => match k with
  | 0 => ("SpellTables$Line", "items", "[I", true)
  | _ => ("SpellTables$Line", "size", "I", false)
def tyX1 : Nat → FieldType := fun k => match k with
  | 0 => .array .int
  | _ => .int
abbrev wsX10 : List Cond := u_ws RX1 TX1 2
theorem nmX1 : ∀ a, a < 2 → ∀ b, b < 2 → a ≠ b → (TX1 a).2.1 ≠ (TX1 b).2.1 := by decide +kernel
theorem tyX1_ok : ∀ k, k < 2 → parseFieldDescriptor (TX1 k).2.2.1 = some (tyX1 k) := by decide +kernel
abbrev cX1_init : ByteArray := prog_3_method_1_code
def yX1_init : MethodName := ⟨RX1, "<init>", "(I)V"⟩
abbrev cX1_size : ByteArray := prog_3_method_2_code
def yX1_size : MethodName := ⟨RX1, "size", "()I"⟩
abbrev cX1_at : ByteArray := prog_3_method_3_code
def yX1_at : MethodName := ⟨RX1, "at", "(I)I"⟩
abbrev cX1_placeOf : ByteArray := prog_3_method_4_code
def yX1_placeOf : MethodName := ⟨RX1, "placeOf", "(I)I"⟩
abbrev cX1_clear : ByteArray := prog_3_method_5_code
def yX1_clear : MethodName := ⟨RX1, "clear", "()V"⟩
abbrev cX1_add : ByteArray := prog_3_method_6_code
def yX1_add : MethodName := ⟨RX1, "add", "(I)V"⟩
abbrev cX1_addWord : ByteArray := prog_3_method_7_code
def yX1_addWord : MethodName := ⟨RX1, "addWord", "(I)V"⟩
abbrev cX1_copy : ByteArray := prog_3_method_8_code
def yX1_copy : MethodName := ⟨RX1, "copy", "(LSpellTables$Line;)V"⟩
abbrev cX1_remove : ByteArray := prog_3_method_9_code
def yX1_remove : MethodName := ⟨RX1, "remove", "(I)V"⟩
abbrev cX1_sort : ByteArray := prog_3_method_10_code
def yX1_sort : MethodName := ⟨RX1, "sort", "()V"⟩
abbrev cX1_isSame : ByteArray := prog_3_method_11_code
def yX1_isSame : MethodName := ⟨RX1, "isSame", "(LSpellTables$Line;)Z"⟩
abbrev cX1_isBefore : ByteArray := prog_3_method_12_code
def yX1_isBefore : MethodName := ⟨RX1, "isBefore", "(LSpellTables$Line;)Z"⟩
def RX2 : String := "SpellTables$Match"
def TX2 : u_T := fun k => match k with
  | _ => ("", "", "", false)
def tyX2 : Nat → FieldType := fun k => match k with
  | _ => .int
abbrev wsX20 : List Cond := u_ws RX2 TX2 0
theorem nmX2 : ∀ a, a < 0 → ∀ b, b < 0 → a ≠ b → (TX2 a).2.1 ≠ (TX2 b).2.1 := by decide +kernel
theorem tyX2_ok : ∀ k, k < 0 → parseFieldDescriptor (TX2 k).2.2.1 = some (tyX2 k) := by decide +kernel
abbrev cX2_endOf : ByteArray := prog_4_method_2_code
def yX2_endOf : MethodName := ⟨RX2, "endOf", "(ILSpellTables$Line;I)I"⟩
abbrev cX2_longest : ByteArray := prog_4_method_3_code
def yX2_longest : MethodName := ⟨RX2, "longest", "(LSpellTables$Line;LSpellTables$Line;I)I"⟩
abbrev cX2_decode : ByteArray := prog_4_method_4_code
def yX2_decode : MethodName := ⟨RX2, "decode", "(LSpellTables$Line;LSpellTables$Line;LSpellTables$Line;)I"⟩
def RX3 : String := "SpellTables$Partings"
def TX3 : u_T := fun k => match k with
  | 0 => ("SpellTables$Partings", "remainders", "LSpellTables$Remainders;", true)
  | 1 => ("SpellTables$Partings", "signs", "LSpellTables$Line;", true)
  | _ => ("SpellTables$Partings", "set", "I", false)
def tyX3 : Nat → FieldType := fun k => match k with
  | 0 => .object "SpellTables$Remainders"
  | 1 => .object "SpellTables$Line"
  | _ => .int
abbrev wsX30 : List Cond := u_ws RX3 TX3 3
theorem nmX3 : ∀ a, a < 3 → ∀ b, b < 3 → a ≠ b → (TX3 a).2.1 ≠ (TX3 b).2.1 := by decide +kernel
theorem tyX3_ok : ∀ k, k < 3 → parseFieldDescriptor (TX3 k).2.2.1 = some (tyX3 k) := by decide +kernel
abbrev cX3_init : ByteArray := prog_5_method_1_code
def yX3_init : MethodName := ⟨RX3, "<init>", "()V"⟩
abbrev cX3_value : ByteArray := prog_5_method_2_code
def yX3_value : MethodName := ⟨RX3, "value", "(I)I"⟩
abbrev cX3_find : ByteArray := prog_5_method_3_code
def yX3_find : MethodName := ⟨RX3, "find", "(LSpellTables$Rules;)V"⟩
def RX4 : String := "SpellTables$Reader"
def TX4 : u_T := fun k => match k with
  | 0 => ("SpellTables$Reader", "lefts", "LSpellTables$Line;", true)
  | 1 => ("SpellTables$Reader", "rights", "LSpellTables$Line;", true)
  | 2 => ("SpellTables$Reader", "left", "I", false)
  | _ => ("SpellTables$Reader", "right", "I", false)
def tyX4 : Nat → FieldType := fun k => match k with
  | 0 => .object "SpellTables$Line"
  | 1 => .object "SpellTables$Line"
  | 2 => .int
  | _ => .int
abbrev wsX40 : List Cond := u_ws RX4 TX4 4
theorem nmX4 : ∀ a, a < 4 → ∀ b, b < 4 → a ≠ b → (TX4 a).2.1 ≠ (TX4 b).2.1 := by decide +kernel
theorem tyX4_ok : ∀ k, k < 4 → parseFieldDescriptor (TX4 k).2.2.1 = some (tyX4 k) := by decide +kernel
abbrev cX4_init : ByteArray := prog_6_method_1_code
def yX4_init : MethodName := ⟨RX4, "<init>", "()V"⟩
abbrev cX4_read : ByteArray := prog_6_method_2_code
def yX4_read : MethodName := ⟨RX4, "read", "(LSpellTables$Line;)I"⟩
abbrev cX4_readWhole : ByteArray := prog_6_method_3_code
def yX4_readWhole : MethodName := ⟨RX4, "readWhole", "(LSpellTables$Line;)Z"⟩
abbrev cX4_takes : ByteArray := prog_6_method_4_code
def yX4_takes : MethodName := ⟨RX4, "takes", "(I)Z"⟩
abbrev cX4_takesSmall : ByteArray := prog_6_method_5_code
def yX4_takesSmall : MethodName := ⟨RX4, "takesSmall", "(I)Z"⟩
abbrev cX4_takesCapital : ByteArray := prog_6_method_6_code
def yX4_takesCapital : MethodName := ⟨RX4, "takesCapital", "(I)Z"⟩
abbrev cX4_takesComma : ByteArray := prog_6_method_7_code
def yX4_takesComma : MethodName := ⟨RX4, "takesComma", "()Z"⟩
abbrev cX4_endRule : ByteArray := prog_6_method_8_code
def yX4_endRule : MethodName := ⟨RX4, "endRule", "()V"⟩
def RX5 : String := "SpellTables$Remainders"
def TX5 : u_T := fun k => match k with
  | 0 => ("SpellTables$Remainders", "words", "LSpellTables$Line;", true)
  | _ => ("SpellTables$Remainders", "emptyFound", "Z", false)
def tyX5 : Nat → FieldType := fun k => match k with
  | 0 => .object "SpellTables$Line"
  | _ => .boolean
abbrev wsX50 : List Cond := u_ws RX5 TX5 2
theorem nmX5 : ∀ a, a < 2 → ∀ b, b < 2 → a ≠ b → (TX5 a).2.1 ≠ (TX5 b).2.1 := by decide +kernel
theorem tyX5_ok : ∀ k, k < 2 → parseFieldDescriptor (TX5 k).2.2.1 = some (tyX5 k) := by decide +kernel
abbrev cX5_init : ByteArray := prog_7_method_1_code
def yX5_init : MethodName := ⟨RX5, "<init>", "()V"⟩
abbrev cX5_areClean : ByteArray := prog_7_method_2_code
def yX5_areClean : MethodName := ⟨RX5, "areClean", "()Z"⟩
abbrev cX5_gather : ByteArray := prog_7_method_3_code
def yX5_gather : MethodName := ⟨RX5, "gather", "(LSpellTables$Line;)V"⟩
abbrev cX5_wouldBeClean : ByteArray := prog_7_method_4_code
def yX5_wouldBeClean : MethodName := ⟨RX5, "wouldBeClean", "(LSpellTables$Line;)Z"⟩
abbrev cX5_start : ByteArray := prog_7_method_5_code
def yX5_start : MethodName := ⟨RX5, "start", "(LSpellTables$Line;)V"⟩
abbrev cX5_follow : ByteArray := prog_7_method_6_code
def yX5_follow : MethodName := ⟨RX5, "follow", "(ILSpellTables$Line;)V"⟩
abbrev cX5_note : ByteArray := prog_7_method_7_code
def yX5_note : MethodName := ⟨RX5, "note", "(I)V"⟩
def RX6 : String := "SpellTables$Rules"
def TX6 : u_T := fun k => match k with
  | 0 => ("SpellTables$Rules", "lefts", "LSpellTables$Line;", true)
  | 1 => ("SpellTables$Rules", "rights", "LSpellTables$Line;", true)
  | 2 => ("SpellTables$Rules", "signs", "LSpellTables$Line;", true)
  | _ => ("SpellTables$Rules", "marks", "I", false)
def tyX6 : Nat → FieldType := fun k => match k with
  | 0 => .object "SpellTables$Line"
  | 1 => .object "SpellTables$Line"
  | 2 => .object "SpellTables$Line"
  | _ => .int
abbrev wsX60 : List Cond := u_ws RX6 TX6 4
theorem nmX6 : ∀ a, a < 4 → ∀ b, b < 4 → a ≠ b → (TX6 a).2.1 ≠ (TX6 b).2.1 := by decide +kernel
theorem tyX6_ok : ∀ k, k < 4 → parseFieldDescriptor (TX6 k).2.2.1 = some (tyX6 k) := by decide +kernel
abbrev cX6_init : ByteArray := prog_8_method_1_code
def yX6_init : MethodName := ⟨RX6, "<init>", "()V"⟩
abbrev cX6_size : ByteArray := prog_8_method_2_code
def yX6_size : MethodName := ⟨RX6, "size", "()I"⟩
abbrev cX6_has : ByteArray := prog_8_method_3_code
def yX6_has : MethodName := ⟨RX6, "has", "(I)Z"⟩
abbrev cX6_isMarked : ByteArray := prog_8_method_4_code
def yX6_isMarked : MethodName := ⟨RX6, "isMarked", "(I)Z"⟩
abbrev cX6_markedRules : ByteArray := prog_8_method_5_code
def yX6_markedRules : MethodName := ⟨RX6, "markedRules", "()I"⟩
abbrev cX6_replace : ByteArray := prog_8_method_6_code
def yX6_replace : MethodName := ⟨RX6, "replace", "(LSpellTables$Line;LSpellTables$Line;)V"⟩
abbrev cX6_turnMark : ByteArray := prog_8_method_7_code
def yX6_turnMark : MethodName := ⟨RX6, "turnMark", "(I)V"⟩
abbrev cX6_remove : ByteArray := prog_8_method_8_code
def yX6_remove : MethodName := ⟨RX6, "remove", "(I)V"⟩
abbrev cX6_makeSigns : ByteArray := prog_8_method_9_code
def yX6_makeSigns : MethodName := ⟨RX6, "makeSigns", "(ILSpellTables$Line;)V"⟩
abbrev cX6_spell : ByteArray := prog_8_method_10_code
def yX6_spell : MethodName := ⟨RX6, "spell", "(LSpellTables$Line;LSpellTables$Line;)V"⟩
abbrev cX6_othersBeginning : ByteArray := prog_8_method_11_code
def yX6_othersBeginning : MethodName := ⟨RX6, "othersBeginning", "(LSpellTables$Line;I)I"⟩
def RX7 : String := "SpellTables$Spellings"
def TX7 : u_T := fun k => match k with
  | 0 => ("SpellTables$Spellings", "rows", "[I", true)
  | 1 => ("SpellTables$Spellings", "upToTwo", "[I", true)
  | _ => ("SpellTables$Spellings", "end", "I", false)
def tyX7 : Nat → FieldType := fun k => match k with
  | 0 => .array .int
  | 1 => .array .int
  | _ => .int
abbrev wsX70 : List Cond := u_ws RX7 TX7 3
theorem nmX7 : ∀ a, a < 3 → ∀ b, b < 3 → a ≠ b → (TX7 a).2.1 ≠ (TX7 b).2.1 := by decide +kernel
theorem tyX7_ok : ∀ k, k < 3 → parseFieldDescriptor (TX7 k).2.2.1 = some (tyX7 k) := by decide +kernel
abbrev cX7_init : ByteArray := prog_9_method_1_code
def yX7_init : MethodName := ⟨RX7, "<init>", "()V"⟩
abbrev cX7_weigh : ByteArray := prog_9_method_2_code
def yX7_weigh : MethodName := ⟨RX7, "weigh", "(LSpellTables$Line;LSpellTables$Line;)V"⟩
abbrev cX7_weighPlace : ByteArray := prog_9_method_3_code
def yX7_weighPlace : MethodName := ⟨RX7, "weighPlace", "(LSpellTables$Line;LSpellTables$Line;I)V"⟩
abbrev cX7_total : ByteArray := prog_9_method_4_code
def yX7_total : MethodName := ⟨RX7, "total", "()I"⟩
abbrev cX7_pick : ByteArray := prog_9_method_5_code
def yX7_pick : MethodName := ⟨RX7, "pick", "(LSpellTables$Line;LSpellTables$Line;ILSpellTables$Line;)V"⟩
def RX8 : String := "SpellTables$Trials"
def TX8 : u_T := fun k => match k with
  | 0 => ("SpellTables$Trials", "row", "LSpellTables$Line;", true)
  | 1 => ("SpellTables$Trials", "spelled", "LSpellTables$Line;", true)
  | 2 => ("SpellTables$Trials", "decoded", "LSpellTables$Line;", true)
  | 3 => ("SpellTables$Trials", "drawn", "J", false)
  | 4 => ("SpellTables$Trials", "same", "I", false)
  | 5 => ("SpellTables$Trials", "another", "I", false)
  | 6 => ("SpellTables$Trials", "stuck", "I", false)
  | _ => ("SpellTables$Trials", "characters", "I", false)
def tyX8 : Nat → FieldType := fun k => match k with
  | 0 => .object "SpellTables$Line"
  | 1 => .object "SpellTables$Line"
  | 2 => .object "SpellTables$Line"
  | 3 => .long
  | 4 => .int
  | 5 => .int
  | 6 => .int
  | _ => .int
abbrev wsX80 : List Cond := u_ws RX8 TX8 8
theorem nmX8 : ∀ a, a < 8 → ∀ b, b < 8 → a ≠ b → (TX8 a).2.1 ≠ (TX8 b).2.1 := by decide +kernel
theorem tyX8_ok : ∀ k, k < 8 → parseFieldDescriptor (TX8 k).2.2.1 = some (tyX8 k) := by decide +kernel
abbrev cX8_init : ByteArray := prog_10_method_1_code
def yX8_init : MethodName := ⟨RX8, "<init>", "()V"⟩
abbrev cX8_value : ByteArray := prog_10_method_2_code
def yX8_value : MethodName := ⟨RX8, "value", "(I)I"⟩
abbrev cX8_run : ByteArray := prog_10_method_3_code
def yX8_run : MethodName := ⟨RX8, "run", "(LSpellTables$Rules;II)V"⟩
abbrev cX8_drawRow : ByteArray := prog_10_method_4_code
def yX8_drawRow : MethodName := ⟨RX8, "drawRow", "(I)V"⟩
abbrev cX8_tryRow : ByteArray := prog_10_method_5_code
def yX8_tryRow : MethodName := ⟨RX8, "tryRow", "(LSpellTables$Rules;)V"⟩
abbrev cX8_draw : ByteArray := prog_10_method_6_code
def yX8_draw : MethodName := ⟨RX8, "draw", "(I)I"⟩
def RX9 : String := "SpellTables$Word"
def TX9 : u_T := fun k => match k with
  | _ => ("", "", "", false)
def tyX9 : Nat → FieldType := fun k => match k with
  | _ => .int
abbrev wsX90 : List Cond := u_ws RX9 TX9 0
theorem nmX9 : ∀ a, a < 0 → ∀ b, b < 0 → a ≠ b → (TX9 a).2.1 ≠ (TX9 b).2.1 := by decide +kernel
theorem tyX9_ok : ∀ k, k < 0 → parseFieldDescriptor (TX9 k).2.2.1 = some (tyX9 k) := by decide +kernel
abbrev cX9_size : ByteArray := prog_11_method_2_code
def yX9_size : MethodName := ⟨RX9, "size", "(I)I"⟩
abbrev cX9_append : ByteArray := prog_11_method_3_code
def yX9_append : MethodName := ⟨RX9, "append", "(II)I"⟩
abbrev cX9_character : ByteArray := prog_11_method_4_code
def yX9_character : MethodName := ⟨RX9, "character", "(II)I"⟩
abbrev cX9_fromEnd : ByteArray := prog_11_method_5_code
def yX9_fromEnd : MethodName := ⟨RX9, "fromEnd", "(II)I"⟩
abbrev cX9_begins : ByteArray := prog_11_method_6_code
def yX9_begins : MethodName := ⟨RX9, "begins", "(II)Z"⟩
abbrev cX9_behind : ByteArray := prog_11_method_7_code
def yX9_behind : MethodName := ⟨RX9, "behind", "(II)I"⟩
def RX10 : String := "SpellTables"
def TX10 : u_T := fun k => match k with
  | 0 => ("SpellTables", "rules", "LSpellTables$Rules;", true)
  | 1 => ("SpellTables", "page", "LSpellTables$Line;", true)
  | 2 => ("SpellTables", "inked", "LSpellTables$Line;", true)
  | 3 => ("SpellTables", "row", "LSpellTables$Line;", true)
  | 4 => ("SpellTables", "reader", "LSpellTables$Reader;", true)
  | 5 => ("SpellTables", "spellings", "LSpellTables$Spellings;", true)
  | 6 => ("SpellTables", "clashes", "LSpellTables$Clashes;", true)
  | 7 => ("SpellTables", "partings", "LSpellTables$Partings;", true)
  | 8 => ("SpellTables", "trials", "LSpellTables$Trials;", true)
  | 9 => ("SpellTables", "clashesKnown", "Z", false)
  | 10 => ("SpellTables", "partingsKnown", "Z", false)
  | 11 => ("SpellTables", "tablesRead", "I", false)
  | 12 => ("SpellTables", "pagesTurned", "I", false)
  | _ => ("SpellTables", "textsTaken", "I", false)
def tyX10 : Nat → FieldType := fun k => match k with
  | 0 => .object "SpellTables$Rules"
  | 1 => .object "SpellTables$Line"
  | 2 => .object "SpellTables$Line"
  | 3 => .object "SpellTables$Line"
  | 4 => .object "SpellTables$Reader"
  | 5 => .object "SpellTables$Spellings"
  | 6 => .object "SpellTables$Clashes"
  | 7 => .object "SpellTables$Partings"
  | 8 => .object "SpellTables$Trials"
  | 9 => .boolean
  | 10 => .boolean
  | 11 => .int
  | 12 => .int
  | _ => .int
abbrev wsX100 : List Cond := u_ws RX10 TX10 14
theorem nmX10 : ∀ a, a < 14 → ∀ b, b < 14 → a ≠ b → (TX10 a).2.1 ≠ (TX10 b).2.1 := by decide +kernel
theorem tyX10_ok : ∀ k, k < 14 → parseFieldDescriptor (TX10 k).2.2.1 = some (tyX10 k) := by decide +kernel
abbrev cX10_init : ByteArray := prog_1_method_1_code
def yX10_init : MethodName := ⟨RX10, "<init>", "()V"⟩
abbrev cX10_letter : ByteArray := prog_1_method_2_code
def yX10_letter : MethodName := ⟨RX10, "letter", "(I)I"⟩
abbrev cX10_blank : ByteArray := prog_1_method_3_code
def yX10_blank : MethodName := ⟨RX10, "blank", "()I"⟩
abbrev cX10_fault : ByteArray := prog_1_method_4_code
def yX10_fault : MethodName := ⟨RX10, "fault", "()I"⟩
abbrev cX10_table : ByteArray := prog_1_method_5_code
def yX10_table : MethodName := ⟨RX10, "table", "()I"⟩
abbrev cX10_turn : ByteArray := prog_1_method_6_code
def yX10_turn : MethodName := ⟨RX10, "turn", "()I"⟩
abbrev cX10_text : ByteArray := prog_1_method_7_code
def yX10_text : MethodName := ⟨RX10, "text", "()I"⟩
abbrev cX10_mark : ByteArray := prog_1_method_8_code
def yX10_mark : MethodName := ⟨RX10, "mark", "(I)I"⟩
abbrev cX10_drop : ByteArray := prog_1_method_9_code
def yX10_drop : MethodName := ⟨RX10, "drop", "(I)I"⟩
abbrev cX10_rule : ByteArray := prog_1_method_10_code
def yX10_rule : MethodName := ⟨RX10, "rule", "(II)I"⟩
abbrev cX10_sign : ByteArray := prog_1_method_11_code
def yX10_sign : MethodName := ⟨RX10, "sign", "(III)I"⟩
abbrev cX10_ink : ByteArray := prog_1_method_12_code
def yX10_ink : MethodName := ⟨RX10, "ink", "(I)I"⟩
abbrev cX10_back : ByteArray := prog_1_method_13_code
def yX10_back : MethodName := ⟨RX10, "back", "(I)I"⟩
abbrev cX10_backAt : ByteArray := prog_1_method_14_code
def yX10_backAt : MethodName := ⟨RX10, "backAt", "(I)I"⟩
abbrev cX10_ways : ByteArray := prog_1_method_15_code
def yX10_ways : MethodName := ⟨RX10, "ways", "()I"⟩
abbrev cX10_first : ByteArray := prog_1_method_16_code
def yX10_first : MethodName := ⟨RX10, "first", "(I)I"⟩
abbrev cX10_clash : ByteArray := prog_1_method_17_code
def yX10_clash : MethodName := ⟨RX10, "clash", "(I)I"⟩
abbrev cX10_clashAt : ByteArray := prog_1_method_18_code
def yX10_clashAt : MethodName := ⟨RX10, "clashAt", "(I)I"⟩
abbrev cX10_clashing : ByteArray := prog_1_method_19_code
def yX10_clashing : MethodName := ⟨RX10, "clashing", "(II)I"⟩
abbrev cX10_ahead : ByteArray := prog_1_method_20_code
def yX10_ahead : MethodName := ⟨RX10, "ahead", "(I)I"⟩
abbrev cX10_aheadAt : ByteArray := prog_1_method_21_code
def yX10_aheadAt : MethodName := ⟨RX10, "aheadAt", "(II)I"⟩
abbrev cX10_parting : ByteArray := prog_1_method_22_code
def yX10_parting : MethodName := ⟨RX10, "parting", "(I)I"⟩
abbrev cX10_trial : ByteArray := prog_1_method_23_code
def yX10_trial : MethodName := ⟨RX10, "trial", "(III)I"⟩
abbrev cX10_count : ByteArray := prog_1_method_24_code
def yX10_count : MethodName := ⟨RX10, "count", "(I)I"⟩
abbrev cX10_digest : ByteArray := prog_1_method_25_code
def yX10_digest : MethodName := ⟨RX10, "digest", "()J"⟩
abbrev cX10_hashRules : ByteArray := prog_1_method_26_code
def yX10_hashRules : MethodName := ⟨RX10, "hashRules", "(J)J"⟩
abbrev cX10_hashRows : ByteArray := prog_1_method_27_code
def yX10_hashRows : MethodName := ⟨RX10, "hashRows", "(J)J"⟩
abbrev cX10_hashClashes : ByteArray := prog_1_method_28_code
def yX10_hashClashes : MethodName := ⟨RX10, "hashClashes", "(J)J"⟩
abbrev cX10_stuckPlace : ByteArray := prog_1_method_29_code
def yX10_stuckPlace : MethodName := ⟨RX10, "stuckPlace", "(I)I"⟩
abbrev cX10_hashNumber : ByteArray := prog_1_method_30_code
def yX10_hashNumber : MethodName := ⟨RX10, "hashNumber", "(JI)J"⟩
abbrev cX10_hashLine : ByteArray := prog_1_method_31_code
def yX10_hashLine : MethodName := ⟨RX10, "hashLine", "(JLSpellTables$Line;)J"⟩
abbrev cX10_hashWord : ByteArray := prog_1_method_32_code
def yX10_hashWord : MethodName := ⟨RX10, "hashWord", "(JI)J"⟩
abbrev cX10_forgetTable : ByteArray := prog_1_method_33_code
def yX10_forgetTable : MethodName := ⟨RX10, "forgetTable", "()V"⟩
abbrev cX10_knowClashes : ByteArray := prog_1_method_34_code
def yX10_knowClashes : MethodName := ⟨RX10, "knowClashes", "()V"⟩
abbrev cX10_knowPartings : ByteArray := prog_1_method_35_code
def yX10_knowPartings : MethodName := ⟨RX10, "knowPartings", "()V"⟩
abbrev cX10_isSmall : ByteArray := prog_1_method_36_code
def yX10_isSmall : MethodName := ⟨RX10, "isSmall", "(I)Z"⟩
abbrev cX10_isCapital : ByteArray := prog_1_method_37_code
def yX10_isCapital : MethodName := ⟨RX10, "isCapital", "(I)Z"⟩
abbrev cX10_onlySmall : ByteArray := prog_1_method_38_code
def yX10_onlySmall : MethodName := ⟨RX10, "onlySmall", "(LSpellTables$Line;)Z"⟩
abbrev cX10_onlyInk : ByteArray := prog_1_method_39_code
def yX10_onlyInk : MethodName := ⟨RX10, "onlyInk", "(LSpellTables$Line;)Z"⟩
def RX11 : String := "SpellTablesModel"
def TX11 : u_T := fun k => match k with
  | 0 => ("SpellTablesModel", "rules", "I", false)
  | 1 => ("SpellTablesModel", "leftLength", "[I", true)
  | 2 => ("SpellTablesModel", "rightLength", "[I", true)
  | 3 => ("SpellTablesModel", "lefts", "[I", true)
  | 4 => ("SpellTablesModel", "rights", "[I", true)
  | 5 => ("SpellTablesModel", "marked", "I", false)
  | 6 => ("SpellTablesModel", "marks", "I", false)
  | 7 => ("SpellTablesModel", "textLength", "I", false)
  | 8 => ("SpellTablesModel", "text", "[I", true)
  | 9 => ("SpellTablesModel", "pageLength", "I", false)
  | 10 => ("SpellTablesModel", "page", "[I", true)
  | 11 => ("SpellTablesModel", "tables", "I", false)
  | 12 => ("SpellTablesModel", "turns", "I", false)
  | 13 => ("SpellTablesModel", "textsTold", "I", false)
  | 14 => ("SpellTablesModel", "newRules", "I", false)
  | 15 => ("SpellTablesModel", "newLeft", "[I", true)
  | 16 => ("SpellTablesModel", "newRight", "[I", true)
  | 17 => ("SpellTablesModel", "newLefts", "[I", true)
  | 18 => ("SpellTablesModel", "newRights", "[I", true)
  | 19 => ("SpellTablesModel", "rowLength", "I", false)
  | 20 => ("SpellTablesModel", "row", "[I", true)
  | 21 => ("SpellTablesModel", "workLength", "I", false)
  | 22 => ("SpellTablesModel", "work", "[I", true)
  | 23 => ("SpellTablesModel", "waysFrom", "[I", true)
  | 24 => ("SpellTablesModel", "upToTwo", "[I", true)
  | 25 => ("SpellTablesModel", "backMany", "I", false)
  | 26 => ("SpellTablesModel", "backStuck", "I", false)
  | 27 => ("SpellTablesModel", "backRow", "[I", true)
  | 28 => ("SpellTablesModel", "isAhead", "[Z", true)
  | 29 => ("SpellTablesModel", "isMoreAhead", "Z", false)
  | 30 => ("SpellTablesModel", "behindMany", "[I", true)
  | 31 => ("SpellTablesModel", "behind", "[I", true)
  | 32 => ("SpellTablesModel", "triedMany", "I", false)
  | 33 => ("SpellTablesModel", "tried", "[I", true)
  | 34 => ("SpellTablesModel", "clashMany", "I", false)
  | 35 => ("SpellTablesModel", "clashText", "[I", true)
  | 36 => ("SpellTablesModel", "drawSeed", "J", false)
  | _ => ("SpellTablesModel", "h", "J", false)
def tyX11 : Nat → FieldType := fun k => match k with
  | 0 => .int
  | 1 => .array .int
  | 2 => .array .int
  | 3 => .array .int
  | 4 => .array .int
  | 5 => .int
  | 6 => .int
  | 7 => .int
  | 8 => .array .int
  | 9 => .int
  | 10 => .array .int
  | 11 => .int
  | 12 => .int
  | 13 => .int
  | 14 => .int
  | 15 => .array .int
  | 16 => .array .int
  | 17 => .array .int
  | 18 => .array .int
  | 19 => .int
  | 20 => .array .int
  | 21 => .int
  | 22 => .array .int
  | 23 => .array .int
  | 24 => .array .int
  | 25 => .int
  | 26 => .int
  | 27 => .array .int
  | 28 => .array .boolean
  | 29 => .boolean
  | 30 => .array .int
  | 31 => .array .int
  | 32 => .int
  | 33 => .array .int
  | 34 => .int
  | 35 => .array .int
  | 36 => .long
  | _ => .long
abbrev wsX110 : List Cond := u_ws RX11 TX11 38
theorem nmX11 : ∀ a, a < 38 → ∀ b, b < 38 → a ≠ b → (TX11 a).2.1 ≠ (TX11 b).2.1 := by decide +kernel
theorem tyX11_ok : ∀ k, k < 38 → parseFieldDescriptor (TX11 k).2.2.1 = some (tyX11 k) := by decide +kernel
abbrev cX11_init : ByteArray := prog_13_method_1_code
def yX11_init : MethodName := ⟨RX11, "<init>", "()V"⟩
abbrev cX11_within : ByteArray := prog_13_method_3_code
def yX11_within : MethodName := ⟨RX11, "within", "(III)Z"⟩
abbrev cX11_isSmall : ByteArray := prog_13_method_4_code
def yX11_isSmall : MethodName := ⟨RX11, "isSmall", "(I)Z"⟩
abbrev cX11_isGreat : ByteArray := prog_13_method_5_code
def yX11_isGreat : MethodName := ⟨RX11, "isGreat", "(I)Z"⟩
abbrev cX11_letter : ByteArray := prog_13_method_6_code
def yX11_letter : MethodName := ⟨RX11, "letter", "(I)I"⟩
abbrev cX11_blank : ByteArray := prog_13_method_7_code
def yX11_blank : MethodName := ⟨RX11, "blank", "()I"⟩
abbrev cX11_isTwice : ByteArray := prog_13_method_8_code
def yX11_isTwice : MethodName := ⟨RX11, "isTwice", "()Z"⟩
abbrev cX11_takesLeft : ByteArray := prog_13_method_9_code
def yX11_takesLeft : MethodName := ⟨RX11, "takesLeft", "(I)Z"⟩
abbrev cX11_takesRight : ByteArray := prog_13_method_10_code
def yX11_takesRight : MethodName := ⟨RX11, "takesRight", "(I)Z"⟩
abbrev cX11_takesComma : ByteArray := prog_13_method_11_code
def yX11_takesComma : MethodName := ⟨RX11, "takesComma", "()Z"⟩
abbrev cX11_takes : ByteArray := prog_13_method_12_code
def yX11_takes : MethodName := ⟨RX11, "takes", "(I)Z"⟩
abbrev cX11_read : ByteArray := prog_13_method_13_code
def yX11_read : MethodName := ⟨RX11, "read", "()I"⟩
abbrev cX11_fault : ByteArray := prog_13_method_14_code
def yX11_fault : MethodName := ⟨RX11, "fault", "()I"⟩
abbrev cX11_table : ByteArray := prog_13_method_15_code
def yX11_table : MethodName := ⟨RX11, "table", "()I"⟩
abbrev cX11_signLength : ByteArray := prog_13_method_16_code
def yX11_signLength : MethodName := ⟨RX11, "signLength", "(I)I"⟩
abbrev cX11_signAt : ByteArray := prog_13_method_17_code
def yX11_signAt : MethodName := ⟨RX11, "signAt", "(II)I"⟩
abbrev cX11_longestLeft : ByteArray := prog_13_method_18_code
def yX11_longestLeft : MethodName := ⟨RX11, "longestLeft", "(I)I"⟩
abbrev cX11_turnRow : ByteArray := prog_13_method_19_code
def yX11_turnRow : MethodName := ⟨RX11, "turnRow", "()I"⟩
abbrev cX11_isSmallPage : ByteArray := prog_13_method_20_code
def yX11_isSmallPage : MethodName := ⟨RX11, "isSmallPage", "()Z"⟩
abbrev cX11_turn : ByteArray := prog_13_method_21_code
def yX11_turn : MethodName := ⟨RX11, "turn", "()I"⟩
abbrev cX11_text : ByteArray := prog_13_method_22_code
def yX11_text : MethodName := ⟨RX11, "text", "()I"⟩
abbrev cX11_isRule : ByteArray := prog_13_method_23_code
def yX11_isRule : MethodName := ⟨RX11, "isRule", "(I)Z"⟩
abbrev cX11_mark : ByteArray := prog_13_method_24_code
def yX11_mark : MethodName := ⟨RX11, "mark", "(I)I"⟩
abbrev cX11_drop : ByteArray := prog_13_method_25_code
def yX11_drop : MethodName := ⟨RX11, "drop", "(I)I"⟩
abbrev cX11_begins : ByteArray := prog_13_method_26_code
def yX11_begins : MethodName := ⟨RX11, "begins", "(II)Z"⟩
abbrev cX11_leftBegins : ByteArray := prog_13_method_27_code
def yX11_leftBegins : MethodName := ⟨RX11, "leftBegins", "(II)Z"⟩
abbrev cX11_begunBy : ByteArray := prog_13_method_28_code
def yX11_begunBy : MethodName := ⟨RX11, "begunBy", "(IZ)I"⟩
abbrev cX11_ruleNow : ByteArray := prog_13_method_29_code
def yX11_ruleNow : MethodName := ⟨RX11, "ruleNow", "(II)I"⟩
abbrev cX11_rule : ByteArray := prog_13_method_30_code
def yX11_rule : MethodName := ⟨RX11, "rule", "(II)I"⟩
abbrev cX11_sign : ByteArray := prog_13_method_31_code
def yX11_sign : MethodName := ⟨RX11, "sign", "(III)I"⟩
abbrev cX11_lies : ByteArray := prog_13_method_32_code
def yX11_lies : MethodName := ⟨RX11, "lies", "(II)Z"⟩
abbrev cX11_longestSign : ByteArray := prog_13_method_33_code
def yX11_longestSign : MethodName := ⟨RX11, "longestSign", "(I)I"⟩
abbrev cX11_workText : ByteArray := prog_13_method_34_code
def yX11_workText : MethodName := ⟨RX11, "workText", "()V"⟩
abbrev cX11_layWays : ByteArray := prog_13_method_35_code
def yX11_layWays : MethodName := ⟨RX11, "layWays", "()V"⟩
abbrev cX11_ink : ByteArray := prog_13_method_36_code
def yX11_ink : MethodName := ⟨RX11, "ink", "(I)I"⟩
abbrev cX11_layBack : ByteArray := prog_13_method_37_code
def yX11_layBack : MethodName := ⟨RX11, "layBack", "()V"⟩
abbrev cX11_backNow : ByteArray := prog_13_method_38_code
def yX11_backNow : MethodName := ⟨RX11, "backNow", "(I)I"⟩
abbrev cX11_back : ByteArray := prog_13_method_39_code
def yX11_back : MethodName := ⟨RX11, "back", "(I)I"⟩
abbrev cX11_backAtNow : ByteArray := prog_13_method_40_code
def yX11_backAtNow : MethodName := ⟨RX11, "backAtNow", "(I)I"⟩
abbrev cX11_backAt : ByteArray := prog_13_method_41_code
def yX11_backAt : MethodName := ⟨RX11, "backAt", "(I)I"⟩
abbrev cX11_waysNow : ByteArray := prog_13_method_42_code
def yX11_waysNow : MethodName := ⟨RX11, "waysNow", "()I"⟩
abbrev cX11_ways : ByteArray := prog_13_method_43_code
def yX11_ways : MethodName := ⟨RX11, "ways", "()I"⟩
abbrev cX11_ruleIn : ByteArray := prog_13_method_44_code
def yX11_ruleIn : MethodName := ⟨RX11, "ruleIn", "(II)I"⟩
abbrev cX11_firstNow : ByteArray := prog_13_method_45_code
def yX11_firstNow : MethodName := ⟨RX11, "firstNow", "(I)I"⟩
abbrev cX11_first : ByteArray := prog_13_method_46_code
def yX11_first : MethodName := ⟨RX11, "first", "(I)I"⟩
abbrev cX11_lengthOf : ByteArray := prog_13_method_47_code
def yX11_lengthOf : MethodName := ⟨RX11, "lengthOf", "(I)I"⟩
abbrev cX11_letterOf : ByteArray := prog_13_method_48_code
def yX11_letterOf : MethodName := ⟨RX11, "letterOf", "(II)I"⟩
abbrev cX11_isPart : ByteArray := prog_13_method_49_code
def yX11_isPart : MethodName := ⟨RX11, "isPart", "(I)Z"⟩
abbrev cX11_areAlike : ByteArray := prog_13_method_50_code
def yX11_areAlike : MethodName := ⟨RX11, "areAlike", "(II)Z"⟩
abbrev cX11_leastOf : ByteArray := prog_13_method_51_code
def yX11_leastOf : MethodName := ⟨RX11, "leastOf", "(I)I"⟩
abbrev cX11_partBegins : ByteArray := prog_13_method_52_code
def yX11_partBegins : MethodName := ⟨RX11, "partBegins", "(II)Z"⟩
abbrev cX11_signBegins : ByteArray := prog_13_method_53_code
def yX11_signBegins : MethodName := ⟨RX11, "signBegins", "(II)Z"⟩
abbrev cX11_comesAhead : ByteArray := prog_13_method_54_code
def yX11_comesAhead : MethodName := ⟨RX11, "comesAhead", "(I)V"⟩
abbrev cX11_goOnFrom : ByteArray := prog_13_method_55_code
def yX11_goOnFrom : MethodName := ⟨RX11, "goOnFrom", "(I)V"⟩
abbrev cX11_layAheads : ByteArray := prog_13_method_56_code
def yX11_layAheads : MethodName := ⟨RX11, "layAheads", "()V"⟩
abbrev cX11_isClean : ByteArray := prog_13_method_57_code
def yX11_isClean : MethodName := ⟨RX11, "isClean", "()Z"⟩
abbrev cX11_aheadsMany : ByteArray := prog_13_method_58_code
def yX11_aheadsMany : MethodName := ⟨RX11, "aheadsMany", "()I"⟩
abbrev cX11_isBefore : ByteArray := prog_13_method_59_code
def yX11_isBefore : MethodName := ⟨RX11, "isBefore", "(II)Z"⟩
abbrev cX11_aheadOf : ByteArray := prog_13_method_60_code
def yX11_aheadOf : MethodName := ⟨RX11, "aheadOf", "(I)I"⟩
abbrev cX11_ahead : ByteArray := prog_13_method_61_code
def yX11_ahead : MethodName := ⟨RX11, "ahead", "(I)I"⟩
abbrev cX11_aheadAt : ByteArray := prog_13_method_62_code
def yX11_aheadAt : MethodName := ⟨RX11, "aheadAt", "(II)I"⟩
abbrev cX11_tryLetter : ByteArray := prog_13_method_63_code
def yX11_tryLetter : MethodName := ⟨RX11, "tryLetter", "(I)V"⟩
abbrev cX11_tryBehind : ByteArray := prog_13_method_64_code
def yX11_tryBehind : MethodName := ⟨RX11, "tryBehind", "(I)V"⟩
abbrev cX11_isTriedLess : ByteArray := prog_13_method_65_code
def yX11_isTriedLess : MethodName := ⟨RX11, "isTriedLess", "(I)Z"⟩
abbrev cX11_takesTried : ByteArray := prog_13_method_66_code
def yX11_takesTried : MethodName := ⟨RX11, "takesTried", "(I)Z"⟩
abbrev cX11_goesOnBy : ByteArray := prog_13_method_67_code
def yX11_goesOnBy : MethodName := ⟨RX11, "goesOnBy", "(II)Z"⟩
abbrev cX11_goesOn : ByteArray := prog_13_method_68_code
def yX11_goesOn : MethodName := ⟨RX11, "goesOn", "(I)Z"⟩
abbrev cX11_layBehind : ByteArray := prog_13_method_69_code
def yX11_layBehind : MethodName := ⟨RX11, "layBehind", "()V"⟩
abbrev cX11_isClashLess : ByteArray := prog_13_method_70_code
def yX11_isClashLess : MethodName := ⟨RX11, "isClashLess", "()Z"⟩
abbrev cX11_clashOf : ByteArray := prog_13_method_71_code
def yX11_clashOf : MethodName := ⟨RX11, "clashOf", "(II)V"⟩
abbrev cX11_layClash : ByteArray := prog_13_method_72_code
def yX11_layClash : MethodName := ⟨RX11, "layClash", "()V"⟩
abbrev cX11_rowMany : ByteArray := prog_13_method_73_code
def yX11_rowMany : MethodName := ⟨RX11, "rowMany", "(I)I"⟩
abbrev cX11_clashTold : ByteArray := prog_13_method_74_code
def yX11_clashTold : MethodName := ⟨RX11, "clashTold", "(I)I"⟩
abbrev cX11_clashNow : ByteArray := prog_13_method_75_code
def yX11_clashNow : MethodName := ⟨RX11, "clashNow", "(I)I"⟩
abbrev cX11_clash : ByteArray := prog_13_method_76_code
def yX11_clash : MethodName := ⟨RX11, "clash", "(I)I"⟩
abbrev cX11_clashAt : ByteArray := prog_13_method_77_code
def yX11_clashAt : MethodName := ⟨RX11, "clashAt", "(I)I"⟩
abbrev cX11_clashingNow : ByteArray := prog_13_method_78_code
def yX11_clashingNow : MethodName := ⟨RX11, "clashingNow", "(II)I"⟩
abbrev cX11_clashing : ByteArray := prog_13_method_79_code
def yX11_clashing : MethodName := ⟨RX11, "clashing", "(II)I"⟩
abbrev cX11_bits : ByteArray := prog_13_method_80_code
def yX11_bits : MethodName := ⟨RX11, "bits", "(I)I"⟩
abbrev cX11_partingSet : ByteArray := prog_13_method_81_code
def yX11_partingSet : MethodName := ⟨RX11, "partingSet", "()I"⟩
abbrev cX11_partingNow : ByteArray := prog_13_method_82_code
def yX11_partingNow : MethodName := ⟨RX11, "partingNow", "(I)I"⟩
abbrev cX11_parting : ByteArray := prog_13_method_83_code
def yX11_parting : MethodName := ⟨RX11, "parting", "(I)I"⟩
abbrev cX11_draw : ByteArray := prog_13_method_84_code
def yX11_draw : MethodName := ⟨RX11, "draw", "(I)I"⟩
abbrev cX11_drawRow : ByteArray := prog_13_method_85_code
def yX11_drawRow : MethodName := ⟨RX11, "drawRow", "()V"⟩
abbrev cX11_isSameRow : ByteArray := prog_13_method_86_code
def yX11_isSameRow : MethodName := ⟨RX11, "isSameRow", "()Z"⟩
abbrev cX11_trialNow : ByteArray := prog_13_method_87_code
def yX11_trialNow : MethodName := ⟨RX11, "trialNow", "(III)I"⟩
abbrev cX11_trial : ByteArray := prog_13_method_88_code
def yX11_trial : MethodName := ⟨RX11, "trial", "(III)I"⟩
abbrev cX11_howMany : ByteArray := prog_13_method_89_code
def yX11_howMany : MethodName := ⟨RX11, "howMany", "(I)I"⟩
abbrev cX11_count : ByteArray := prog_13_method_90_code
def yX11_count : MethodName := ⟨RX11, "count", "(I)I"⟩
abbrev cX11_mix : ByteArray := prog_13_method_91_code
def yX11_mix : MethodName := ⟨RX11, "mix", "(J)V"⟩
abbrev cX11_mixRules : ByteArray := prog_13_method_92_code
def yX11_mixRules : MethodName := ⟨RX11, "mixRules", "()V"⟩
abbrev cX11_mixText : ByteArray := prog_13_method_93_code
def yX11_mixText : MethodName := ⟨RX11, "mixText", "()V"⟩
abbrev cX11_mixClash : ByteArray := prog_13_method_94_code
def yX11_mixClash : MethodName := ⟨RX11, "mixClash", "()V"⟩
abbrev cX11_mixAheads : ByteArray := prog_13_method_95_code
def yX11_mixAheads : MethodName := ⟨RX11, "mixAheads", "()V"⟩
abbrev cX11_digest : ByteArray := prog_13_method_96_code
def yX11_digest : MethodName := ⟨RX11, "digest", "()J"⟩
def RJ6 : String := "java/lang/Integer"
def TJ6 : u_T := fun k => match k with
  | _ => ("", "", "", false)
def tyJ6 : Nat → FieldType := fun k => match k with
  | _ => .int
abbrev wsJ60 : List Cond := u_ws RJ6 TJ6 0
theorem nmJ6 : ∀ a, a < 0 → ∀ b, b < 0 → a ≠ b → (TJ6 a).2.1 ≠ (TJ6 b).2.1 := by decide +kernel
theorem tyJ6_ok : ∀ k, k < 0 → parseFieldDescriptor (TJ6 k).2.2.1 = some (tyJ6 k) := by decide +kernel
abbrev cJ6_bitCount_0f7a4 : ByteArray := prog_14_method_49_code
def yJ6_bitCount_0f7a4 : MethodName := ⟨RJ6, "bitCount", "(I)I"⟩
def RJ9 : String := "java/lang/Math"
def TJ9 : u_T := fun k => match k with
  | _ => ("", "", "", false)
def tyJ9 : Nat → FieldType := fun k => match k with
  | _ => .int
abbrev wsJ90 : List Cond := u_ws RJ9 TJ9 0
theorem nmJ9 : ∀ a, a < 0 → ∀ b, b < 0 → a ≠ b → (TJ9 a).2.1 ≠ (TJ9 b).2.1 := by decide +kernel
theorem tyJ9_ok : ∀ k, k < 0 → parseFieldDescriptor (TJ9 k).2.2.1 = some (tyJ9 k) := by decide +kernel
abbrev cJ9_max_7cf53 : ByteArray := prog_15_method_65_code
def yJ9_max_7cf53 : MethodName := ⟨RJ9, "max", "(II)I"⟩
abbrev cJ9_min_7cf53 : ByteArray := prog_15_method_69_code
def yJ9_min_7cf53 : MethodName := ⟨RJ9, "min", "(II)I"⟩
def RL : String := "SpellTablesLaw"
abbrev cL_law : ByteArray := code
def yL_law : MethodName := ⟨RL, "law", "([I)Z"⟩
end
section
/-! ===== the abstract machine: worlds whose cells lie one behind the other from z on; ints and longs as Int ===== -/
abbrev iZ (a : Int) : Int32 := Int32.ofInt a
abbrev lZ (a : Int) : Int64 := Int64.ofInt a
def inR (a : Int) : Prop := -2147483648 ≤ a ∧ a < 2147483648
def inL (a : Int) : Prop := -9223372036854775808 ≤ a ∧ a < 9223372036854775808
abbrev am_cl : List vw_C := [(RX0, TX0, 7), (RX1, TX1, 2), (RX3, TX3, 3), (RX4, TX4, 4), (RX5, TX5, 2), (RX6, TX6, 4), (RX7, TX7, 3), (RX8, TX8, 8), (RX10, TX10, 14), (RX11, TX11, 38)]
abbrev am_M : Type := MethodName × ByteArray × Nat × Option FieldType
/-- int fields, long fields, arrays of ints -/
abbrev am_St : Type := (Nat → Nat → Int) × (Nat → Nat → Int) × (Nat → Int → Int)
/-- an array (its kind: 0 int, 1 boolean, 2 of Lines; its length; what an array of references holds), or an object (its class, its fields' kinds: 0 int, 1 long, 2 null, r + 3 the cell r) -/
abbrev am_Sc : Type := (Nat × Nat × Option (Nat → Option Nat)) ⊕ (Nat × List Nat)
abbrev am_Sh : Type := List am_Sc
def am_v (φ : Nat → Nat) : Value → Value
  | .ref k => .ref (φ k)
  | v => v
def am_fv (φ : Nat → Nat) (σ : am_St) (k j : Nat) : Nat → Value
  | 0 => .int (iZ (σ.1 k j))
  | 1 => .long (lZ (σ.2.1 k j))
  | 2 => .null
  | r + 3 => .ref (φ r)
def am_E (dA : Nat → ClassId) (φ : Nat → Nat) (σ : am_St) (k : Nat) : am_Sc → va_E
  | .inl (t, n, none) => .inl (dA t, n, .inl (fun i => iZ (σ.2.2 k (i : Int))))
  | .inl (t, n, some g) => .inl (dA t, n, .inr (.inr (.inr (.inr (fun i => (g i).map φ)))))
  | .inr (ci, ks) => .inr (ci, ks.mapIdx (fun j kd => am_fv φ σ k j kd))
def am_ws (dA : Nat → ClassId) (φ : Nat → Nat) (σ : am_St) (sh : am_Sh) : va_W := sh.mapIdx (fun k x => (φ k, am_E dA φ σ k x))
abbrev am_tys (dA : Nat → ClassId) : List (ClassId × FieldType) := [(dA 0, .int), (dA 1, .boolean), (dA 2, .object RX1)]
/-- the heap holds the world: its cells lie at φ 0, φ 1 .., apart, from z on -/
def am_P (D : va_G) (dA : Nat → ClassId) (z : Nat) (φ : Nat → Nat) (sh : am_Sh) (σ : am_St) (H : Heap) : Prop := va_P D am_cl (am_ws dA φ σ sh) H ∧ va_D (fun q => z ≤ q) (am_ws dA φ σ sh)
def am_Q (D : va_G) (dA : Nat → ClassId) (z : Nat) (φ : Nat → Nat) (sh : am_Sh) (Q : Option Value → am_St → Prop) : Array Value → State → Outcome → State → Prop := fun _ st o t => (∃ (r : Option Value) (σ : am_St), o = .returned (r.map (am_v φ)) ∧ Q r σ ∧ am_P D dA z φ sh σ t.heap) ∧ va_F (fun q => z ≤ q) st t
abbrev am_room (d : Nat) : Room := { frames := d, cells := 0, slots := 0, locals := 32 * d }
/-- the tables' words that a callee may be told -/
def am_tbl : List Cond := lw_tbl.filter goodWord
theorem am_mem {w : Cond} (h : w ∈ lw_tbl) (hg : goodWord w = true) : w ∈ am_tbl := List.mem_filter.mpr ⟨h, hg⟩
abbrev am_wd (M : am_M) : List Cond := Cond.code M.1 M.2.1 M.2.2.1 M.2.2.2 :: am_tbl
/-- the method M, with these arguments from this world, returns, and Q holds of answer and world; d: how many frames it needs -/
def am_Ev (sh : am_Sh) (M : am_M) (d : Nat) (av : List Value) (σ : am_St) (Q : Option Value → am_St → Prop) : Prop :=
  ∀ (l : Launch) (D : va_G) (dA : Nat → ClassId) (z : Nat) (φ : Nat → Nat), Met l M.1 (am_wd M) (am_room d) (va_Pc (av.map (am_v φ)) (fun U => am_P D dA z φ sh σ U.heap ∧ va_K D am_cl (am_tys dA) U)) (am_Q D dA z φ sh Q) 0 0 (fun q => z ≤ q)
def am_Cx (M : am_M) (D : va_G) (dA : Nat → ClassId) (p : Program) (s : State) (m : MethodId) (args : Array Value) (meth : Method) (c : Code) : Prop :=
  p.tables.exec = Jvm.exec ∧ c.code = M.2.1 ∧ meth.sig.returnType = M.2.2.2 ∧ c.maxLocals = M.2.2.1 ∧ s.vm.findClass M.1.cls = some m.cls ∧ (∀ w ∈ am_wd M, w.before args s = true) ∧ meth.locks = false ∧ va_K D am_cl (am_tys dA) s
def am_Ls (φ : Nat → Nat) (ls : Array Slot) (n : Nat) (lv : List (Option Value)) : Prop := ls.size = n ∧ lv_wf ls ∧ ∀ (i : Nat) (v : Value), lv[i]? = some (some v) → ls[i]? = some (.val (am_v φ v))
/-- the machine in the body of M, at pc, with these locals, this stack and this world, comes to the method's end with Q -/
def am_Go (sh : am_Sh) (M : am_M) (d : Nat) (Q : Option Value → am_St → Prop) (pc : Nat) (lv : List (Option Value)) (st : List Value) (σ : am_St) : Prop :=
  ∀ (p : Program) (l : Launch) (e : Env) (D : va_G) (dA : Nat → ClassId) (z : Nat) (φ : Nat → Nat) (s : State) (m : MethodId) (args : Array Value) (below : List Frame) (meth : Method) (c : Code), am_Cx M D dA p s m args meth c → ∀ (H : Heap) (locs : List Loc) (ls : Array Slot), am_P D dA z φ sh σ H → va_S (fun q => z ≤ q) s.heap H locs → am_Ls φ ls M.2.2.1 lv → W p l e (am_room d) s m args below meth c H locs 0 0 (MQ below (am_Q D dA z φ sh Q) args s 0 0 (fun q => z ≤ q)) (F0 m pc ls (st.map (am_v φ)))
theorem am_cat (φ : Nat → Nat) (v : Value) : (am_v φ v).category = v.category := by cases v <;> rfl
theorem am_ws_get {dA : Nat → ClassId} {φ : Nat → Nat} {σ : am_St} {sh : am_Sh} {k : Nat} {x : am_Sc} (h : sh[k]? = some x) : (am_ws dA φ σ sh)[k]? = some (φ k, am_E dA φ σ k x) := by
  unfold am_ws
  rw [List.getElem?_mapIdx, h]
  rfl
theorem iZ_toInt {a : Int} (h : inR a) : (iZ a).toInt = a := by
  unfold inR at h
  exact Int32.toInt_ofInt_of_le (by omega) (by omega)
theorem iZ_of (x : Int32) : iZ x.toInt = x := Int32.ofInt_toInt x
theorem inR_of (x : Int32) : inR x.toInt := ⟨Int32.le_toInt x, Int32.toInt_lt x⟩
theorem iZ_clamp {a : Int} (h : inR a) : (iZ a).toNatClampNeg = a.toNat := by
  show (iZ a).toInt.toNat = a.toNat
  rw [iZ_toInt h]
theorem iZ_lt {a b : Int} (ha : inR a) (hb : inR b) : iZ a < iZ b ↔ a < b := by
  rw [Int32.lt_iff_toInt_lt, iZ_toInt ha, iZ_toInt hb]
theorem iZ_le {a b : Int} (ha : inR a) (hb : inR b) : iZ a ≤ iZ b ↔ a ≤ b := by
  rw [Int32.le_iff_toInt_le, iZ_toInt ha, iZ_toInt hb]
theorem iZ_inj {a b : Int} (ha : inR a) (hb : inR b) : iZ a = iZ b ↔ a = b := by
  constructor
  · intro h
    have := congrArg Int32.toInt h
    rwa [iZ_toInt ha, iZ_toInt hb] at this
  · intro h; rw [h]
theorem iZ_in {a : Int} {n : Nat} (h0 : 0 ≤ a) (h1 : a < n) (hn : n < 2147483648) : vp_in (iZ a) n := by
  rw [vp_in_iff, iZ_toInt ⟨by omega, by omega⟩]
  exact ⟨h0, h1⟩
theorem lZ_toInt {a : Int} (h : inL a) : (lZ a).toInt = a := by
  unfold inL at h
  exact Int64.toInt_ofInt_of_le (by omega) (by omega)
end
section
/-! ===== rows: an instruction of the abstract machine each ===== -/
section AMR
variable {sh : am_Sh} {M : am_M} {d : Nat} {Q : Option Value → am_St → Prop} {pc : Nat} {lv : List (Option Value)} {st : List Value} {σ : am_St}
theorem go_iconst {n : Int} (hd : decode M.2.1 pc = .ok (.iconst n, 1)) (k : am_Go sh M d Q (pc + 1) lv (.int (iZ n) :: st) σ) : am_Go sh M d Q pc lv st σ := by
  intro p l e D dA z φ s m args below meth c C H locs ls hP hS hl
  exact lv_iconst C.1 C.2.1 hd rfl (k p l e D dA z φ s m args below meth c C H locs ls hP hS hl)
theorem go_bipush {n : Int} (hd : decode M.2.1 pc = .ok (.bipush n, 2)) (hv : (Int8.ofInt n).toInt32 = iZ n) (k : am_Go sh M d Q (pc + 2) lv (.int (iZ n) :: st) σ) : am_Go sh M d Q pc lv st σ := by
  intro p l e D dA z φ s m args below meth c C H locs ls hP hS hl
  exact lv_bipush C.1 C.2.1 hd hv (k p l e D dA z φ s m args below meth c C H locs ls hP hS hl)
theorem go_sipush {n : Int} (hd : decode M.2.1 pc = .ok (.sipush n, 3)) (hv : (Int16.ofInt n).toInt32 = iZ n) (k : am_Go sh M d Q (pc + 3) lv (.int (iZ n) :: st) σ) : am_Go sh M d Q pc lv st σ := by
  intro p l e D dA z φ s m args below meth c C H locs ls hP hS hl
  exact lv_sipush C.1 C.2.1 hd hv (k p l e D dA z φ s m args below meth c C H locs ls hP hS hl)
theorem go_ldc {i : Nat} {n : Int} (hd : decode M.2.1 pc = .ok (.ldc i, 2)) (hc : Cond.constant M.1.cls i (iZ n) ∈ am_tbl) (k : am_Go sh M d Q (pc + 2) lv (.int (iZ n) :: st) σ) : am_Go sh M d Q pc lv st σ := by
  intro p l e D dA z φ s m args below meth c C H locs ls hP hS hl
  exact lv_ldc C.1 C.2.1 C.2.2.2.2.1 (C.2.2.2.2.2.1 _ (List.mem_cons_of_mem _ hc)) hd (k p l e D dA z φ s m args below meth c C H locs ls hP hS hl)
theorem go_ldcw {i : Nat} {n : Int} (hd : decode M.2.1 pc = .ok (.ldc_w i, 3)) (hc : Cond.constant M.1.cls i (iZ n) ∈ am_tbl) (k : am_Go sh M d Q (pc + 3) lv (.int (iZ n) :: st) σ) : am_Go sh M d Q pc lv st σ := by
  intro p l e D dA z φ s m args below meth c C H locs ls hP hS hl
  exact lv_ldcw C.1 C.2.1 C.2.2.2.2.1 (C.2.2.2.2.2.1 _ (List.mem_cons_of_mem _ hc)) hd (k p l e D dA z φ s m args below meth c C H locs ls hP hS hl)
theorem go_ldc2 {i : Nat} {n : Int} (hd : decode M.2.1 pc = .ok (.ldc2_w i, 3)) (hc : Cond.constantLong M.1.cls i (lZ n) ∈ am_tbl) (k : am_Go sh M d Q (pc + 3) lv (.long (lZ n) :: st) σ) : am_Go sh M d Q pc lv st σ := by
  intro p l e D dA z φ s m args below meth c C H locs ls hP hS hl
  exact lv_ldc2 C.1 C.2.1 C.2.2.2.2.1 (C.2.2.2.2.2.1 _ (List.mem_cons_of_mem _ hc)) hd (k p l e D dA z φ s m args below meth c C H locs ls hP hS hl)
theorem go_lconst {n : Fin 2} {v : Int} (hd : decode M.2.1 pc = .ok (.lconst n, 1)) (hv : Int64.ofNat (n : Nat) = lZ v) (k : am_Go sh M d Q (pc + 1) lv (.long (lZ v) :: st) σ) : am_Go sh M d Q pc lv st σ := by
  intro p l e D dA z φ s m args below meth c C H locs ls hP hS hl
  exact lv_lconst C.1 C.2.1 hd hv (k p l e D dA z φ s m args below meth c C H locs ls hP hS hl)
-- loads
theorem go_iload_n {i : Fin 4} {x : Int32} (hd : decode M.2.1 pc = .ok (.iload_n i, 1)) (hl : lv[(i : Nat)]? = some (some (.int x))) (k : am_Go sh M d Q (pc + 1) lv (.int x :: st) σ) : am_Go sh M d Q pc lv st σ := by
  intro p l e D dA z φ s m args below meth c C H locs ls hP hS hL
  exact lv_iload_n C.1 C.2.1 hd rfl (hL.2.2 _ _ hl) (k p l e D dA z φ s m args below meth c C H locs ls hP hS hL)
theorem go_iload {i : Nat} {x : Int32} (hd : decode M.2.1 pc = .ok (.iload i, 2)) (hl : lv[i]? = some (some (.int x))) (k : am_Go sh M d Q (pc + 2) lv (.int x :: st) σ) : am_Go sh M d Q pc lv st σ := by
  intro p l e D dA z φ s m args below meth c C H locs ls hP hS hL
  exact lv_iload C.1 C.2.1 hd (hL.2.2 _ _ hl) (k p l e D dA z φ s m args below meth c C H locs ls hP hS hL)
theorem go_lload_n {i : Fin 4} {x : Int64} (hd : decode M.2.1 pc = .ok (.lload_n i, 1)) (hl : lv[(i : Nat)]? = some (some (.long x))) (k : am_Go sh M d Q (pc + 1) lv (.long x :: st) σ) : am_Go sh M d Q pc lv st σ := by
  intro p l e D dA z φ s m args below meth c C H locs ls hP hS hL
  exact lv_lload_n C.1 C.2.1 hd rfl (hL.2.2 _ _ hl) (k p l e D dA z φ s m args below meth c C H locs ls hP hS hL)
theorem go_lload {i : Nat} {x : Int64} (hd : decode M.2.1 pc = .ok (.lload i, 2)) (hl : lv[i]? = some (some (.long x))) (k : am_Go sh M d Q (pc + 2) lv (.long x :: st) σ) : am_Go sh M d Q pc lv st σ := by
  intro p l e D dA z φ s m args below meth c C H locs ls hP hS hL
  exact lv_lload C.1 C.2.1 hd (hL.2.2 _ _ hl) (k p l e D dA z φ s m args below meth c C H locs ls hP hS hL)
theorem go_aload_n {i : Fin 4} {x : Nat} (hd : decode M.2.1 pc = .ok (.aload_n i, 1)) (hl : lv[(i : Nat)]? = some (some (.ref x))) (k : am_Go sh M d Q (pc + 1) lv (.ref x :: st) σ) : am_Go sh M d Q pc lv st σ := by
  intro p l e D dA z φ s m args below meth c C H locs ls hP hS hL
  exact lv_aload_n C.1 C.2.1 hd rfl (hL.2.2 _ _ hl) (k p l e D dA z φ s m args below meth c C H locs ls hP hS hL)
theorem go_aload {i : Nat} {x : Nat} (hd : decode M.2.1 pc = .ok (.aload i, 2)) (hl : lv[i]? = some (some (.ref x))) (k : am_Go sh M d Q (pc + 2) lv (.ref x :: st) σ) : am_Go sh M d Q pc lv st σ := by
  intro p l e D dA z φ s m args below meth c C H locs ls hP hS hL
  exact lv_aload C.1 C.2.1 hd (hL.2.2 _ _ hl) (k p l e D dA z φ s m args below meth c C H locs ls hP hS hL)
-- stores
def am_pl (φ : Nat → Nat) (lv : List (Option Value)) : List (Nat × Value) := (List.range lv.length).filterMap (fun i => (lv[i]?.join).map (fun v => (i, am_v φ v)))
theorem am_pl_mem {φ : Nat → Nat} {lv : List (Option Value)} {q : Nat × Value} : q ∈ am_pl φ lv ↔ ∃ v, lv[q.1]? = some (some v) ∧ q.2 = am_v φ v := by
  unfold am_pl
  rw [List.mem_filterMap]
  constructor
  · rintro ⟨i, hi, h⟩
    cases hj : lv[i]? with
    | none => rw [hj] at h; cases h
    | some o =>
      cases o with
      | none => rw [hj] at h; cases h
      | some v => rw [hj] at h; cases h; exact ⟨v, hj, rfl⟩
  · rintro ⟨v, h, h2⟩
    refine ⟨q.1, ?_, ?_⟩
    · rw [List.mem_range]; exact (List.getElem?_eq_some_iff.mp h).1
    · rw [h]; show some (q.1, am_v φ v) = some q; rw [← h2]
theorem am_Ls.has {φ : Nat → Nat} {n : Nat} {ls : Array Slot} {lv : List (Option Value)} (h : am_Ls φ ls n lv) : lv_has ls n (am_pl φ lv) := by
  refine ⟨h.1, h.2.1, fun q hq => ?_⟩
  obtain ⟨v, h1, h2⟩ := am_pl_mem.mp hq
  rw [h2]; exact h.2.2 _ _ h1
def am_nl : Option Value → Bool
  | some (.long _) => false
  | some (.double _) => false
  | _ => true
theorem am_nl_cat {v : Value} (h : am_nl (some v) = true) : v.category = 1 := by cases v <;> first | rfl | cases h
theorem am_Ls.st1 {φ : Nat → Nat} {n i : Nat} {ls' : Array Slot} {lv : List (Option Value)} {v : Value} (hp : ∀ j o, j + 1 = i → lv[j]? = some o → am_nl o = true)
    (h : lv_has ls' n ((i, am_v φ v) :: (am_pl φ lv).filter (fun q => !(q.1 == i) && !(q.1 + 1 == i && q.2.category == 2)))) : am_Ls φ ls' n (lv.set i (some v)) := by
  refine ⟨h.1, h.2.1, fun j w hj => ?_⟩
  by_cases hji : j = i
  · subst hji
    have hlt : j < lv.length := by
      have := (List.getElem?_eq_some_iff.mp hj).1
      rwa [List.length_set] at this
    rw [List.getElem?_set_self hlt] at hj
    cases hj
    exact h.2.2 (j, am_v φ v) List.mem_cons_self
  · rw [List.getElem?_set_ne (Ne.symm hji)] at hj
    refine h.2.2 (j, am_v φ w) (List.mem_cons_of_mem _ (List.mem_filter.mpr ⟨am_pl_mem.mpr ⟨w, hj, rfl⟩, ?_⟩))
    by_cases h1 : j + 1 = i
    · have := am_nl_cat (hp j _ h1 hj)
      simp [hji, am_cat, this]
    · simp [hji, h1]
theorem am_Ls.st2 {φ : Nat → Nat} {n i : Nat} {ls' : Array Slot} {lv : List (Option Value)} {v : Value} (hp : ∀ j o, j + 1 = i → lv[j]? = some o → am_nl o = true)
    (h : lv_has ls' n ((i, am_v φ v) :: (am_pl φ lv).filter (fun q => !(q.1 == i) && (!(q.1 == i + 1) && !(q.1 + 1 == i && q.2.category == 2))))) : am_Ls φ ls' n ((lv.set i (some v)).set (i + 1) none) := by
  refine ⟨h.1, h.2.1, fun j w hj => ?_⟩
  by_cases hj1 : j = i + 1
  · subst hj1
    have hlt : i + 1 < (lv.set i (some v)).length := by
      have := (List.getElem?_eq_some_iff.mp hj).1
      rwa [List.length_set] at this
    rw [List.getElem?_set_self hlt] at hj
    cases hj
  · rw [List.getElem?_set_ne (Ne.symm hj1)] at hj
    by_cases hji : j = i
    · subst hji
      have hlt : j < lv.length := by
        have := (List.getElem?_eq_some_iff.mp hj).1
        rwa [List.length_set] at this
      rw [List.getElem?_set_self hlt] at hj
      cases hj
      exact h.2.2 (j, am_v φ v) List.mem_cons_self
    · rw [List.getElem?_set_ne (Ne.symm hji)] at hj
      refine h.2.2 (j, am_v φ w) (List.mem_cons_of_mem _ (List.mem_filter.mpr ⟨am_pl_mem.mpr ⟨w, hj, rfl⟩, ?_⟩))
      by_cases h1 : j + 1 = i
      · have := am_nl_cat (hp j _ h1 hj)
        simp [hji, hj1, am_cat, this]
      · simp [hji, hj1, h1]
theorem go_istore_n {i : Fin 4} {x : Int32} (hd : decode M.2.1 pc = .ok (.istore_n i, 1)) (hn : (i : Nat) < M.2.2.1) (hp : ∀ j o, j + 1 = (i : Nat) → lv[j]? = some o → am_nl o = true) (k : am_Go sh M d Q (pc + 1) (lv.set i (some (.int x))) st σ) : am_Go sh M d Q pc lv (.int x :: st) σ := by
  intro p l e D dA z φ s m args below meth c C H locs ls hP hS hL
  exact lv_istore_n C.1 C.2.1 hd rfl hL.has hn rfl (fun ls' h' => k p l e D dA z φ s m args below meth c C H locs ls' hP hS (am_Ls.st1 (v := .int x) hp h'))
theorem go_istore {i : Nat} {x : Int32} (hd : decode M.2.1 pc = .ok (.istore i, 2)) (hn : i < M.2.2.1) (hp : ∀ j o, j + 1 = i → lv[j]? = some o → am_nl o = true) (k : am_Go sh M d Q (pc + 2) (lv.set i (some (.int x))) st σ) : am_Go sh M d Q pc lv (.int x :: st) σ := by
  intro p l e D dA z φ s m args below meth c C H locs ls hP hS hL
  exact lv_istore C.1 C.2.1 hd hL.has hn rfl (fun ls' h' => k p l e D dA z φ s m args below meth c C H locs ls' hP hS (am_Ls.st1 (v := .int x) hp h'))
theorem go_astore_n {i : Fin 4} {x : Nat} (hd : decode M.2.1 pc = .ok (.astore_n i, 1)) (hn : (i : Nat) < M.2.2.1) (hp : ∀ j o, j + 1 = (i : Nat) → lv[j]? = some o → am_nl o = true) (k : am_Go sh M d Q (pc + 1) (lv.set i (some (.ref x))) st σ) : am_Go sh M d Q pc lv (.ref x :: st) σ := by
  intro p l e D dA z φ s m args below meth c C H locs ls hP hS hL
  exact lv_astore_n C.1 C.2.1 hd rfl hL.has hn rfl (fun ls' h' => k p l e D dA z φ s m args below meth c C H locs ls' hP hS (am_Ls.st1 (v := .ref x) hp h'))
theorem go_lstore_n {i : Fin 4} {x : Int64} (hd : decode M.2.1 pc = .ok (.lstore_n i, 1)) (hn : (i : Nat) + 1 < M.2.2.1) (hp : ∀ j o, j + 1 = (i : Nat) → lv[j]? = some o → am_nl o = true) (k : am_Go sh M d Q (pc + 1) ((lv.set i (some (.long x))).set (i + 1) none) st σ) : am_Go sh M d Q pc lv (.long x :: st) σ := by
  intro p l e D dA z φ s m args below meth c C H locs ls hP hS hL
  exact lv_lstore_n C.1 C.2.1 hd rfl hL.has hn rfl (fun ls' h' => k p l e D dA z φ s m args below meth c C H locs ls' hP hS (am_Ls.st2 (v := .long x) hp h'))
theorem go_lstore {i : Nat} {x : Int64} (hd : decode M.2.1 pc = .ok (.lstore i, 2)) (hn : i + 1 < M.2.2.1) (hp : ∀ j o, j + 1 = i → lv[j]? = some o → am_nl o = true) (k : am_Go sh M d Q (pc + 2) ((lv.set i (some (.long x))).set (i + 1) none) st σ) : am_Go sh M d Q pc lv (.long x :: st) σ := by
  intro p l e D dA z φ s m args below meth c C H locs ls hP hS hL
  exact lv_lstore C.1 C.2.1 hd hL.has hn rfl (fun ls' h' => k p l e D dA z φ s m args below meth c C H locs ls' hP hS (am_Ls.st2 (v := .long x) hp h'))
theorem go_iinc {i : Nat} {n a : Int} (hd : decode M.2.1 pc = .ok (.iinc i n, 3)) (hl : lv[i]? = some (some (.int (iZ a)))) (hn : i < M.2.2.1) (hp : ∀ j o, j + 1 = i → lv[j]? = some o → am_nl o = true) (k : am_Go sh M d Q (pc + 3) (lv.set i (some (.int (iZ (a + n))))) st σ) : am_Go sh M d Q pc lv st σ := by
  intro p l e D dA z φ s m args below meth c C H locs ls hP hS hL
  obtain ⟨j, hj⟩ := List.getElem?_of_mem (am_pl_mem.mpr ⟨Value.int (iZ a), hl, rfl⟩ : (i, am_v φ (.int (iZ a))) ∈ am_pl φ lv)
  exact lv_iinc C.1 C.2.1 hd hL.has hj (v := iZ (a + n)) (Int32.ofInt_add a n).symm hn rfl (fun ls' h' => k p l e D dA z φ s m args below meth c C H locs ls' hP hS (am_Ls.st1 (v := .int (iZ (a + n))) hp h'))
/-- locals may be forgotten -/
theorem go_weak {lv' : List (Option Value)} (h : ∀ (i : Nat) (v : Value), lv'[i]? = some (some v) → lv[i]? = some (some v)) (k : am_Go sh M d Q pc lv' st σ) : am_Go sh M d Q pc lv st σ := by
  intro p l e D dA z φ s m args below meth c C H locs ls hP hS hL
  exact k p l e D dA z φ s m args below meth c C H locs ls hP hS ⟨hL.1, hL.2.1, fun i v hi => hL.2.2 i v (h i v hi)⟩
end AMR
end
section
/-! ===== rows: arithmetic, branches, returns, fields, arrays ===== -/
def am_and (a b : Int) : Int := (iZ a &&& iZ b).toInt
def am_or (a b : Int) : Int := (iZ a ||| iZ b).toInt
def am_xor (a b : Int) : Int := (iZ a ^^^ iZ b).toInt
def am_shl (a b : Int) : Int := (iZ a <<< (iZ b &&& 31)).toInt
def am_shr (a b : Int) : Int := (iZ a >>> (iZ b &&& 31)).toInt
def am_ushr (a b : Int) : Int := ((iZ a).toUInt32 >>> ((iZ b).toUInt32 &&& Int32.toUInt32 31)).toInt32.toInt
theorem iZ_div {a b : Int} (ha : 0 ≤ a) (hr : inR a) (hb : 0 < b) (hs : inR b) : iZ a / iZ b = iZ (a / b) := by
  apply Int32.toInt_inj.mp
  have h1 : a / b ≤ a := Int.ediv_le_self b ha
  have h2 : 0 ≤ a / b := Int.ediv_nonneg ha (by omega)
  rw [lg_idiv_nonneg (by rw [iZ_toInt hr]; exact ha) (by rw [iZ_toInt hs]; omega), iZ_toInt hr, iZ_toInt hs, iZ_toInt ⟨by omega, by unfold inR at hr; omega⟩]
theorem iZ_rem {a b : Int} (ha : 0 ≤ a) (hr : inR a) (hb : 0 < b) (hs : inR b) : iZ a - iZ a / iZ b * iZ b = iZ (a % b) := by
  rw [iZ_div ha hr hb hs, ← Int32.ofInt_mul, ← Int32.ofInt_sub]
  refine congrArg Int32.ofInt ?_
  have := Int.mul_ediv_add_emod a b
  rw [Int.mul_comm] at this
  omega
theorem lZ_div {a b : Int} (ha : 0 ≤ a) (hr : inL a) (hb : 0 < b) (hs : inL b) : lZ a / lZ b = lZ (a / b) := by
  apply Int64.toInt_inj.mp
  have h1 : a / b ≤ a := Int.ediv_le_self b ha
  have h2 : 0 ≤ a / b := Int.ediv_nonneg ha (by omega)
  rw [lg_ldiv_nonneg (by rw [lZ_toInt hr]; exact ha) (by rw [lZ_toInt hs]; omega), lZ_toInt hr, lZ_toInt hs, lZ_toInt ⟨by omega, by unfold inL at hr; omega⟩]
theorem lZ_rem {a b : Int} (ha : 0 ≤ a) (hr : inL a) (hb : 0 < b) (hs : inL b) : lZ a - lZ a / lZ b * lZ b = lZ (a % b) := by
  rw [lZ_div ha hr hb hs, ← Int64.ofInt_mul, ← Int64.ofInt_sub]
  refine congrArg Int64.ofInt ?_
  have := Int.mul_ediv_add_emod a b
  rw [Int.mul_comm] at this
  omega
theorem iZ_ne0 {b : Int} (hb : 0 < b) (hs : inR b) : ¬ iZ b = 0 := by
  intro h
  have := congrArg Int32.toInt h
  rw [iZ_toInt hs] at this
  have h0 : (0 : Int32).toInt = 0 := rfl
  omega
theorem lZ_ne0 {b : Int} (hb : 0 < b) (hs : inL b) : ¬ lZ b = 0 := by
  intro h
  have := congrArg Int64.toInt h
  rw [lZ_toInt hs] at this
  have h0 : (0 : Int64).toInt = 0 := rfl
  omega
section AMS
variable {sh : am_Sh} {M : am_M} {d : Nat} {Q : Option Value → am_St → Prop} {pc : Nat} {lv : List (Option Value)} {st : List Value} {σ : am_St}
theorem go_iadd {a b : Int} (hd : decode M.2.1 pc = .ok (.iadd, 1)) (k : am_Go sh M d Q (pc + 1) lv (.int (iZ (a + b)) :: st) σ) : am_Go sh M d Q pc lv (.int (iZ b) :: .int (iZ a) :: st) σ := by
  intro p l e D dA z φ s m args below meth c C H locs ls hP hS hL
  refine lv_iadd C.1 C.2.1 hd ?_
  have h := (k p l e D dA z φ s m args below meth c C H locs ls hP hS hL)
  rwa [iZ, Int32.ofInt_add] at h
theorem go_isub {a b : Int} (hd : decode M.2.1 pc = .ok (.isub, 1)) (k : am_Go sh M d Q (pc + 1) lv (.int (iZ (a - b)) :: st) σ) : am_Go sh M d Q pc lv (.int (iZ b) :: .int (iZ a) :: st) σ := by
  intro p l e D dA z φ s m args below meth c C H locs ls hP hS hL
  refine lv_isub C.1 C.2.1 hd ?_
  have h := (k p l e D dA z φ s m args below meth c C H locs ls hP hS hL)
  rwa [iZ, Int32.ofInt_sub] at h
theorem go_imul {a b : Int} (hd : decode M.2.1 pc = .ok (.imul, 1)) (k : am_Go sh M d Q (pc + 1) lv (.int (iZ (a * b)) :: st) σ) : am_Go sh M d Q pc lv (.int (iZ b) :: .int (iZ a) :: st) σ := by
  intro p l e D dA z φ s m args below meth c C H locs ls hP hS hL
  refine lv_imul C.1 C.2.1 hd ?_
  have h := (k p l e D dA z φ s m args below meth c C H locs ls hP hS hL)
  rwa [iZ, Int32.ofInt_mul] at h
theorem go_ladd {a b : Int} (hd : decode M.2.1 pc = .ok (.ladd, 1)) (k : am_Go sh M d Q (pc + 1) lv (.long (lZ (a + b)) :: st) σ) : am_Go sh M d Q pc lv (.long (lZ b) :: .long (lZ a) :: st) σ := by
  intro p l e D dA z φ s m args below meth c C H locs ls hP hS hL
  refine lv_ladd C.1 C.2.1 hd ?_
  have h := (k p l e D dA z φ s m args below meth c C H locs ls hP hS hL)
  rwa [lZ, Int64.ofInt_add] at h
theorem go_lmul {a b : Int} (hd : decode M.2.1 pc = .ok (.lmul, 1)) (k : am_Go sh M d Q (pc + 1) lv (.long (lZ (a * b)) :: st) σ) : am_Go sh M d Q pc lv (.long (lZ b) :: .long (lZ a) :: st) σ := by
  intro p l e D dA z φ s m args below meth c C H locs ls hP hS hL
  refine lv_lmul C.1 C.2.1 hd ?_
  have h := (k p l e D dA z φ s m args below meth c C H locs ls hP hS hL)
  rwa [lZ, Int64.ofInt_mul] at h
theorem go_iand {a b : Int} (hd : decode M.2.1 pc = .ok (.iand, 1)) (k : am_Go sh M d Q (pc + 1) lv (.int (iZ (am_and a b)) :: st) σ) : am_Go sh M d Q pc lv (.int (iZ b) :: .int (iZ a) :: st) σ := by
  intro p l e D dA z φ s m args below meth c C H locs ls hP hS hL
  refine lv_iand C.1 C.2.1 hd ?_
  have h := (k p l e D dA z φ s m args below meth c C H locs ls hP hS hL)
  rwa [am_and, iZ_of] at h
theorem go_ior {a b : Int} (hd : decode M.2.1 pc = .ok (.ior, 1)) (k : am_Go sh M d Q (pc + 1) lv (.int (iZ (am_or a b)) :: st) σ) : am_Go sh M d Q pc lv (.int (iZ b) :: .int (iZ a) :: st) σ := by
  intro p l e D dA z φ s m args below meth c C H locs ls hP hS hL
  refine lv_ior C.1 C.2.1 hd ?_
  have h := (k p l e D dA z φ s m args below meth c C H locs ls hP hS hL)
  rwa [am_or, iZ_of] at h
theorem go_ixor {a b : Int} (hd : decode M.2.1 pc = .ok (.ixor, 1)) (k : am_Go sh M d Q (pc + 1) lv (.int (iZ (am_xor a b)) :: st) σ) : am_Go sh M d Q pc lv (.int (iZ b) :: .int (iZ a) :: st) σ := by
  intro p l e D dA z φ s m args below meth c C H locs ls hP hS hL
  refine lv_ixor C.1 C.2.1 hd ?_
  have h := (k p l e D dA z φ s m args below meth c C H locs ls hP hS hL)
  rwa [am_xor, iZ_of] at h
theorem go_ishl {a b : Int} (hd : decode M.2.1 pc = .ok (.ishl, 1)) (k : am_Go sh M d Q (pc + 1) lv (.int (iZ (am_shl a b)) :: st) σ) : am_Go sh M d Q pc lv (.int (iZ b) :: .int (iZ a) :: st) σ := by
  intro p l e D dA z φ s m args below meth c C H locs ls hP hS hL
  refine lv_ishl C.1 C.2.1 hd ?_
  have h := (k p l e D dA z φ s m args below meth c C H locs ls hP hS hL)
  rwa [am_shl, iZ_of] at h
theorem go_ishr {a b : Int} (hd : decode M.2.1 pc = .ok (.ishr, 1)) (k : am_Go sh M d Q (pc + 1) lv (.int (iZ (am_shr a b)) :: st) σ) : am_Go sh M d Q pc lv (.int (iZ b) :: .int (iZ a) :: st) σ := by
  intro p l e D dA z φ s m args below meth c C H locs ls hP hS hL
  refine lv_ishr C.1 C.2.1 hd ?_
  have h := (k p l e D dA z φ s m args below meth c C H locs ls hP hS hL)
  rwa [am_shr, iZ_of] at h
theorem go_iushr {a b : Int} (hd : decode M.2.1 pc = .ok (.iushr, 1)) (k : am_Go sh M d Q (pc + 1) lv (.int (iZ (am_ushr a b)) :: st) σ) : am_Go sh M d Q pc lv (.int (iZ b) :: .int (iZ a) :: st) σ := by
  intro p l e D dA z φ s m args below meth c C H locs ls hP hS hL
  refine lv_iushr C.1 C.2.1 hd rfl ?_
  have h := (k p l e D dA z φ s m args below meth c C H locs ls hP hS hL)
  rwa [am_ushr, iZ_of] at h
theorem go_idiv {a b : Int} (hd : decode M.2.1 pc = .ok (.idiv, 1)) (ha : 0 ≤ a) (hr : inR a) (hb : 0 < b) (hs : inR b) (k : am_Go sh M d Q (pc + 1) lv (.int (iZ (a / b)) :: st) σ) : am_Go sh M d Q pc lv (.int (iZ b) :: .int (iZ a) :: st) σ := by
  intro p l e D dA z φ s m args below meth c C H locs ls hP hS hL
  refine lv_idiv C.1 C.2.1 hd (iZ_ne0 hb hs) ?_
  have h := (k p l e D dA z φ s m args below meth c C H locs ls hP hS hL)
  rw [← iZ_div ha hr hb hs] at h
  exact h
theorem go_irem {a b : Int} (hd : decode M.2.1 pc = .ok (.irem, 1)) (ha : 0 ≤ a) (hr : inR a) (hb : 0 < b) (hs : inR b) (k : am_Go sh M d Q (pc + 1) lv (.int (iZ (a % b)) :: st) σ) : am_Go sh M d Q pc lv (.int (iZ b) :: .int (iZ a) :: st) σ := by
  intro p l e D dA z φ s m args below meth c C H locs ls hP hS hL
  refine lv_irem C.1 C.2.1 hd (iZ_ne0 hb hs) ?_
  have h := (k p l e D dA z φ s m args below meth c C H locs ls hP hS hL)
  rw [← iZ_rem ha hr hb hs] at h
  exact h
theorem go_ldiv {a b : Int} (hd : decode M.2.1 pc = .ok (.ldiv, 1)) (ha : 0 ≤ a) (hr : inL a) (hb : 0 < b) (hs : inL b) (k : am_Go sh M d Q (pc + 1) lv (.long (lZ (a / b)) :: st) σ) : am_Go sh M d Q pc lv (.long (lZ b) :: .long (lZ a) :: st) σ := by
  intro p l e D dA z φ s m args below meth c C H locs ls hP hS hL
  refine lv_ldiv C.1 C.2.1 hd (lZ_ne0 hb hs) ?_
  have h := (k p l e D dA z φ s m args below meth c C H locs ls hP hS hL)
  rw [← lZ_div ha hr hb hs] at h
  exact h
theorem go_lrem {a b : Int} (hd : decode M.2.1 pc = .ok (.lrem, 1)) (ha : 0 ≤ a) (hr : inL a) (hb : 0 < b) (hs : inL b) (k : am_Go sh M d Q (pc + 1) lv (.long (lZ (a % b)) :: st) σ) : am_Go sh M d Q pc lv (.long (lZ b) :: .long (lZ a) :: st) σ := by
  intro p l e D dA z φ s m args below meth c C H locs ls hP hS hL
  refine lv_lrem C.1 C.2.1 hd (lZ_ne0 hb hs) ?_
  have h := (k p l e D dA z φ s m args below meth c C H locs ls hP hS hL)
  rw [← lZ_rem ha hr hb hs] at h
  exact h
theorem go_i2l {a : Int} (hd : decode M.2.1 pc = .ok (.i2l, 1)) (ha : inR a) (k : am_Go sh M d Q (pc + 1) lv (.long (lZ a) :: st) σ) : am_Go sh M d Q pc lv (.int (iZ a) :: st) σ := by
  intro p l e D dA z φ s m args below meth c C H locs ls hP hS hL
  refine lv_i2l C.1 C.2.1 hd (v := lZ a) ?_ (k p l e D dA z φ s m args below meth c C H locs ls hP hS hL)
  have h1 : inL a := by unfold inR at ha; unfold inL; omega
  apply Int64.toInt_inj.mp
  rw [Int32.toInt_toInt64, iZ_toInt ha, lZ_toInt h1]
theorem go_l2i {a : Int} (hd : decode M.2.1 pc = .ok (.l2i, 1)) (k : am_Go sh M d Q (pc + 1) lv (.int (iZ a) :: st) σ) : am_Go sh M d Q pc lv (.long (lZ a) :: st) σ := by
  intro p l e D dA z φ s m args below meth c C H locs ls hP hS hL
  exact lv_l2i C.1 C.2.1 hd (v := iZ a) Int64.toInt32_ofInt (k p l e D dA z φ s m args below meth c C H locs ls hP hS hL)
theorem go_dup {v : Value} (hd : decode M.2.1 pc = .ok (.dup, 1)) (hv : v.category = 1) (k : am_Go sh M d Q (pc + 1) lv (v :: v :: st) σ) : am_Go sh M d Q pc lv (v :: st) σ := by
  intro p l e D dA z φ s m args below meth c C H locs ls hP hS hL
  exact lv_dup C.1 C.2.1 hd ((am_cat φ v).trans hv) (k p l e D dA z φ s m args below meth c C H locs ls hP hS hL)
theorem go_pop {v : Value} (hd : decode M.2.1 pc = .ok (.pop, 1)) (hv : v.category = 1) (k : am_Go sh M d Q (pc + 1) lv (st) σ) : am_Go sh M d Q pc lv (v :: st) σ := by
  intro p l e D dA z φ s m args below meth c C H locs ls hP hS hL
  exact lv_pop C.1 C.2.1 hd ((am_cat φ v).trans hv) (k p l e D dA z φ s m args below meth c C H locs ls hP hS hL)
theorem go_dup2 {v w : Value} (hd : decode M.2.1 pc = .ok (.dup2, 1)) (hv : v.category = 1) (hw : w.category = 1) (k : am_Go sh M d Q (pc + 1) lv (v :: w :: v :: w :: st) σ) : am_Go sh M d Q pc lv (v :: w :: st) σ := by
  intro p l e D dA z φ s m args below meth c C H locs ls hP hS hL
  exact lv_dup2_11 C.1 C.2.1 hd ((am_cat φ v).trans hv) ((am_cat φ w).trans hw) (k p l e D dA z φ s m args below meth c C H locs ls hP hS hL)
theorem go_goto {off : Int} {tgt : Nat} (hd : decode M.2.1 pc = .ok (.goto off, 3)) (ht : (pc : Int) + off = (tgt : Int)) (k : am_Go sh M d Q tgt lv (st) σ) : am_Go sh M d Q pc lv (st) σ := by
  intro p l e D dA z φ s m args below meth c C H locs ls hP hS hL
  exact lv_goto C.1 C.2.1 hd ht (k p l e D dA z φ s m args below meth c C H locs ls hP hS hL)
theorem go_icmp_eq {a b off : Int} {tgt : Nat} (hd : decode M.2.1 pc = .ok (.if_icmp .eq off, 3)) (ht : (pc : Int) + off = (tgt : Int)) (ha : inR a) (hb : inR b) (kt : a = b → am_Go sh M d Q tgt lv (st) σ) (kf : ¬ (a = b) → am_Go sh M d Q (pc + 3) lv (st) σ) : am_Go sh M d Q pc lv (.int (iZ b) :: .int (iZ a) :: st) σ := by
  intro p l e D dA z φ s m args below meth c C H locs ls hP hS hL
  exact lv_icmp_eq C.1 C.2.1 hd ht (fun h => kt ((iZ_inj ha hb).mp h) p l e D dA z φ s m args below meth c C H locs ls hP hS hL) (fun h => kf (fun h2 => h ((iZ_inj ha hb).mpr h2)) p l e D dA z φ s m args below meth c C H locs ls hP hS hL)
theorem go_icmp_ne {a b off : Int} {tgt : Nat} (hd : decode M.2.1 pc = .ok (.if_icmp .ne off, 3)) (ht : (pc : Int) + off = (tgt : Int)) (ha : inR a) (hb : inR b) (kt : ¬ a = b → am_Go sh M d Q tgt lv (st) σ) (kf : a = b → am_Go sh M d Q (pc + 3) lv (st) σ) : am_Go sh M d Q pc lv (.int (iZ b) :: .int (iZ a) :: st) σ := by
  intro p l e D dA z φ s m args below meth c C H locs ls hP hS hL
  exact lv_icmp_ne C.1 C.2.1 hd ht (fun h => kt ((not_congr (iZ_inj ha hb)).mp h) p l e D dA z φ s m args below meth c C H locs ls hP hS hL) (fun h => kf ((iZ_inj ha hb).mp h) p l e D dA z φ s m args below meth c C H locs ls hP hS hL)
theorem go_icmp_lt {a b off : Int} {tgt : Nat} (hd : decode M.2.1 pc = .ok (.if_icmp .lt off, 3)) (ht : (pc : Int) + off = (tgt : Int)) (ha : inR a) (hb : inR b) (kt : a < b → am_Go sh M d Q tgt lv (st) σ) (kf : ¬ (a < b) → am_Go sh M d Q (pc + 3) lv (st) σ) : am_Go sh M d Q pc lv (.int (iZ b) :: .int (iZ a) :: st) σ := by
  intro p l e D dA z φ s m args below meth c C H locs ls hP hS hL
  exact lv_icmp_lt C.1 C.2.1 hd ht (fun h => kt ((iZ_lt ha hb).mp h) p l e D dA z φ s m args below meth c C H locs ls hP hS hL) (fun h => kf (fun h2 => h ((iZ_lt ha hb).mpr h2)) p l e D dA z φ s m args below meth c C H locs ls hP hS hL)
theorem go_icmp_ge {a b off : Int} {tgt : Nat} (hd : decode M.2.1 pc = .ok (.if_icmp .ge off, 3)) (ht : (pc : Int) + off = (tgt : Int)) (ha : inR a) (hb : inR b) (kt : b ≤ a → am_Go sh M d Q tgt lv (st) σ) (kf : ¬ (b ≤ a) → am_Go sh M d Q (pc + 3) lv (st) σ) : am_Go sh M d Q pc lv (.int (iZ b) :: .int (iZ a) :: st) σ := by
  intro p l e D dA z φ s m args below meth c C H locs ls hP hS hL
  exact lv_icmp_ge C.1 C.2.1 hd ht (fun h => kt ((iZ_le hb ha).mp h) p l e D dA z φ s m args below meth c C H locs ls hP hS hL) (fun h => kf (fun h2 => h ((iZ_le hb ha).mpr h2)) p l e D dA z φ s m args below meth c C H locs ls hP hS hL)
theorem go_icmp_gt {a b off : Int} {tgt : Nat} (hd : decode M.2.1 pc = .ok (.if_icmp .gt off, 3)) (ht : (pc : Int) + off = (tgt : Int)) (ha : inR a) (hb : inR b) (kt : b < a → am_Go sh M d Q tgt lv (st) σ) (kf : ¬ (b < a) → am_Go sh M d Q (pc + 3) lv (st) σ) : am_Go sh M d Q pc lv (.int (iZ b) :: .int (iZ a) :: st) σ := by
  intro p l e D dA z φ s m args below meth c C H locs ls hP hS hL
  exact lv_icmp_gt C.1 C.2.1 hd ht (fun h => kt ((iZ_lt hb ha).mp h) p l e D dA z φ s m args below meth c C H locs ls hP hS hL) (fun h => kf (fun h2 => h ((iZ_lt hb ha).mpr h2)) p l e D dA z φ s m args below meth c C H locs ls hP hS hL)
theorem go_icmp_le {a b off : Int} {tgt : Nat} (hd : decode M.2.1 pc = .ok (.if_icmp .le off, 3)) (ht : (pc : Int) + off = (tgt : Int)) (ha : inR a) (hb : inR b) (kt : a ≤ b → am_Go sh M d Q tgt lv (st) σ) (kf : ¬ (a ≤ b) → am_Go sh M d Q (pc + 3) lv (st) σ) : am_Go sh M d Q pc lv (.int (iZ b) :: .int (iZ a) :: st) σ := by
  intro p l e D dA z φ s m args below meth c C H locs ls hP hS hL
  exact lv_icmp_le C.1 C.2.1 hd ht (fun h => kt ((iZ_le ha hb).mp h) p l e D dA z φ s m args below meth c C H locs ls hP hS hL) (fun h => kf (fun h2 => h ((iZ_le ha hb).mpr h2)) p l e D dA z φ s m args below meth c C H locs ls hP hS hL)
theorem go_if_eq {a off : Int} {tgt : Nat} (hd : decode M.2.1 pc = .ok (.ifCond .eq off, 3)) (ht : (pc : Int) + off = (tgt : Int)) (ha : inR a) (kt : a = 0 → am_Go sh M d Q tgt lv (st) σ) (kf : ¬ (a = 0) → am_Go sh M d Q (pc + 3) lv (st) σ) : am_Go sh M d Q pc lv (.int (iZ a) :: st) σ := by
  intro p l e D dA z φ s m args below meth c C H locs ls hP hS hL
  have i0R : inR 0 := ⟨by omega, by omega⟩
  exact lv_if_eq C.1 C.2.1 hd ht (fun h => kt ((iZ_inj ha i0R).mp h) p l e D dA z φ s m args below meth c C H locs ls hP hS hL) (fun h => kf (fun h2 => h ((iZ_inj ha i0R).mpr h2)) p l e D dA z φ s m args below meth c C H locs ls hP hS hL)
theorem go_if_ne {a off : Int} {tgt : Nat} (hd : decode M.2.1 pc = .ok (.ifCond .ne off, 3)) (ht : (pc : Int) + off = (tgt : Int)) (ha : inR a) (kt : ¬ a = 0 → am_Go sh M d Q tgt lv (st) σ) (kf : a = 0 → am_Go sh M d Q (pc + 3) lv (st) σ) : am_Go sh M d Q pc lv (.int (iZ a) :: st) σ := by
  intro p l e D dA z φ s m args below meth c C H locs ls hP hS hL
  have i0R : inR 0 := ⟨by omega, by omega⟩
  exact lv_if_ne C.1 C.2.1 hd ht (fun h => kt ((not_congr (iZ_inj ha i0R)).mp h) p l e D dA z φ s m args below meth c C H locs ls hP hS hL) (fun h => kf ((iZ_inj ha i0R).mp h) p l e D dA z φ s m args below meth c C H locs ls hP hS hL)
theorem go_if_lt {a off : Int} {tgt : Nat} (hd : decode M.2.1 pc = .ok (.ifCond .lt off, 3)) (ht : (pc : Int) + off = (tgt : Int)) (ha : inR a) (kt : a < 0 → am_Go sh M d Q tgt lv (st) σ) (kf : ¬ (a < 0) → am_Go sh M d Q (pc + 3) lv (st) σ) : am_Go sh M d Q pc lv (.int (iZ a) :: st) σ := by
  intro p l e D dA z φ s m args below meth c C H locs ls hP hS hL
  have i0R : inR 0 := ⟨by omega, by omega⟩
  exact lv_if_lt C.1 C.2.1 hd ht (fun h => kt ((iZ_lt ha i0R).mp h) p l e D dA z φ s m args below meth c C H locs ls hP hS hL) (fun h => kf (fun h2 => h ((iZ_lt ha i0R).mpr h2)) p l e D dA z φ s m args below meth c C H locs ls hP hS hL)
theorem go_if_ge {a off : Int} {tgt : Nat} (hd : decode M.2.1 pc = .ok (.ifCond .ge off, 3)) (ht : (pc : Int) + off = (tgt : Int)) (ha : inR a) (kt : 0 ≤ a → am_Go sh M d Q tgt lv (st) σ) (kf : ¬ (0 ≤ a) → am_Go sh M d Q (pc + 3) lv (st) σ) : am_Go sh M d Q pc lv (.int (iZ a) :: st) σ := by
  intro p l e D dA z φ s m args below meth c C H locs ls hP hS hL
  have i0R : inR 0 := ⟨by omega, by omega⟩
  exact lv_if_ge C.1 C.2.1 hd ht (fun h => kt ((iZ_le i0R ha).mp h) p l e D dA z φ s m args below meth c C H locs ls hP hS hL) (fun h => kf (fun h2 => h ((iZ_le i0R ha).mpr h2)) p l e D dA z φ s m args below meth c C H locs ls hP hS hL)
theorem go_if_gt {a off : Int} {tgt : Nat} (hd : decode M.2.1 pc = .ok (.ifCond .gt off, 3)) (ht : (pc : Int) + off = (tgt : Int)) (ha : inR a) (kt : 0 < a → am_Go sh M d Q tgt lv (st) σ) (kf : ¬ (0 < a) → am_Go sh M d Q (pc + 3) lv (st) σ) : am_Go sh M d Q pc lv (.int (iZ a) :: st) σ := by
  intro p l e D dA z φ s m args below meth c C H locs ls hP hS hL
  have i0R : inR 0 := ⟨by omega, by omega⟩
  exact lv_if_gt C.1 C.2.1 hd ht (fun h => kt ((iZ_lt i0R ha).mp h) p l e D dA z φ s m args below meth c C H locs ls hP hS hL) (fun h => kf (fun h2 => h ((iZ_lt i0R ha).mpr h2)) p l e D dA z φ s m args below meth c C H locs ls hP hS hL)
theorem go_if_le {a off : Int} {tgt : Nat} (hd : decode M.2.1 pc = .ok (.ifCond .le off, 3)) (ht : (pc : Int) + off = (tgt : Int)) (ha : inR a) (kt : a ≤ 0 → am_Go sh M d Q tgt lv (st) σ) (kf : ¬ (a ≤ 0) → am_Go sh M d Q (pc + 3) lv (st) σ) : am_Go sh M d Q pc lv (.int (iZ a) :: st) σ := by
  intro p l e D dA z φ s m args below meth c C H locs ls hP hS hL
  have i0R : inR 0 := ⟨by omega, by omega⟩
  exact lv_if_le C.1 C.2.1 hd ht (fun h => kt ((iZ_le ha i0R).mp h) p l e D dA z φ s m args below meth c C H locs ls hP hS hL) (fun h => kf (fun h2 => h ((iZ_le ha i0R).mpr h2)) p l e D dA z φ s m args below meth c C H locs ls hP hS hL)
theorem go_tswOut {dflt lo hi : Int} {offs : Array Int} {len : Nat} {a : Int} {tgt : Nat} (hd : decode M.2.1 pc = .ok (.tableswitch dflt lo hi offs, len)) (ha : inR a) (h : a < lo ∨ hi < a) (ht : (pc : Int) + dflt = (tgt : Int)) (k : am_Go sh M d Q tgt lv (st) σ) : am_Go sh M d Q pc lv (.int (iZ a) :: st) σ := by
  intro p l e D dA z φ s m args below meth c C H locs ls hP hS hL
  exact lv_tableOut C.1 C.2.1 hd (by rw [iZ_toInt ha]; exact h) ht (k p l e D dA z φ s m args below meth c C H locs ls hP hS hL)
theorem go_tswIn {dflt lo hi : Int} {offs : Array Int} {len : Nat} {a off : Int} {tgt : Nat} (hd : decode M.2.1 pc = .ok (.tableswitch dflt lo hi offs, len)) (ha : inR a) (h1 : ¬ a < lo) (h2 : ¬ hi < a) (ho : offs[(a - lo).toNat]? = some off) (ht : (pc : Int) + off = (tgt : Int)) (k : am_Go sh M d Q tgt lv (st) σ) : am_Go sh M d Q pc lv (.int (iZ a) :: st) σ := by
  intro p l e D dA z φ s m args below meth c C H locs ls hP hS hL
  exact lv_tableIn C.1 C.2.1 hd (by rw [iZ_toInt ha]; exact h1) (by rw [iZ_toInt ha]; exact h2) (by rw [iZ_toInt ha]; exact ho) ht (k p l e D dA z φ s m args below meth c C H locs ls hP hS hL)
theorem go_ireturn {x : Int32} (hd : decode M.2.1 pc = .ok (.ireturn, 1)) (hr : M.2.2.2 = some .int) (q : Q (some (.int x)) σ) : am_Go sh M d Q pc lv ([.int x]) σ := by
  intro p l e D dA z φ s m args below meth c C H locs ls hP hS hL
  exact W.iret (v := x) C.1 C.2.1 (C.2.2.1.trans hr) (fun t ht hW => ⟨⟨some (.int x), σ, rfl, q, by rw [ht]; exact hP⟩, hS.F ht⟩) hS.2.2 hd C.2.2.2.2.2.2.1
theorem go_zreturn {a : Int} (hd : decode M.2.1 pc = .ok (.ireturn, 1)) (hr : M.2.2.2 = some .boolean) (ha : a = 0 ∨ a = 1) (q : Q (some (.int (iZ a))) σ) : am_Go sh M d Q pc lv ([.int (iZ a)]) σ := by
  intro p l e D dA z φ s m args below meth c C H locs ls hP hS hL
  exact W.zret (v := iZ a) (ty := .boolean) C.1 C.2.1 (C.2.2.1.trans hr) (by rcases ha with rfl | rfl <;> rfl) (fun t ht hW => ⟨⟨some (.int (iZ a)), σ, rfl, q, by rw [ht]; exact hP⟩, hS.F ht⟩) hS.2.2 hd C.2.2.2.2.2.2.1
theorem go_lreturn {x : Int64} (hd : decode M.2.1 pc = .ok (.lreturn, 1)) (hr : M.2.2.2 = some .long) (q : Q (some (.long x)) σ) : am_Go sh M d Q pc lv ([.long x]) σ := by
  intro p l e D dA z φ s m args below meth c C H locs ls hP hS hL
  exact W.lret (v := x) C.1 C.2.1 (C.2.2.1.trans hr) (fun t ht hW => ⟨⟨some (.long x), σ, rfl, q, by rw [ht]; exact hP⟩, hS.F ht⟩) hS.2.2 hd C.2.2.2.2.2.2.1
theorem go_return (hd : decode M.2.1 pc = .ok (.return_, 1)) (hr : M.2.2.2 = none) (q : Q none σ) : am_Go sh M d Q pc lv ([]) σ := by
  intro p l e D dA z φ s m args below meth c C H locs ls hP hS hL
  exact W.vret C.1 C.2.1 (C.2.2.1.trans hr) (fun t ht hW => ⟨⟨none, σ, rfl, q, by rw [ht]; exact hP⟩, hS.F ht⟩) hS.2.2 hd C.2.2.2.2.2.2.1
end AMS
end
section
/-! ===== rows: fields and arrays ===== -/
def am_si (σ : am_St) (k j : Nat) (v : Int) : am_St := (fun a b => if a = k ∧ b = j then v else σ.1 a b, σ.2.1, σ.2.2)
def am_sl (σ : am_St) (k j : Nat) (v : Int) : am_St := (σ.1, fun a b => if a = k ∧ b = j then v else σ.2.1 a b, σ.2.2)
def am_sa (σ : am_St) (k : Nat) (i v : Int) : am_St := (σ.1, σ.2.1, fun a b => if a = k ∧ b = i then v else σ.2.2 a b)
def am_F (own : String) (idx ci j : Nat) (ty : FieldType) (fin : Bool) : Prop := ∃ (C : String) (T : u_T) (N : Nat) (ty0 : Nat → FieldType), am_cl[ci]? = some (C, T, N) ∧ j < N ∧ (∀ w ∈ u_ws C T N, w ∈ am_tbl) ∧ (∀ k, k < N → parseFieldDescriptor (T k).2.2.1 = some (ty0 k)) ∧ (∀ a, a < N → ∀ b, b < N → a ≠ b → (T a).2.1 ≠ (T b).2.1) ∧ Cond.fieldLink own idx (T j).1 (T j).2.1 (T j).2.2.1 ∈ am_tbl ∧ ty0 j = ty ∧ (T j).2.2.2 = fin
def am_fit (ty : FieldType) (v : Value) : Prop := narrow ty v = v ∧ fits ty v = true
theorem am_fit_int {x : Int32} : am_fit .int (.int x) := ⟨rfl, rfl⟩
theorem am_fit_long {x : Int64} : am_fit .long (.long x) := ⟨rfl, rfl⟩
theorem am_fit_bool {a : Int} (h : a = 0 ∨ a = 1) : am_fit .boolean (.int (iZ a)) := by rcases h with rfl | rfl <;> exact ⟨rfl, rfl⟩
theorem am_ws_set {dA : Nat → ClassId} {φ : Nat → Nat} {σ σ' : am_St} {sh : am_Sh} {k : Nat} {x : am_Sc} (hk : sh[k]? = some x) (ho : ∀ a, a ≠ k → ∀ y, am_E dA φ σ' a y = am_E dA φ σ a y) {E' : va_E} (hE : E' = am_E dA φ σ' k x) : (am_ws dA φ σ sh).set k (φ k, E') = am_ws dA φ σ' sh := by
  apply List.ext_getElem?
  intro i
  by_cases hi : i = k
  · subst hi
    have h1 : i < (am_ws dA φ σ sh).length := by unfold am_ws; rw [List.length_mapIdx]; exact (List.getElem?_eq_some_iff.mp hk).1
    rw [List.getElem?_set_self h1, am_ws_get hk, hE]
  · rw [List.getElem?_set_ne (Ne.symm hi)]
    unfold am_ws
    rw [List.getElem?_mapIdx, List.getElem?_mapIdx]
    cases sh[i]? with
    | none => rfl
    | some y => show some (φ i, _) = some (φ i, _); rw [ho i hi y]
theorem am_E_si {dA : Nat → ClassId} {φ : Nat → Nat} {σ : am_St} {k j : Nat} {v : Int} (a : Nat) (ha : a ≠ k) (y : am_Sc) : am_E dA φ (am_si σ k j v) a y = am_E dA φ σ a y := by
  rcases y with ⟨t, n, _ | g⟩ | ⟨ci, ks⟩
  · rfl
  · rfl
  · show Sum.inr (ci, _) = Sum.inr (ci, _)
    congr 2
    apply List.ext_getElem?
    intro i
    rw [List.getElem?_mapIdx, List.getElem?_mapIdx]
    cases ks[i]? with
    | none => rfl
    | some kd => rcases kd with _ | _ | _ | r <;> simp [am_fv, am_si, ha]
theorem am_E_sl {dA : Nat → ClassId} {φ : Nat → Nat} {σ : am_St} {k j : Nat} {v : Int} (a : Nat) (ha : a ≠ k) (y : am_Sc) : am_E dA φ (am_sl σ k j v) a y = am_E dA φ σ a y := by
  rcases y with ⟨t, n, _ | g⟩ | ⟨ci, ks⟩
  · rfl
  · rfl
  · show Sum.inr (ci, _) = Sum.inr (ci, _)
    congr 2
    apply List.ext_getElem?
    intro i
    rw [List.getElem?_mapIdx, List.getElem?_mapIdx]
    cases ks[i]? with
    | none => rfl
    | some kd => rcases kd with _ | _ | _ | r <;> simp [am_fv, am_sl, ha]
theorem am_E_sa {dA : Nat → ClassId} {φ : Nat → Nat} {σ : am_St} {k : Nat} {i v : Int} (a : Nat) (ha : a ≠ k) (y : am_Sc) : am_E dA φ (am_sa σ k i v) a y = am_E dA φ σ a y := by
  rcases y with ⟨t, n, _ | g⟩ | ⟨ci, ks⟩
  · show Sum.inl (dA t, n, Sum.inl _) = Sum.inl (dA t, n, Sum.inl _)
    simp [am_sa, ha]
  · rfl
  · rfl
theorem am_fs_get {φ : Nat → Nat} {σ : am_St} {k j kd : Nat} {ks : List Nat} (h : ks[j]? = some kd) : (ks.mapIdx (fun j kd => am_fv φ σ k j kd))[j]? = some (am_fv φ σ k j kd) := by
  rw [List.getElem?_mapIdx, h]; rfl
/-- a field is set: the list of the fields' values -/
theorem am_fs_set {φ : Nat → Nat} {σ σ' : am_St} {k j kd : Nat} {ks : List Nat} {v : Value} (hj : ks[j]? = some kd) (ho : ∀ i, i ≠ j → ∀ kd, am_fv φ σ' k i kd = am_fv φ σ k i kd) (hv : v = am_fv φ σ' k j kd) : (ks.mapIdx (fun j kd => am_fv φ σ k j kd)).set j v = ks.mapIdx (fun j kd => am_fv φ σ' k j kd) := by
  apply List.ext_getElem?
  intro i
  by_cases hi : i = j
  · subst hi
    rw [List.getElem?_set_self (by rw [List.length_mapIdx]; exact (List.getElem?_eq_some_iff.mp hj).1), am_fs_get hj, hv]
  · rw [List.getElem?_set_ne (Ne.symm hi), List.getElem?_mapIdx, List.getElem?_mapIdx]
    cases ks[i]? with
    | none => rfl
    | some kd => exact congrArg some (ho i hi kd).symm
theorem am_fv_si {φ : Nat → Nat} {σ : am_St} {k j : Nat} {v : Int} (i : Nat) (hi : i ≠ j) (kd : Nat) : am_fv φ (am_si σ k j v) k i kd = am_fv φ σ k i kd := by
  rcases kd with _ | _ | _ | r <;> simp [am_fv, am_si, hi]
theorem am_fv_sl {φ : Nat → Nat} {σ : am_St} {k j : Nat} {v : Int} (i : Nat) (hi : i ≠ j) (kd : Nat) : am_fv φ (am_sl σ k j v) k i kd = am_fv φ σ k i kd := by
  rcases kd with _ | _ | _ | r <;> simp [am_fv, am_sl, hi]
section AMT
variable {sh : am_Sh} {M : am_M} {d : Nat} {Q : Option Value → am_St → Prop} {pc : Nat} {lv : List (Option Value)} {st : List Value} {σ : am_St}
theorem go_get {idx ci j k kd : Nat} {ty : FieldType} {fin : Bool} {ks : List Nat} {v : Value} (hF : am_F M.1.cls idx ci j ty fin) (hd : decode M.2.1 pc = .ok (.getfield idx, 3)) (hk : sh[k]? = some (.inr (ci, ks))) (hj : ks[j]? = some kd) (hv : ∀ φ, am_fv φ σ k j kd = am_v φ v) (kk : am_Go sh M d Q (pc + 3) lv (v :: st) σ) : am_Go sh M d Q pc lv (.ref k :: st) σ := by
  intro p l e D dA z φ s m args below meth c C H locs ls hP hS hL
  obtain ⟨Cn, T, N, ty0, h1, h2, h3, h4, h5, h6, h7, h8⟩ := hF
  exact va_get (ci := ci) (v := am_v φ v) (C := Cn) (T := T) (N := N) (Ts := am_wd M) C.1 C.2.1 C.2.2.2.2.2.1 (fun w h => List.mem_cons_of_mem _ (h3 w h)) C.2.2.2.2.1 C.2.2.2.2.2.2.2 hP.1 k (am_ws_get hk) h1 j h2 (C.2.2.2.2.2.1 _ (List.mem_cons_of_mem _ h6)) (fun _ h => h) ((am_fs_get hj).trans (congrArg some (hv φ))) hd (kk p l e D dA z φ s m args below meth c C H locs ls hP hS hL)
theorem go_geti {idx ci j k : Nat} {ty : FieldType} {fin : Bool} {ks : List Nat} (hF : am_F M.1.cls idx ci j ty fin) (hd : decode M.2.1 pc = .ok (.getfield idx, 3)) (hk : sh[k]? = some (.inr (ci, ks))) (hj : ks[j]? = some 0) (kk : am_Go sh M d Q (pc + 3) lv (.int (iZ (σ.1 k j)) :: st) σ) : am_Go sh M d Q pc lv (.ref k :: st) σ := go_get hF hd hk hj (fun _ => rfl) kk
theorem go_getl {idx ci j k : Nat} {ty : FieldType} {fin : Bool} {ks : List Nat} (hF : am_F M.1.cls idx ci j ty fin) (hd : decode M.2.1 pc = .ok (.getfield idx, 3)) (hk : sh[k]? = some (.inr (ci, ks))) (hj : ks[j]? = some 1) (kk : am_Go sh M d Q (pc + 3) lv (.long (lZ (σ.2.1 k j)) :: st) σ) : am_Go sh M d Q pc lv (.ref k :: st) σ := go_get hF hd hk hj (fun _ => rfl) kk
theorem go_getr {idx ci j k r : Nat} {ty : FieldType} {fin : Bool} {ks : List Nat} (hF : am_F M.1.cls idx ci j ty fin) (hd : decode M.2.1 pc = .ok (.getfield idx, 3)) (hk : sh[k]? = some (.inr (ci, ks))) (hj : ks[j]? = some (r + 3)) (kk : am_Go sh M d Q (pc + 3) lv (.ref r :: st) σ) : am_Go sh M d Q pc lv (.ref k :: st) σ := go_get hF hd hk hj (fun _ => rfl) kk
theorem go_put {idx ci j k kd : Nat} {ty : FieldType} {ks : List Nat} {v : Value} {σ' : am_St} (hF : am_F M.1.cls idx ci j ty false) (hd : decode M.2.1 pc = .ok (.putfield idx, 3)) (hk : sh[k]? = some (.inr (ci, ks))) (hj : ks[j]? = some kd) (hv : ∀ φ, am_v φ v = am_fv φ σ' k j kd) (hfit : ∀ φ, am_fit ty (am_v φ v)) (ho : ∀ dA φ a, a ≠ k → ∀ y, am_E dA φ σ' a y = am_E dA φ σ a y) (ho2 : ∀ φ i, i ≠ j → ∀ kd, am_fv φ σ' k i kd = am_fv φ σ k i kd) (kk : am_Go sh M d Q (pc + 3) lv st σ') : am_Go sh M d Q pc lv (v :: .ref k :: st) σ := by
  intro p l e D dA z φ s m args below meth c C H locs ls hP hS hL
  obtain ⟨Cn, T, N, ty0, h1, h2, h3, h4, h5, h6, h7, h8⟩ := hF
  refine va_put (ci := ci) (v := am_v φ v) (C := Cn) (T := T) (N := N) (Ts := am_wd M) C.1 C.2.1 C.2.2.2.2.2.1 (fun w h => List.mem_cons_of_mem _ (h3 w h)) ty0 h4 h5 C.2.2.2.2.1 C.2.2.2.2.2.2.2 hP.1 hP.2 hS k (am_ws_get hk) h1 j h2 (C.2.2.2.2.2.1 _ (List.mem_cons_of_mem _ h6)) (fun _ h => h) h8 ((h4 j h2).trans (congrArg some h7)) (hfit φ).1 (hfit φ).2 (by rw [List.length_mapIdx]; exact (List.getElem?_eq_some_iff.mp hj).1) hd (fun H1 locs1 hP1 hD1 hS1 => ?_)
  have e1 : (am_ws dA φ σ sh).set k (φ k, .inr (ci, (ks.mapIdx (fun j kd => am_fv φ σ k j kd)).set j (am_v φ v))) = am_ws dA φ σ' sh := am_ws_set hk (ho dA φ) (by rw [am_fs_set hj (ho2 φ) (hv φ)]; rfl)
  rw [e1] at hP1 hD1
  exact kk p l e D dA z φ s m args below meth c C H1 locs1 ls ⟨hP1, hD1⟩ hS1 hL
theorem go_puti {idx ci j k : Nat} {ty : FieldType} {ks : List Nat} {a : Int} (hF : am_F M.1.cls idx ci j ty false) (hd : decode M.2.1 pc = .ok (.putfield idx, 3)) (hk : sh[k]? = some (.inr (ci, ks))) (hj : ks[j]? = some 0) (hfit : am_fit ty (.int (iZ a))) (kk : am_Go sh M d Q (pc + 3) lv st (am_si σ k j a)) : am_Go sh M d Q pc lv (.int (iZ a) :: .ref k :: st) σ :=
  go_put hF hd hk hj (fun φ => by simp [am_v, am_fv, am_si]) (fun _ => hfit) (fun _ _ => am_E_si) (fun _ => am_fv_si) kk
theorem go_putl {idx ci j k : Nat} {ty : FieldType} {ks : List Nat} {a : Int} (hF : am_F M.1.cls idx ci j ty false) (hd : decode M.2.1 pc = .ok (.putfield idx, 3)) (hk : sh[k]? = some (.inr (ci, ks))) (hj : ks[j]? = some 1) (hfit : am_fit ty (.long (lZ a))) (kk : am_Go sh M d Q (pc + 3) lv st (am_sl σ k j a)) : am_Go sh M d Q pc lv (.long (lZ a) :: .ref k :: st) σ :=
  go_put hF hd hk hj (fun φ => by simp [am_v, am_fv, am_sl]) (fun _ => hfit) (fun _ _ => am_E_sl) (fun _ => am_fv_sl) kk
theorem go_iaload {k n : Nat} {i : Int} (hd : decode M.2.1 pc = .ok (.iaload, 1)) (hk : sh[k]? = some (.inl (0, n, none))) (hn : n < 2147483648) (h0 : 0 ≤ i) (h1 : i < n) (kk : am_Go sh M d Q (pc + 1) lv (.int (iZ (σ.2.2 k i)) :: st) σ) : am_Go sh M d Q pc lv (.int (iZ i) :: .ref k :: st) σ := by
  intro p l e D dA z φ s m args below meth c C H locs ls hP hS hL
  refine va_iald (n := n) C.1 C.2.1 C.2.2.2.2.2.2.2 hP.1 k 0 (am_ws_get hk) rfl (iZ_in h0 h1 hn) hd ?_
  have h := kk p l e D dA z φ s m args below meth c C H locs ls hP hS hL
  rw [iZ_clamp ⟨by omega, by omega⟩, Int.toNat_of_nonneg h0]
  exact h
theorem go_baload {k n : Nat} {i : Int} (hd : decode M.2.1 pc = .ok (.baload, 1)) (hk : sh[k]? = some (.inl (1, n, none))) (hn : n < 2147483648) (h0 : 0 ≤ i) (h1 : i < n) (kk : am_Go sh M d Q (pc + 1) lv (.int (iZ (σ.2.2 k i)) :: st) σ) : am_Go sh M d Q pc lv (.int (iZ i) :: .ref k :: st) σ := by
  intro p l e D dA z φ s m args below meth c C H locs ls hP hS hL
  refine va_zald (n := n) C.1 C.2.1 C.2.2.2.2.2.2.2 hP.1 k 1 (am_ws_get hk) rfl (iZ_in h0 h1 hn) hd ?_
  have h := kk p l e D dA z φ s m args below meth c C H locs ls hP hS hL
  rw [iZ_clamp ⟨by omega, by omega⟩, Int.toNat_of_nonneg h0]
  exact h
theorem go_aaload {k n r : Nat} {g : Nat → Option Nat} {i : Int} (hd : decode M.2.1 pc = .ok (.aaload, 1)) (hk : sh[k]? = some (.inl (2, n, some g))) (hn : n < 2147483648) (h0 : 0 ≤ i) (h1 : i < n) (hg : g i.toNat = some r) (kk : am_Go sh M d Q (pc + 1) lv (.ref r :: st) σ) : am_Go sh M d Q pc lv (.int (iZ i) :: .ref k :: st) σ := by
  intro p l e D dA z φ s m args below meth c C H locs ls hP hS hL
  refine va_aldq (n := n) C.1 C.2.1 C.2.2.2.2.2.2.2 hP.1 k 2 (am_ws_get hk) rfl (iZ_in h0 h1 hn) hd ?_
  have h := kk p l e D dA z φ s m args below meth c C H locs ls hP hS hL
  rw [iZ_clamp ⟨by omega, by omega⟩, hg]
  exact h
theorem am_sa_upd (σ : am_St) (k : Nat) {i : Int} (x : Int) (h0 : 0 ≤ i) : upd (fun j : Nat => iZ (σ.2.2 k (j : Int))) i.toNat (iZ x) = fun j : Nat => iZ ((am_sa σ k i x).2.2 k (j : Int)) := by
  funext j
  have h : (j : Int) = i ↔ j = i.toNat := by omega
  by_cases hj : j = i.toNat
  · simp [upd, am_sa, hj, Int.toNat_of_nonneg h0]
  · have : ¬ (j : Int) = i := fun q => hj (h.mp q)
    simp [upd, am_sa, hj, this]
theorem go_iastore {k n : Nat} {i x : Int} (hd : decode M.2.1 pc = .ok (.iastore, 1)) (hk : sh[k]? = some (.inl (0, n, none))) (hn : n < 2147483648) (h0 : 0 ≤ i) (h1 : i < n) (kk : am_Go sh M d Q (pc + 1) lv st (am_sa σ k i x)) : am_Go sh M d Q pc lv (.int (iZ x) :: .int (iZ i) :: .ref k :: st) σ := by
  intro p l e D dA z φ s m args below meth c C H locs ls hP hS hL
  refine va_iast (n := n) C.1 C.2.1 C.2.2.2.2.2.2.2 hP.1 hP.2 hS k 0 (am_ws_get hk) rfl (iZ_in h0 h1 hn) hd (fun H1 locs1 hP1 hD1 hS1 => ?_)
  have e1 : (am_ws dA φ σ sh).set k (φ k, .inl (dA 0, n, .inl (upd (fun j : Nat => iZ (σ.2.2 k (j : Int))) (iZ i).toNatClampNeg (iZ x)))) = am_ws dA φ (am_sa σ k i x) sh := am_ws_set hk am_E_sa (by rw [iZ_clamp ⟨by omega, by omega⟩, am_sa_upd σ k x h0]; rfl)
  rw [e1] at hP1 hD1
  exact kk p l e D dA z φ s m args below meth c C H1 locs1 ls ⟨hP1, hD1⟩ hS1 hL
theorem go_bastore {k n : Nat} {i x : Int} (hd : decode M.2.1 pc = .ok (.bastore, 1)) (hk : sh[k]? = some (.inl (1, n, none))) (hn : n < 2147483648) (h0 : 0 ≤ i) (h1 : i < n) (hx : x = 0 ∨ x = 1) (kk : am_Go sh M d Q (pc + 1) lv st (am_sa σ k i x)) : am_Go sh M d Q pc lv (.int (iZ x) :: .int (iZ i) :: .ref k :: st) σ := by
  intro p l e D dA z φ s m args below meth c C H locs ls hP hS hL
  refine va_zast (n := n) C.1 C.2.1 C.2.2.2.2.2.2.2 hP.1 hP.2 hS k 1 (am_ws_get hk) rfl (iZ_in h0 h1 hn) hd (fun H1 locs1 hP1 hD1 hS1 => ?_)
  have e0 : vp_nar .boolean (iZ x) = iZ x := by rcases hx with rfl | rfl <;> rfl
  have e1 : (am_ws dA φ σ sh).set k (φ k, .inl (dA 1, n, .inl (upd (fun j : Nat => iZ (σ.2.2 k (j : Int))) (iZ i).toNatClampNeg (vp_nar .boolean (iZ x))))) = am_ws dA φ (am_sa σ k i x) sh := am_ws_set hk am_E_sa (by rw [e0, iZ_clamp ⟨by omega, by omega⟩, am_sa_upd σ k x h0]; rfl)
  rw [e1] at hP1 hD1
  exact kk p l e D dA z φ s m args below meth c C H1 locs1 ls ⟨hP1, hD1⟩ hS1 hL
theorem go_alen {k t n : Nat} {g : Option (Nat → Option Nat)} (ht : t < 3) (hd : decode M.2.1 pc = .ok (.arraylength, 1)) (hk : sh[k]? = some (.inl (t, n, g))) (kk : am_Go sh M d Q (pc + 1) lv (.int (iZ (n : Int)) :: st) σ) : am_Go sh M d Q pc lv (.ref k :: st) σ := by
  intro p l e D dA z φ s m args below meth c C H locs ls hP hS hL
  have hty : ∃ ty, (am_tys dA)[t]? = some (dA t, ty) := by
    rcases (show t = 0 ∨ t = 1 ∨ t = 2 by omega) with rfl | rfl | rfl <;> exact ⟨_, rfl⟩
  obtain ⟨ty, hty⟩ := hty
  have hv : Int32.ofNat n = iZ (n : Int) := Int32.ofInt_eq_ofNat.symm
  cases g with
  | none => exact va_alen (v := iZ (n : Int)) C.1 C.2.1 C.2.2.2.2.2.2.2 hP.1 k t (am_ws_get hk) hty hv hd (kk p l e D dA z φ s m args below meth c C H locs ls hP hS hL)
  | some g => exact va_alen (v := iZ (n : Int)) C.1 C.2.1 C.2.2.2.2.2.2.2 hP.1 k t (am_ws_get hk) hty hv hd (kk p l e D dA z φ s m args below meth c C H locs ls hP hS hL)
end AMT
end
section
/-! ===== rows: calls ===== -/
theorem am_good {M M2 : am_M} (hc : Cond.code M2.1 M2.2.1 M2.2.2.1 M2.2.2.2 ∈ am_tbl) : GoodIn (am_wd M) (am_wd M2) := by
  intro w hw
  have h : w ∈ am_tbl := by
    rcases List.mem_cons.mp hw with h | h
    · rw [h]; exact hc
    · exact h
  exact ⟨List.mem_cons_of_mem _ h, good_of_word (List.mem_filter.mp h).2⟩
def am_MV (M2 : am_M) (n : Nat) : Prop := Cond.instanceMethod M2.1 ∈ am_tbl ∧ Cond.selects M2.1.cls M2.1 M2.1 ∈ am_tbl ∧ Cond.initialized M2.1.cls ∈ am_tbl ∧ Cond.code M2.1 M2.2.1 M2.2.2.1 M2.2.2.2 ∈ am_tbl ∧ (M2.1.cls ≠ "java/lang/invoke/MethodHandle" ∧ M2.1.cls ≠ "java/lang/invoke/VarHandle" ∧ (parseMethodDescriptor M2.1.desc).map (fun d => d.parameters.length) = some n) ∧ M2.2.2.1 ≤ 13
def am_MS (M2 : am_M) (n : Nat) : Prop := Cond.static M2.1 ∈ am_tbl ∧ Cond.initialized M2.1.cls ∈ am_tbl ∧ Cond.code M2.1 M2.2.1 M2.2.2.1 M2.2.2.2 ∈ am_tbl ∧ (M2.1.cls ≠ "java/lang/invoke/MethodHandle" ∧ M2.1.cls ≠ "java/lang/invoke/VarHandle" ∧ (parseMethodDescriptor M2.1.desc).map (fun d => d.parameters.length) = some n) ∧ M2.2.2.1 ≤ 13
section AMC0
variable {p : Program} {l : Launch} {e : Env} {R : Room} {s : State} {m : MethodId} {args : Array Value} {below : List Frame} {meth : Method} {c : Code} {H : Heap} {locs : List Loc} {cells slots : Nat} {Q : State → Prop} {pc : Nat} {ls : Array Slot} {rest st0 : List Value} {a : Array Value} {H0 : Heap} {D : va_G} {dA : Nat → ClassId} {z : Nat} {φ : Nat → Nat} {sh : am_Sh} {Q2 : Option Value → am_St → Prop}
theorem am_call (hr : va_Run p l e R s m args below meth c H locs cells slots 0 0 (F0 m pc ls st0) rest (am_Q D dA z φ sh Q2 a) (fun q => z ≤ q)) (hS : va_S (fun q => z ≤ q) H0 H locs)
    (kk : ∀ (r : Option Value) (σ2 : am_St) (H1 : Heap) (locs1 : List Loc), Q2 r σ2 → am_P D dA z φ sh σ2 H1 → va_S (fun q => z ≤ q) H0 H1 locs1 → W p l e R s m args below meth c H1 locs1 cells slots Q (F0 m (pc + 3) ls ((r.map (am_v φ)).toList ++ rest))) : W p l e R s m args below meth c H locs cells slots Q (F0 m pc ls st0) := by
  intro T hT X
  obtain ⟨v, st₀, t, T', L, h0, X', hL, e1, e2, ⟨⟨r, σ2, hv, hq, hP2⟩, hz, hk⟩, st⟩ := hr T hT X
  cases hv
  rw [h0] at hz hk
  obtain ⟨t2, a1, b1⟩ := kk r σ2 T'.heap (locs ++ L) hq (by rw [e1]; exact hP2)
    ⟨Nat.le_trans hS.1 (by rw [e1]; exact hz), fun q h1 h2 => by rw [e1, hk q (Nat.lt_of_lt_of_le h1 hS.1) h2]; exact hS.2.1 q h1 h2, fun q hq => by
      rcases List.mem_append.mp hq with h | h
      · exact hS.2.2 q h
      · exact hL q h⟩ T' rfl X'
  exact ⟨t2, st t2 a1, b1⟩
/-- the machine's own rows of a call: a method of an object, a static one -/
theorem am_runV {Ts : List Cond} {own : String} {cc : ByteArray} {nL idx n k ci d2 : Nat} {M2 : am_M} {As : List Value} {ks : List Nat} {σ : am_St} {r0 : vw_C} (S : CallFix p m c cc nL s args Ts own) (hG : GoodIn Ts (am_wd M2)) (hK : va_K D am_cl (am_tys dA) s) (hL : Cond.methodLink own idx M2.1 ∈ Ts) (hi : Cond.instanceMethod M2.1 ∈ Ts) (hse : Cond.selects M2.1.cls M2.1 M2.1 ∈ Ts) (hini : Cond.initialized M2.1.cls ∈ Ts) (hdd : M2.1.cls ≠ "java/lang/invoke/MethodHandle" ∧ M2.1.cls ≠ "java/lang/invoke/VarHandle" ∧ (parseMethodDescriptor M2.1.desc).map (fun d => d.parameters.length) = some n)
    (hE : am_Ev sh M2 d2 (.ref k :: As) σ Q2) (hP : am_P D dA z φ sh σ H) (hk : sh[k]? = some (.inr (ci, ks))) (hci : am_cl[ci]? = some r0) (hcn : r0.1 = M2.1.cls) (hR : d2 + 1 ≤ R.frames ∧ 8 + (M2.2.2.1 + 11) + 32 * d2 ≤ R.locals)
    (hn : As.length = n) (hsize : ls.size = nL) (hstack : st0 = (As.map (am_v φ)).reverse ++ .ref (φ k) :: rest) (hrm : (rest.map fun v => v.category).sum ≤ 8) (hdg : decode cc pc = .ok (.invokevirtual idx, 3)) (hf : cells ≤ R.cells ∧ slots ≤ R.slots) :
    va_Run p l e R s m args below meth c H locs cells slots 0 0 (F0 m pc ls st0) rest (am_Q D dA z φ sh Q2 (Value.ref (φ k) :: As.map (am_v φ)).toArray) (fun q => z ≤ q) := by
  have hbl : FrameBlind (va_Pc ((Value.ref k :: As).map (am_v φ)) (fun U => am_P D dA z φ sh σ U.heap ∧ va_K D am_cl (am_tys dA) U)) := fun a U g mk q => by
    obtain ⟨q0, qP, qK⟩ := q
    exact ⟨q0, qP, va_K.moved (u := U) (U := U.calling g mk a) (Vm.Alike.refl U.vm) qK⟩
  have hb := callB_of (R := R) (own := own) (index := idx) (y := M2.1) (bytes := M2.2.1) (maxL := M2.2.2.1) (ret := M2.2.2.2) (rm := am_room d2) (mc := 0) (ms := 0) n S.2.2.2.2 hG rfl rfl rfl (S.2.2.2.2 _ hini) (S.2.2.2.2 _ hL) hdd hR
  have hrec := va_recv hK hP.1 hci (am_ws_get hk)
  rw [hcn] at hrec
  exact va_runV (C := M2.1.cls) (b := φ k) (As := As.map (am_v φ)) (rest := rest) S (hE l D dA z φ) ⟨hb, S.2.2.2.2 _ hi, S.2.2.2.2 _ hse⟩ ⟨hbl, hrec, fun U hU hW => ⟨rfl, by rw [hU]; exact hP, va_K.moved hW.alike hK⟩⟩ rfl (by rw [List.length_map]; exact hn) hsize hstack (lv_room hrm) hdg hf
theorem am_runS {Ts : List Cond} {own : String} {cc : ByteArray} {nL idx n d2 : Nat} {M2 : am_M} {As : List Value} {σ : am_St} (S : CallFix p m c cc nL s args Ts own) (hG : GoodIn Ts (am_wd M2)) (hK : va_K D am_cl (am_tys dA) s) (hL : Cond.methodLink own idx M2.1 ∈ Ts) (hst : Cond.static M2.1 ∈ Ts) (hini : Cond.initialized M2.1.cls ∈ Ts) (hdd : M2.1.cls ≠ "java/lang/invoke/MethodHandle" ∧ M2.1.cls ≠ "java/lang/invoke/VarHandle" ∧ (parseMethodDescriptor M2.1.desc).map (fun d => d.parameters.length) = some n)
    (hE : am_Ev sh M2 d2 As σ Q2) (hP : am_P D dA z φ sh σ H) (hR : d2 + 1 ≤ R.frames ∧ 8 + (M2.2.2.1 + 11) + 32 * d2 ≤ R.locals)
    (hn : As.length = n) (hsize : ls.size = nL) (hstack : st0 = (As.map (am_v φ)).reverse ++ rest) (hrm : (rest.map fun v => v.category).sum ≤ 8) (hdg : decode cc pc = .ok (.invokestatic idx, 3)) (hf : cells ≤ R.cells ∧ slots ≤ R.slots) :
    va_Run p l e R s m args below meth c H locs cells slots 0 0 (F0 m pc ls st0) rest (am_Q D dA z φ sh Q2 (As.map (am_v φ)).toArray) (fun q => z ≤ q) := by
  have hbl : FrameBlind (va_Pc (As.map (am_v φ)) (fun U => am_P D dA z φ sh σ U.heap ∧ va_K D am_cl (am_tys dA) U)) := fun a U g mk q => by
    obtain ⟨q0, qP, qK⟩ := q
    exact ⟨q0, qP, va_K.moved (u := U) (U := U.calling g mk a) (Vm.Alike.refl U.vm) qK⟩
  have hb := callB_of (R := R) (own := own) (index := idx) (y := M2.1) (bytes := M2.2.1) (maxL := M2.2.2.1) (ret := M2.2.2.2) (rm := am_room d2) (mc := 0) (ms := 0) n S.2.2.2.2 hG rfl rfl rfl (S.2.2.2.2 _ hini) (S.2.2.2.2 _ hL) hdd hR
  exact va_runS (As := As.map (am_v φ)) (rest := rest) S (hE l D dA z φ) ⟨hb, S.2.2.2.2 _ hst⟩ ⟨hbl, fun U hU hW => ⟨rfl, by rw [hU]; exact hP, va_K.moved hW.alike hK⟩⟩ rfl (by rw [List.length_map]; exact hn) hsize hstack (lv_room hrm) hdg hf
theorem am_runSN {Ts : List Cond} {own host : String} {cc : ByteArray} {nL idx n d2 : Nat} {M2 : am_M} {As : List Value} {σ : am_St} (S : CallFix p m c cc nL s args Ts own) (hG : GoodIn Ts (am_wd M2)) (hK : va_K D am_cl (am_tys dA) s) (hL : Cond.methodLinkNest own idx M2.1 host ∈ Ts) (hst : Cond.static M2.1 ∈ Ts) (hini : Cond.initialized M2.1.cls ∈ Ts) (hdd : M2.1.cls ≠ "java/lang/invoke/MethodHandle" ∧ M2.1.cls ≠ "java/lang/invoke/VarHandle" ∧ (parseMethodDescriptor M2.1.desc).map (fun d => d.parameters.length) = some n)
    (hE : am_Ev sh M2 d2 As σ Q2) (hP : am_P D dA z φ sh σ H) (hR : d2 + 1 ≤ R.frames ∧ 8 + (M2.2.2.1 + 11) + 32 * d2 ≤ R.locals)
    (hn : As.length = n) (hsize : ls.size = nL) (hstack : st0 = (As.map (am_v φ)).reverse ++ rest) (hrm : (rest.map fun v => v.category).sum ≤ 8) (hdg : decode cc pc = .ok (.invokestatic idx, 3)) (hf : cells ≤ R.cells ∧ slots ≤ R.slots) :
    va_Run p l e R s m args below meth c H locs cells slots 0 0 (F0 m pc ls st0) rest (am_Q D dA z φ sh Q2 (As.map (am_v φ)).toArray) (fun q => z ≤ q) := by
  have hbl : FrameBlind (va_Pc (As.map (am_v φ)) (fun U => am_P D dA z φ sh σ U.heap ∧ va_K D am_cl (am_tys dA) U)) := fun a U g mk q => by
    obtain ⟨q0, qP, qK⟩ := q
    exact ⟨q0, qP, va_K.moved (u := U) (U := U.calling g mk a) (Vm.Alike.refl U.vm) qK⟩
  have hb := va_cnB (R := R) (own := own) (host := host) (index := idx) (y := M2.1) (bytes := M2.2.1) (maxL := M2.2.2.1) (ret := M2.2.2.2) (rm := am_room d2) (mc := 0) (ms := 0) n S.2.2.2.2 hG rfl rfl rfl (va_Nw.of rfl (S.2.2.2.2 _ hL)) (S.2.2.2.2 _ hini) hdd hR
  exact va_runSN (As := As.map (am_v φ)) (rest := rest) S (hE l D dA z φ) ⟨hb, S.2.2.2.2 _ hst, trivial⟩ ⟨hbl, fun U hU hW => ⟨rfl, by rw [hU]; exact hP, va_K.moved hW.alike hK⟩⟩ rfl (by rw [List.length_map]; exact hn) hsize hstack (lv_room hrm) hdg hf
end AMC0
section AMC
variable {sh : am_Sh} {M : am_M} {d : Nat} {Q : Option Value → am_St → Prop} {pc : Nat} {lv : List (Option Value)} {st : List Value} {σ : am_St} {M2 : am_M} {d2 idx n : Nat} {Q2 : Option Value → am_St → Prop}
theorem am_sum (φ : Nat → Nat) (st : List Value) : ((st.map (am_v φ)).map fun v => v.category).sum = (st.map fun v => v.category).sum := by
  rw [List.map_map]
  congr 1
  exact List.map_congr_left (fun v _ => am_cat φ v)
theorem go_callV {k ci : Nat} {ks : List Nat} {r0 : vw_C} {As : List Value} (hd : decode M.2.1 pc = .ok (.invokevirtual idx, 3)) (hL : Cond.methodLink M.1.cls idx M2.1 ∈ am_tbl) (hM : am_MV M2 n) (hk : sh[k]? = some (.inr (ci, ks))) (hci : am_cl[ci]? = some r0) (hcn : r0.1 = M2.1.cls) (hn : As.length = n) (hr : (st.map fun v => v.category).sum ≤ 8) (hdep : d2 < d) (hE : am_Ev sh M2 d2 (.ref k :: As) σ Q2) (kk : ∀ r σ2, Q2 r σ2 → am_Go sh M d Q (pc + 3) lv (r.toList ++ st) σ2) : am_Go sh M d Q pc lv (As.reverse ++ .ref k :: st) σ := by
  intro p l e D dA z φ s m args below meth c C H locs ls hP hS hl
  obtain ⟨hM1, hM2, hM3, hM4, hM5, hM6⟩ := hM
  refine am_call (am_runV (Ts := am_wd M) (own := M.1.cls) (As := As) ⟨C.1, C.2.1, C.2.2.2.1, C.2.2.2.2.1, C.2.2.2.2.2.1⟩ (am_good hM4) C.2.2.2.2.2.2.2 (List.mem_cons_of_mem _ hL) (List.mem_cons_of_mem _ hM1) (List.mem_cons_of_mem _ hM2) (List.mem_cons_of_mem _ hM3) hM5 hE hP hk hci hcn ⟨hdep, by show 8 + (M2.2.2.1 + 11) + 32 * d2 ≤ 32 * d; omega⟩ hn hl.1 (rest := st.map (am_v φ)) ?_ (by rw [am_sum]; exact hr) hd ⟨Nat.le_refl _, Nat.le_refl _⟩) hS (fun r σ2 H1 locs1 hq hP1 hS1 => ?_)
  · rw [List.map_append, List.map_reverse]; rfl
  · have h := kk r σ2 hq p l e D dA z φ s m args below meth c C H1 locs1 ls hP1 hS1 hl
    cases r <;> exact h
theorem go_callS {As : List Value} (hd : decode M.2.1 pc = .ok (.invokestatic idx, 3)) (hL : Cond.methodLink M.1.cls idx M2.1 ∈ am_tbl) (hM : am_MS M2 n) (hn : As.length = n) (hr : (st.map fun v => v.category).sum ≤ 8) (hdep : d2 < d) (hE : am_Ev sh M2 d2 As σ Q2) (kk : ∀ r σ2, Q2 r σ2 → am_Go sh M d Q (pc + 3) lv (r.toList ++ st) σ2) : am_Go sh M d Q pc lv (As.reverse ++ st) σ := by
  intro p l e D dA z φ s m args below meth c C H locs ls hP hS hl
  obtain ⟨hM1, hM3, hM4, hM5, hM6⟩ := hM
  refine am_call (am_runS (Ts := am_wd M) (own := M.1.cls) (As := As) ⟨C.1, C.2.1, C.2.2.2.1, C.2.2.2.2.1, C.2.2.2.2.2.1⟩ (am_good hM4) C.2.2.2.2.2.2.2 (List.mem_cons_of_mem _ hL) (List.mem_cons_of_mem _ hM1) (List.mem_cons_of_mem _ hM3) hM5 hE hP ⟨hdep, by show 8 + (M2.2.2.1 + 11) + 32 * d2 ≤ 32 * d; omega⟩ hn hl.1 (rest := st.map (am_v φ)) ?_ (by rw [am_sum]; exact hr) hd ⟨Nat.le_refl _, Nat.le_refl _⟩) hS (fun r σ2 H1 locs1 hq hP1 hS1 => ?_)
  · rw [List.map_append, List.map_reverse]
  · have h := kk r σ2 hq p l e D dA z φ s m args below meth c C H1 locs1 ls hP1 hS1 hl
    cases r <;> exact h
theorem go_callSN {host : String} {As : List Value} (hd : decode M.2.1 pc = .ok (.invokestatic idx, 3)) (hL : Cond.methodLinkNest M.1.cls idx M2.1 host ∈ am_tbl) (hM : am_MS M2 n) (hn : As.length = n) (hr : (st.map fun v => v.category).sum ≤ 8) (hdep : d2 < d) (hE : am_Ev sh M2 d2 As σ Q2) (kk : ∀ r σ2, Q2 r σ2 → am_Go sh M d Q (pc + 3) lv (r.toList ++ st) σ2) : am_Go sh M d Q pc lv (As.reverse ++ st) σ := by
  intro p l e D dA z φ s m args below meth c C H locs ls hP hS hl
  obtain ⟨hM1, hM3, hM4, hM5, hM6⟩ := hM
  refine am_call (am_runSN (Ts := am_wd M) (own := M.1.cls) (host := host) (As := As) ⟨C.1, C.2.1, C.2.2.2.1, C.2.2.2.2.1, C.2.2.2.2.2.1⟩ (am_good hM4) C.2.2.2.2.2.2.2 (List.mem_cons_of_mem _ hL) (List.mem_cons_of_mem _ hM1) (List.mem_cons_of_mem _ hM3) hM5 hE hP ⟨hdep, by show 8 + (M2.2.2.1 + 11) + 32 * d2 ≤ 32 * d; omega⟩ hn hl.1 (rest := st.map (am_v φ)) ?_ (by rw [am_sum]; exact hr) hd ⟨Nat.le_refl _, Nat.le_refl _⟩) hS (fun r σ2 H1 locs1 hq hP1 hS1 => ?_)
  · rw [List.map_append, List.map_reverse]
  · have h := kk r σ2 hq p l e D dA z φ s m args below meth c C H1 locs1 ls hP1 hS1 hl
    cases r <;> exact h
end AMC
def am_ent : List Value → List (Option Value)
  | [] => []
  | v :: vs => if v.category = 2 then some v :: none :: am_ent vs else some v :: am_ent vs
theorem am_ent_args (φ : Nat → Nat) : ∀ (vs : List Value) (b i : Nat) (v : Value), (am_ent vs)[i]? = some (some v) → (b + i, am_v φ v) ∈ lv_args b (vs.map (am_v φ))
  | [], _, i, v, h => by simp [am_ent] at h
  | w :: vs, b, i, v, h => by
    unfold am_ent at h
    by_cases hc : w.category = 2
    · rw [if_pos hc] at h
      rcases i with _ | _ | i
      · rw [List.getElem?_cons_zero] at h
        cases h
        exact List.mem_cons_self
      · rw [List.getElem?_cons_succ, List.getElem?_cons_zero] at h
        cases h
      · rw [List.getElem?_cons_succ, List.getElem?_cons_succ] at h
        have := am_ent_args φ vs (b + 2) i v h
        show _ ∈ (b, am_v φ w) :: lv_args (if (am_v φ w).category = 2 then b + 2 else b + 1) (vs.map (am_v φ))
        rw [am_cat, if_pos hc]
        exact List.mem_cons_of_mem _ (by rw [show b + (i + 1 + 1) = b + 2 + i by omega]; exact this)
    · rw [if_neg hc] at h
      rcases i with _ | i
      · rw [List.getElem?_cons_zero] at h
        cases h
        exact List.mem_cons_self
      · rw [List.getElem?_cons_succ] at h
        have := am_ent_args φ vs (b + 1) i v h
        show _ ∈ (b, am_v φ w) :: lv_args (if (am_v φ w).category = 2 then b + 2 else b + 1) (vs.map (am_v φ))
        rw [am_cat, if_neg hc]
        exact List.mem_cons_of_mem _ (by rw [show b + (i + 1) = b + 1 + i by omega]; exact this)
theorem am_sl_len (φ : Nat → Nat) (vs : List Value) : (lg_sl (vs.map (am_v φ))).length = (am_ent vs).length := by
  induction vs with
  | nil => rfl
  | cons v vs ih =>
    have e1 : lg_sl ((v :: vs).map (am_v φ)) = (if (am_v φ v).category = 2 then [.val (am_v φ v), .second] else [.val (am_v φ v)]) ++ lg_sl (vs.map (am_v φ)) := rfl
    have e2 : am_ent (v :: vs) = if v.category = 2 then some v :: none :: am_ent vs else some v :: am_ent vs := rfl
    rw [e1, e2, am_cat]
    by_cases hc : v.category = 2
    · rw [if_pos hc, if_pos hc]; simp only [List.length_append, List.length_cons, List.length_nil]; omega
    · rw [if_neg hc, if_neg hc]; simp only [List.length_append, List.length_cons, List.length_nil]; omega
/-- a method's contract out of its body's walk -/
theorem am_ev {sh : am_Sh} {M : am_M} {d : Nat} {av : List Value} {σ : am_St} {Q : Option Value → am_St → Prop} (hy : plainName M.1.cls = true) (lv : List (Option Value)) (hlv : am_ent av ++ List.replicate (M.2.2.1 - (am_ent av).length) none = lv) (hle : (am_ent av).length ≤ M.2.2.1) (k : am_Go sh M d Q 0 lv [] σ) : am_Ev sh M d av σ Q := by
  intro l D dA z φ
  refine Met.ofW (cc := M.2.1) (maxL := M.2.2.1) (ret := M.2.2.2) hy rfl ?_
  intro p e s m args below meth c s₁ B hml hv
  obtain ⟨rfl, hP, hK⟩ := hv
  have hts := atoms_spec (ws := am_wd M) B.pre
  have hl := lv_entry (av.map (am_v φ)) (n := M.2.2.1) (by rw [am_sl_len]; exact hle)
  rw [lg_entry_eq]
  refine k p l e D dA z φ s m _ below meth c ⟨B.exec, B.bytes, B.returns, hml, findClass_of_methodNamed B.named, hts, B.notSynchronized, hK⟩ s.heap [] _ hP va_S.rf ⟨hl.1, hl.2.1, fun i v hi => ?_⟩
  subst hlv
  by_cases h : i < (am_ent av).length
  · rw [List.getElem?_append_left h] at hi
    have := am_ent_args φ av 0 i v hi
    rw [Nat.zero_add] at this
    exact hl.2.2 _ this
  · rw [List.getElem?_append_right (by omega)] at hi
    have := List.mem_of_getElem? hi
    rw [List.mem_replicate] at this
    cases this.2
end
