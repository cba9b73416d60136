section
-- ===== PART A: goes FIRST, ahead of the names: the tables' words, and 'selects' of the private methods out of them =====
/-- a private method of a class that the tables say can be made, by its rows of tables_1 -/
def lw_okq (q : MethodName × Nat) : Prop := (q.1.cls ≠ "java/lang/invoke/MethodHandle" ∧ q.1.cls ≠ "java/lang/invoke/VarHandle") ∧ Cond.instantiable q.1.cls q.2 ∈ tables_1 ∧ Cond.privateMethod q.1 ∈ tables_1 ∧ Cond.instanceMethod q.1 ∈ tables_1
theorem lw_p0 : lw_okq (⟨"java/lang/Throwable", "fillInStackTrace", "(I)Ljava/lang/Throwable;"⟩, 6) := ⟨⟨by decide +kernel, by decide +kernel⟩, List.mem_of_getElem? (i := 377) (by decide +kernel), List.mem_of_getElem? (i := 375) (by decide +kernel), List.mem_of_getElem? (i := 376) (by decide +kernel)⟩
theorem lw_p1 : lw_okq (⟨"BitLoom", "requireWord", "(I)V"⟩, 7) := ⟨⟨by decide +kernel, by decide +kernel⟩, List.mem_of_getElem? (i := 29) (by decide +kernel), List.mem_of_getElem? (i := 463) (by decide +kernel), List.mem_of_getElem? (i := 464) (by decide +kernel)⟩
theorem lw_p2 : lw_okq (⟨"BitLoom", "requireInUse", "(I)V"⟩, 7) := ⟨⟨by decide +kernel, by decide +kernel⟩, List.mem_of_getElem? (i := 29) (by decide +kernel), List.mem_of_getElem? (i := 467) (by decide +kernel), List.mem_of_getElem? (i := 468) (by decide +kernel)⟩
theorem lw_p3 : lw_okq (⟨"BitLoom", "requireField", "(C)I"⟩, 7) := ⟨⟨by decide +kernel, by decide +kernel⟩, List.mem_of_getElem? (i := 29) (by decide +kernel), List.mem_of_getElem? (i := 483) (by decide +kernel), List.mem_of_getElem? (i := 484) (by decide +kernel)⟩
theorem lw_p4 : lw_okq (⟨"BitLoom$Tokens", "cutOne", "(I)I"⟩, 6) := ⟨⟨by decide +kernel, by decide +kernel⟩, List.mem_of_getElem? (i := 100) (by decide +kernel), List.mem_of_getElem? (i := 561) (by decide +kernel), List.mem_of_getElem? (i := 562) (by decide +kernel)⟩
theorem lw_p5 : lw_okq (⟨"BitLoom$Tokens", "endOf", "(ICC)I"⟩, 6) := ⟨⟨by decide +kernel, by decide +kernel⟩, List.mem_of_getElem? (i := 100) (by decide +kernel), List.mem_of_getElem? (i := 568) (by decide +kernel), List.mem_of_getElem? (i := 569) (by decide +kernel)⟩
theorem lw_p6 : lw_okq (⟨"BitLoom$Tokens", "append", "(CII)I"⟩, 6) := ⟨⟨by decide +kernel, by decide +kernel⟩, List.mem_of_getElem? (i := 100) (by decide +kernel), List.mem_of_getElem? (i := 572) (by decide +kernel), List.mem_of_getElem? (i := 573) (by decide +kernel)⟩
theorem lw_p7 : lw_okq (⟨"BitLoom$Statement", "readCondition", "(I)I"⟩, 11) := ⟨⟨by decide +kernel, by decide +kernel⟩, List.mem_of_getElem? (i := 94) (by decide +kernel), List.mem_of_getElem? (i := 694) (by decide +kernel), List.mem_of_getElem? (i := 695) (by decide +kernel)⟩
theorem lw_p8 : lw_okq (⟨"BitLoom$Statement", "readClause", "(I)I"⟩, 11) := ⟨⟨by decide +kernel, by decide +kernel⟩, List.mem_of_getElem? (i := 94) (by decide +kernel), List.mem_of_getElem? (i := 698) (by decide +kernel), List.mem_of_getElem? (i := 699) (by decide +kernel)⟩
theorem lw_p9 : lw_okq (⟨"BitLoom$Statement", "readOne", "(I)I"⟩, 11) := ⟨⟨by decide +kernel, by decide +kernel⟩, List.mem_of_getElem? (i := 94) (by decide +kernel), List.mem_of_getElem? (i := 702) (by decide +kernel), List.mem_of_getElem? (i := 703) (by decide +kernel)⟩
theorem lw_p10 : lw_okq (⟨"BitLoom$Statement", "readComparison", "()I"⟩, 11) := ⟨⟨by decide +kernel, by decide +kernel⟩, List.mem_of_getElem? (i := 94) (by decide +kernel), List.mem_of_getElem? (i := 710) (by decide +kernel), List.mem_of_getElem? (i := 711) (by decide +kernel)⟩
theorem lw_p11 : lw_okq (⟨"BitLoom$Statement", "readOperand", "(LBitLoom$Operand;)V"⟩, 11) := ⟨⟨by decide +kernel, by decide +kernel⟩, List.mem_of_getElem? (i := 94) (by decide +kernel), List.mem_of_getElem? (i := 714) (by decide +kernel), List.mem_of_getElem? (i := 715) (by decide +kernel)⟩
theorem lw_p12 : lw_okq (⟨"BitLoom$Statement", "refuse", "()V"⟩, 11) := ⟨⟨by decide +kernel, by decide +kernel⟩, List.mem_of_getElem? (i := 94) (by decide +kernel), List.mem_of_getElem? (i := 730) (by decide +kernel), List.mem_of_getElem? (i := 731) (by decide +kernel)⟩
theorem lw_p13 : lw_okq (⟨"BitLoom$Statement", "readField", "()I"⟩, 11) := ⟨⟨by decide +kernel, by decide +kernel⟩, List.mem_of_getElem? (i := 94) (by decide +kernel), List.mem_of_getElem? (i := 740) (by decide +kernel), List.mem_of_getElem? (i := 741) (by decide +kernel)⟩
theorem lw_p14 : lw_okq (⟨"BitLoom$Statement", "readSign", "(CCC)C"⟩, 11) := ⟨⟨by decide +kernel, by decide +kernel⟩, List.mem_of_getElem? (i := 94) (by decide +kernel), List.mem_of_getElem? (i := 757) (by decide +kernel), List.mem_of_getElem? (i := 758) (by decide +kernel)⟩
theorem lw_p15 : lw_okq (⟨"BitLoom$Statement", "passSign", "(C)V"⟩, 11) := ⟨⟨by decide +kernel, by decide +kernel⟩, List.mem_of_getElem? (i := 94) (by decide +kernel), List.mem_of_getElem? (i := 774) (by decide +kernel), List.mem_of_getElem? (i := 775) (by decide +kernel)⟩
def lw_privs_1 : List (MethodName × Nat) := [(⟨"java/lang/Throwable", "fillInStackTrace", "(I)Ljava/lang/Throwable;"⟩, 6), (⟨"BitLoom", "requireWord", "(I)V"⟩, 7), (⟨"BitLoom", "requireInUse", "(I)V"⟩, 7), (⟨"BitLoom", "requireField", "(C)I"⟩, 7), (⟨"BitLoom$Tokens", "cutOne", "(I)I"⟩, 6), (⟨"BitLoom$Tokens", "endOf", "(ICC)I"⟩, 6), (⟨"BitLoom$Tokens", "append", "(CII)I"⟩, 6), (⟨"BitLoom$Statement", "readCondition", "(I)I"⟩, 11), (⟨"BitLoom$Statement", "readClause", "(I)I"⟩, 11), (⟨"BitLoom$Statement", "readOne", "(I)I"⟩, 11), (⟨"BitLoom$Statement", "readComparison", "()I"⟩, 11), (⟨"BitLoom$Statement", "readOperand", "(LBitLoom$Operand;)V"⟩, 11), (⟨"BitLoom$Statement", "refuse", "()V"⟩, 11), (⟨"BitLoom$Statement", "readField", "()I"⟩, 11), (⟨"BitLoom$Statement", "readSign", "(CCC)C"⟩, 11), (⟨"BitLoom$Statement", "passSign", "(C)V"⟩, 11)]
theorem lw_r1 : ∀ q ∈ lw_privs_1, lw_okq q := List.forall_mem_cons.mpr ⟨lw_p0, List.forall_mem_cons.mpr ⟨lw_p1, List.forall_mem_cons.mpr ⟨lw_p2, List.forall_mem_cons.mpr ⟨lw_p3, List.forall_mem_cons.mpr ⟨lw_p4, List.forall_mem_cons.mpr ⟨lw_p5, List.forall_mem_cons.mpr ⟨lw_p6, List.forall_mem_cons.mpr ⟨lw_p7, List.forall_mem_cons.mpr ⟨lw_p8, List.forall_mem_cons.mpr ⟨lw_p9, List.forall_mem_cons.mpr ⟨lw_p10, List.forall_mem_cons.mpr ⟨lw_p11, List.forall_mem_cons.mpr ⟨lw_p12, List.forall_mem_cons.mpr ⟨lw_p13, List.forall_mem_cons.mpr ⟨lw_p14, List.forall_mem_cons.mpr ⟨lw_p15, fun _ h => absurd h List.not_mem_nil⟩⟩⟩⟩⟩⟩⟩⟩⟩⟩⟩⟩⟩⟩⟩⟩
theorem lw_p16 : lw_okq (⟨"BitLoom$Statement", "readAction", "()V"⟩, 11) := ⟨⟨by decide +kernel, by decide +kernel⟩, List.mem_of_getElem? (i := 94) (by decide +kernel), List.mem_of_getElem? (i := 778) (by decide +kernel), List.mem_of_getElem? (i := 779) (by decide +kernel)⟩
theorem lw_p17 : lw_okq (⟨"BitLoom$Statement", "readVerb", "()V"⟩, 11) := ⟨⟨by decide +kernel, by decide +kernel⟩, List.mem_of_getElem? (i := 94) (by decide +kernel), List.mem_of_getElem? (i := 782) (by decide +kernel), List.mem_of_getElem? (i := 783) (by decide +kernel)⟩
theorem lw_p18 : lw_okq (⟨"BitLoom$Statement", "readChange", "(LBitLoom$Change;)V"⟩, 11) := ⟨⟨by decide +kernel, by decide +kernel⟩, List.mem_of_getElem? (i := 94) (by decide +kernel), List.mem_of_getElem? (i := 794) (by decide +kernel), List.mem_of_getElem? (i := 795) (by decide +kernel)⟩
theorem lw_p19 : lw_okq (⟨"BitLoom", "carryOut", "(I)I"⟩, 7) := ⟨⟨by decide +kernel, by decide +kernel⟩, List.mem_of_getElem? (i := 29) (by decide +kernel), List.mem_of_getElem? (i := 814) (by decide +kernel), List.mem_of_getElem? (i := 815) (by decide +kernel)⟩
theorem lw_p20 : lw_okq (⟨"BitLoom", "changeAll", "(I)I"⟩, 7) := ⟨⟨by decide +kernel, by decide +kernel⟩, List.mem_of_getElem? (i := 29) (by decide +kernel), List.mem_of_getElem? (i := 834) (by decide +kernel), List.mem_of_getElem? (i := 835) (by decide +kernel)⟩
theorem lw_p21 : lw_okq (⟨"BitLoom", "greatest", "(II)I"⟩, 7) := ⟨⟨by decide +kernel, by decide +kernel⟩, List.mem_of_getElem? (i := 29) (by decide +kernel), List.mem_of_getElem? (i := 860) (by decide +kernel), List.mem_of_getElem? (i := 861) (by decide +kernel)⟩
theorem lw_p22 : lw_okq (⟨"BitLoom", "valueOf", "(II)I"⟩, 7) := ⟨⟨by decide +kernel, by decide +kernel⟩, List.mem_of_getElem? (i := 29) (by decide +kernel), List.mem_of_getElem? (i := 864) (by decide +kernel), List.mem_of_getElem? (i := 865) (by decide +kernel)⟩
theorem lw_p23 : lw_okq (⟨"BitLoom", "least", "(II)I"⟩, 7) := ⟨⟨by decide +kernel, by decide +kernel⟩, List.mem_of_getElem? (i := 29) (by decide +kernel), List.mem_of_getElem? (i := 869) (by decide +kernel), List.mem_of_getElem? (i := 870) (by decide +kernel)⟩
theorem lw_p24 : lw_okq (⟨"BitLoom", "total", "(II)I"⟩, 7) := ⟨⟨by decide +kernel, by decide +kernel⟩, List.mem_of_getElem? (i := 29) (by decide +kernel), List.mem_of_getElem? (i := 874) (by decide +kernel), List.mem_of_getElem? (i := 875) (by decide +kernel)⟩
theorem lw_p25 : lw_okq (⟨"BitLoom", "listAll", "(II)I"⟩, 7) := ⟨⟨by decide +kernel, by decide +kernel⟩, List.mem_of_getElem? (i := 29) (by decide +kernel), List.mem_of_getElem? (i := 878) (by decide +kernel), List.mem_of_getElem? (i := 879) (by decide +kernel)⟩
theorem lw_p26 : lw_okq (⟨"BitLoom", "sortIn", "(II)V"⟩, 7) := ⟨⟨by decide +kernel, by decide +kernel⟩, List.mem_of_getElem? (i := 29) (by decide +kernel), List.mem_of_getElem? (i := 882) (by decide +kernel), List.mem_of_getElem? (i := 883) (by decide +kernel)⟩
theorem lw_p27 : lw_okq (⟨"BitLoomModel", "fieldOf", "(C)I"⟩, 38) := ⟨⟨by decide +kernel, by decide +kernel⟩, List.mem_of_getElem? (i := 911) (by decide +kernel), List.mem_of_getElem? (i := 1040) (by decide +kernel), List.mem_of_getElem? (i := 1041) (by decide +kernel)⟩
theorem lw_p28 : lw_okq (⟨"BitLoomModel", "fits", "(II)Z"⟩, 38) := ⟨⟨by decide +kernel, by decide +kernel⟩, List.mem_of_getElem? (i := 911) (by decide +kernel), List.mem_of_getElem? (i := 1059) (by decide +kernel), List.mem_of_getElem? (i := 1060) (by decide +kernel)⟩
theorem lw_p29 : lw_okq (⟨"BitLoomModel", "setValue", "(III)V"⟩, 38) := ⟨⟨by decide +kernel, by decide +kernel⟩, List.mem_of_getElem? (i := 911) (by decide +kernel), List.mem_of_getElem? (i := 1063) (by decide +kernel), List.mem_of_getElem? (i := 1064) (by decide +kernel)⟩
theorem lw_p30 : lw_okq (⟨"BitLoomModel", "valueOf", "(II)I"⟩, 38) := ⟨⟨by decide +kernel, by decide +kernel⟩, List.mem_of_getElem? (i := 911) (by decide +kernel), List.mem_of_getElem? (i := 1071) (by decide +kernel), List.mem_of_getElem? (i := 1072) (by decide +kernel)⟩
theorem lw_p31 : lw_okq (⟨"BitLoomModel", "readText", "()I"⟩, 38) := ⟨⟨by decide +kernel, by decide +kernel⟩, List.mem_of_getElem? (i := 911) (by decide +kernel), List.mem_of_getElem? (i := 1109) (by decide +kernel), List.mem_of_getElem? (i := 1110) (by decide +kernel)⟩
def lw_privs_2 : List (MethodName × Nat) := [(⟨"BitLoom$Statement", "readAction", "()V"⟩, 11), (⟨"BitLoom$Statement", "readVerb", "()V"⟩, 11), (⟨"BitLoom$Statement", "readChange", "(LBitLoom$Change;)V"⟩, 11), (⟨"BitLoom", "carryOut", "(I)I"⟩, 7), (⟨"BitLoom", "changeAll", "(I)I"⟩, 7), (⟨"BitLoom", "greatest", "(II)I"⟩, 7), (⟨"BitLoom", "valueOf", "(II)I"⟩, 7), (⟨"BitLoom", "least", "(II)I"⟩, 7), (⟨"BitLoom", "total", "(II)I"⟩, 7), (⟨"BitLoom", "listAll", "(II)I"⟩, 7), (⟨"BitLoom", "sortIn", "(II)V"⟩, 7), (⟨"BitLoomModel", "fieldOf", "(C)I"⟩, 38), (⟨"BitLoomModel", "fits", "(II)Z"⟩, 38), (⟨"BitLoomModel", "setValue", "(III)V"⟩, 38), (⟨"BitLoomModel", "valueOf", "(II)I"⟩, 38), (⟨"BitLoomModel", "readText", "()I"⟩, 38)]
theorem lw_r2 : ∀ q ∈ lw_privs_2, lw_okq q := List.forall_mem_cons.mpr ⟨lw_p16, List.forall_mem_cons.mpr ⟨lw_p17, List.forall_mem_cons.mpr ⟨lw_p18, List.forall_mem_cons.mpr ⟨lw_p19, List.forall_mem_cons.mpr ⟨lw_p20, List.forall_mem_cons.mpr ⟨lw_p21, List.forall_mem_cons.mpr ⟨lw_p22, List.forall_mem_cons.mpr ⟨lw_p23, List.forall_mem_cons.mpr ⟨lw_p24, List.forall_mem_cons.mpr ⟨lw_p25, List.forall_mem_cons.mpr ⟨lw_p26, List.forall_mem_cons.mpr ⟨lw_p27, List.forall_mem_cons.mpr ⟨lw_p28, List.forall_mem_cons.mpr ⟨lw_p29, List.forall_mem_cons.mpr ⟨lw_p30, List.forall_mem_cons.mpr ⟨lw_p31, fun _ h => absurd h List.not_mem_nil⟩⟩⟩⟩⟩⟩⟩⟩⟩⟩⟩⟩⟩⟩⟩⟩
theorem lw_p32 : lw_okq (⟨"BitLoomModel", "scan", "(I)V"⟩, 38) := ⟨⟨by decide +kernel, by decide +kernel⟩, List.mem_of_getElem? (i := 911) (by decide +kernel), List.mem_of_getElem? (i := 1113) (by decide +kernel), List.mem_of_getElem? (i := 1114) (by decide +kernel)⟩
theorem lw_p33 : lw_okq (⟨"BitLoomModel", "see", "(I)C"⟩, 38) := ⟨⟨by decide +kernel, by decide +kernel⟩, List.mem_of_getElem? (i := 911) (by decide +kernel), List.mem_of_getElem? (i := 1117) (by decide +kernel), List.mem_of_getElem? (i := 1118) (by decide +kernel)⟩
theorem lw_p34 : lw_okq (⟨"BitLoomModel", "next", "(I)I"⟩, 38) := ⟨⟨by decide +kernel, by decide +kernel⟩, List.mem_of_getElem? (i := 911) (by decide +kernel), List.mem_of_getElem? (i := 1131) (by decide +kernel), List.mem_of_getElem? (i := 1132) (by decide +kernel)⟩
theorem lw_p35 : lw_okq (⟨"BitLoomModel", "start", "()I"⟩, 38) := ⟨⟨by decide +kernel, by decide +kernel⟩, List.mem_of_getElem? (i := 911) (by decide +kernel), List.mem_of_getElem? (i := 1135) (by decide +kernel), List.mem_of_getElem? (i := 1136) (by decide +kernel)⟩
theorem lw_p36 : lw_okq (⟨"BitLoomModel", "emit", "(II)V"⟩, 38) := ⟨⟨by decide +kernel, by decide +kernel⟩, List.mem_of_getElem? (i := 911) (by decide +kernel), List.mem_of_getElem? (i := 1140) (by decide +kernel), List.mem_of_getElem? (i := 1141) (by decide +kernel)⟩
theorem lw_p37 : lw_okq (⟨"BitLoomModel", "act", "()I"⟩, 38) := ⟨⟨by decide +kernel, by decide +kernel⟩, List.mem_of_getElem? (i := 911) (by decide +kernel), List.mem_of_getElem? (i := 1144) (by decide +kernel), List.mem_of_getElem? (i := 1145) (by decide +kernel)⟩
theorem lw_p38 : lw_okq (⟨"BitLoomModel", "one", "()I"⟩, 38) := ⟨⟨by decide +kernel, by decide +kernel⟩, List.mem_of_getElem? (i := 911) (by decide +kernel), List.mem_of_getElem? (i := 1157) (by decide +kernel), List.mem_of_getElem? (i := 1158) (by decide +kernel)⟩
theorem lw_p39 : lw_okq (⟨"BitLoomModel", "isIt", "(C)Z"⟩, 38) := ⟨⟨by decide +kernel, by decide +kernel⟩, List.mem_of_getElem? (i := 911) (by decide +kernel), List.mem_of_getElem? (i := 1161) (by decide +kernel), List.mem_of_getElem? (i := 1162) (by decide +kernel)⟩
theorem lw_p40 : lw_okq (⟨"BitLoomModel", "push", "(I)V"⟩, 38) := ⟨⟨by decide +kernel, by decide +kernel⟩, List.mem_of_getElem? (i := 911) (by decide +kernel), List.mem_of_getElem? (i := 1165) (by decide +kernel), List.mem_of_getElem? (i := 1166) (by decide +kernel)⟩
theorem lw_p41 : lw_okq (⟨"BitLoomModel", "operand", "(II)I"⟩, 38) := ⟨⟨by decide +kernel, by decide +kernel⟩, List.mem_of_getElem? (i := 911) (by decide +kernel), List.mem_of_getElem? (i := 1169) (by decide +kernel), List.mem_of_getElem? (i := 1170) (by decide +kernel)⟩
theorem lw_p42 : lw_okq (⟨"BitLoomModel", "wholeOne", "()I"⟩, 38) := ⟨⟨by decide +kernel, by decide +kernel⟩, List.mem_of_getElem? (i := 911) (by decide +kernel), List.mem_of_getElem? (i := 1173) (by decide +kernel), List.mem_of_getElem? (i := 1174) (by decide +kernel)⟩
theorem lw_p43 : lw_okq (⟨"BitLoomModel", "denied", "()V"⟩, 38) := ⟨⟨by decide +kernel, by decide +kernel⟩, List.mem_of_getElem? (i := 911) (by decide +kernel), List.mem_of_getElem? (i := 1177) (by decide +kernel), List.mem_of_getElem? (i := 1178) (by decide +kernel)⟩
theorem lw_p44 : lw_okq (⟨"BitLoomModel", "upper", "()I"⟩, 38) := ⟨⟨by decide +kernel, by decide +kernel⟩, List.mem_of_getElem? (i := 911) (by decide +kernel), List.mem_of_getElem? (i := 1181) (by decide +kernel), List.mem_of_getElem? (i := 1182) (by decide +kernel)⟩
theorem lw_p45 : lw_okq (⟨"BitLoomModel", "named", "()I"⟩, 38) := ⟨⟨by decide +kernel, by decide +kernel⟩, List.mem_of_getElem? (i := 911) (by decide +kernel), List.mem_of_getElem? (i := 1185) (by decide +kernel), List.mem_of_getElem? (i := 1186) (by decide +kernel)⟩
theorem lw_p46 : lw_okq (⟨"BitLoomModel", "negative", "(I)I"⟩, 38) := ⟨⟨by decide +kernel, by decide +kernel⟩, List.mem_of_getElem? (i := 911) (by decide +kernel), List.mem_of_getElem? (i := 1189) (by decide +kernel), List.mem_of_getElem? (i := 1190) (by decide +kernel)⟩
theorem lw_p47 : lw_okq (⟨"BitLoomModel", "relate", "()I"⟩, 38) := ⟨⟨by decide +kernel, by decide +kernel⟩, List.mem_of_getElem? (i := 911) (by decide +kernel), List.mem_of_getElem? (i := 1193) (by decide +kernel), List.mem_of_getElem? (i := 1194) (by decide +kernel)⟩
def lw_privs_3 : List (MethodName × Nat) := [(⟨"BitLoomModel", "scan", "(I)V"⟩, 38), (⟨"BitLoomModel", "see", "(I)C"⟩, 38), (⟨"BitLoomModel", "next", "(I)I"⟩, 38), (⟨"BitLoomModel", "start", "()I"⟩, 38), (⟨"BitLoomModel", "emit", "(II)V"⟩, 38), (⟨"BitLoomModel", "act", "()I"⟩, 38), (⟨"BitLoomModel", "one", "()I"⟩, 38), (⟨"BitLoomModel", "isIt", "(C)Z"⟩, 38), (⟨"BitLoomModel", "push", "(I)V"⟩, 38), (⟨"BitLoomModel", "operand", "(II)I"⟩, 38), (⟨"BitLoomModel", "wholeOne", "()I"⟩, 38), (⟨"BitLoomModel", "denied", "()V"⟩, 38), (⟨"BitLoomModel", "upper", "()I"⟩, 38), (⟨"BitLoomModel", "named", "()I"⟩, 38), (⟨"BitLoomModel", "negative", "(I)I"⟩, 38), (⟨"BitLoomModel", "relate", "()I"⟩, 38)]
theorem lw_r3 : ∀ q ∈ lw_privs_3, lw_okq q := List.forall_mem_cons.mpr ⟨lw_p32, List.forall_mem_cons.mpr ⟨lw_p33, List.forall_mem_cons.mpr ⟨lw_p34, List.forall_mem_cons.mpr ⟨lw_p35, List.forall_mem_cons.mpr ⟨lw_p36, List.forall_mem_cons.mpr ⟨lw_p37, List.forall_mem_cons.mpr ⟨lw_p38, List.forall_mem_cons.mpr ⟨lw_p39, List.forall_mem_cons.mpr ⟨lw_p40, List.forall_mem_cons.mpr ⟨lw_p41, List.forall_mem_cons.mpr ⟨lw_p42, List.forall_mem_cons.mpr ⟨lw_p43, List.forall_mem_cons.mpr ⟨lw_p44, List.forall_mem_cons.mpr ⟨lw_p45, List.forall_mem_cons.mpr ⟨lw_p46, List.forall_mem_cons.mpr ⟨lw_p47, fun _ h => absurd h List.not_mem_nil⟩⟩⟩⟩⟩⟩⟩⟩⟩⟩⟩⟩⟩⟩⟩⟩
theorem lw_p48 : lw_okq (⟨"BitLoomModel", "afterOne", "()I"⟩, 38) := ⟨⟨by decide +kernel, by decide +kernel⟩, List.mem_of_getElem? (i := 911) (by decide +kernel), List.mem_of_getElem? (i := 1197) (by decide +kernel), List.mem_of_getElem? (i := 1198) (by decide +kernel)⟩
theorem lw_p49 : lw_okq (⟨"BitLoomModel", "settle", "(II)V"⟩, 38) := ⟨⟨by decide +kernel, by decide +kernel⟩, List.mem_of_getElem? (i := 911) (by decide +kernel), List.mem_of_getElem? (i := 1201) (by decide +kernel), List.mem_of_getElem? (i := 1202) (by decide +kernel)⟩
theorem lw_p50 : lw_okq (⟨"BitLoomModel", "pick", "(I)I"⟩, 38) := ⟨⟨by decide +kernel, by decide +kernel⟩, List.mem_of_getElem? (i := 911) (by decide +kernel), List.mem_of_getElem? (i := 1205) (by decide +kernel), List.mem_of_getElem? (i := 1206) (by decide +kernel)⟩
theorem lw_p51 : lw_okq (⟨"BitLoomModel", "part", "(ZZII)I"⟩, 38) := ⟨⟨by decide +kernel, by decide +kernel⟩, List.mem_of_getElem? (i := 911) (by decide +kernel), List.mem_of_getElem? (i := 1209) (by decide +kernel), List.mem_of_getElem? (i := 1210) (by decide +kernel)⟩
theorem lw_p52 : lw_okq (⟨"BitLoomModel", "afterFirst", "()I"⟩, 38) := ⟨⟨by decide +kernel, by decide +kernel⟩, List.mem_of_getElem? (i := 911) (by decide +kernel), List.mem_of_getElem? (i := 1213) (by decide +kernel), List.mem_of_getElem? (i := 1214) (by decide +kernel)⟩
theorem lw_p53 : lw_okq (⟨"BitLoomModel", "afterChange", "()I"⟩, 38) := ⟨⟨by decide +kernel, by decide +kernel⟩, List.mem_of_getElem? (i := 911) (by decide +kernel), List.mem_of_getElem? (i := 1217) (by decide +kernel), List.mem_of_getElem? (i := 1218) (by decide +kernel)⟩
theorem lw_p54 : lw_okq (⟨"BitLoomModel", "isTaken", "(I)Z"⟩, 38) := ⟨⟨by decide +kernel, by decide +kernel⟩, List.mem_of_getElem? (i := 911) (by decide +kernel), List.mem_of_getElem? (i := 1221) (by decide +kernel), List.mem_of_getElem? (i := 1222) (by decide +kernel)⟩
theorem lw_p55 : lw_okq (⟨"BitLoomModel", "changeAll", "()I"⟩, 38) := ⟨⟨by decide +kernel, by decide +kernel⟩, List.mem_of_getElem? (i := 911) (by decide +kernel), List.mem_of_getElem? (i := 1228) (by decide +kernel), List.mem_of_getElem? (i := 1229) (by decide +kernel)⟩
theorem lw_p56 : lw_okq (⟨"BitLoomModel", "change", "(I)Z"⟩, 38) := ⟨⟨by decide +kernel, by decide +kernel⟩, List.mem_of_getElem? (i := 911) (by decide +kernel), List.mem_of_getElem? (i := 1232) (by decide +kernel), List.mem_of_getElem? (i := 1233) (by decide +kernel)⟩
theorem lw_p57 : lw_okq (⟨"BitLoomModel", "resultOf", "(II)I"⟩, 38) := ⟨⟨by decide +kernel, by decide +kernel⟩, List.mem_of_getElem? (i := 911) (by decide +kernel), List.mem_of_getElem? (i := 1236) (by decide +kernel), List.mem_of_getElem? (i := 1237) (by decide +kernel)⟩
theorem lw_p58 : lw_okq (⟨"BitLoomModel", "listAll", "()I"⟩, 38) := ⟨⟨by decide +kernel, by decide +kernel⟩, List.mem_of_getElem? (i := 911) (by decide +kernel), List.mem_of_getElem? (i := 1240) (by decide +kernel), List.mem_of_getElem? (i := 1241) (by decide +kernel)⟩
theorem lw_p59 : lw_okq (⟨"BitLoomModel", "gather", "()I"⟩, 38) := ⟨⟨by decide +kernel, by decide +kernel⟩, List.mem_of_getElem? (i := 911) (by decide +kernel), List.mem_of_getElem? (i := 1244) (by decide +kernel), List.mem_of_getElem? (i := 1245) (by decide +kernel)⟩
def lw_privs_4 : List (MethodName × Nat) := [(⟨"BitLoomModel", "afterOne", "()I"⟩, 38), (⟨"BitLoomModel", "settle", "(II)V"⟩, 38), (⟨"BitLoomModel", "pick", "(I)I"⟩, 38), (⟨"BitLoomModel", "part", "(ZZII)I"⟩, 38), (⟨"BitLoomModel", "afterFirst", "()I"⟩, 38), (⟨"BitLoomModel", "afterChange", "()I"⟩, 38), (⟨"BitLoomModel", "isTaken", "(I)Z"⟩, 38), (⟨"BitLoomModel", "changeAll", "()I"⟩, 38), (⟨"BitLoomModel", "change", "(I)Z"⟩, 38), (⟨"BitLoomModel", "resultOf", "(II)I"⟩, 38), (⟨"BitLoomModel", "listAll", "()I"⟩, 38), (⟨"BitLoomModel", "gather", "()I"⟩, 38)]
theorem lw_r4 : ∀ q ∈ lw_privs_4, lw_okq q := List.forall_mem_cons.mpr ⟨lw_p48, List.forall_mem_cons.mpr ⟨lw_p49, List.forall_mem_cons.mpr ⟨lw_p50, List.forall_mem_cons.mpr ⟨lw_p51, List.forall_mem_cons.mpr ⟨lw_p52, List.forall_mem_cons.mpr ⟨lw_p53, List.forall_mem_cons.mpr ⟨lw_p54, List.forall_mem_cons.mpr ⟨lw_p55, List.forall_mem_cons.mpr ⟨lw_p56, List.forall_mem_cons.mpr ⟨lw_p57, List.forall_mem_cons.mpr ⟨lw_p58, List.forall_mem_cons.mpr ⟨lw_p59, fun _ h => absurd h List.not_mem_nil⟩⟩⟩⟩⟩⟩⟩⟩⟩⟩⟩⟩
def lw_privs : List (MethodName × Nat) := lw_privs_1 ++ (lw_privs_2 ++ (lw_privs_3 ++ (lw_privs_4)))
def lw_tbl : List Cond := k2_sels lw_privs ++ tables_1
theorem lw_privs_ok : ∀ q ∈ lw_privs, lw_okq q := by
  show ∀ q ∈ lw_privs_1 ++ (lw_privs_2 ++ (lw_privs_3 ++ (lw_privs_4))), lw_okq q
  exact List.forall_mem_append.mpr ⟨lw_r1, List.forall_mem_append.mpr ⟨lw_r2, List.forall_mem_append.mpr ⟨lw_r3, lw_r4⟩⟩⟩
end
section
/-! classes, fields, methods, by program out of the Statement -/
def R_B : String := "BitLoom"
def T_B : u_T := fun k => match k with
  | 0 => ("BitLoom", "fields", "LBitLoom$Fields;", true)
  | 1 => ("BitLoom", "words", "LBitLoom$Words;", true)
  | 2 => ("BitLoom", "text", "LBitLoom$Text;", true)
  | 3 => ("BitLoom", "statement", "LBitLoom$Statement;", true)
  | 4 => ("BitLoom", "list", "[I", true)
  | 5 => ("BitLoom", "listLength", "I", false)
  | _ => ("BitLoom", "refusals", "I", false)
def ty_B : Nat → FieldType := fun k => match k with
  | 0 => (.object "BitLoom$Fields")
  | 1 => (.object "BitLoom$Words")
  | 2 => (.object "BitLoom$Text")
  | 3 => (.object "BitLoom$Statement")
  | 4 => (.array .int)
  | 5 => .int
  | _ => .int
theorem nm_B : ∀ a, a < 7 → ∀ b, b < 7 → a ≠ b → (T_B a).2.1 ≠ (T_B b).2.1 := by decide +kernel
theorem tk_B : ∀ k, k < 7 → parseFieldDescriptor (T_B k).2.2.1 = some (ty_B k) := by decide +kernel
def R_F : String := "BitLoom$Fields"
def T_F : u_T := fun k => match k with
  | 0 => ("BitLoom$Fields", "names", "[C", true)
  | 1 => ("BitLoom$Fields", "firsts", "[I", true)
  | 2 => ("BitLoom$Fields", "widths", "[I", true)
  | 3 => ("BitLoom$Fields", "signs", "[Z", true)
  | 4 => ("BitLoom$Fields", "count", "I", false)
  | _ => ("BitLoom$Fields", "covered", "I", false)
def ty_F : Nat → FieldType := fun k => match k with
  | 0 => (.array .char)
  | 1 => (.array .int)
  | 2 => (.array .int)
  | 3 => (.array .boolean)
  | 4 => .int
  | _ => .int
theorem nm_F : ∀ a, a < 6 → ∀ b, b < 6 → a ≠ b → (T_F a).2.1 ≠ (T_F b).2.1 := by decide +kernel
theorem tk_F : ∀ k, k < 6 → parseFieldDescriptor (T_F k).2.2.1 = some (ty_F k) := by decide +kernel
def R_W : String := "BitLoom$Words"
def T_W : u_T := fun k => match k with
  | 0 => ("BitLoom$Words", "bits", "[I", true)
  | 1 => ("BitLoom$Words", "inUse", "I", false)
  | _ => ("BitLoom$Words", "responding", "I", false)
def ty_W : Nat → FieldType := fun k => match k with
  | 0 => (.array .int)
  | 1 => .int
  | _ => .int
theorem nm_W : ∀ a, a < 3 → ∀ b, b < 3 → a ≠ b → (T_W a).2.1 ≠ (T_W b).2.1 := by decide +kernel
theorem tk_W : ∀ k, k < 3 → parseFieldDescriptor (T_W k).2.2.1 = some (ty_W k) := by decide +kernel
def R_T : String := "BitLoom$Text"
def T_T : u_T := fun k => match k with
  | 0 => ("BitLoom$Text", "characters", "[C", true)
  | _ => ("BitLoom$Text", "length", "I", false)
def ty_T : Nat → FieldType := fun k => match k with
  | 0 => (.array .char)
  | _ => .int
theorem nm_T : ∀ a, a < 2 → ∀ b, b < 2 → a ≠ b → (T_T a).2.1 ≠ (T_T b).2.1 := by decide +kernel
theorem tk_T : ∀ k, k < 2 → parseFieldDescriptor (T_T k).2.2.1 = some (ty_T k) := by decide +kernel
def R_K : String := "BitLoom$Tokens"
def T_K : u_T := fun k => match k with
  | 0 => ("BitLoom$Tokens", "text", "LBitLoom$Text;", true)
  | 1 => ("BitLoom$Tokens", "kinds", "[C", true)
  | 2 => ("BitLoom$Tokens", "starts", "[I", true)
  | 3 => ("BitLoom$Tokens", "ends", "[I", true)
  | 4 => ("BitLoom$Tokens", "count", "I", false)
  | _ => ("BitLoom$Tokens", "at", "I", false)
def ty_K : Nat → FieldType := fun k => match k with
  | 0 => (.object "BitLoom$Text")
  | 1 => (.array .char)
  | 2 => (.array .int)
  | 3 => (.array .int)
  | 4 => .int
  | _ => .int
theorem nm_K : ∀ a, a < 6 → ∀ b, b < 6 → a ≠ b → (T_K a).2.1 ≠ (T_K b).2.1 := by decide +kernel
theorem tk_K : ∀ k, k < 6 → parseFieldDescriptor (T_K k).2.2.1 = some (ty_K k) := by decide +kernel
def R_O : String := "BitLoom$Operand"
def T_O : u_T := fun k => match k with
  | 0 => ("BitLoom$Operand", "fields", "LBitLoom$Fields;", true)
  | 1 => ("BitLoom$Operand", "field", "I", false)
  | _ => ("BitLoom$Operand", "number", "I", false)
def ty_O : Nat → FieldType := fun k => match k with
  | 0 => (.object "BitLoom$Fields")
  | 1 => .int
  | _ => .int
theorem nm_O : ∀ a, a < 3 → ∀ b, b < 3 → a ≠ b → (T_O a).2.1 ≠ (T_O b).2.1 := by decide +kernel
theorem tk_O : ∀ k, k < 3 → parseFieldDescriptor (T_O k).2.2.1 = some (ty_O k) := by decide +kernel
def R_P : String := "BitLoom$Pair"
def T_P : u_T := fun k => match k with
  | 0 => ("BitLoom$Pair", "left", "LBitLoom$Operand;", true)
  | 1 => ("BitLoom$Pair", "right", "LBitLoom$Operand;", true)
  | _ => ("BitLoom$Pair", "sign", "C", false)
def ty_P : Nat → FieldType := fun k => match k with
  | 0 => (.object "BitLoom$Operand")
  | 1 => (.object "BitLoom$Operand")
  | _ => .char
theorem nm_P : ∀ a, a < 3 → ∀ b, b < 3 → a ≠ b → (T_P a).2.1 ≠ (T_P b).2.1 := by decide +kernel
theorem tk_P : ∀ k, k < 3 → parseFieldDescriptor (T_P k).2.2.1 = some (ty_P k) := by decide +kernel
def R_C : String := "BitLoom$Change"
def T_C : u_T := fun k => match k with
  | 0 => ("BitLoom$Change", "fields", "LBitLoom$Fields;", true)
  | 1 => ("BitLoom$Change", "operands", "LBitLoom$Pair;", true)
  | _ => ("BitLoom$Change", "target", "I", false)
def ty_C : Nat → FieldType := fun k => match k with
  | 0 => (.object "BitLoom$Fields")
  | 1 => (.object "BitLoom$Pair")
  | _ => .int
theorem nm_C : ∀ a, a < 3 → ∀ b, b < 3 → a ≠ b → (T_C a).2.1 ≠ (T_C b).2.1 := by decide +kernel
theorem tk_C : ∀ k, k < 3 → parseFieldDescriptor (T_C k).2.2.1 = some (ty_C k) := by decide +kernel
def R_S : String := "BitLoom$Statement"
def T_S : u_T := fun k => match k with
  | 0 => ("BitLoom$Statement", "fields", "LBitLoom$Fields;", true)
  | 1 => ("BitLoom$Statement", "words", "LBitLoom$Words;", true)
  | 2 => ("BitLoom$Statement", "tokens", "LBitLoom$Tokens;", true)
  | 3 => ("BitLoom$Statement", "compared", "LBitLoom$Pair;", true)
  | 4 => ("BitLoom$Statement", "change", "LBitLoom$Change;", true)
  | 5 => ("BitLoom$Statement", "secondChange", "LBitLoom$Change;", true)
  | 6 => ("BitLoom$Statement", "hasSecondChange", "Z", false)
  | 7 => ("BitLoom$Statement", "action", "LBitLoom$Action;", false)
  | 8 => ("BitLoom$Statement", "subject", "I", false)
  | 9 => ("BitLoom$Statement", "taken", "I", false)
  | _ => ("BitLoom$Statement", "wrongAt", "I", false)
def ty_S : Nat → FieldType := fun k => match k with
  | 0 => (.object "BitLoom$Fields")
  | 1 => (.object "BitLoom$Words")
  | 2 => (.object "BitLoom$Tokens")
  | 3 => (.object "BitLoom$Pair")
  | 4 => (.object "BitLoom$Change")
  | 5 => (.object "BitLoom$Change")
  | 6 => .boolean
  | 7 => (.object "BitLoom$Action")
  | 8 => .int
  | 9 => .int
  | _ => .int
theorem nm_S : ∀ a, a < 11 → ∀ b, b < 11 → a ≠ b → (T_S a).2.1 ≠ (T_S b).2.1 := by decide +kernel
theorem tk_S : ∀ k, k < 11 → parseFieldDescriptor (T_S k).2.2.1 = some (ty_S k) := by decide +kernel
def R_M : String := "BitLoomModel"
def T_M : u_T := fun k => match k with
  | 0 => ("BitLoomModel", "code", "I", false)
  | 1 => ("BitLoomModel", "used", "[Z", true)
  | 2 => ("BitLoomModel", "bits", "[I", true)
  | 3 => ("BitLoomModel", "responds", "[Z", true)
  | 4 => ("BitLoomModel", "fields", "I", false)
  | 5 => ("BitLoomModel", "names", "[C", true)
  | 6 => ("BitLoomModel", "lows", "[I", true)
  | 7 => ("BitLoomModel", "widths", "[I", true)
  | 8 => ("BitLoomModel", "signs", "[Z", true)
  | 9 => ("BitLoomModel", "typed", "I", false)
  | 10 => ("BitLoomModel", "text", "[C", true)
  | 11 => ("BitLoomModel", "place", "I", false)
  | 12 => ("BitLoomModel", "refused", "I", false)
  | 13 => ("BitLoomModel", "many", "I", false)
  | 14 => ("BitLoomModel", "list", "[I", true)
  | 15 => ("BitLoomModel", "kind", "I", false)
  | 16 => ("BitLoomModel", "begin", "I", false)
  | 17 => ("BitLoomModel", "end", "I", false)
  | 18 => ("BitLoomModel", "amount", "I", false)
  | 19 => ("BitLoomModel", "letters", "J", false)
  | 20 => ("BitLoomModel", "length", "I", false)
  | 21 => ("BitLoomModel", "order", "[I", true)
  | 22 => ("BitLoomModel", "arg", "[I", true)
  | 23 => ("BitLoomModel", "open", "I", false)
  | 24 => ("BitLoomModel", "pile", "[I", true)
  | 25 => ("BitLoomModel", "nested", "I", false)
  | 26 => ("BitLoomModel", "relation", "I", false)
  | 27 => ("BitLoomModel", "action", "I", false)
  | 28 => ("BitLoomModel", "of", "I", false)
  | 29 => ("BitLoomModel", "changes", "I", false)
  | 30 => ("BitLoomModel", "target", "[I", true)
  | 31 => ("BitLoomModel", "oneField", "[I", true)
  | 32 => ("BitLoomModel", "oneNumber", "[I", true)
  | 33 => ("BitLoomModel", "how", "[I", true)
  | 34 => ("BitLoomModel", "twoField", "[I", true)
  | 35 => ("BitLoomModel", "twoNumber", "[I", true)
  | 36 => ("BitLoomModel", "high", "I", false)
  | _ => ("BitLoomModel", "stack", "[I", true)
def ty_M : Nat → FieldType := fun k => match k with
  | 0 => .int
  | 1 => (.array .boolean)
  | 2 => (.array .int)
  | 3 => (.array .boolean)
  | 4 => .int
  | 5 => (.array .char)
  | 6 => (.array .int)
  | 7 => (.array .int)
  | 8 => (.array .boolean)
  | 9 => .int
  | 10 => (.array .char)
  | 11 => .int
  | 12 => .int
  | 13 => .int
  | 14 => (.array .int)
  | 15 => .int
  | 16 => .int
  | 17 => .int
  | 18 => .int
  | 19 => .long
  | 20 => .int
  | 21 => (.array .int)
  | 22 => (.array .int)
  | 23 => .int
  | 24 => (.array .int)
  | 25 => .int
  | 26 => .int
  | 27 => .int
  | 28 => .int
  | 29 => .int
  | 30 => (.array .int)
  | 31 => (.array .int)
  | 32 => (.array .int)
  | 33 => (.array .int)
  | 34 => (.array .int)
  | 35 => (.array .int)
  | 36 => .int
  | _ => (.array .int)
theorem nm_M : ∀ a, a < 38 → ∀ b, b < 38 → a ≠ b → (T_M a).2.1 ≠ (T_M b).2.1 := by decide +kernel
theorem tk_M : ∀ k, k < 38 → parseFieldDescriptor (T_M k).2.2.1 = some (ty_M k) := by decide +kernel
def R_XA : String := "java/lang/IllegalArgumentException"
def T_XA : u_T := fun k => match k with
  | _ => ("", "", "", false)
def ty_XA : Nat → FieldType := fun k => match k with
  | _ => .int
theorem nm_XA : ∀ a, a < 0 → ∀ b, b < 0 → a ≠ b → (T_XA a).2.1 ≠ (T_XA b).2.1 := by decide +kernel
theorem tk_XA : ∀ k, k < 0 → parseFieldDescriptor (T_XA k).2.2.1 = some (ty_XA k) := by decide +kernel
def R_XN : String := "java/util/NoSuchElementException"
def T_XN : u_T := fun k => match k with
  | _ => ("", "", "", false)
def ty_XN : Nat → FieldType := fun k => match k with
  | _ => .int
theorem nm_XN : ∀ a, a < 0 → ∀ b, b < 0 → a ≠ b → (T_XN a).2.1 ≠ (T_XN b).2.1 := by decide +kernel
theorem tk_XN : ∀ k, k < 0 → parseFieldDescriptor (T_XN k).2.2.1 = some (ty_XN k) := by decide +kernel
def R_XS : String := "java/lang/IllegalStateException"
def T_XS : u_T := fun k => match k with
  | _ => ("", "", "", false)
def ty_XS : Nat → FieldType := fun k => match k with
  | _ => .int
theorem nm_XS : ∀ a, a < 0 → ∀ b, b < 0 → a ≠ b → (T_XS a).2.1 ≠ (T_XS b).2.1 := by decide +kernel
theorem tk_XS : ∀ k, k < 0 → parseFieldDescriptor (T_XS k).2.2.1 = some (ty_XS k) := by decide +kernel
def R_XI : String := "java/lang/IndexOutOfBoundsException"
def T_XI : u_T := fun k => match k with
  | _ => ("", "", "", false)
def ty_XI : Nat → FieldType := fun k => match k with
  | _ => .int
theorem nm_XI : ∀ a, a < 0 → ∀ b, b < 0 → a ≠ b → (T_XI a).2.1 ≠ (T_XI b).2.1 := by decide +kernel
theorem tk_XI : ∀ k, k < 0 → parseFieldDescriptor (T_XI k).2.2.1 = some (ty_XI k) := by decide +kernel
/-- the classes whose objects the worlds hold, by number -/
abbrev classes : List vw_C := [(R_B, T_B, 7), (R_F, T_F, 6), (R_W, T_W, 3), (R_T, T_T, 2), (R_K, T_K, 6), (R_O, T_O, 3), (R_P, T_P, 3), (R_C, T_C, 3), (R_S, T_S, 11), (R_M, T_M, 38), (R_XA, T_XA, 0), (R_XN, T_XN, 0), (R_XS, T_XS, 0), (R_XI, T_XI, 0)]
/-- words that stay true of warmer tables, whatever the heap -/
def j_ok (w : Cond) : Bool := match w with
  | .arrayClass _ => true
  | .fieldLinkNest .. => true
  | .methodLinkNest .. => true
  | w => w.onTables && w.keepsFace
def jt : List Cond := lw_tbl.filter j_ok
theorem j_in (i : Nat) {w : Cond} (h : tables_1[i]? = some w) (hok : j_ok w = true) : w ∈ jt := List.mem_filter.mpr ⟨List.mem_append_right _ (List.mem_of_getElem? h), hok⟩
theorem j_ip (i : Nat) {y : MethodName} {n : Nat} (h : lw_privs[i]? = some (y, n)) : Cond.selects y.cls y y ∈ jt := List.mem_filter.mpr ⟨List.mem_append_left _ (List.mem_map.mpr ⟨(y, n), List.mem_of_getElem? h, rfl⟩), rfl⟩
end
section
/-! THE MINI MACHINE. A world is a list of cells, told by number: the cell j lies at the address N0 + j, and a reference to it is '.ref (32 + j)'; the numbers below 32 name cells that were there before (constants). Everything later speaks of these numbers alone. -/
abbrev jH : Type := List va_E
/-- how a method ends: it returned, or it threw an object of the class with that number, which is the world's last cell -/
abbrev jO : Type := Option Value ⊕ Nat
/-- launch; first new address; the heap at the law's start; class numbers; array classes; addresses of the constants; the script's length and ints -/
abbrev jK : Type := Launch × Nat × Heap × va_G × (Nat → ClassId) × (Nat → Nat) × Nat × (Nat → Int32)
/-- a method: name, code, locals, result, handlers -/
abbrev jR : Type := MethodName × ByteArray × Nat × Option FieldType × List (Nat × Nat × Nat × Nat)
def j_adr (K : jK) (i : Nat) : Nat := if i < 32 then K.2.2.2.2.2.1 i else K.2.1 + (i - 32)
def j_v (K : jK) (v : Value) : Value := match v with
  | .ref i => .ref (j_adr K i)
  | x => x
def j_l (K : jK) (q : Nat × Value) : Nat × Value := (q.1, j_v K q.2)
def j_e (K : jK) (x : va_E) : va_E := match x with
  | .inl a => .inl (K.2.2.2.2.1 a.1, a.2)
  | .inr o => .inr (o.1, o.2.map (j_v K))
abbrev j_ty (K : jK) : List (ClassId × FieldType) := [(K.2.2.2.2.1 0, .int), (K.2.2.2.2.1 1, .char), (K.2.2.2.2.1 2, .boolean), (K.2.2.2.2.1 3, .long)]
/-! what was there before, and never changes: told by numbers below 32. 0: the script; 1: BitLoom.ACTIONS; 2 to 7: the Actions by ordinal; 8 to 13: their words; 14: "where"; 15: the signs; 16 to 23: the bytes of 8 to 15; 24: the switch's table -/
abbrev jA (K : jK) : Nat → Prop := fun q => K.2.1 ≤ q
abbrev j_x (K : jK) (i : Nat) : Nat := K.2.2.2.2.2.1 i
def j_nA : String := "java/lang/IllegalArgumentException"
def j_nN : String := "java/util/NoSuchElementException"
def j_nS : String := "java/lang/IllegalStateException"
def j_nI : String := "java/lang/IndexOutOfBoundsException"
def jnc : List (String × String) := [(j_nS, j_nA), (j_nN, j_nA), (j_nI, j_nA), (j_nA, j_nS), (j_nN, j_nS), (j_nI, j_nS), (j_nA, j_nN), (j_nS, j_nN), (j_nI, j_nN), (j_nA, j_nI), (j_nS, j_nI), (j_nN, j_nI)]
def j_txL : List Nat := [3, 3, 3, 3, 4, 5, 5, 12]
def j_tx : List (List Int32) := [[115, 101, 116], [109, 97, 120], [109, 105, 110], [115, 117, 109], [108, 105, 115, 116], [99, 111, 117, 110, 116], [119, 104, 101, 114, 101], [60, 61, 62, 38, 124, 33, 40, 41, 44, 43, 45, 42]]
def j_sw : List Int32 := [1, 2, 3, 4, 5, 0]
/-- a static that was laid before and holds a reference or null -/
def jLS (K : jK) (C n d : String) (U : State) : Prop := ∃ (c : ClassId) (k : Class) (i : Nat) (f : Field) (a : Nat) (cell : Cell), U.vm.findClass C = some c ∧ U.fieldFound? C n d = some (c, k, i, f) ∧ f.isStatic = true ∧ k.statics = some a ∧ K.2.2.1[a]? = some cell ∧ cell.vm.isStatics = true ∧ cell.cls = c ∧
  f.slot < cell.slots.size ∧ k.staticTypes[f.slot]? = some f.type ∧ (cell.slots[f.slot]? = some .null ∨ ∃ t : Nat, cell.slots[f.slot]? = some (.ref t))
theorem jLS.moved {K : jK} {C n d : String} {u U : State} (hvm : u.vm.Alike U.vm) (h : jLS K C n d u) : jLS K C n d U := by
  obtain ⟨c, k, i, f, a, cell, h1, h2, h3, h4, h5, h6, h7, h8, h9, h10⟩ := h
  obtain ⟨k', hi', he⟩ := State.fieldFound?_setVm hvm h2
  exact ⟨c, k', i, f, a, cell, by rw [hvm.findClass]; exact h1, hi', h3, by rw [he]; exact h4, h5, h6, h7, h8, by rw [he]; exact h9, h10⟩
def jX (K : jK) (U : State) : Prop :=
  K.1.flags = flags0 ∧ K.2.1 = K.2.2.1.size ∧ (∀ q ∈ jnc, va_Nc q.1 q.2 U) ∧ jLS K "java/lang/Throwable" "UNASSIGNED_STACK" "[Ljava/lang/StackTraceElement;" U ∧ jLS K "java/lang/Throwable" "SUPPRESSED_SENTINEL" "Ljava/util/List;" U ∧
  va_Z "java/lang/String" "COMPACT_STRINGS" "Z" (.int 1) (jA K) U K.2.2.1 ∧ va_Zq "jdk/internal/util/Preconditions" "SIOOBE_FORMATTER" "Ljava/util/function/BiFunction;" (jA K) U K.2.2.1 ∧
  va_Z "BitLoom" "ACTIONS" "[LBitLoom$Action;" (.ref (j_x K 1)) (jA K) U K.2.2.1 ∧ va_T (.object "BitLoom$Action") (j_x K 1) 6 (fun j => .ref (j_x K (2 + j))) (jA K) U K.2.2.1 ∧
  va_En "BitLoom$Action" "LBitLoom$Action;" ["SET", "MAX", "MIN", "SUM", "LIST", "COUNT"] [("java/lang/Enum", "ordinal", "I", [0, 1, 2, 3, 4, 5])] (fun i => j_x K (2 + i)) (jA K) U K.2.2.1 ∧
  (∀ i, i < 6 → va_OF "BitLoom$Action" "word" "Ljava/lang/String;" (.ref (j_x K (8 + i))) (j_x K (2 + i)) (jA K) U K.2.2.1) ∧
  va_Z "BitLoom$1" "$SwitchMap$BitLoom$Action" "[I" (.ref (j_x K 24)) (jA K) U K.2.2.1 ∧ va_T .int (j_x K 24) 6 (fun j => .int (j_sw.getD j 0)) (jA K) U K.2.2.1 ∧
  vk_S 8 j_txL j_tx (fun i => j_x K (8 + i)) (fun i => j_x K (16 + i)) (jA K) U K.2.2.1 ∧ vk_R "BitLoom$Statement" 93 "where" (j_x K 14) U ∧ vk_R "BitLoom$Tokens" 64 "<=>&|!(),+-*" (j_x K 15) U ∧
  va_X (j_x K 0) K.2.2.2.2.2.2.1 K.2.2.2.2.2.2.2 U K.2.2.1 ∧ j_x K 0 < K.2.1
theorem jX.warm {K : jK} {s U : State} (hW : s.WarmedH U.vm) (h : jX K s) : jX K U := by
  have ha := hW.alike
  obtain ⟨h1, h2, h3, h4, h5, h6, h7, h8, h9, h10, h11, h12, h13, h14, h15, h16, h17, h18⟩ := h
  exact ⟨h1, h2, fun q hq => (h3 q hq).moved ha, h4.moved ha, h5.moved ha, h6.moved ha, h7.moved ha, h8.moved ha, h9.moved ha, h10.moved ha, fun i hi => (h11 i hi).moved ha, h12.moved ha, h13.moved ha, h14.moved ha, h15.warm hW, h16.warm hW, h17.moved ha, h18⟩
theorem j_okT {w : Cond} (h : j_ok w = true) {A A' : Array Value} {u U : State} (hv : u.vm = U.vm) (hb : w.before A u = true) : w.before A' U = true := by
  have hU : U = U.setVm u.vm := by rw [hv]; rfl
  cases w
  case arrayClass ty =>
    have e : (Cond.arrayClass ty).before A u = (Cond.arrayClass ty).before A' (U.setVm u.vm) := rfl
    rw [hU, ← e]
    exact hb
  all_goals
    refine va_tabs ?_ hv hb
    simp only [j_ok, Bool.and_eq_true] at h
    first | exact h.1 | rfl
theorem j_okW {w : Cond} (h : j_ok w = true) {A A' : Array Value} {s U : State} (hW : s.WarmedH U.vm) (hb : w.before A s = true) : w.before A' U = true := by
  have key : w.before A (s.setVm U.vm) = true := by
    cases w
    case fieldLinkNest a i b n d hh => exact Cond.fieldLinkNest_warmed hW hb
    case methodLinkNest a i x hh => exact Cond.methodLinkNest_warmed hW hb
    case arrayClass ty => exact Cond.before_shiftedFace (State.Shifted.of_warmed hW) _ rfl hb
    all_goals
      refine Cond.before_shiftedFace (State.Shifted.of_warmed hW) _ ?_ hb
      simp only [j_ok, Bool.and_eq_true] at h
      exact h.2
  exact j_okT h (u := s.setVm U.vm) rfl key
theorem j_jt {w : Cond} (h : w ∈ jt) : j_ok w = true := (List.mem_filter.mp h).2
def jU (K : jK) (U : State) : Prop := (∀ w ∈ jt, w.before #[] U = true) ∧ va_K K.2.2.2.1 classes (j_ty K) U ∧ jX K U
theorem jU.warm {K : jK} {s U : State} (hW : s.WarmedH U.vm) (h : jU K s) : jU K U := ⟨fun w hw => j_okW (j_jt hw) hW (h.1 w hw), h.2.1.moved hW.alike, h.2.2.warm hW⟩
def j_get (h : jH) (i : Nat) : Option va_E := if i < 32 then none else h[i - 32]?
def j_set (h : jH) (i : Nat) (x : va_E) : jH := h.set (i - 32) x
def jW (K : jK) (h : jH) (H : Heap) : Prop := (∀ (j : Nat) (x : va_E), h[j]? = some x → va_at K.2.2.2.1 classes (K.2.1 + j, j_e K x) H) ∧ H.size = K.2.1 + h.length ∧ ∀ q : Nat, q < K.2.1 → H[q]? = K.2.2.1[q]?
def j_oc (K : jK) (h : jH) (mo : jO) (o : Outcome) : Prop := match mo with
  | .inl v => o = .returned (v.map (j_v K))
  | .inr k => ∃ n : Nat, h.length = n + 1 ∧ h[n]? = some (.inr (k, [])) ∧ o = .threw (K.2.1 + n)
def j_xc (mo : jO) : Nat := match mo with
  | .inl _ => 0
  | .inr _ => 1
def jZ (K : jK) (below : List Frame) (s : State) (C S : Nat) (Q : jO → jH → Prop) : State → Prop := fun t =>
  ∃ (o : Outcome) (mo : jO) (h : jH) (L : List Loc), t.status = .running ∧ Ended t below o ∧ j_oc K h mo o ∧ Q mo h ∧ jW K h t.heap ∧ s.WarmedH t.vm ∧ s.sameButNew ({ t with vm := s.vm } : State) L (C + j_xc mo) (S + 6 * j_xc mo) ∧ ∀ q ∈ L, K.2.1 ≤ q.base
def jC (K : jK) (M : jR) (d : Nat) (p : Program) (R : Room) (s : State) (m : MethodId) (args : Array Value) (meth : Method) (c : Code) : Prop :=
  p.tables.exec = Jvm.exec ∧ c.code = M.2.1 ∧ c.maxLocals = M.2.2.1 ∧ s.vm.findClass M.1.cls = some m.cls ∧ (∀ w ∈ jt, w.before args s = true) ∧ meth.sig.returnType = M.2.2.2.1 ∧ meth.locks = false ∧ meth.name = M.1.name ∧ c.exceptionTable.toList = tableOf M.2.2.2.2 ∧ d ≤ R.frames ∧ 64 * d ≤ R.locals ∧ va_K K.2.2.2.1 classes (j_ty K) s ∧ jX K s
/-- from here, with these locals, this stack, this world: the method ends, and Q; at most mc cells of ms slots more are made (a throw makes one more, of six) -/
def jE (K : jK) (M : jR) (d pc : Nat) (ls : List (Nat × Value)) (st : List Value) (h : jH) (Q : jO → jH → Prop) (mc ms : Nat) : Prop :=
  ∀ (p : Program) (e : Env) (R : Room) (s : State) (m : MethodId) (args : Array Value) (below : List Frame) (meth : Method) (c : Code) (H : Heap) (locs : List Loc) (cells slots : Nat) (la : Array Slot),
    jC K M d p R s m args meth c → cells + mc + 1 ≤ R.cells → slots + ms + 6 ≤ R.slots → lv_has la M.2.2.1 (ls.map (j_l K)) → jW K h H → (∀ q ∈ locs, K.2.1 ≤ q.base) →
    W p K.1 e R s m args below meth c H locs cells slots (jZ K below s (cells + mc) (slots + ms) Q) (F0 m pc la (st.map (j_v K)))
theorem j_cat (K : jK) (v : Value) : (j_v K v).category = v.category := by cases v <;> rfl
def j_lg : List (Nat × Value) → Nat → Option Value
  | [], _ => none
  | q :: r, i => if q.1 = i then some q.2 else j_lg r i
theorem j_lg_at {K : jK} {la : Array Slot} {n : Nat} {ls : List (Nat × Value)} (hl : lv_has la n (ls.map (j_l K))) {i : Nat} {v : Value} (h : j_lg ls i = some v) : la[i]? = some (.val (j_v K v)) := by
  have key : ∀ r : List (Nat × Value), j_lg r i = some v → (i, v) ∈ r := by
    intro r
    induction r with
    | nil => intro h; cases h
    | cons q r ih =>
      intro h
      unfold j_lg at h
      split at h
      · rename_i hq
        cases h
        rw [← hq]
        exact List.mem_cons_self
      · exact List.mem_cons_of_mem _ (ih h)
  have hm := key ls h
  exact hl.2.2 (i, j_v K v) (List.mem_map.mpr ⟨(i, v), hm, rfl⟩)
def j_ls (ls : List (Nat × Value)) (i : Nat) (v : Value) : List (Nat × Value) := (i, v) :: ls.filter (fun q => !(q.1 == i) && !(q.1 + 1 == i && q.2.category == 2))
def j_ls2 (ls : List (Nat × Value)) (i : Nat) (v : Value) : List (Nat × Value) := (i, v) :: ls.filter (fun q => !(q.1 == i) && (!(q.1 == i + 1) && !(q.1 + 1 == i && q.2.category == 2)))
theorem j_ls_map (K : jK) (ls : List (Nat × Value)) (i : Nat) (v : Value) : (i, j_v K v) :: (ls.map (j_l K)).filter (fun q => !(q.1 == i) && !(q.1 + 1 == i && q.2.category == 2)) = (j_ls ls i v).map (j_l K) := by
  unfold j_ls
  rw [List.map_cons, List.filter_map]
  have e : ((fun q : Nat × Value => !(q.1 == i) && !(q.1 + 1 == i && q.2.category == 2)) ∘ j_l K) = (fun q : Nat × Value => !(q.1 == i) && !(q.1 + 1 == i && q.2.category == 2)) := by
    funext q
    simp [Function.comp, j_l, j_cat]
  rw [e]
  rfl
theorem j_ls2_map (K : jK) (ls : List (Nat × Value)) (i : Nat) (v : Value) : (i, j_v K v) :: (ls.map (j_l K)).filter (fun q => !(q.1 == i) && (!(q.1 == i + 1) && !(q.1 + 1 == i && q.2.category == 2))) = (j_ls2 ls i v).map (j_l K) := by
  unfold j_ls2
  rw [List.map_cons, List.filter_map]
  have e : ((fun q : Nat × Value => !(q.1 == i) && (!(q.1 == i + 1) && !(q.1 + 1 == i && q.2.category == 2))) ∘ j_l K) = (fun q : Nat × Value => !(q.1 == i) && (!(q.1 == i + 1) && !(q.1 + 1 == i && q.2.category == 2))) := by
    funext q
    simp [Function.comp, j_l, j_cat]
  rw [e]
  rfl
theorem j_mono {p : Program} {l : Launch} {e : Env} {R : Room} {s : State} {m : MethodId} {args : Array Value} {below : List Frame} {meth : Method} {c : Code} {H : Heap} {locs : List Loc} {cells slots : Nat} {Q Q' : State → Prop} {g : JFrame} (hQ : ∀ t, Q t → Q' t)
    (k : W p l e R s m args below meth c H locs cells slots Q g) : W p l e R s m args below meth c H locs cells slots Q' g := fun T hT X => by
  obtain ⟨t, a, b⟩ := k T hT X
  exact ⟨t, a, hQ t b⟩
section JROWS
variable {K : jK} {M : jR} {d pc : Nat} {ls : List (Nat × Value)} {st : List Value} {h : jH} {Q : jO → jH → Prop} {mc ms : Nat}
theorem j_iconst {n : Int} {v : Int32} (hd : decode M.2.1 pc = .ok (.iconst n, 1)) (hv : Int32.ofInt n = v) (k : jE K M d (pc + 1) ls (.int v :: st) h Q mc ms) : jE K M d pc ls (st) h Q mc ms :=
  fun p e R s m as bl me c H lo ce sl la hC hc hs hl hw hL => lv_iconst hC.1 hC.2.1 hd hv (k p e R s m as bl me c H lo ce sl la hC hc hs hl hw hL)
theorem j_bipush {n : Int} {v : Int32} (hd : decode M.2.1 pc = .ok (.bipush n, 2)) (hv : (Int8.ofInt n).toInt32 = v) (k : jE K M d (pc + 2) ls (.int v :: st) h Q mc ms) : jE K M d pc ls (st) h Q mc ms :=
  fun p e R s m as bl me c H lo ce sl la hC hc hs hl hw hL => lv_bipush hC.1 hC.2.1 hd hv (k p e R s m as bl me c H lo ce sl la hC hc hs hl hw hL)
theorem j_sipush {n : Int} {v : Int32} (hd : decode M.2.1 pc = .ok (.sipush n, 3)) (hv : (Int16.ofInt n).toInt32 = v) (k : jE K M d (pc + 3) ls (.int v :: st) h Q mc ms) : jE K M d pc ls (st) h Q mc ms :=
  fun p e R s m as bl me c H lo ce sl la hC hc hs hl hw hL => lv_sipush hC.1 hC.2.1 hd hv (k p e R s m as bl me c H lo ce sl la hC hc hs hl hw hL)
theorem j_lconst {n : Fin 2} {v : Int64} (hd : decode M.2.1 pc = .ok (.lconst n, 1)) (hv : Int64.ofNat (n : Nat) = v) (k : jE K M d (pc + 1) ls (.long v :: st) h Q mc ms) : jE K M d pc ls (st) h Q mc ms :=
  fun p e R s m as bl me c H lo ce sl la hC hc hs hl hw hL => lv_lconst hC.1 hC.2.1 hd hv (k p e R s m as bl me c H lo ce sl la hC hc hs hl hw hL)
theorem j_iload_n {k : Fin 4} {x : Int32} (hd : decode M.2.1 pc = .ok (.iload_n k, 1)) (hg : j_lg ls k = some (.int x)) (k : jE K M d (pc + 1) ls (.int x :: st) h Q mc ms) : jE K M d pc ls (st) h Q mc ms :=
  fun p e R s m as bl me c H lo ce sl la hC hc hs hl hw hL => lv_iload_n hC.1 hC.2.1 hd rfl (j_lg_at hl hg) (k p e R s m as bl me c H lo ce sl la hC hc hs hl hw hL)
theorem j_iload {i : Nat} {x : Int32} (hd : decode M.2.1 pc = .ok (.iload i, 2)) (hg : j_lg ls i = some (.int x)) (k : jE K M d (pc + 2) ls (.int x :: st) h Q mc ms) : jE K M d pc ls (st) h Q mc ms :=
  fun p e R s m as bl me c H lo ce sl la hC hc hs hl hw hL => lv_iload hC.1 hC.2.1 hd (j_lg_at hl hg) (k p e R s m as bl me c H lo ce sl la hC hc hs hl hw hL)
theorem j_istore_n {k : Fin 4} {x : Int32} (hd : decode M.2.1 pc = .ok (.istore_n k, 1)) (hn : (k : Nat) < M.2.2.1) (k : jE K M d (pc + 1) (j_ls ls k (.int x)) st h Q mc ms) : jE K M d pc ls (.int x :: st) h Q mc ms :=
  fun p e R s m as bl me c H lo ce sl la hC hc hs hl hw hL => lv_istore_n hC.1 hC.2.1 hd rfl hl hn (j_ls_map K ls _ (.int x)) (fun la' hl' => k p e R s m as bl me c H lo ce sl la' hC hc hs hl' hw hL)
theorem j_istore {i : Nat} {x : Int32} (hd : decode M.2.1 pc = .ok (.istore i, 2)) (hn : i < M.2.2.1) (k : jE K M d (pc + 2) (j_ls ls i (.int x)) st h Q mc ms) : jE K M d pc ls (.int x :: st) h Q mc ms :=
  fun p e R s m as bl me c H lo ce sl la hC hc hs hl hw hL => lv_istore hC.1 hC.2.1 hd hl hn (j_ls_map K ls _ (.int x)) (fun la' hl' => k p e R s m as bl me c H lo ce sl la' hC hc hs hl' hw hL)
theorem j_lload_n {k : Fin 4} {x : Int64} (hd : decode M.2.1 pc = .ok (.lload_n k, 1)) (hg : j_lg ls k = some (.long x)) (k : jE K M d (pc + 1) ls (.long x :: st) h Q mc ms) : jE K M d pc ls (st) h Q mc ms :=
  fun p e R s m as bl me c H lo ce sl la hC hc hs hl hw hL => lv_lload_n hC.1 hC.2.1 hd rfl (j_lg_at hl hg) (k p e R s m as bl me c H lo ce sl la hC hc hs hl hw hL)
theorem j_lload {i : Nat} {x : Int64} (hd : decode M.2.1 pc = .ok (.lload i, 2)) (hg : j_lg ls i = some (.long x)) (k : jE K M d (pc + 2) ls (.long x :: st) h Q mc ms) : jE K M d pc ls (st) h Q mc ms :=
  fun p e R s m as bl me c H lo ce sl la hC hc hs hl hw hL => lv_lload hC.1 hC.2.1 hd (j_lg_at hl hg) (k p e R s m as bl me c H lo ce sl la hC hc hs hl hw hL)
theorem j_lstore_n {k : Fin 4} {x : Int64} (hd : decode M.2.1 pc = .ok (.lstore_n k, 1)) (hn : (k : Nat) + 1 < M.2.2.1) (k : jE K M d (pc + 1) (j_ls2 ls k (.long x)) st h Q mc ms) : jE K M d pc ls (.long x :: st) h Q mc ms :=
  fun p e R s m as bl me c H lo ce sl la hC hc hs hl hw hL => lv_lstore_n hC.1 hC.2.1 hd rfl hl hn (j_ls2_map K ls _ (.long x)) (fun la' hl' => k p e R s m as bl me c H lo ce sl la' hC hc hs hl' hw hL)
theorem j_lstore {i : Nat} {x : Int64} (hd : decode M.2.1 pc = .ok (.lstore i, 2)) (hn : i + 1 < M.2.2.1) (k : jE K M d (pc + 2) (j_ls2 ls i (.long x)) st h Q mc ms) : jE K M d pc ls (.long x :: st) h Q mc ms :=
  fun p e R s m as bl me c H lo ce sl la hC hc hs hl hw hL => lv_lstore hC.1 hC.2.1 hd hl hn (j_ls2_map K ls _ (.long x)) (fun la' hl' => k p e R s m as bl me c H lo ce sl la' hC hc hs hl' hw hL)
theorem j_aload_n {k : Fin 4} {x : Nat} (hd : decode M.2.1 pc = .ok (.aload_n k, 1)) (hg : j_lg ls k = some (.ref x)) (k : jE K M d (pc + 1) ls (.ref x :: st) h Q mc ms) : jE K M d pc ls (st) h Q mc ms :=
  fun p e R s m as bl me c H lo ce sl la hC hc hs hl hw hL => lv_aload_n hC.1 hC.2.1 hd rfl (j_lg_at hl hg) (k p e R s m as bl me c H lo ce sl la hC hc hs hl hw hL)
theorem j_aload {i : Nat} {x : Nat} (hd : decode M.2.1 pc = .ok (.aload i, 2)) (hg : j_lg ls i = some (.ref x)) (k : jE K M d (pc + 2) ls (.ref x :: st) h Q mc ms) : jE K M d pc ls (st) h Q mc ms :=
  fun p e R s m as bl me c H lo ce sl la hC hc hs hl hw hL => lv_aload hC.1 hC.2.1 hd (j_lg_at hl hg) (k p e R s m as bl me c H lo ce sl la hC hc hs hl hw hL)
theorem j_astore_n {k : Fin 4} {x : Nat} (hd : decode M.2.1 pc = .ok (.astore_n k, 1)) (hn : (k : Nat) < M.2.2.1) (k : jE K M d (pc + 1) (j_ls ls k (.ref x)) st h Q mc ms) : jE K M d pc ls (.ref x :: st) h Q mc ms :=
  fun p e R s m as bl me c H lo ce sl la hC hc hs hl hw hL => lv_astore_n hC.1 hC.2.1 hd rfl hl hn (j_ls_map K ls _ (.ref x)) (fun la' hl' => k p e R s m as bl me c H lo ce sl la' hC hc hs hl' hw hL)
theorem j_astore {i : Nat} {x : Nat} (hd : decode M.2.1 pc = .ok (.astore i, 2)) (hn : i < M.2.2.1) (k : jE K M d (pc + 2) (j_ls ls i (.ref x)) st h Q mc ms) : jE K M d pc ls (.ref x :: st) h Q mc ms :=
  fun p e R s m as bl me c H lo ce sl la hC hc hs hl hw hL => lv_astore hC.1 hC.2.1 hd hl hn (j_ls_map K ls _ (.ref x)) (fun la' hl' => k p e R s m as bl me c H lo ce sl la' hC hc hs hl' hw hL)
theorem j_iadd {x y : Int32} (hd : decode M.2.1 pc = .ok (.iadd, 1)) (k : jE K M d (pc + 1) ls (.int (x + y) :: st) h Q mc ms) : jE K M d pc ls (.int y :: .int x :: st) h Q mc ms :=
  fun p e R s m as bl me c H lo ce sl la hC hc hs hl hw hL => lv_iadd hC.1 hC.2.1 hd (k p e R s m as bl me c H lo ce sl la hC hc hs hl hw hL)
theorem j_isub {x y : Int32} (hd : decode M.2.1 pc = .ok (.isub, 1)) (k : jE K M d (pc + 1) ls (.int (x - y) :: st) h Q mc ms) : jE K M d pc ls (.int y :: .int x :: st) h Q mc ms :=
  fun p e R s m as bl me c H lo ce sl la hC hc hs hl hw hL => lv_isub hC.1 hC.2.1 hd (k p e R s m as bl me c H lo ce sl la hC hc hs hl hw hL)
theorem j_imul {x y : Int32} (hd : decode M.2.1 pc = .ok (.imul, 1)) (k : jE K M d (pc + 1) ls (.int (x * y) :: st) h Q mc ms) : jE K M d pc ls (.int y :: .int x :: st) h Q mc ms :=
  fun p e R s m as bl me c H lo ce sl la hC hc hs hl hw hL => lv_imul hC.1 hC.2.1 hd (k p e R s m as bl me c H lo ce sl la hC hc hs hl hw hL)
theorem j_iand {x y : Int32} (hd : decode M.2.1 pc = .ok (.iand, 1)) (k : jE K M d (pc + 1) ls (.int (x &&& y) :: st) h Q mc ms) : jE K M d pc ls (.int y :: .int x :: st) h Q mc ms :=
  fun p e R s m as bl me c H lo ce sl la hC hc hs hl hw hL => lv_iand hC.1 hC.2.1 hd (k p e R s m as bl me c H lo ce sl la hC hc hs hl hw hL)
theorem j_ior {x y : Int32} (hd : decode M.2.1 pc = .ok (.ior, 1)) (k : jE K M d (pc + 1) ls (.int (x ||| y) :: st) h Q mc ms) : jE K M d pc ls (.int y :: .int x :: st) h Q mc ms :=
  fun p e R s m as bl me c H lo ce sl la hC hc hs hl hw hL => lv_ior hC.1 hC.2.1 hd (k p e R s m as bl me c H lo ce sl la hC hc hs hl hw hL)
theorem j_ixor {x y : Int32} (hd : decode M.2.1 pc = .ok (.ixor, 1)) (k : jE K M d (pc + 1) ls (.int (x ^^^ y) :: st) h Q mc ms) : jE K M d pc ls (.int y :: .int x :: st) h Q mc ms :=
  fun p e R s m as bl me c H lo ce sl la hC hc hs hl hw hL => lv_ixor hC.1 hC.2.1 hd (k p e R s m as bl me c H lo ce sl la hC hc hs hl hw hL)
theorem j_ishl {x y : Int32} (hd : decode M.2.1 pc = .ok (.ishl, 1)) (k : jE K M d (pc + 1) ls (.int (x <<< (y &&& 31)) :: st) h Q mc ms) : jE K M d pc ls (.int y :: .int x :: st) h Q mc ms :=
  fun p e R s m as bl me c H lo ce sl la hC hc hs hl hw hL => lv_ishl hC.1 hC.2.1 hd (k p e R s m as bl me c H lo ce sl la hC hc hs hl hw hL)
theorem j_ishr {x y : Int32} (hd : decode M.2.1 pc = .ok (.ishr, 1)) (k : jE K M d (pc + 1) ls (.int (x >>> (y &&& 31)) :: st) h Q mc ms) : jE K M d pc ls (.int y :: .int x :: st) h Q mc ms :=
  fun p e R s m as bl me c H lo ce sl la hC hc hs hl hw hL => lv_ishr hC.1 hC.2.1 hd (k p e R s m as bl me c H lo ce sl la hC hc hs hl hw hL)
theorem j_iushr {x y : Int32} (hd : decode M.2.1 pc = .ok (.iushr, 1)) (k : jE K M d (pc + 1) ls (.int (x.toUInt32 >>> (y.toUInt32 &&& Int32.toUInt32 31)).toInt32 :: st) h Q mc ms) : jE K M d pc ls (.int y :: .int x :: st) h Q mc ms :=
  fun p e R s m as bl me c H lo ce sl la hC hc hs hl hw hL => lv_iushr hC.1 hC.2.1 hd rfl (k p e R s m as bl me c H lo ce sl la hC hc hs hl hw hL)
theorem j_idiv {x y : Int32} (hd : decode M.2.1 pc = .ok (.idiv, 1)) (hne : ¬ y = 0) (k : jE K M d (pc + 1) ls (.int (x / y) :: st) h Q mc ms) : jE K M d pc ls (.int y :: .int x :: st) h Q mc ms :=
  fun p e R s m as bl me c H lo ce sl la hC hc hs hl hw hL => lv_idiv hC.1 hC.2.1 hd hne (k p e R s m as bl me c H lo ce sl la hC hc hs hl hw hL)
theorem j_irem {x y : Int32} (hd : decode M.2.1 pc = .ok (.irem, 1)) (hne : ¬ y = 0) (k : jE K M d (pc + 1) ls (.int (x - x / y * y) :: st) h Q mc ms) : jE K M d pc ls (.int y :: .int x :: st) h Q mc ms :=
  fun p e R s m as bl me c H lo ce sl la hC hc hs hl hw hL => lv_irem hC.1 hC.2.1 hd hne (k p e R s m as bl me c H lo ce sl la hC hc hs hl hw hL)
theorem j_ineg {x : Int32} (hd : decode M.2.1 pc = .ok (.ineg, 1)) (k : jE K M d (pc + 1) ls (.int (-x) :: st) h Q mc ms) : jE K M d pc ls (.int x :: st) h Q mc ms :=
  fun p e R s m as bl me c H lo ce sl la hC hc hs hl hw hL => lv_ineg hC.1 hC.2.1 hd (k p e R s m as bl me c H lo ce sl la hC hc hs hl hw hL)
theorem j_ladd {x y : Int64} (hd : decode M.2.1 pc = .ok (.ladd, 1)) (k : jE K M d (pc + 1) ls (.long (x + y) :: st) h Q mc ms) : jE K M d pc ls (.long y :: .long x :: st) h Q mc ms :=
  fun p e R s m as bl me c H lo ce sl la hC hc hs hl hw hL => lv_ladd hC.1 hC.2.1 hd (k p e R s m as bl me c H lo ce sl la hC hc hs hl hw hL)
theorem j_lsub {x y : Int64} (hd : decode M.2.1 pc = .ok (.lsub, 1)) (k : jE K M d (pc + 1) ls (.long (x - y) :: st) h Q mc ms) : jE K M d pc ls (.long y :: .long x :: st) h Q mc ms :=
  fun p e R s m as bl me c H lo ce sl la hC hc hs hl hw hL => lv_lsub hC.1 hC.2.1 hd (k p e R s m as bl me c H lo ce sl la hC hc hs hl hw hL)
theorem j_lmul {x y : Int64} (hd : decode M.2.1 pc = .ok (.lmul, 1)) (k : jE K M d (pc + 1) ls (.long (x * y) :: st) h Q mc ms) : jE K M d pc ls (.long y :: .long x :: st) h Q mc ms :=
  fun p e R s m as bl me c H lo ce sl la hC hc hs hl hw hL => lv_lmul hC.1 hC.2.1 hd (k p e R s m as bl me c H lo ce sl la hC hc hs hl hw hL)
theorem j_land {x y : Int64} (hd : decode M.2.1 pc = .ok (.land, 1)) (k : jE K M d (pc + 1) ls (.long (x &&& y) :: st) h Q mc ms) : jE K M d pc ls (.long y :: .long x :: st) h Q mc ms :=
  fun p e R s m as bl me c H lo ce sl la hC hc hs hl hw hL => lv_land hC.1 hC.2.1 hd (k p e R s m as bl me c H lo ce sl la hC hc hs hl hw hL)
theorem j_lor {x y : Int64} (hd : decode M.2.1 pc = .ok (.lor, 1)) (k : jE K M d (pc + 1) ls (.long (x ||| y) :: st) h Q mc ms) : jE K M d pc ls (.long y :: .long x :: st) h Q mc ms :=
  fun p e R s m as bl me c H lo ce sl la hC hc hs hl hw hL => lv_lor hC.1 hC.2.1 hd (k p e R s m as bl me c H lo ce sl la hC hc hs hl hw hL)
theorem j_lxor {x y : Int64} (hd : decode M.2.1 pc = .ok (.lxor, 1)) (k : jE K M d (pc + 1) ls (.long (x ^^^ y) :: st) h Q mc ms) : jE K M d pc ls (.long y :: .long x :: st) h Q mc ms :=
  fun p e R s m as bl me c H lo ce sl la hC hc hs hl hw hL => lv_lxor hC.1 hC.2.1 hd (k p e R s m as bl me c H lo ce sl la hC hc hs hl hw hL)
theorem j_lushr {x : Int64} {y : Int32} (hd : decode M.2.1 pc = .ok (.lushr, 1)) (k : jE K M d (pc + 1) ls (.long (x.toUInt64 >>> (y.toInt64.toUInt64 &&& Int64.toUInt64 63)).toInt64 :: st) h Q mc ms) : jE K M d pc ls (.int y :: .long x :: st) h Q mc ms :=
  fun p e R s m as bl me c H lo ce sl la hC hc hs hl hw hL => lv_lushr hC.1 hC.2.1 hd rfl (k p e R s m as bl me c H lo ce sl la hC hc hs hl hw hL)
theorem j_lshl {x : Int64} {y : Int32} (hd : decode M.2.1 pc = .ok (.lshl, 1)) (k : jE K M d (pc + 1) ls (.long (x <<< (y.toInt64 &&& 63)) :: st) h Q mc ms) : jE K M d pc ls (.int y :: .long x :: st) h Q mc ms :=
  fun p e R s m as bl me c H lo ce sl la hC hc hs hl hw hL => lv_lshl hC.1 hC.2.1 hd rfl (k p e R s m as bl me c H lo ce sl la hC hc hs hl hw hL)
theorem j_lshr {x : Int64} {y : Int32} (hd : decode M.2.1 pc = .ok (.lshr, 1)) (k : jE K M d (pc + 1) ls (.long (x >>> (y.toInt64 &&& 63)) :: st) h Q mc ms) : jE K M d pc ls (.int y :: .long x :: st) h Q mc ms :=
  fun p e R s m as bl me c H lo ce sl la hC hc hs hl hw hL => lv_lshr hC.1 hC.2.1 hd rfl (k p e R s m as bl me c H lo ce sl la hC hc hs hl hw hL)
theorem j_i2l {x : Int32} (hd : decode M.2.1 pc = .ok (.i2l, 1)) (k : jE K M d (pc + 1) ls (.long x.toInt64 :: st) h Q mc ms) : jE K M d pc ls (.int x :: st) h Q mc ms :=
  fun p e R s m as bl me c H lo ce sl la hC hc hs hl hw hL => lv_i2l hC.1 hC.2.1 hd rfl (k p e R s m as bl me c H lo ce sl la hC hc hs hl hw hL)
theorem j_l2i {x : Int64} (hd : decode M.2.1 pc = .ok (.l2i, 1)) (k : jE K M d (pc + 1) ls (.int x.toInt32 :: st) h Q mc ms) : jE K M d pc ls (.long x :: st) h Q mc ms :=
  fun p e R s m as bl me c H lo ce sl la hC hc hs hl hw hL => lv_l2i hC.1 hC.2.1 hd rfl (k p e R s m as bl me c H lo ce sl la hC hc hs hl hw hL)
theorem j_i2b {x : Int32} (hd : decode M.2.1 pc = .ok (.i2b, 1)) (k : jE K M d (pc + 1) ls (.int x.toInt8.toInt32 :: st) h Q mc ms) : jE K M d pc ls (.int x :: st) h Q mc ms :=
  fun p e R s m as bl me c H lo ce sl la hC hc hs hl hw hL => lv_i2b hC.1 hC.2.1 hd rfl (k p e R s m as bl me c H lo ce sl la hC hc hs hl hw hL)
theorem j_i2c {x : Int32} (hd : decode M.2.1 pc = .ok (.i2c, 1)) (k : jE K M d (pc + 1) ls (.int (x.toUInt32 % 65536).toInt32 :: st) h Q mc ms) : jE K M d pc ls (.int x :: st) h Q mc ms :=
  fun p e R s m as bl me c H lo ce sl la hC hc hs hl hw hL => lv_i2c hC.1 hC.2.1 hd rfl (k p e R s m as bl me c H lo ce sl la hC hc hs hl hw hL)
theorem j_dup {v : Value} (hd : decode M.2.1 pc = .ok (.dup, 1)) (hv : v.category = 1) (k : jE K M d (pc + 1) ls (v :: v :: st) h Q mc ms) : jE K M d pc ls (v :: st) h Q mc ms :=
  fun p e R s m as bl me c H lo ce sl la hC hc hs hl hw hL => lv_dup hC.1 hC.2.1 hd ((j_cat K _).trans hv) (k p e R s m as bl me c H lo ce sl la hC hc hs hl hw hL)
theorem j_pop {v : Value} (hd : decode M.2.1 pc = .ok (.pop, 1)) (hv : v.category = 1) (k : jE K M d (pc + 1) ls (st) h Q mc ms) : jE K M d pc ls (v :: st) h Q mc ms :=
  fun p e R s m as bl me c H lo ce sl la hC hc hs hl hw hL => lv_pop hC.1 hC.2.1 hd ((j_cat K _).trans hv) (k p e R s m as bl me c H lo ce sl la hC hc hs hl hw hL)
theorem j_dup_x1 {v w : Value} (hd : decode M.2.1 pc = .ok (.dup_x1, 1)) (hv : v.category = 1) (hw9 : w.category = 1) (k : jE K M d (pc + 1) ls (v :: w :: v :: st) h Q mc ms) : jE K M d pc ls (v :: w :: st) h Q mc ms :=
  fun p e R s m as bl me c H lo ce sl la hC hc hs hl hw hL => lv_dup_x1 hC.1 hC.2.1 hd ((j_cat K _).trans hv) ((j_cat K _).trans hw9) (k p e R s m as bl me c H lo ce sl la hC hc hs hl hw hL)
theorem j_dup_x2 {v w u : Value} (hd : decode M.2.1 pc = .ok (.dup_x2, 1)) (hv : v.category = 1) (hw9 : w.category = 1) (hu : u.category = 1) (k : jE K M d (pc + 1) ls (v :: w :: u :: v :: st) h Q mc ms) : jE K M d pc ls (v :: w :: u :: st) h Q mc ms :=
  fun p e R s m as bl me c H lo ce sl la hC hc hs hl hw hL => lv_dup_x2 hC.1 hC.2.1 hd ((j_cat K _).trans hv) ((j_cat K _).trans hw9) ((j_cat K _).trans hu) (k p e R s m as bl me c H lo ce sl la hC hc hs hl hw hL)
theorem j_dup2 {v w : Value} (hd : decode M.2.1 pc = .ok (.dup2, 1)) (hv : v.category = 1) (hw9 : w.category = 1) (k : jE K M d (pc + 1) ls (v :: w :: v :: w :: st) h Q mc ms) : jE K M d pc ls (v :: w :: st) h Q mc ms :=
  fun p e R s m as bl me c H lo ce sl la hC hc hs hl hw hL => lv_dup2_11 hC.1 hC.2.1 hd ((j_cat K _).trans hv) ((j_cat K _).trans hw9) (k p e R s m as bl me c H lo ce sl la hC hc hs hl hw hL)
theorem j_goto {off : Int} {tgt : Nat} (hd : decode M.2.1 pc = .ok (.goto off, 3)) (ht : (pc : Int) + off = (tgt : Int)) (k : jE K M d tgt ls st h Q mc ms) : jE K M d pc ls st h Q mc ms :=
  fun p e R s m as bl me c H lo ce sl la hC hc hs hl hw hL => lv_goto hC.1 hC.2.1 hd ht (k p e R s m as bl me c H lo ce sl la hC hc hs hl hw hL)
theorem j_if_eq {x : Int32} {off : Int} {tgt : Nat} (hd : decode M.2.1 pc = .ok (.ifCond .eq off, 3)) (ht : (pc : Int) + off = (tgt : Int)) (kt : x = 0 → jE K M d tgt ls st h Q mc ms) (kf : ¬ x = 0 → jE K M d (pc + 3) ls st h Q mc ms) : jE K M d pc ls (.int x :: st) h Q mc ms :=
  fun p e R s m as bl me c H lo ce sl la hC hc hs hl hw hL => lv_if_eq hC.1 hC.2.1 hd ht (fun q => kt q p e R s m as bl me c H lo ce sl la hC hc hs hl hw hL) (fun q => kf q p e R s m as bl me c H lo ce sl la hC hc hs hl hw hL)
theorem j_if_eqT {x : Int32} {off : Int} {tgt : Nat} (hd : decode M.2.1 pc = .ok (.ifCond .eq off, 3)) (ht : (pc : Int) + off = (tgt : Int)) (q : x = 0) (kt : jE K M d tgt ls st h Q mc ms) : jE K M d pc ls (.int x :: st) h Q mc ms := j_if_eq hd ht (fun _ => kt) (fun z => absurd q (by first | exact z | exact fun w => z w | exact not_not_intro z))
theorem j_if_eqF {x : Int32} {off : Int} {tgt : Nat} (hd : decode M.2.1 pc = .ok (.ifCond .eq off, 3)) (ht : (pc : Int) + off = (tgt : Int)) (q : ¬ x = 0) (kf : jE K M d (pc + 3) ls st h Q mc ms) : jE K M d pc ls (.int x :: st) h Q mc ms := j_if_eq hd ht (fun z => absurd q (by first | exact z | exact fun w => w z | exact not_not_intro z)) (fun _ => kf)
theorem j_icmp_eq {x y : Int32} {off : Int} {tgt : Nat} (hd : decode M.2.1 pc = .ok (.if_icmp .eq off, 3)) (ht : (pc : Int) + off = (tgt : Int)) (kt : x = y → jE K M d tgt ls st h Q mc ms) (kf : ¬ x = y → jE K M d (pc + 3) ls st h Q mc ms) : jE K M d pc ls (.int y :: .int x :: st) h Q mc ms :=
  fun p e R s m as bl me c H lo ce sl la hC hc hs hl hw hL => lv_icmp_eq hC.1 hC.2.1 hd ht (fun q => kt q p e R s m as bl me c H lo ce sl la hC hc hs hl hw hL) (fun q => kf q p e R s m as bl me c H lo ce sl la hC hc hs hl hw hL)
theorem j_icmp_eqT {x y : Int32} {off : Int} {tgt : Nat} (hd : decode M.2.1 pc = .ok (.if_icmp .eq off, 3)) (ht : (pc : Int) + off = (tgt : Int)) (q : x = y) (kt : jE K M d tgt ls st h Q mc ms) : jE K M d pc ls (.int y :: .int x :: st) h Q mc ms := j_icmp_eq hd ht (fun _ => kt) (fun z => absurd q (by first | exact z | exact fun w => z w | exact not_not_intro z))
theorem j_icmp_eqF {x y : Int32} {off : Int} {tgt : Nat} (hd : decode M.2.1 pc = .ok (.if_icmp .eq off, 3)) (ht : (pc : Int) + off = (tgt : Int)) (q : ¬ x = y) (kf : jE K M d (pc + 3) ls st h Q mc ms) : jE K M d pc ls (.int y :: .int x :: st) h Q mc ms := j_icmp_eq hd ht (fun z => absurd q (by first | exact z | exact fun w => w z | exact not_not_intro z)) (fun _ => kf)
theorem j_if_ne {x : Int32} {off : Int} {tgt : Nat} (hd : decode M.2.1 pc = .ok (.ifCond .ne off, 3)) (ht : (pc : Int) + off = (tgt : Int)) (kt : ¬ x = 0 → jE K M d tgt ls st h Q mc ms) (kf : x = 0 → jE K M d (pc + 3) ls st h Q mc ms) : jE K M d pc ls (.int x :: st) h Q mc ms :=
  fun p e R s m as bl me c H lo ce sl la hC hc hs hl hw hL => lv_if_ne hC.1 hC.2.1 hd ht (fun q => kt q p e R s m as bl me c H lo ce sl la hC hc hs hl hw hL) (fun q => kf q p e R s m as bl me c H lo ce sl la hC hc hs hl hw hL)
theorem j_if_neT {x : Int32} {off : Int} {tgt : Nat} (hd : decode M.2.1 pc = .ok (.ifCond .ne off, 3)) (ht : (pc : Int) + off = (tgt : Int)) (q : ¬ x = 0) (kt : jE K M d tgt ls st h Q mc ms) : jE K M d pc ls (.int x :: st) h Q mc ms := j_if_ne hd ht (fun _ => kt) (fun z => absurd q (by first | exact z | exact fun w => z w | exact not_not_intro z))
theorem j_if_neF {x : Int32} {off : Int} {tgt : Nat} (hd : decode M.2.1 pc = .ok (.ifCond .ne off, 3)) (ht : (pc : Int) + off = (tgt : Int)) (q : x = 0) (kf : jE K M d (pc + 3) ls st h Q mc ms) : jE K M d pc ls (.int x :: st) h Q mc ms := j_if_ne hd ht (fun z => absurd q (by first | exact z | exact fun w => w z | exact not_not_intro z)) (fun _ => kf)
theorem j_icmp_ne {x y : Int32} {off : Int} {tgt : Nat} (hd : decode M.2.1 pc = .ok (.if_icmp .ne off, 3)) (ht : (pc : Int) + off = (tgt : Int)) (kt : ¬ x = y → jE K M d tgt ls st h Q mc ms) (kf : x = y → jE K M d (pc + 3) ls st h Q mc ms) : jE K M d pc ls (.int y :: .int x :: st) h Q mc ms :=
  fun p e R s m as bl me c H lo ce sl la hC hc hs hl hw hL => lv_icmp_ne hC.1 hC.2.1 hd ht (fun q => kt q p e R s m as bl me c H lo ce sl la hC hc hs hl hw hL) (fun q => kf q p e R s m as bl me c H lo ce sl la hC hc hs hl hw hL)
theorem j_icmp_neT {x y : Int32} {off : Int} {tgt : Nat} (hd : decode M.2.1 pc = .ok (.if_icmp .ne off, 3)) (ht : (pc : Int) + off = (tgt : Int)) (q : ¬ x = y) (kt : jE K M d tgt ls st h Q mc ms) : jE K M d pc ls (.int y :: .int x :: st) h Q mc ms := j_icmp_ne hd ht (fun _ => kt) (fun z => absurd q (by first | exact z | exact fun w => z w | exact not_not_intro z))
theorem j_icmp_neF {x y : Int32} {off : Int} {tgt : Nat} (hd : decode M.2.1 pc = .ok (.if_icmp .ne off, 3)) (ht : (pc : Int) + off = (tgt : Int)) (q : x = y) (kf : jE K M d (pc + 3) ls st h Q mc ms) : jE K M d pc ls (.int y :: .int x :: st) h Q mc ms := j_icmp_ne hd ht (fun z => absurd q (by first | exact z | exact fun w => w z | exact not_not_intro z)) (fun _ => kf)
theorem j_if_lt {x : Int32} {off : Int} {tgt : Nat} (hd : decode M.2.1 pc = .ok (.ifCond .lt off, 3)) (ht : (pc : Int) + off = (tgt : Int)) (kt : x < 0 → jE K M d tgt ls st h Q mc ms) (kf : ¬ x < 0 → jE K M d (pc + 3) ls st h Q mc ms) : jE K M d pc ls (.int x :: st) h Q mc ms :=
  fun p e R s m as bl me c H lo ce sl la hC hc hs hl hw hL => lv_if_lt hC.1 hC.2.1 hd ht (fun q => kt q p e R s m as bl me c H lo ce sl la hC hc hs hl hw hL) (fun q => kf q p e R s m as bl me c H lo ce sl la hC hc hs hl hw hL)
theorem j_if_ltT {x : Int32} {off : Int} {tgt : Nat} (hd : decode M.2.1 pc = .ok (.ifCond .lt off, 3)) (ht : (pc : Int) + off = (tgt : Int)) (q : x < 0) (kt : jE K M d tgt ls st h Q mc ms) : jE K M d pc ls (.int x :: st) h Q mc ms := j_if_lt hd ht (fun _ => kt) (fun z => absurd q (by first | exact z | exact fun w => z w | exact not_not_intro z))
theorem j_if_ltF {x : Int32} {off : Int} {tgt : Nat} (hd : decode M.2.1 pc = .ok (.ifCond .lt off, 3)) (ht : (pc : Int) + off = (tgt : Int)) (q : ¬ x < 0) (kf : jE K M d (pc + 3) ls st h Q mc ms) : jE K M d pc ls (.int x :: st) h Q mc ms := j_if_lt hd ht (fun z => absurd q (by first | exact z | exact fun w => w z | exact not_not_intro z)) (fun _ => kf)
theorem j_icmp_lt {x y : Int32} {off : Int} {tgt : Nat} (hd : decode M.2.1 pc = .ok (.if_icmp .lt off, 3)) (ht : (pc : Int) + off = (tgt : Int)) (kt : x < y → jE K M d tgt ls st h Q mc ms) (kf : ¬ x < y → jE K M d (pc + 3) ls st h Q mc ms) : jE K M d pc ls (.int y :: .int x :: st) h Q mc ms :=
  fun p e R s m as bl me c H lo ce sl la hC hc hs hl hw hL => lv_icmp_lt hC.1 hC.2.1 hd ht (fun q => kt q p e R s m as bl me c H lo ce sl la hC hc hs hl hw hL) (fun q => kf q p e R s m as bl me c H lo ce sl la hC hc hs hl hw hL)
theorem j_icmp_ltT {x y : Int32} {off : Int} {tgt : Nat} (hd : decode M.2.1 pc = .ok (.if_icmp .lt off, 3)) (ht : (pc : Int) + off = (tgt : Int)) (q : x < y) (kt : jE K M d tgt ls st h Q mc ms) : jE K M d pc ls (.int y :: .int x :: st) h Q mc ms := j_icmp_lt hd ht (fun _ => kt) (fun z => absurd q (by first | exact z | exact fun w => z w | exact not_not_intro z))
theorem j_icmp_ltF {x y : Int32} {off : Int} {tgt : Nat} (hd : decode M.2.1 pc = .ok (.if_icmp .lt off, 3)) (ht : (pc : Int) + off = (tgt : Int)) (q : ¬ x < y) (kf : jE K M d (pc + 3) ls st h Q mc ms) : jE K M d pc ls (.int y :: .int x :: st) h Q mc ms := j_icmp_lt hd ht (fun z => absurd q (by first | exact z | exact fun w => w z | exact not_not_intro z)) (fun _ => kf)
theorem j_if_ge {x : Int32} {off : Int} {tgt : Nat} (hd : decode M.2.1 pc = .ok (.ifCond .ge off, 3)) (ht : (pc : Int) + off = (tgt : Int)) (kt : 0 ≤ x → jE K M d tgt ls st h Q mc ms) (kf : ¬ 0 ≤ x → jE K M d (pc + 3) ls st h Q mc ms) : jE K M d pc ls (.int x :: st) h Q mc ms :=
  fun p e R s m as bl me c H lo ce sl la hC hc hs hl hw hL => lv_if_ge hC.1 hC.2.1 hd ht (fun q => kt q p e R s m as bl me c H lo ce sl la hC hc hs hl hw hL) (fun q => kf q p e R s m as bl me c H lo ce sl la hC hc hs hl hw hL)
theorem j_if_geT {x : Int32} {off : Int} {tgt : Nat} (hd : decode M.2.1 pc = .ok (.ifCond .ge off, 3)) (ht : (pc : Int) + off = (tgt : Int)) (q : 0 ≤ x) (kt : jE K M d tgt ls st h Q mc ms) : jE K M d pc ls (.int x :: st) h Q mc ms := j_if_ge hd ht (fun _ => kt) (fun z => absurd q (by first | exact z | exact fun w => z w | exact not_not_intro z))
theorem j_if_geF {x : Int32} {off : Int} {tgt : Nat} (hd : decode M.2.1 pc = .ok (.ifCond .ge off, 3)) (ht : (pc : Int) + off = (tgt : Int)) (q : ¬ 0 ≤ x) (kf : jE K M d (pc + 3) ls st h Q mc ms) : jE K M d pc ls (.int x :: st) h Q mc ms := j_if_ge hd ht (fun z => absurd q (by first | exact z | exact fun w => w z | exact not_not_intro z)) (fun _ => kf)
theorem j_icmp_ge {x y : Int32} {off : Int} {tgt : Nat} (hd : decode M.2.1 pc = .ok (.if_icmp .ge off, 3)) (ht : (pc : Int) + off = (tgt : Int)) (kt : y ≤ x → jE K M d tgt ls st h Q mc ms) (kf : ¬ y ≤ x → jE K M d (pc + 3) ls st h Q mc ms) : jE K M d pc ls (.int y :: .int x :: st) h Q mc ms :=
  fun p e R s m as bl me c H lo ce sl la hC hc hs hl hw hL => lv_icmp_ge hC.1 hC.2.1 hd ht (fun q => kt q p e R s m as bl me c H lo ce sl la hC hc hs hl hw hL) (fun q => kf q p e R s m as bl me c H lo ce sl la hC hc hs hl hw hL)
theorem j_icmp_geT {x y : Int32} {off : Int} {tgt : Nat} (hd : decode M.2.1 pc = .ok (.if_icmp .ge off, 3)) (ht : (pc : Int) + off = (tgt : Int)) (q : y ≤ x) (kt : jE K M d tgt ls st h Q mc ms) : jE K M d pc ls (.int y :: .int x :: st) h Q mc ms := j_icmp_ge hd ht (fun _ => kt) (fun z => absurd q (by first | exact z | exact fun w => z w | exact not_not_intro z))
theorem j_icmp_geF {x y : Int32} {off : Int} {tgt : Nat} (hd : decode M.2.1 pc = .ok (.if_icmp .ge off, 3)) (ht : (pc : Int) + off = (tgt : Int)) (q : ¬ y ≤ x) (kf : jE K M d (pc + 3) ls st h Q mc ms) : jE K M d pc ls (.int y :: .int x :: st) h Q mc ms := j_icmp_ge hd ht (fun z => absurd q (by first | exact z | exact fun w => w z | exact not_not_intro z)) (fun _ => kf)
theorem j_if_gt {x : Int32} {off : Int} {tgt : Nat} (hd : decode M.2.1 pc = .ok (.ifCond .gt off, 3)) (ht : (pc : Int) + off = (tgt : Int)) (kt : 0 < x → jE K M d tgt ls st h Q mc ms) (kf : ¬ 0 < x → jE K M d (pc + 3) ls st h Q mc ms) : jE K M d pc ls (.int x :: st) h Q mc ms :=
  fun p e R s m as bl me c H lo ce sl la hC hc hs hl hw hL => lv_if_gt hC.1 hC.2.1 hd ht (fun q => kt q p e R s m as bl me c H lo ce sl la hC hc hs hl hw hL) (fun q => kf q p e R s m as bl me c H lo ce sl la hC hc hs hl hw hL)
theorem j_if_gtT {x : Int32} {off : Int} {tgt : Nat} (hd : decode M.2.1 pc = .ok (.ifCond .gt off, 3)) (ht : (pc : Int) + off = (tgt : Int)) (q : 0 < x) (kt : jE K M d tgt ls st h Q mc ms) : jE K M d pc ls (.int x :: st) h Q mc ms := j_if_gt hd ht (fun _ => kt) (fun z => absurd q (by first | exact z | exact fun w => z w | exact not_not_intro z))
theorem j_if_gtF {x : Int32} {off : Int} {tgt : Nat} (hd : decode M.2.1 pc = .ok (.ifCond .gt off, 3)) (ht : (pc : Int) + off = (tgt : Int)) (q : ¬ 0 < x) (kf : jE K M d (pc + 3) ls st h Q mc ms) : jE K M d pc ls (.int x :: st) h Q mc ms := j_if_gt hd ht (fun z => absurd q (by first | exact z | exact fun w => w z | exact not_not_intro z)) (fun _ => kf)
theorem j_icmp_gt {x y : Int32} {off : Int} {tgt : Nat} (hd : decode M.2.1 pc = .ok (.if_icmp .gt off, 3)) (ht : (pc : Int) + off = (tgt : Int)) (kt : y < x → jE K M d tgt ls st h Q mc ms) (kf : ¬ y < x → jE K M d (pc + 3) ls st h Q mc ms) : jE K M d pc ls (.int y :: .int x :: st) h Q mc ms :=
  fun p e R s m as bl me c H lo ce sl la hC hc hs hl hw hL => lv_icmp_gt hC.1 hC.2.1 hd ht (fun q => kt q p e R s m as bl me c H lo ce sl la hC hc hs hl hw hL) (fun q => kf q p e R s m as bl me c H lo ce sl la hC hc hs hl hw hL)
theorem j_icmp_gtT {x y : Int32} {off : Int} {tgt : Nat} (hd : decode M.2.1 pc = .ok (.if_icmp .gt off, 3)) (ht : (pc : Int) + off = (tgt : Int)) (q : y < x) (kt : jE K M d tgt ls st h Q mc ms) : jE K M d pc ls (.int y :: .int x :: st) h Q mc ms := j_icmp_gt hd ht (fun _ => kt) (fun z => absurd q (by first | exact z | exact fun w => z w | exact not_not_intro z))
theorem j_icmp_gtF {x y : Int32} {off : Int} {tgt : Nat} (hd : decode M.2.1 pc = .ok (.if_icmp .gt off, 3)) (ht : (pc : Int) + off = (tgt : Int)) (q : ¬ y < x) (kf : jE K M d (pc + 3) ls st h Q mc ms) : jE K M d pc ls (.int y :: .int x :: st) h Q mc ms := j_icmp_gt hd ht (fun z => absurd q (by first | exact z | exact fun w => w z | exact not_not_intro z)) (fun _ => kf)
theorem j_if_le {x : Int32} {off : Int} {tgt : Nat} (hd : decode M.2.1 pc = .ok (.ifCond .le off, 3)) (ht : (pc : Int) + off = (tgt : Int)) (kt : x ≤ 0 → jE K M d tgt ls st h Q mc ms) (kf : ¬ x ≤ 0 → jE K M d (pc + 3) ls st h Q mc ms) : jE K M d pc ls (.int x :: st) h Q mc ms :=
  fun p e R s m as bl me c H lo ce sl la hC hc hs hl hw hL => lv_if_le hC.1 hC.2.1 hd ht (fun q => kt q p e R s m as bl me c H lo ce sl la hC hc hs hl hw hL) (fun q => kf q p e R s m as bl me c H lo ce sl la hC hc hs hl hw hL)
theorem j_if_leT {x : Int32} {off : Int} {tgt : Nat} (hd : decode M.2.1 pc = .ok (.ifCond .le off, 3)) (ht : (pc : Int) + off = (tgt : Int)) (q : x ≤ 0) (kt : jE K M d tgt ls st h Q mc ms) : jE K M d pc ls (.int x :: st) h Q mc ms := j_if_le hd ht (fun _ => kt) (fun z => absurd q (by first | exact z | exact fun w => z w | exact not_not_intro z))
theorem j_if_leF {x : Int32} {off : Int} {tgt : Nat} (hd : decode M.2.1 pc = .ok (.ifCond .le off, 3)) (ht : (pc : Int) + off = (tgt : Int)) (q : ¬ x ≤ 0) (kf : jE K M d (pc + 3) ls st h Q mc ms) : jE K M d pc ls (.int x :: st) h Q mc ms := j_if_le hd ht (fun z => absurd q (by first | exact z | exact fun w => w z | exact not_not_intro z)) (fun _ => kf)
theorem j_icmp_le {x y : Int32} {off : Int} {tgt : Nat} (hd : decode M.2.1 pc = .ok (.if_icmp .le off, 3)) (ht : (pc : Int) + off = (tgt : Int)) (kt : x ≤ y → jE K M d tgt ls st h Q mc ms) (kf : ¬ x ≤ y → jE K M d (pc + 3) ls st h Q mc ms) : jE K M d pc ls (.int y :: .int x :: st) h Q mc ms :=
  fun p e R s m as bl me c H lo ce sl la hC hc hs hl hw hL => lv_icmp_le hC.1 hC.2.1 hd ht (fun q => kt q p e R s m as bl me c H lo ce sl la hC hc hs hl hw hL) (fun q => kf q p e R s m as bl me c H lo ce sl la hC hc hs hl hw hL)
theorem j_icmp_leT {x y : Int32} {off : Int} {tgt : Nat} (hd : decode M.2.1 pc = .ok (.if_icmp .le off, 3)) (ht : (pc : Int) + off = (tgt : Int)) (q : x ≤ y) (kt : jE K M d tgt ls st h Q mc ms) : jE K M d pc ls (.int y :: .int x :: st) h Q mc ms := j_icmp_le hd ht (fun _ => kt) (fun z => absurd q (by first | exact z | exact fun w => z w | exact not_not_intro z))
theorem j_icmp_leF {x y : Int32} {off : Int} {tgt : Nat} (hd : decode M.2.1 pc = .ok (.if_icmp .le off, 3)) (ht : (pc : Int) + off = (tgt : Int)) (q : ¬ x ≤ y) (kf : jE K M d (pc + 3) ls st h Q mc ms) : jE K M d pc ls (.int y :: .int x :: st) h Q mc ms := j_icmp_le hd ht (fun z => absurd q (by first | exact z | exact fun w => w z | exact not_not_intro z)) (fun _ => kf)
theorem j_lg_mem {ls : List (Nat × Value)} {i : Nat} {v : Value} (h : j_lg ls i = some v) : (i, v) ∈ ls := by
  induction ls with
  | nil => cases h
  | cons q r ih =>
    unfold j_lg at h
    split at h
    · rename_i hq
      cases h
      rw [← hq]
      exact List.mem_cons_self
    · exact List.mem_cons_of_mem _ (ih h)
theorem j_iinc {i : Nat} {n : Int} {x v : Int32} (hd : decode M.2.1 pc = .ok (.iinc i n, 3)) (hg : j_lg ls i = some (.int x)) (hv : x + Int32.ofInt n = v) (hn : i < M.2.2.1) (k : jE K M d (pc + 3) (j_ls ls i (.int v)) st h Q mc ms) : jE K M d pc ls st h Q mc ms := by
  intro p e R s m as bl me c H lo ce sl la hC hc hs hl hw hL
  obtain ⟨k0, hk0⟩ := List.getElem?_of_mem (List.mem_map.mpr ⟨(i, .int x), j_lg_mem hg, rfl⟩ : (j_l K (i, .int x)) ∈ ls.map (j_l K))
  exact lv_iinc hC.1 hC.2.1 hd hl (k := k0) (x := x) hk0 hv hn (j_ls_map K ls i (.int v)) (fun la' hl' => k p e R s m as bl me c H lo ce sl la' hC hc hs hl' hw hL)
/-- the top of the stack under another name -/
theorem j_top {v w : Value} (hv : v = w) (k : jE K M d pc ls (w :: st) h Q mc ms) : jE K M d pc ls (v :: st) h Q mc ms := hv ▸ k
theorem j_st {st' : List Value} (hv : st = st') (k : jE K M d pc ls st' h Q mc ms) : jE K M d pc ls st h Q mc ms := hv ▸ k
theorem j_lsr {ls' : List (Nat × Value)} (hv : ls = ls') (k : jE K M d pc ls' st h Q mc ms) : jE K M d pc ls st h Q mc ms := hv ▸ k
theorem j_hp {h' : jH} (hv : h = h') (k : jE K M d pc ls st h' Q mc ms) : jE K M d pc ls st h Q mc ms := hv ▸ k
/-- fewer locals, in any order -/
theorem j_few {ls' : List (Nat × Value)} (hs : ∀ q ∈ ls', j_lg ls q.1 = some q.2) (k : jE K M d pc ls' st h Q mc ms) : jE K M d pc ls st h Q mc ms :=
  fun p e R s m as bl me c H lo ce sl la hC hc hs' hl hw hL => k p e R s m as bl me c H lo ce sl la hC hc hs' ⟨hl.1, hl.2.1, fun q hq => by
    obtain ⟨r, hr, rfl⟩ := List.mem_map.mp hq
    exact j_lg_at hl (hs r hr)⟩ hw hL
theorem j_wide {mc' ms' : Nat} {Q' : jO → jH → Prop} (h1 : mc' ≤ mc) (h2 : ms' ≤ ms) (hQ : ∀ o g, Q' o g → Q o g) (k : jE K M d pc ls st h Q' mc' ms') : jE K M d pc ls st h Q mc ms :=
  fun p e R s m as bl me c H lo ce sl la hC hc hs hl hw hL => j_mono (fun t => by
    rintro ⟨o, mo, h', L, a1, a2, a3, a4, a5, a6, a7, a8⟩
    exact ⟨o, mo, h', L, a1, a2, a3, hQ _ _ a4, a5, a6, a7.mono (by omega) (by omega), a8⟩) (k p e R s m as bl me c H lo ce sl la hC (by omega) (by omega) hl hw hL)
/-! returns -/
theorem j_iret {v : Int32} (hr : M.2.2.2.1 = some .int) (hd : decode M.2.1 pc = .ok (.ireturn, 1)) (hq : Q (.inl (some (.int v))) h) : jE K M d pc ls [.int v] h Q mc ms := by
  intro p e R s m as bl me c H lo ce sl la hC hc hs hl hw hL
  have hlocks := hC.2.2.2.2.2.2.1
  refine j_mono ?_ (W.iret (Qc := fun _ _ o t => o = .returned (some (.int v)) ∧ t.heap = H) (free := fun q => K.2.1 ≤ q) hC.1 hC.2.1 (hC.2.2.2.2.2.1.trans hr) (fun t ht _ => ⟨rfl, ht⟩) hL hd hlocks)
  rintro t ⟨o, h1, h2, ⟨rfl, hh⟩, L, ⟨-, hW, hsame⟩, hL'⟩
  exact ⟨_, .inl (some (.int v)), h, L, h1, h2, rfl, hq, hh ▸ hw, hW, hsame.mono (by simp [j_xc]) (by simp [j_xc]), hL'⟩
theorem j_zret {v : Int32} {ty : FieldType} (hr : M.2.2.2.1 = some ty) (hn : narrow ty (.int v) = .int v) (hd : decode M.2.1 pc = .ok (.ireturn, 1)) (hq : Q (.inl (some (.int v))) h) : jE K M d pc ls [.int v] h Q mc ms := by
  intro p e R s m as bl me c H lo ce sl la hC hc hs hl hw hL
  have hlocks := hC.2.2.2.2.2.2.1
  refine j_mono ?_ (W.zret (Qc := fun _ _ o t => o = .returned (some (.int v)) ∧ t.heap = H) (free := fun q => K.2.1 ≤ q) hC.1 hC.2.1 (hC.2.2.2.2.2.1.trans hr) hn (fun t ht _ => ⟨rfl, ht⟩) hL hd hlocks)
  rintro t ⟨o, h1, h2, ⟨rfl, hh⟩, L, ⟨-, hW, hsame⟩, hL'⟩
  exact ⟨_, .inl (some (.int v)), h, L, h1, h2, rfl, hq, hh ▸ hw, hW, hsame.mono (by simp [j_xc]) (by simp [j_xc]), hL'⟩
theorem j_vret (hr : M.2.2.2.1 = none) (hd : decode M.2.1 pc = .ok (.return_, 1)) (hq : Q (.inl none) h) : jE K M d pc ls [] h Q mc ms := by
  intro p e R s m as bl me c H lo ce sl la hC hc hs hl hw hL
  have hlocks := hC.2.2.2.2.2.2.1
  refine j_mono ?_ (W.vret (Qc := fun _ _ o t => o = .returned none ∧ t.heap = H) (free := fun q => K.2.1 ≤ q) hC.1 hC.2.1 (hC.2.2.2.2.2.1.trans hr) (fun t ht _ => ⟨rfl, ht⟩) hL hd hlocks)
  rintro t ⟨o, h1, h2, ⟨rfl, hh⟩, L, ⟨-, hW, hsame⟩, hL'⟩
  exact ⟨_, .inl none, h, L, h1, h2, rfl, hq, hh ▸ hw, hW, hsame.mono (by simp [j_xc]) (by simp [j_xc]), hL'⟩
theorem j_aret {i : Nat} {rt : FieldType} (hr : M.2.2.2.1 = some rt) (hrt : (∃ n, rt = .object n) ∨ ∃ t, rt = .array t) (hd : decode M.2.1 pc = .ok (.areturn, 1)) (hq : Q (.inl (some (.ref i))) h) : jE K M d pc ls [.ref i] h Q mc ms := by
  intro p e R s m as bl me c H lo ce sl la hC hc hs hl hw hL
  have hlocks := hC.2.2.2.2.2.2.1
  refine j_mono ?_ (W.aret (Qc := fun _ _ o t => o = .returned (some (.ref (j_adr K i))) ∧ t.heap = H) (free := fun q => K.2.1 ≤ q) hC.1 hC.2.1 (hC.2.2.2.2.2.1.trans hr) hrt (Or.inr ⟨_, rfl⟩) (fun t ht _ => ⟨rfl, ht⟩) hL hd hlocks)
  rintro t ⟨o, h1, h2, ⟨rfl, hh⟩, L, ⟨-, hW, hsame⟩, hL'⟩
  exact ⟨_, .inl (some (.ref i)), h, L, h1, h2, rfl, hq, hh ▸ hw, hW, hsame.mono (by simp [j_xc]) (by simp [j_xc]), hL'⟩
end JROWS
end
section
/-! cells of the world -/
theorem j_P1 {D : va_G} {cl : List vw_C} {q : Nat × va_E} {H : Heap} (h : va_at D cl q H) : va_P D cl [q] H := by
  intro k x hx
  cases k with
  | zero => cases hx; exact h
  | succ k => cases hx
theorem jW.at {K : jK} {h : jH} {H : Heap} (hw : jW K h H) {i : Nat} {x : va_E} (hx : j_get h i = some x) : va_at K.2.2.2.1 classes (j_adr K i, j_e K x) H := by
  unfold j_get at hx
  split at hx
  · cases hx
  · rename_i hi
    have h1 := hw.1 (i - 32) x hx
    rw [show j_adr K i = K.2.1 + (i - 32) by simp [j_adr, hi]]
    exact h1
theorem jW.put {K : jK} {h : jH} {H H1 : Heap} (hw : jW K h H) {i : Nat} {x y : va_E} (hx : j_get h i = some x) (hat : va_at K.2.2.2.1 classes (j_adr K i, j_e K y) H1) (hz : H1.size = H.size) (ho : ∀ q : Nat, q ≠ j_adr K i → H1[q]? = H[q]?) : jW K (j_set h i y) H1 := by
  unfold j_get at hx
  split at hx
  · cases hx
  · rename_i hi
    have ha : j_adr K i = K.2.1 + (i - 32) := by simp [j_adr, hi]
    rw [ha] at hat ho
    have hlt : i - 32 < h.length := (List.getElem?_eq_some_iff.mp hx).1
    refine ⟨fun j z hj => ?_, by rw [hz, hw.2.1]; simp [j_set], fun q hq => (ho q (by omega)).trans (hw.2.2 q hq)⟩
    by_cases e : j = i - 32
    · subst e
      have hj' : (h.set (i - 32) y)[i - 32]? = some z := hj
      rw [List.getElem?_set_self hlt] at hj'
      cases hj'
      exact hat
    · have hj' : (h.set (i - 32) y)[j]? = some z := hj
      rw [List.getElem?_set_ne (Ne.symm e)] at hj'
      exact (hw.1 j z hj').kept (ho _ (by show K.2.1 + j ≠ _; omega))
theorem jW.push {K : jK} {h : jH} {H H1 : Heap} (hw : jW K h H) {y : va_E} (hat : va_at K.2.2.2.1 classes (K.2.1 + h.length, j_e K y) H1) (hz : H1.size = H.size + 1) (ho : ∀ q : Nat, q < H.size → H1[q]? = H[q]?) : jW K (h ++ [y]) H1 := by
  have hsz := hw.2.1
  refine ⟨fun j z hj => ?_, by rw [hz, hsz]; simp; omega, fun q hq => (ho q (by omega)).trans (hw.2.2 q hq)⟩
  by_cases e : j < h.length
  · rw [List.getElem?_append_left e] at hj
    exact (hw.1 j z hj).kept (ho _ (by show K.2.1 + j < _; omega))
  · rw [List.getElem?_append_right (by omega)] at hj
    have e2 : j - h.length = 0 := by
      have := (List.getElem?_eq_some_iff.mp hj).1
      simp at this
      omega
    rw [e2] at hj
    cases hj
    rw [show j = h.length by omega]
    exact hat
/-- what the tables say of a field that an instruction names: own: the instruction's class; ci, k: the class and the field by number; its type; final or not -/
def jF (own : String) (idx ci k : Nat) (ty : FieldType) (fin : Bool) : Prop := ∃ (C : String) (T : u_T) (N : Nat) (ty0 : Nat → FieldType), classes[ci]? = some (C, T, N) ∧ k < N ∧ (∀ w ∈ u_ws C T N, w ∈ jt) ∧ (T k).1 = C ∧
  (Cond.fieldLink own idx C (T k).2.1 (T k).2.2.1 ∈ jt ∨ ∃ host, Cond.fieldLinkNest own idx C (T k).2.1 (T k).2.2.1 host ∈ jt) ∧ (∀ k, k < N → parseFieldDescriptor (T k).2.2.1 = some (ty0 k)) ∧ (∀ a, a < N → ∀ b, b < N → a ≠ b → (T a).2.1 ≠ (T b).2.1) ∧ ty0 k = ty ∧ (T k).2.2.2 = fin
section JHEAP
variable {K : jK} {M : jR} {d pc : Nat} {ls : List (Nat × Value)} {st : List Value} {h : jH} {Q : jO → jH → Prop} {mc ms : Nat}
theorem j_getf {idx ci k i : Nat} {ty : FieldType} {fin : Bool} {fs : List Value} {v : Value} (hd : decode M.2.1 pc = .ok (.getfield idx, 3)) (hf : jF M.1.cls idx ci k ty fin) (hx : j_get h i = some (.inr (ci, fs))) (hv : fs[k]? = some v) (kk : jE K M d (pc + 3) ls (v :: st) h Q mc ms) : jE K M d pc ls (.ref i :: st) h Q mc ms := by
  intro p e R s m as bl me c H lo ce sl la hC hc hs hl hw hL
  obtain ⟨C, T, N, ty0, hcl, hk, hin, hdecl, hlink, -⟩ := hf
  have hP : va_P K.2.2.2.1 classes [(j_adr K i, .inr (ci, fs.map (j_v K)))] H := j_P1 (hw.at hx)
  have hv' : (fs.map (j_v K))[k]? = some (j_v K v) := by rw [List.getElem?_map, hv]; rfl
  have hK := hC.2.2.2.2.2.2.2.2.2.2.2.1
  have hts := hC.2.2.2.2.1
  have kk' := kk p e R s m as bl me c H lo ce sl la hC hc hs hl hw hL
  rcases hlink with hlink | ⟨host, hlink⟩
  · exact va_get (ref := C) hC.1 hC.2.1 hts hin hC.2.2.2.1 hK hP 0 rfl hcl k hk (hts _ hlink) (fun x hx => by rw [hdecl] at hx; exact hx) hv' hd kk'
  · exact va_getN (ref := C) hC.1 hC.2.1 hts hin hC.2.2.2.1 hK hP 0 rfl hcl k hk (hts _ hlink) (fun x hx => by rw [hdecl] at hx; exact hx) hv' hd kk'
theorem j_putf {idx ci k i : Nat} {ty : FieldType} {fs : List Value} {v : Value} {h' : jH} (hd : decode M.2.1 pc = .ok (.putfield idx, 3)) (hf : jF M.1.cls idx ci k ty false) (hx : j_get h i = some (.inr (ci, fs))) (hlen : k < fs.length) (hn : narrow ty (j_v K v) = j_v K v) (hfit : fits ty (j_v K v) = true) (hh : j_set h i (.inr (ci, fs.set k v)) = h')
    (kk : jE K M d (pc + 3) ls st h' Q mc ms) : jE K M d pc ls (v :: .ref i :: st) h Q mc ms := by
  subst hh
  intro p e R s m as bl me c H lo ce sl la hC hc hs hl hw hL
  obtain ⟨C, T, N, ty0, hcl, hk, hin, hdecl, hlink, hty, hnm, rfl, hfin⟩ := hf
  have hK := hC.2.2.2.2.2.2.2.2.2.2.2.1
  have hts := hC.2.2.2.2.1
  have hap := va_apart (own := M.1.cls) hts hin ty0 hty hnm hK hcl
  obtain ⟨r, h1, cell, q1, q2, q3, q4⟩ := hw.at hx
  have hr : r = (C, T, N) := Option.some.inj (h1.symm.trans hcl)
  subst hr
  obtain ⟨hS, hfc, kC, hkC, hkind⟩ := hK.1 ci _ hcl
  obtain ⟨cf, kf, fi, f, hi, hsl⟩ := hS k hk
  have hlay := hts _ (hin _ (u_in_lay hk))
  unfold u_lay at hlay
  rw [if_neg (by rw [hfin]; decide)] at hlay
  have hst := (u_facts hfc hkC (u_lays hts hin hk) hi).1
  have h6 := u_store hfc hkC hkind hlay hi (hty k hk) hn hfit
  have hsame : s.fieldFound? C (T k).2.1 (T k).2.2.1 = some (cf, kf, fi, f) := by rw [hdecl] at hi; exact hi
  have hlen' : k < (fs.map (j_v K)).length := by simpa using hlen
  have key : ∀ H' : Heap, H'[j_adr K i]? = some (cell.setSlot f.slot (j_v K v)) → H'.size = H.size → (∀ q, q ≠ j_adr K i → H'[q]? = H[q]?) → W p K.1 e R s m as bl me c H' (lo ++ [⟨j_adr K i, f.slot⟩]) ce sl (jZ K bl s (ce + mc) (sl + ms) Q) (F0 m (pc + 3) la (st.map (j_v K))) := by
    intro H' e1 e2 e3
    refine kk p e R s m as bl me c H' _ ce sl la hC hc hs hl (hw.put hx ?_ e2 e3) ?_
    · rw [hsl] at e1
      refine ⟨_, hcl, ?_⟩
      have := t_OB.to (V := updV (vp_V (fs.map (j_v K))) k (j_v K v)) ⟨_, e1, q2, q3, t_set q4 hap hk (j_v K v)⟩ (fun j _ => vp_updV_set hlen' (j_v K v) j)
      rw [← List.map_set] at this
      exact this
    · intro q hq
      rcases List.mem_append.mp hq with h2 | h2
      · exact hL q h2
      · rw [List.mem_singleton.mp h2]
        show K.2.1 ≤ j_adr K i
        have : ¬ i < 32 := by
          intro hlt
          simp [j_get, hlt] at hx
        simp [j_adr, this]
  rcases hlink with hlink | ⟨host, hlink⟩
  · exact W.putK hC.1 hC.2.1 (f := f) ⟨hC.2.2.2.1, hts _ hlink, ⟨_, _, _, hsame⟩, hst⟩ (by rw [q2]; exact h6) q1 q3 (by rw [hsl]; exact k2_hasslot (q4 k hk)) rfl rfl hd key
  · exact va_WputK hC.1 hC.2.1 (f := f) hC.2.2.2.1 (hts _ hlink) hsame hst (by rw [q2]; exact h6) q1 q3 (by rw [hsl]; exact k2_hasslot (q4 k hk)) rfl rfl hd key
theorem j_putF {idx ci k i : Nat} {ty : FieldType} {fs : List Value} {v : Value} {h' : jH} (hd : decode M.2.1 pc = .ok (.putfield idx, 3)) (hf : jF M.1.cls idx ci k ty true) (hnI : M.1.name = "<init>") (hl0 : ∃ C T N, classes[ci]? = some (C, T, N) ∧ Cond.fieldLink M.1.cls idx C (T k).2.1 (T k).2.2.1 ∈ jt) (hown : ∀ C T N, classes[ci]? = some (C, T, N) → C = M.1.cls) (hx : j_get h i = some (.inr (ci, fs))) (hlen : k < fs.length) (hn : narrow ty (j_v K v) = j_v K v) (hfit : fits ty (j_v K v) = true) (hh : j_set h i (.inr (ci, fs.set k v)) = h')
    (kk : jE K M d (pc + 3) ls st h' Q mc ms) : jE K M d pc ls (v :: .ref i :: st) h Q mc ms := by
  subst hh
  intro p e R s m as bl me c H lo ce sl la hC hc hs hl hw hL
  obtain ⟨C, T, N, ty0, hcl, hk, hin, hdecl, hlink, hty, hnm, rfl, hfin⟩ := hf
  have hCo := hown C T N hcl
  have hK := hC.2.2.2.2.2.2.2.2.2.2.2.1
  have hts := hC.2.2.2.2.1
  have hap := va_apart (own := M.1.cls) hts hin ty0 hty hnm hK hcl
  obtain ⟨r, h1, cell, q1, q2, q3, q4⟩ := hw.at hx
  have hr : r = (C, T, N) := Option.some.inj (h1.symm.trans hcl)
  subst hr
  obtain ⟨hS, hfc, kC, hkC, hkind⟩ := hK.1 ci _ hcl
  obtain ⟨cf, kf, fi, f, hi, hsl⟩ := hS k hk
  have hlay := hts _ (hin _ (u_in_lay hk))
  unfold u_lay at hlay
  rw [if_pos hfin] at hlay
  have hst := (u_facts hfc hkC (u_lays hts hin hk) hi).1
  have hcf : m.cls = cf := by
    obtain ⟨_, _, c', _, _, _, -, -, hf', -, -, -, hown2, -⟩ := Cond.laysFinal_spec hlay
    have e1 : c' = cf := by have := hi.symm.trans hf'; simp at this; exact this.1.symm
    rw [hdecl, hCo] at hown2
    rw [← e1]; exact Option.some.inj (hC.2.2.2.1.symm.trans hown2)
  have h6 := u_fits hfc hkC hkind (Or.inr hlay) hi (hty k hk) hn hfit
  have hsame : s.fieldFound? C (T k).2.1 (T k).2.2.1 = some (cf, kf, fi, f) := by rw [hdecl] at hi; exact hi
  have hlen' : k < (fs.map (j_v K)).length := by simpa using hlen
  obtain ⟨C', T', N', hcl', hlink0⟩ := hl0
  obtain ⟨rfl, rfl, rfl⟩ : C' = C ∧ T' = T ∧ N' = N := by
    have h9 := Option.some.inj (hcl'.symm.trans hcl)
    simp only [Prod.mk.injEq] at h9
    exact h9
  refine W.putFinK hC.1 hC.2.1 hC.2.2.2.1 (hts _ hlink0) hsame hst hcf (hC.2.2.2.2.2.2.2.1.trans hnI) (by rw [q2]; exact h6) q1 q3 (by rw [hsl]; exact k2_hasslot (q4 k hk)) rfl rfl hd ?_
  intro H' e1 e2 e3
  refine kk p e R s m as bl me c H' _ ce sl la hC hc hs hl (hw.put hx ?_ e2 e3) ?_
  · rw [hsl] at e1
    refine ⟨_, hcl, ?_⟩
    have := t_OB.to (V := updV (vp_V (fs.map (j_v K))) k (j_v K v)) ⟨_, e1, q2, q3, t_set q4 hap hk (j_v K v)⟩ (fun j _ => vp_updV_set hlen' (j_v K v) j)
    rw [← List.map_set] at this
    exact this
  · intro q hq
    rcases List.mem_append.mp hq with h2 | h2
    · exact hL q h2
    · rw [List.mem_singleton.mp h2]
      show K.2.1 ≤ j_adr K i
      have : ¬ i < 32 := by
        intro hlt
        simp [j_get, hlt] at hx
      simp [j_adr, this]
theorem j_iald {i n j : Nat} {f : Nat → Int32} (hd : decode M.2.1 pc = .ok (.iaload, 1)) (hx : j_get h i = some (.inl (0, n, .inl f))) (hj : j < n) (hn : n < 2 ^ 31) (kk : jE K M d (pc + 1) ls (.int (f j) :: st) h Q mc ms) : jE K M d pc ls (.int (nI j) :: .ref i :: st) h Q mc ms := by
  intro p e R s m as bl me c H lo ce sl la hC hc hs hl hw hL
  have hP : va_P K.2.2.2.1 classes [(j_adr K i, .inl (K.2.2.2.2.1 0, n, .inl f))] H := j_P1 (hw.at hx)
  have kk' := kk p e R s m as bl me c H lo ce sl la hC hc hs hl hw hL
  refine va_iald hC.1 hC.2.1 hC.2.2.2.2.2.2.2.2.2.2.2.1 hP 0 0 rfl rfl (i := nI j) (vp_in_nI hj hn) hd ?_
  rw [nI_clamp (Nat.lt_trans hj hn)]
  exact kk'
theorem j_cald {i n j : Nat} {f : Nat → Int32} (hd : decode M.2.1 pc = .ok (.caload, 1)) (hx : j_get h i = some (.inl (1, n, .inl f))) (hj : j < n) (hn : n < 2 ^ 31) (kk : jE K M d (pc + 1) ls (.int (f j) :: st) h Q mc ms) : jE K M d pc ls (.int (nI j) :: .ref i :: st) h Q mc ms := by
  intro p e R s m as bl me c H lo ce sl la hC hc hs hl hw hL
  have hP : va_P K.2.2.2.1 classes [(j_adr K i, .inl (K.2.2.2.2.1 1, n, .inl f))] H := j_P1 (hw.at hx)
  have kk' := kk p e R s m as bl me c H lo ce sl la hC hc hs hl hw hL
  refine va_cald hC.1 hC.2.1 hC.2.2.2.2.2.2.2.2.2.2.2.1 hP 0 1 rfl rfl (i := nI j) (vp_in_nI hj hn) hd ?_
  rw [nI_clamp (Nat.lt_trans hj hn)]
  exact kk'
theorem j_zald {i n j : Nat} {f : Nat → Int32} (hd : decode M.2.1 pc = .ok (.baload, 1)) (hx : j_get h i = some (.inl (2, n, .inl f))) (hj : j < n) (hn : n < 2 ^ 31) (kk : jE K M d (pc + 1) ls (.int (f j) :: st) h Q mc ms) : jE K M d pc ls (.int (nI j) :: .ref i :: st) h Q mc ms := by
  intro p e R s m as bl me c H lo ce sl la hC hc hs hl hw hL
  have hP : va_P K.2.2.2.1 classes [(j_adr K i, .inl (K.2.2.2.2.1 2, n, .inl f))] H := j_P1 (hw.at hx)
  have kk' := kk p e R s m as bl me c H lo ce sl la hC hc hs hl hw hL
  refine va_zald hC.1 hC.2.1 hC.2.2.2.2.2.2.2.2.2.2.2.1 hP 0 2 rfl rfl (i := nI j) (vp_in_nI hj hn) hd ?_
  rw [nI_clamp (Nat.lt_trans hj hn)]
  exact kk'
theorem j_lald {i n j : Nat} {f : Nat → Int64} (hd : decode M.2.1 pc = .ok (.laload, 1)) (hx : j_get h i = some (.inl (3, n, .inr (.inl f)))) (hj : j < n) (hn : n < 2 ^ 31) (kk : jE K M d (pc + 1) ls (.long (f j) :: st) h Q mc ms) : jE K M d pc ls (.int (nI j) :: .ref i :: st) h Q mc ms := by
  intro p e R s m as bl me c H lo ce sl la hC hc hs hl hw hL
  have hP : va_P K.2.2.2.1 classes [(j_adr K i, .inl (K.2.2.2.2.1 3, n, .inr (.inl f)))] H := j_P1 (hw.at hx)
  have kk' := kk p e R s m as bl me c H lo ce sl la hC hc hs hl hw hL
  refine va_lald hC.1 hC.2.1 hC.2.2.2.2.2.2.2.2.2.2.2.1 hP 0 3 rfl rfl (i := nI j) (vp_in_nI hj hn) hd ?_
  rw [nI_clamp (Nat.lt_trans hj hn)]
  exact kk'
theorem j_loc {K : jK} {h : jH} {i k : Nat} {x : va_E} {lo : List Loc} (hx : j_get h i = some x) (hL : ∀ q ∈ lo, K.2.1 ≤ q.base) : ∀ q ∈ lo ++ [(⟨j_adr K i, k⟩ : Loc)], K.2.1 ≤ q.base := by
  intro q hq
  rcases List.mem_append.mp hq with h2 | h2
  · exact hL q h2
  · rw [List.mem_singleton.mp h2]
    show K.2.1 ≤ j_adr K i
    have : ¬ i < 32 := by
      intro hlt
      simp [j_get, hlt] at hx
    simp [j_adr, this]
theorem j_iast {i n j : Nat} {f : Nat → Int32} {x : Int32} {h' : jH} (hd : decode M.2.1 pc = .ok (.iastore, 1)) (hx : j_get h i = some (.inl (0, n, .inl f))) (hj : j < n) (hn : n < 2 ^ 31) (hh : j_set h i (.inl (0, n, .inl (upd f j x))) = h') (kk : jE K M d (pc + 1) ls st h' Q mc ms) : jE K M d pc ls (.int x :: .int (nI j) :: .ref i :: st) h Q mc ms := by
  subst hh
  intro p e R s m as bl me c H lo ce sl la hC hc hs hl hw hL
  have hat : H[j_adr K i]? = some (vp_cell (K.2.2.2.2.1 0) (n, .inl f)) := hw.at hx
  have hin : vp_in (nI j) n := vp_in_nI hj hn
  refine W.iast hC.1 hC.2.1 hat (((hC.2.2.2.2.2.2.2.2.2.2.2.1).2 0 _ rfl).1 n (fun j => .int (f j))) (fun q => by cases q) (by show ¬ (_ ∨ (arrV _ _ _).slots.size ≤ _); rw [arrV_size]; exact hin) rfl rfl hd fun H1 e1 z oq => ?_
  refine kk p e R s m as bl me c H1 _ ce sl la hC hc hs hl (hw.put hx ?_ z oq) (j_loc hx hL)
  show H1[j_adr K i]? = some (vp_cell _ _)
  rw [e1]
  rw [vp_cell_i, vp_cell_i, arrV_store, nI_clamp (Nat.lt_trans hj hn)]
  congr 2
  funext q
  by_cases hq : q = j
  · subst hq
    simp [updV, upd]
  · simp [updV, upd, hq]
theorem j_cast {i n j : Nat} {f : Nat → Int32} {x : Int32} {h' : jH} (hd : decode M.2.1 pc = .ok (.castore, 1)) (hx : j_get h i = some (.inl (1, n, .inl f))) (hj : j < n) (hn : n < 2 ^ 31) (hv : narrow .char (.int x) = .int x) (hh : j_set h i (.inl (1, n, .inl (upd f j x))) = h') (kk : jE K M d (pc + 1) ls st h' Q mc ms) : jE K M d pc ls (.int x :: .int (nI j) :: .ref i :: st) h Q mc ms := by
  subst hh
  intro p e R s m as bl me c H lo ce sl la hC hc hs hl hw hL
  have hat : H[j_adr K i]? = some (vp_cell (K.2.2.2.2.1 1) (n, .inl f)) := hw.at hx
  have hin : vp_in (nI j) n := vp_in_nI hj hn
  refine W.cast hC.1 hC.2.1 hat (((hC.2.2.2.2.2.2.2.2.2.2.2.1).2 1 _ rfl).1 n (fun j => .int (f j))) (fun q => by cases q) (by show ¬ (_ ∨ (arrV _ _ _).slots.size ≤ _); rw [arrV_size]; exact hin) rfl rfl hd fun H1 e1 z oq => ?_
  refine kk p e R s m as bl me c H1 _ ce sl la hC hc hs hl (hw.put hx ?_ z oq) (j_loc hx hL)
  show H1[j_adr K i]? = some (vp_cell _ _)
  rw [e1]
  rw [vp_cell_i, vp_cell_i, arrV_store, nI_clamp (Nat.lt_trans hj hn), hv]
  congr 2
  funext q
  by_cases hq : q = j
  · subst hq
    simp [updV, upd]
  · simp [updV, upd, hq]
theorem j_zast {i n j : Nat} {f : Nat → Int32} {x : Int32} {h' : jH} (hd : decode M.2.1 pc = .ok (.bastore, 1)) (hx : j_get h i = some (.inl (2, n, .inl f))) (hj : j < n) (hn : n < 2 ^ 31) (hv : narrow .boolean (.int x) = .int x) (hh : j_set h i (.inl (2, n, .inl (upd f j x))) = h') (kk : jE K M d (pc + 1) ls st h' Q mc ms) : jE K M d pc ls (.int x :: .int (nI j) :: .ref i :: st) h Q mc ms := by
  subst hh
  intro p e R s m as bl me c H lo ce sl la hC hc hs hl hw hL
  have hat : H[j_adr K i]? = some (vp_cell (K.2.2.2.2.1 2) (n, .inl f)) := hw.at hx
  have hin : vp_in (nI j) n := vp_in_nI hj hn
  refine W.zast hC.1 hC.2.1 hat (((hC.2.2.2.2.2.2.2.2.2.2.2.1).2 2 _ rfl).1 n (fun j => .int (f j))) (fun q => by cases q) (by show ¬ (_ ∨ (arrV _ _ _).slots.size ≤ _); rw [arrV_size]; exact hin) rfl rfl hd fun H1 e1 z oq => ?_
  refine kk p e R s m as bl me c H1 _ ce sl la hC hc hs hl (hw.put hx ?_ z oq) (j_loc hx hL)
  show H1[j_adr K i]? = some (vp_cell _ _)
  rw [e1]
  rw [vp_cell_i, vp_cell_i, arrV_store, nI_clamp (Nat.lt_trans hj hn), hv]
  congr 2
  funext q
  by_cases hq : q = j
  · subst hq
    simp [updV, upd]
  · simp [updV, upd, hq]
theorem j_last {i n j : Nat} {f : Nat → Int64} {x : Int64} {h' : jH} (hd : decode M.2.1 pc = .ok (.lastore, 1)) (hx : j_get h i = some (.inl (3, n, .inr (.inl f)))) (hj : j < n) (hn : n < 2 ^ 31) (hh : j_set h i (.inl (3, n, .inr (.inl (vp_updL f j x)))) = h') (kk : jE K M d (pc + 1) ls st h' Q mc ms) : jE K M d pc ls (.long x :: .int (nI j) :: .ref i :: st) h Q mc ms := by
  subst hh
  intro p e R s m as bl me c H lo ce sl la hC hc hs hl hw hL
  have hat : H[j_adr K i]? = some (vp_cell (K.2.2.2.2.1 3) (n, .inr (.inl f))) := hw.at hx
  have hin : vp_in (nI j) n := vp_in_nI hj hn
  refine W.last hC.1 hC.2.1 hat (((hC.2.2.2.2.2.2.2.2.2.2.2.1).2 3 _ rfl).1 n (fun j => .long (f j))) (fun q => by cases q) (by show ¬ (_ ∨ (arrV _ _ _).slots.size ≤ _); rw [arrV_size]; exact hin) rfl rfl hd fun H1 e1 z oq => ?_
  refine kk p e R s m as bl me c H1 _ ce sl la hC hc hs hl (hw.put hx ?_ z oq) (j_loc hx hL)
  show H1[j_adr K i]? = some (vp_cell _ _)
  rw [e1]
  rw [vp_cell_l, vp_cell_l, arrV_store, nI_clamp (Nat.lt_trans hj hn)]
  congr 2
  funext q
  by_cases hq : q = j
  · subst hq
    simp [updV, vp_updL]
  · simp [updV, vp_updL, hq]
theorem j_alen {i n t : Nat} {a : (Nat → Int32) ⊕ (Nat → Int64) ⊕ (Nat → UInt32) ⊕ (Nat → UInt64) ⊕ (Nat → Option Nat)} {ty : FieldType} (ht : (j_ty K)[t]? = some (K.2.2.2.2.1 t, ty)) (hd : decode M.2.1 pc = .ok (.arraylength, 1)) (hx : j_get h i = some (.inl (t, n, a))) (kk : jE K M d (pc + 1) ls (.int (nI n) :: st) h Q mc ms) : jE K M d pc ls (.ref i :: st) h Q mc ms := by
  intro p e R s m as bl me c H lo ce sl la hC hc hs hl hw hL
  have hP : va_P K.2.2.2.1 classes [(j_adr K i, .inl (K.2.2.2.2.1 t, n, a))] H := j_P1 (hw.at hx)
  exact va_alen hC.1 hC.2.1 hC.2.2.2.2.2.2.2.2.2.2.2.1 hP 0 t rfl ht rfl hd (kk p e R s m as bl me c H lo ce sl la hC hc hs hl hw hL)
/-- what the tables say of a class that an instruction makes -/
def jN (own : String) (idx ci N : Nat) (fs : List Value) : Prop := ∃ (C : String) (T : u_T) (ty0 : Nat → FieldType), classes[ci]? = some (C, T, N) ∧ (∀ w ∈ u_ws C T N, w ∈ jt) ∧ (∀ k, k < N → parseFieldDescriptor (T k).2.2.1 = some (ty0 k)) ∧
  Cond.classLink own idx C ∈ jt ∧ Cond.instantiable C N ∈ jt ∧ Cond.initialized C ∈ jt ∧ ∀ j, j < N → defaultValue (ty0 j) = vp_V fs j
theorem j_adr_new (K : jK) (n : Nat) : j_adr K (32 + n) = K.2.1 + n := by
  have : ¬ 32 + n < 32 := by omega
  simp [j_adr, this]
theorem j_new {idx ci N : Nat} {fs : List Value} (hd : decode M.2.1 pc = .ok (.new idx, 3)) (hn : jN M.1.cls idx ci N fs) (hfs : fs.map (j_v K) = fs) (kk : jE K M d (pc + 3) ls (.ref (32 + h.length) :: st) (h ++ [.inr (ci, fs)]) Q mc ms) : jE K M d pc ls st h Q (mc + 1) (ms + N) := by
  intro p e R s m as bl me c H lo ce sl la hC hc hs hl hw hL
  obtain ⟨C, T, ty0, hcl, hin, hty, h1, h2, h3, hdef⟩ := hn
  have hK := hC.2.2.2.2.2.2.2.2.2.2.2.1
  have hts := hC.2.2.2.2.1
  have hKn := hK.1 ci _ hcl
  refine W.newcK hC.1 hC.2.1 hC.2.2.2.1 (hts _ h1) (hts _ h2) (hts _ h3) rfl hd (by omega) (by omega) hKn.2.1 rfl fun H1 kC hkC e1 z1 o1 => ?_
  have hat : va_at K.2.2.2.1 classes (K.2.1 + h.length, j_e K (.inr (ci, fs))) H1 := by
    rw [← hw.2.1]
    refine ⟨_, hcl, ?_⟩
    show t_OB _ _ _ _ _ (vp_V (fs.map (j_v K)))
    rw [hfs]
    exact (u_born ty0 hts hin hKn hkC e1 hty).to hdef
  have hE := kk p e R s m as bl me c H1 lo (ce + 1) (sl + N) la hC (by omega) (by omega) hl (hw.push hat z1 o1) hL
  rw [show ce + 1 + mc = ce + (mc + 1) by omega, show sl + N + ms = sl + (ms + N) by omega] at hE
  have e9 : (.ref (32 + h.length) :: st : List Value).map (j_v K) = .ref H.size :: st.map (j_v K) := by
    show (.ref (j_adr K (32 + h.length)) :: st.map (j_v K) : List Value) = _
    rw [j_adr_new, hw.2.1]
  rw [e9] at hE
  exact hE
theorem j_newa {atype : ArrayType} {t N : Nat} {ty : FieldType} {x : Int32} {a : (Nat → Int32) ⊕ (Nat → Int64) ⊕ (Nat → UInt32) ⊕ (Nat → UInt64) ⊕ (Nat → Option Nat)} (hd : decode M.2.1 pc = .ok (.newarray atype, 2)) (hty : newarray.typeOf atype = ty) (ht : (j_ty K)[t]? = some (K.2.2.2.2.1 t, ty)) (hra : ∀ (U : State) (cA : ClassId), va_RA U cA ty → U.vm.findClass ("[" ++ ty.toString) = some cA) (hw0 : Cond.arrayClass ty ∈ jt)
    (ha : ∀ cA : ClassId, vp_cell cA (N, a) = arrV cA N (fun _ => defaultValue ty)) (hx : ¬ x < 0) (hN : x.toNatClampNeg = N) (hb : N * componentBytes ty ≤ 536870912) (kk : jE K M d (pc + 2) ls (.ref (32 + h.length) :: st) (h ++ [.inl (t, N, a)]) Q mc ms) : jE K M d pc ls (.int x :: st) h Q (mc + 1) (ms + N) := by
  subst hty
  intro p e R s m as bl me c H lo ce sl la hC hc hs hl hw hL
  have hK := hC.2.2.2.2.2.2.2.2.2.2.2.1
  have hts := hC.2.2.2.2.1
  refine va_newaK hC.1 hC.2.1 (hts _ hw0) rfl hd rfl hx hN hb (by omega) (by omega) rfl fun H1 cA e1 z1 o1 hAr hNm => ?_
  have hcA : K.2.2.2.2.1 t = cA := Option.some.inj ((hra _ _ (hK.2 t _ ht).2).symm.trans hNm)
  have hat : va_at K.2.2.2.1 classes (K.2.1 + h.length, j_e K (.inl (t, N, a))) H1 := by
    rw [← hw.2.1]
    show H1[H.size]? = some (vp_cell (K.2.2.2.2.1 t) (N, a))
    rw [ha, hcA]
    exact e1
  have hE := kk p e R s m as bl me c H1 lo (ce + 1) (sl + N) la hC (by omega) (by omega) hl (hw.push hat z1 o1) hL
  rw [show ce + 1 + mc = ce + (mc + 1) by omega, show sl + N + ms = sl + (ms + N) by omega] at hE
  have e9 : (.ref (32 + h.length) :: st : List Value).map (j_v K) = .ref H.size :: st.map (j_v K) := by
    show (.ref (j_adr K (32 + h.length)) :: st.map (j_v K) : List Value) = _
    rw [j_adr_new, hw.2.1]
  rw [e9] at hE
  exact hE
end JHEAP
end
section
/-! METHODS: a contract, how it is proved (jM.of), how it is used (j_pay, and the rows of the calls) -/
def j_code (M : jR) : Cond := match M.2.2.2.2 with
  | [] => .code M.1 M.2.1 M.2.2.1 M.2.2.2.1
  | q :: hs => .codeWith M.1 M.2.1 M.2.2.1 M.2.2.2.1 (q :: hs)
theorem j_code_spec {M : jR} {args : Array Value} {s : State} {m : MethodId} (hn : s.methodNamed? M.1 = some m) (h : (j_code M).before args s = true) :
    ∃ meth c, s.vm.method? m = some meth ∧ meth.code = some c ∧ c.code = M.2.1 ∧ c.maxLocals = M.2.2.1 ∧ meth.sig.returnType = M.2.2.2.1 ∧ meth.locks = false ∧ c.exceptionTable.toList = tableOf M.2.2.2.2 ∧ parseMethodDescriptor M.1.desc = some meth.sig := by
  obtain ⟨y, b, n, r, hs⟩ := M
  cases hs with
  | nil =>
    obtain ⟨meth, c, h1, h2, h3, h4, h5, h6, h7, h8⟩ := Cond.code_spec hn h
    refine ⟨meth, c, h1, h2, h3, h4, h5, h6, ?_, h8⟩
    have h0 : c.exceptionTable.size = 0 := by simpa [Array.isEmpty] using h7
    exact List.eq_nil_of_length_eq_zero (by simpa using h0)
  | cons q hs =>
    obtain ⟨m9, meth, c, hn9, h1, h2, h3, h4, h7, h5, h6, h8⟩ := Cond.codeWith_spec h
    cases hn.symm.trans hn9
    exact ⟨meth, c, h1, h2, h3, h4, h5, h6, by rw [← h7, table_eq], h8⟩
def jM (K : jK) (M : jR) (d : Nat) (av : List Value) (h : jH) (Q : jO → jH → Prop) (mc ms : Nat) : Prop :=
  MetFree K.1 M.1 (headSpec [j_code M] { frames := d, cells := mc + 1, slots := ms + 6, locals := 64 * d })
    (fun a U => a = (av.map (j_v K)).toArray ∧ jW K h U.heap ∧ jU K U) (fun _ _ _ _ _ => True)
    (fun _ st o t => ∃ (mo : jO) (h' : jH) (L : List Loc), j_oc K h' mo o ∧ Q mo h' ∧ jW K h' t.heap ∧ st.WarmedH t.vm ∧ st.sameButNew ({ t with vm := st.vm } : State) L (mc + j_xc mo) (ms + 6 * j_xc mo) ∧ ∀ q ∈ L, K.2.1 ≤ q.base)
theorem j_args (K : jK) : ∀ (av : List Value) (i : Nat), lv_args i (av.map (j_v K)) = (lv_args i av).map (j_l K)
  | [], _ => rfl
  | v :: av, i => by
    show (i, j_v K v) :: lv_args _ _ = (i, j_v K v) :: _
    rw [j_args K av, j_cat]
theorem j_slots (K : jK) (av : List Value) : (lg_sl (av.map (j_v K))).length = (lg_sl av).length := by
  induction av with
  | nil => rfl
  | cons v av ih =>
    simp only [lg_sl, List.map_cons, List.flatMap_cons, List.length_append] at ih ⊢
    rw [ih, j_cat]
    split <;> rfl
section JMETH
variable {K : jK} {M : jR} {d : Nat} {av : List Value} {h : jH} {Q : jO → jH → Prop} {mc ms : Nat}
theorem jM.of (hp : plainFor M.1 = true) (hlen : (lg_sl av).length ≤ M.2.2.1) (k : jE K M d 0 (lv_args 0 av) [] h Q mc ms) : jM K M d av h Q mc ms := by
  refine MetFree.of_bodySF (code := M.2.1) (maxLocals := M.2.2.1) (ret := M.2.2.2.1) hp ?_ ?_
  · intro args s m hpre hn
    obtain ⟨meth, c, h1, h2, h3, h4, h5, h6, -, -⟩ := j_code_spec hn (atoms_spec (ws := [j_code M]) hpre _ List.mem_cons_self)
    exact ⟨meth, c, h1, h2, h3, h4, h5, h6⟩
  · intro p e s m args below meth c s₁ B hml hP _
    obtain ⟨rfl, hw, hU⟩ := hP
    have X := Stand.of_body B
    obtain ⟨meth', c', h1, h2, -, -, -, -, h7, -⟩ := j_code_spec B.named (atoms_spec (ws := [j_code M]) B.pre _ List.mem_cons_self)
    cases B.method.symm.trans h1
    cases X.code.symm.trans h2
    have hh0 : s₁.heap = s.heap := by rw [B.state]; rfl
    have hl := lv_entry (av.map (j_v K)) (n := M.2.2.1) (by rw [j_slots]; exact hlen)
    rw [j_args] at hl
    have hE := k p e _ s m _ below meth c s.heap [] 0 0 _ ⟨B.exec, B.bytes, hml, findClass_of_methodNamed B.named, fun w hw' => j_okT (j_jt hw') rfl (hU.1 w hw'), B.returns, B.notSynchronized, (name_of_methodNamed B.named B.method).1, h7, Nat.le_refl _, Nat.le_refl _, hU.2.1, hU.2.2⟩ (by simp [headSpec]) (by simp [headSpec]) hl hw (fun q hq => by cases hq) s₁ hh0 X
    rw [lg_entry_eq]
    obtain ⟨t, a1, o, mo, h', L, b1, b2, b3, b4, b5, b6, b7, b8⟩ := hE
    refine ⟨t, o, a1, b1, b2, mo, h', L, b3, b4, b5, b6, ?_, b8⟩
    simpa using b7
theorem jM.mono {Q' : jO → jH → Prop} (hQ : ∀ o g, Q o g → Q' o g) (k : jM K M d av h Q mc ms) : jM K M d av h Q' mc ms := by
  intro p e ha hc hk s m args below hf happ hP hK
  obtain ⟨n, o, h1, h2, h3, mo, h', L, b1, b2, b3⟩ := k p e ha hc hk s m args below hf happ hP hK
  exact ⟨n, o, h1, h2, h3, mo, h', L, b1, hQ _ _ b2, b3⟩
variable {p : Program} {e : Env} {R : Room} {s : State} {m : MethodId} {args : Array Value} {below : List Frame} {meth : Method} {c : Code} {U : State} {Ls : List Loc} {c0 s0 : Nat}
/-- a call by contract, from the frame that has popped the arguments: it comes back behind the call, or the note 'is thrown' lies over the frame -/
theorem j_pay (X : Stand p K.1 e R s m args below meth c U Ls c0 s0) (hM : jM K M d av h Q mc ms) (hfr : d + 1 ≤ R.frames) (hlo : 8 + (M.2.2.1 + 11) + 64 * d ≤ R.locals) (hce : c0 + mc + 1 ≤ R.cells) (hsl : s0 + ms + 6 ≤ R.slots)
    {g : JFrame} (hg : g.method = m) (hsize : g.locals.size = c.maxLocals) {ig : Instr} {len : Nat} (hdg : decode c.code g.pc = .ok (ig, len)) (hW : 2 * g.monitorRoom + (g.stack.map fun v => v.category).sum ≤ 8)
    {mk : MethodId} (hn : U.methodNamed? M.1 = some mk) (hcode : (j_code M).before (av.map (j_v K)).toArray U = true) (hinit : (Cond.initialized M.1.cls).before (av.map (j_v K)).toArray U = true) (hw : jW K h U.heap) (hU : jU K U) :
    ∃ (mo : jO) (h' : jH) (L : List Loc) (B : State), Stand p K.1 e R s m args below meth c B (Ls ++ L) (c0 + (mc + j_xc mo)) (s0 + (ms + 6 * j_xc mo)) ∧ Q mo h' ∧ jW K h' B.heap ∧ (∀ q ∈ L, K.2.1 ≤ q.base) ∧
      ((∃ v, mo = .inl v ∧ Steps p.tables e below (doInvoke e (U.setTop g) [] mk (av.map (j_v K)).toArray).1 (B.setTop { g with pc := g.pc + len, stack := (v.map (j_v K)).toList ++ g.stack })) ∨
       (∃ k n, mo = .inr k ∧ h'.length = n + 1 ∧ h'[n]? = some (.inr (k, [])) ∧ Steps p.tables e below (doInvoke e (U.setTop g) [] mk (av.map (j_v K)).toArray).1 ((B.setTop g).pushFrame (.throwing (K.2.1 + n))))) := by
  obtain ⟨methY, cY, hmY, hcY, -, hlY, -, -, -, -⟩ := j_code_spec hn hcode
  obtain ⟨kY, hkY, -⟩ := className_of_methodNamed hn
  have hinitY : kY.init = .initialized := Cond.initialized_spec (findClass_of_methodNamed hn) hkY hinit
  have hat : At U g.method c below := by rw [hg]; exact X.here
  have happ : (headSpec [j_code M] { frames := d, cells := mc + 1, slots := ms + 6, locals := 64 * d }).appliesLoose M.1 e.platform (U.calling g mk (av.map (j_v K)).toArray) = true :=
    Spec.appliesLoose_calling (g := g) hat hdg hn hkY hinitY
      (X.room_calling (g := g) (R' := { frames := d, cells := mc + 1, slots := ms + 6, locals := 64 * d }) hsize hmY hcY hfr (by rw [hlY]; show _ + _ + 64 * d ≤ _; omega) (by show c0 + (mc + 1) ≤ _; omega) (by show s0 + (ms + 6) ≤ _; omega)) (atoms_intro fun w hw => by rw [List.mem_singleton.mp hw]; exact hcode)
  obtain ⟨mid, hmid⟩ := hat.above
  have hfr2 : (U.setTop g).frames = (.java g :: mid) ++ below := by rw [State.frames_setTop' g hat.top, hmid]; rfl
  have hheap : (U.calling g mk (av.map (j_v K)).toArray).heap = U.heap := by simp [State.calling, State.pushFrame, State.setFrames, State.setTop, State.modifyTopJava]
  have hvm : (U.calling g mk (av.map (j_v K)).toArray).vm = U.vm := by simp [State.calling, State.pushFrame, State.setFrames, State.setTop, State.modifyTopJava]
  have hPre : (av.map (j_v K)).toArray = (av.map (j_v K)).toArray ∧ jW K h (U.calling g mk (av.map (j_v K)).toArray).heap ∧ jU K (U.calling g mk (av.map (j_v K)).toArray) :=
    ⟨rfl, by rw [hheap]; exact hw, hU.warm (by rw [hvm]; exact State.WarmedH.refl U)⟩
  obtain ⟨o, s₂, hsteps, -, hend, mo, h', L, q1, q2, q3, q4, q5, q6⟩ := Steps.callFree hM p X.admits X.cas X.clock (acts := []) hfr2 happ hPre trivial
  have q5' : (U.calling g mk (av.map (j_v K)).toArray).sameButNew ({ s₂ with vm := (U.calling g mk (av.map (j_v K)).toArray).vm } : State) L (mc + j_xc mo) (ms + 6 * j_xc mo) := q5
  have hW₂ : (U.calling g mk (av.map (j_v K)).toArray).WarmedH s₂.vm := q4
  rw [State.frames_setTop' g hat.top] at hend
  obtain ⟨e2, r2, r3, r4, r5, r6⟩ := id q5'
  have e3 : s₂ = ({ (U.calling g mk (av.map (j_v K)).toArray).setFrames s₂.frames with heap := s₂.heap, slotsUsed := s₂.slotsUsed } : State).setVm s₂.vm := by
    have : s₂ = ({ s₂ with vm := (U.calling g mk (av.map (j_v K)).toArray).vm } : State).setVm s₂.vm := rfl
    rw [e2] at this
    exact this
  have hW' : U.WarmedH s₂.vm := hW₂
  obtain ⟨g₀, hg0⟩ := Option.isSome_iff_exists.mp hat.top
  obtain ⟨r, hr⟩ := State.topJava?_eq_some.mp hg0
  have hr' : (({ U with heap := s₂.heap, slotsUsed := s₂.slotsUsed } : State).setVm s₂.vm).frames = .java g₀ :: r := hr
  have hsame : U.sameButNew ({ U with heap := s₂.heap, slotsUsed := s₂.slotsUsed } : State) L (mc + j_xc mo) (ms + 6 * j_xc mo) := by
    refine ⟨?_, r2, r3, r4, r5, r6⟩
    obtain ⟨t, ht, -⟩ := State.frames_cons hr
    show ({ U with heap := s₂.heap, slotsUsed := s₂.slotsUsed } : State) = { U.setFrames U.frames with heap := s₂.heap, slotsUsed := s₂.slotsUsed }
    rw [State.setFrames_self ht]
  have hst : Stand p K.1 e R s m args below meth c (({ U with heap := s₂.heap, slotsUsed := s₂.slotsUsed } : State).setVm s₂.vm) (Ls ++ L) (c0 + (mc + j_xc mo)) (s0 + (ms + 6 * j_xc mo)) :=
    ⟨X.admits, X.cas, X.clock, X.frames, X.room, X.hears, X.method, X.code, (X.here.setHeapUsed s₂.heap s₂.slotsUsed).setVm hW'.alike, X.tail, State.WarmedH.trans X.warmed hW', X.limits, X.bytes, X.same.trans (hsame.setVm s.vm)⟩
  refine ⟨mo, h', L, _, hst, q2, q3, q6, ?_⟩
  cases mo with
  | inl v =>
    have q1' : o = .returned (v.map (j_v K)) := q1
    subst q1'
    refine Or.inl ⟨v, rfl, ?_⟩
    obtain ⟨c₂, i₂, len₂, hc₂, hd₂, hf₂⟩ := hend
    have hcc : c₂ = c := by
      have h1 : s₂.code? g.method = U.code? g.method := by
        rw [State.code?_eq, State.code?_eq, hW'.alike.method?]
      exact Option.some.inj (hc₂.symm.trans (h1.trans hat.code))
    subst hcc
    have hlen : len₂ = len := by rw [hdg] at hd₂; cases hd₂; rfl
    subst hlen
    have hs₂ : s₂ = (({ U with heap := s₂.heap, slotsUsed := s₂.slotsUsed } : State).setVm s₂.vm).setTop { g with pc := g.pc + len₂, stack := (v.map (j_v K)).toList ++ g.stack } := by
      refine e3.trans ?_
      rw [hf₂, State.calling_eq hat.top, State.setFrames_setFrames, State.setTop_of_frames _ hr', hr]
      rfl
    rw [← hs₂]
    exact hsteps
  | inr k =>
    obtain ⟨n, n1, n2, rfl⟩ := q1
    refine Or.inr ⟨k, n, rfl, n1, n2, ?_⟩
    have hf₂ : s₂.frames = .throwing (K.2.1 + n) :: .java g :: U.frames.tail := hend
    have hs₂ : s₂ = ((({ U with heap := s₂.heap, slotsUsed := s₂.slotsUsed } : State).setVm s₂.vm).setTop g).pushFrame (.throwing (K.2.1 + n)) := by
      refine e3.trans ?_
      rw [hf₂, State.calling_eq hat.top, State.setFrames_setFrames, State.pushFrame, State.frames_setTop _ hr', State.setTop_of_frames _ hr', State.setFrames_setFrames, hr]
      rfl
    rw [← hs₂]
    exact hsteps
end JMETH
end
section
/-! CALLS -/
/-- what the tables say of a method that is called on an object of the class number ci -/
def jMV (M' : jR) (ci n : Nat) : Prop := Cond.instanceMethod M'.1 ∈ jt ∧ Cond.selects M'.1.cls M'.1 M'.1 ∈ jt ∧ j_code M' ∈ jt ∧ Cond.initialized M'.1.cls ∈ jt ∧ (M'.1.cls ≠ "java/lang/invoke/MethodHandle" ∧ M'.1.cls ≠ "java/lang/invoke/VarHandle") ∧ (parseMethodDescriptor M'.1.desc).map (fun d => d.parameters.length) = some n ∧ ∃ (T : u_T) (N : Nat), classes[ci]? = some (M'.1.cls, T, N)
def jMS (M' : jR) (n : Nat) : Prop := Cond.static M'.1 ∈ jt ∧ j_code M' ∈ jt ∧ Cond.initialized M'.1.cls ∈ jt ∧ (M'.1.cls ≠ "java/lang/invoke/MethodHandle" ∧ M'.1.cls ≠ "java/lang/invoke/VarHandle") ∧ (parseMethodDescriptor M'.1.desc).map (fun d => d.parameters.length) = some n
def jMI (M' : jR) (n : Nat) : Prop := Cond.instanceMethod M'.1 ∈ jt ∧ Cond.code M'.1 M'.2.1 M'.2.2.1 none ∈ jt ∧ M'.2.2.2.1 = none ∧ M'.2.2.2.2 = [] ∧ M'.1.name = "<init>" ∧ Cond.initialized M'.1.cls ∈ jt ∧ (M'.1.cls ≠ "java/lang/invoke/MethodHandle" ∧ M'.1.cls ≠ "java/lang/invoke/VarHandle") ∧ (parseMethodDescriptor M'.1.desc).map (fun d => d.parameters.length) = some n
/-- a call from the frame at pc, whose stack is st when the arguments are popped -/
def jCall (K : jK) (M : jR) (d pc : Nat) (ls : List (Nat × Value)) (st0 st : List Value) (h : jH) (Q' : jO → jH → Prop) (mc ms : Nat) : Prop :=
  ∀ (p : Program) (e : Env) (R : Room) (s : State) (m : MethodId) (args : Array Value) (below : List Frame) (meth : Method) (c : Code) (H : Heap) (locs : List Loc) (cells slots : Nat) (la : Array Slot),
    jC K M d p R s m args meth c → cells + mc + 1 ≤ R.cells → slots + ms + 6 ≤ R.slots → lv_has la M.2.2.1 (ls.map (j_l K)) → jW K h H → (∀ q ∈ locs, K.2.1 ≤ q.base) →
    ∀ T : State, T.heap = H → Stand p K.1 e R s m args below meth c T locs cells slots →
    ∃ (mo : jO) (h' : jH) (L : List Loc) (B : State), Stand p K.1 e R s m args below meth c B L (cells + (mc + j_xc mo)) (slots + (ms + 6 * j_xc mo)) ∧ Q' mo h' ∧ jW K h' B.heap ∧ (∀ q ∈ L, K.2.1 ≤ q.base) ∧
      ((∃ v, mo = .inl v ∧ ∀ tg, Steps p.tables e below (B.setTop (F0 m (pc + 3) la ((v.toList ++ st).map (j_v K)))) tg → Steps p.tables e below (T.setTop (F0 m pc la (st0.map (j_v K)))) tg) ∨
       (∃ k n, mo = .inr k ∧ h'.length = n + 1 ∧ h'[n]? = some (.inr (k, [])) ∧ ∀ tg, Steps p.tables e below ((B.setTop (F0 m pc la (st.map (j_v K)))).pushFrame (.throwing (K.2.1 + n))) tg → Steps p.tables e below (T.setTop (F0 m pc la (st0.map (j_v K)))) tg))
section JCALL
variable {K : jK} {M : jR} {d pc : Nat} {ls : List (Nat × Value)} {st st0 av : List Value} {h : jH} {Q Q' : jO → jH → Prop} {mc ms mc' ms' : Nat} {M' : jR} {d' : Nat}
theorem j_roomS {m : MethodId} {la : Array Slot} {pc : Nat} {K : jK} {st : List Value} (hst : (st.map fun v => v.category).sum ≤ 8) : 2 * (F0 m pc la (st.map (j_v K))).monitorRoom + ((F0 m pc la (st.map (j_v K))).stack.map fun v => v.category).sum ≤ 8 := by
  have e : ((st.map (j_v K)).map fun v => v.category) = st.map fun v => v.category := by
    rw [List.map_map]
    congr 1
    funext v
    exact j_cat K v
  show 2 * (F0 m pc la (st.map (j_v K))).monitorRoom + ((st.map (j_v K)).map fun v => v.category).sum ≤ 8
  have hmr : (F0 m pc la (st.map (j_v K))).monitorRoom = 0 := by first | rfl | simp [JFrame.monitorRoom, F0]
  rw [hmr, e]
  omega
theorem j_inv (hM : jM K M' d' av h Q' mc ms) (hd : d' + 1 ≤ d) (hL : M'.2.2.1 ≤ 45) (hst : (st.map fun v => v.category).sum ≤ 8) (hcode : j_code M' ∈ jt) (hini : Cond.initialized M'.1.cls ∈ jt)
    {p : Program} {e : Env} {R : Room} {s : State} {m : MethodId} {args : Array Value} {below : List Frame} {meth : Method} {c : Code} {H : Heap} {locs : List Loc} {cells slots : Nat} {la : Array Slot}
    (hC : jC K M d p R s m args meth c) (hc : cells + mc + 1 ≤ R.cells) (hs : slots + ms + 6 ≤ R.slots) (hl : lv_has la M.2.2.1 (ls.map (j_l K))) (hw : jW K h H) (hLo : ∀ q ∈ locs, K.2.1 ≤ q.base)
    {T : State} (hT : T.heap = H) {vm₁ : Vm} (X₁ : Stand p K.1 e R s m args below meth c (T.setVm vm₁) locs cells slots) {ig : Instr} (hdg : decode c.code pc = .ok (ig, 3)) {mk : MethodId} (hn : s.methodNamed? M'.1 = some mk)
    (hstep : ∀ target, (∀ acts, Steps p.tables e below (doInvoke e ((T.setVm vm₁).setTop (F0 m pc la (st.map (j_v K)))) acts mk (av.map (j_v K)).toArray).1 target) → Steps p.tables e below (T.setTop (F0 m pc la (st0.map (j_v K)))) target) :
    ∃ (mo : jO) (h' : jH) (L : List Loc) (B : State), Stand p K.1 e R s m args below meth c B L (cells + (mc + j_xc mo)) (slots + (ms + 6 * j_xc mo)) ∧ Q' mo h' ∧ jW K h' B.heap ∧ (∀ q ∈ L, K.2.1 ≤ q.base) ∧
      ((∃ v, mo = .inl v ∧ ∀ tg, Steps p.tables e below (B.setTop (F0 m (pc + 3) la ((v.toList ++ st).map (j_v K)))) tg → Steps p.tables e below (T.setTop (F0 m pc la (st0.map (j_v K)))) tg) ∨
       (∃ k n, mo = .inr k ∧ h'.length = n + 1 ∧ h'[n]? = some (.inr (k, [])) ∧ ∀ tg, Steps p.tables e below ((B.setTop (F0 m pc la (st.map (j_v K)))).pushFrame (.throwing (K.2.1 + n))) tg → Steps p.tables e below (T.setTop (F0 m pc la (st0.map (j_v K)))) tg)) := by
  have hts := hC.2.2.2.2.1
  have hU : jU K s := ⟨fun w hw' => j_okT (j_jt hw') rfl (hts w hw'), hC.2.2.2.2.2.2.2.2.2.2.2.1, hC.2.2.2.2.2.2.2.2.2.2.2.2⟩
  have hfr := hC.2.2.2.2.2.2.2.2.2.1
  have hlo := hC.2.2.2.2.2.2.2.2.2.2.1
  have hsize : la.size = c.maxLocals := hl.1.trans hC.2.2.1.symm
  obtain ⟨mo, h', L, B, XB, hq, hwB, hLB, hend⟩ := j_pay X₁ hM (by omega) (by omega) hc hs (g := F0 m pc la (st.map (j_v K))) rfl hsize hdg (j_roomS hst) (X₁.named hn) (j_okW (j_jt hcode) X₁.warmed (hts _ hcode)) (j_okW (j_jt hini) X₁.warmed (hts _ hini)) (by show jW K h T.heap; rw [hT]; exact hw) (hU.warm X₁.warmed)
  refine ⟨mo, h', locs ++ L, B, XB, hq, hwB, ?_, ?_⟩
  · intro q hq
    rcases List.mem_append.mp hq with h2 | h2
    · exact hLo q h2
    · exact hLB q h2
  · rcases hend with ⟨v, rfl, hsteps⟩ | ⟨k, n, rfl, n1, n2, hsteps⟩
    · refine Or.inl ⟨v, rfl, fun tg htg => hstep tg fun acts => ?_⟩
      rw [doInvoke_state]
      refine hsteps.trans ?_
      have e9 : (v.toList ++ st).map (j_v K) = (v.map (j_v K)).toList ++ st.map (j_v K) := by cases v <;> rfl
      rw [e9] at htg
      exact htg
    · refine Or.inr ⟨k, n, rfl, n1, n2, fun tg htg => hstep tg fun acts => ?_⟩
      rw [doInvoke_state]
      exact hsteps.trans htg
theorem j_len {M' : jR} {n : Nat} (h : (parseMethodDescriptor M'.1.desc).map (fun d => d.parameters.length) = some n) {sig : MethodDescriptor} (hs : parseMethodDescriptor M'.1.desc = some sig) : n = sig.parameters.length := by
  rw [hs] at h
  exact (Option.some.inj h).symm
theorem j_callV {idx ci i n : Nat} {as : List Value} {fs : List Value} (hd : decode M.2.1 pc = .ok (.invokevirtual idx, 3)) (hf : jMV M' ci n) (hlink : Cond.methodLink M.1.cls idx M'.1 ∈ jt) (hn : as.length = n) (hx : j_get h i = some (.inr (ci, fs)))
    (hM : jM K M' d' (.ref i :: as) h Q' mc ms) (hdd : d' + 1 ≤ d) (hL : M'.2.2.1 ≤ 45) (hst : (st.map fun v => v.category).sum ≤ 8) (h0 : st0 = as.reverse ++ .ref i :: st) : jCall K M d pc ls st0 st h Q' mc ms := by
  subst h0
  intro p e R s m args below meth c H locs cells slots la hC hc hs hl hw hLo T hT X
  obtain ⟨hinst, hsel, hcode, hini, hy, hpar, T', N, hcl⟩ := hf
  have hts := hC.2.2.2.2.1
  obtain ⟨mk, methM, hnamed, hmethM, hstM, habM⟩ := Cond.instanceMethod_spec (hts _ hinst)
  obtain ⟨methM', cM, hmethM', -, -, -, -, -, -, hsigM⟩ := j_code_spec hnamed (hts _ hcode)
  cases hmethM.symm.trans hmethM'
  obtain ⟨c2, r2, m2, q1, q2, q3, q4, kP, hkP, hkPi⟩ := Cond.selects_spec (hts _ hsel)
  obtain ⟨r, g1, cellB, g2, g3, g4, -⟩ := hw.at hx
  have hcls : s.vm.findClass M'.1.cls = some cellB.cls := by rw [g3]; exact ((hC.2.2.2.2.2.2.2.2.2.2.2.1).1 ci _ hcl).2.1
  cases hcls.symm.trans q1
  cases (State.methodFound?_of_named hnamed hy).symm.trans q2
  cases hnamed.symm.trans q3
  have hselP : selectMethod e.platform s.vm cellB.cls mk = .method mk := by rw [Launch.admits_selectMethod X.admits]; exact q4
  have hdg : decode c.code pc = .ok (.invokevirtual idx, 3) := by rw [hC.2.1]; exact hd
  obtain ⟨vm₁, X₁, hstep₁⟩ := X.invokevirtual hC.1 hC.2.2.2.1 (hts _ hlink) hnamed hmethM hstM hkP hkPi hy (a := j_adr K i) (cell := cellB) (by rw [hT]; exact g2)
    (fun z hz => by rw [g4] at hz; cases hz) hselP hmethM habM hkP hkPi (g := F0 m pc la ((as.reverse ++ .ref i :: st).map (j_v K))) rfl (argsL := as.map (j_v K)) (rest := st.map (j_v K)) (by rw [List.length_map, hn]; exact j_len hpar hsigM)
    (by show (as.reverse ++ .ref i :: st).map (j_v K) = _; rw [List.map_append, List.map_reverse]; rfl) hdg
  exact j_inv hM hdd hL hst hcode hini hC hc hs hl hw hLo hT X₁ hdg hnamed hstep₁
theorem j_callS {idx n : Nat} {as : List Value} (hd : decode M.2.1 pc = .ok (.invokestatic idx, 3)) (hf : jMS M' n) (hlink : Cond.methodLink M.1.cls idx M'.1 ∈ jt) (hn : as.length = n)
    (hM : jM K M' d' as h Q' mc ms) (hdd : d' + 1 ≤ d) (hL : M'.2.2.1 ≤ 45) (hst : (st.map fun v => v.category).sum ≤ 8) (h0 : st0 = as.reverse ++ st) : jCall K M d pc ls st0 st h Q' mc ms := by
  subst h0
  intro p e R s m args below meth c H locs cells slots la hC hc hs hl hw hLo T hT X
  obtain ⟨hstat, hcode, hini, hy, hpar⟩ := hf
  have hts := hC.2.2.2.2.1
  have hcod := hts _ hcode
  obtain ⟨mk, hnamed⟩ : ∃ mk, s.methodNamed? M'.1 = some mk := by
    cases hmk : s.methodNamed? M'.1 with
    | some mk => exact ⟨mk, rfl⟩
    | none =>
      have h9 := hts _ hstat
      simp [Cond.before, Cond.holds, Cond.value, hmk] at h9
  obtain ⟨methM, cM, hmethM, -, -, -, -, -, -, hsigM⟩ := j_code_spec hnamed hcod
  have hstatic : methM.isStatic = true := Cond.static_spec hnamed hmethM (hts _ hstat)
  obtain ⟨kP, hkP, -⟩ := className_of_methodNamed hnamed
  have hinitP : kP.init = .initialized := Cond.initialized_spec (findClass_of_methodNamed hnamed) hkP (hts _ hini)
  have hdg : decode c.code pc = .ok (.invokestatic idx, 3) := by rw [hC.2.1]; exact hd
  obtain ⟨vm₁, X₁, hstep₁⟩ := X.invokestatic hC.1 hC.2.2.2.1 (hts _ hlink) hnamed hmethM hstatic hkP hinitP hy (g := F0 m pc la ((as.reverse ++ st).map (j_v K))) rfl (argsL := as.map (j_v K)) (rest := st.map (j_v K)) (by rw [List.length_map, hn]; exact j_len hpar hsigM)
    (by show (as.reverse ++ st).map (j_v K) = _; rw [List.map_append, List.map_reverse]) hdg
  exact j_inv hM hdd hL hst hcode hini hC hc hs hl hw hLo hT X₁ hdg hnamed hstep₁
theorem j_callI {idx i n : Nat} {as : List Value} (hd : decode M.2.1 pc = .ok (.invokespecial idx, 3)) (hf : jMI M' n) (hlink : Cond.methodLink M.1.cls idx M'.1 ∈ jt) (hn : as.length = n)
    (hM : jM K M' d' (.ref i :: as) h Q' mc ms) (hdd : d' + 1 ≤ d) (hL : M'.2.2.1 ≤ 45) (hst : (st.map fun v => v.category).sum ≤ 8) (h0 : st0 = as.reverse ++ .ref i :: st) : jCall K M d pc ls st0 st h Q' mc ms := by
  subst h0
  intro p e R s m args below meth c H locs cells slots la hC hc hs hl hw hLo T hT X
  obtain ⟨hinst, hcode, hret, hhan, hy1, hini, hy, hpar⟩ := hf
  have hts := hC.2.2.2.2.1
  have hcode' : j_code M' ∈ jt := by
    have : j_code M' = Cond.code M'.1 M'.2.1 M'.2.2.1 none := by
      unfold j_code
      rw [hhan, hret]
    rw [this]
    exact hcode
  have hdg : decode c.code pc = .ok (.invokespecial idx, 3) := by rw [hC.2.1]; exact hd
  have hpl : e.platform.magicAccessors = ({} : Platform).magicAccessors := by rw [X.admits.platform]
  obtain ⟨mk, methM, cM, kP, vm₁, hnamed, hmethM, hcodeM, -, hlocalsM, -, hkP, -, hW₁, hstep₁⟩ := Steps.initColdArgs (e := e) X.here hC.1 X.warmed hpl hC.2.2.2.1 hy1 hy (hts _ hlink) (hts _ hinst) (hts _ hcode) (f := F0 m pc la ((as.reverse ++ .ref i :: st).map (j_v K))) rfl (a := j_adr K i) (argsL := as.map (j_v K)) (rest := st.map (j_v K))
    (fun sig hsig => by rw [List.length_map, hn]; exact j_len hpar hsig) (by show (as.reverse ++ .ref i :: st).map (j_v K) = _; rw [List.map_append, List.map_reverse]; rfl) hdg
  exact j_inv hM hdd hL hst hcode' hini hC hc hs hl hw hLo hT (X.noted hW₁) hdg hnamed hstep₁
/-- behind a call: it came back, or it threw and nothing catches -/
theorem j_ret (hcall : jCall K M d pc ls st0 st h Q' mc' ms') (hh : M.2.2.2.2 = []) (kr : ∀ (v : Option Value) (h' : jH), Q' (.inl v) h' → jE K M d (pc + 3) ls (v.toList ++ st) h' Q mc ms) (kt : ∀ (k : Nat) (h' : jH), Q' (.inr k) h' → Q (.inr k) h') : jE K M d pc ls st0 h Q (mc' + mc) (ms' + ms) := by
  intro p e R s m args below meth c H locs cells slots la hC hc hs hl hw hLo T hT X
  obtain ⟨mo, h', L, B, XB, hq, hwB, hLB, hend⟩ := hcall p e R s m args below meth c H locs cells slots la hC (by omega) (by omega) hl hw hLo T hT X
  rcases hend with ⟨v, rfl, hst⟩ | ⟨k, n, rfl, n1, n2, hst⟩
  · obtain ⟨t, a1, a2⟩ := kr v h' hq p e R s m args below meth c B.heap L _ _ la hC (by simp only [j_xc]; omega) (by simp only [j_xc]; omega) hl hwB hLB B rfl XB
    refine ⟨t, hst t a1, ?_⟩
    obtain ⟨o, mo, h2, L2, b1, b2, b3, b4, b5, b6, b7, b8⟩ := a2
    exact ⟨o, mo, h2, L2, b1, b2, b3, b4, b5, b6, b7.mono (by simp only [j_xc]; omega) (by simp only [j_xc]; omega), b8⟩
  · have hlocks := hC.2.2.2.2.2.2.1
    obtain ⟨w1, w2, w3, w4, w5⟩ := XB.leaveThrown (K.2.1 + n) (g := F0 m pc la (st.map (j_v K))) rfl rfl rfl (by rw [hC.2.2.2.2.2.2.2.2.1, hh]; intro x hx; cases hx) hlocks
    refine ⟨_, hst _ w1, .threw (K.2.1 + n), .inr k, h', L, w2, w3, ⟨n, n1, n2, rfl⟩, kt k h' hq, hwB, w4, w5.mono (by simp only [j_xc]; omega) (by simp only [j_xc]; omega), hLB⟩
/-- behind a call of a method that makes nothing -/
theorem j_ret0 (hcall : jCall K M d pc ls st0 st h Q' 0 0) (hh : M.2.2.2.2 = []) (kr : ∀ (v : Option Value) (h' : jH), Q' (.inl v) h' → jE K M d (pc + 3) ls (v.toList ++ st) h' Q mc ms) (kt : ∀ (k : Nat) (h' : jH), Q' (.inr k) h' → Q (.inr k) h') : jE K M d pc ls st0 h Q mc ms := by
  have := j_ret hcall hh kr kt
  rw [Nat.zero_add, Nat.zero_add] at this
  exact this
end JCALL
end
section
/-! THROWS: 'throw new X()' as one row; what is caught where -/
section JTHROW
variable {p : Program} {l : Launch} {e : Env} {R : Room} {s : State} {m : MethodId} {args : Array Value} {below : List Frame} {meth : Method} {c : Code} {T : State} {locs : List Loc} {cells slots : Nat}
theorem j_sbn {T U : State} {L : List Loc} {k n : Nat} {fs : List Frame} (h : (T.setFrames fs).sameButNew U L k n) : T.sameButNew U L k n := by
  obtain ⟨h1, h2, h3, h4, h5, h6⟩ := h
  refine ⟨?_, h2, h3, h4, h5, h6⟩
  rw [State.setFrames_setFrames] at h1
  exact h1
/-- the walk from here on, as if the invocation began here -/
theorem j_rebase (X : Stand p l e R s m args below meth c T locs cells slots) (hc : cells ≤ R.cells) (hs : slots ≤ R.slots) :
    Stand p l e { frames := R.frames, cells := R.cells - cells, slots := R.slots - slots, locals := R.locals } (T.setFrames (.invoking m args :: below)) m args below meth c T [] 0 0 := by
  obtain ⟨g₀, hfr⟩ := X.frames_eq
  have hcur : T.cur < T.threads.size := State.cur_lt_of_frames hfr
  have hF : (T.setFrames (.invoking m args :: below)).frames = .invoking m args :: below := State.frames_setFrames _ hcur
  obtain ⟨x, hx, -⟩ := State.frames_cons hfr
  refine ⟨X.admits, X.cas, X.clock, hF, ?_, ?_, X.method', X.code, X.here, X.tail, State.WarmedH.refl _, by rw [State.stackLimits_setFrames], by rw [State.stackBytes_setFrames], ?_⟩
  · have hroom := X.room
    simp only [State.hasRoom, Bool.and_eq_true, decide_eq_true_eq] at hroom ⊢
    obtain ⟨⟨⟨⟨r1, r2, r3, r4, r5, r6⟩, r7⟩, r8⟩, r9⟩ := hroom
    have hloc : (T.setFrames (.invoking m args :: below)).localsInUse = s.localsInUse := by
      rw [State.localsInUse_invoking hF (meth := meth) (c := c) X.method' X.code, State.localsInUse_invoking X.frames X.method X.code]
    rw [hloc, hF, State.stackLimits_setFrames, X.limits, State.stackBytes_setFrames, X.bytes]
    rw [X.frames] at r2 r3
    have hu := X.used
    have hz := X.heapSize
    refine ⟨⟨⟨⟨r1, r2, r3, r4, r5, r6⟩, ?_⟩, ?_⟩, ?_⟩
    · show T.heap.size + (R.cells - cells) ≤ _
      omega
    · show T.slotsUsed + (R.slots - slots) ≤ _
      omega
    · exact X.book
  · have hh := X.hears
    have ha := X.warmed.alike
    rcases below with _ | ⟨y, r⟩
    · simpa [State.hears, ha.method?, State.setFrames] using hh
    · cases y <;> first | exact hh | (simp only [State.hears, State.code?_eq] at hh ⊢; simpa [State.setFrames, ha.method?] using hh)
  · have h1 : (T.setFrames (.invoking m args :: below)).frames = .invoking m args :: below := hF
    obtain ⟨y, hy, -⟩ := State.frames_cons hF
    have h2 := (State.sameButNew.refl (T.setFrames (.invoking m args :: below)) hy).setFrames T.frames (State.cur_lt_of_frames hF)
    rw [State.setFrames_setFrames, State.setFrames_self hx] at h2
    exact h2
end JTHROW
theorem jLS.words {K : jK} {C n d : String} {U : State} (h : jLS K C n d U) (hK : K.2.1 = K.2.2.1.size) (hH : ∀ q : Nat, q < K.2.1 → U.heap[q]? = K.2.2.1[q]?) (A : Array Value) :
    (Cond.laysStatic C n d).before A U = true ∧ (Cond.isRef (.static C n d)).before A U = true := by
  obtain ⟨c, k, i, f, a, cell, h1, h2, h3, h4, h5, h6, h7, h8, h9, h10⟩ := h
  have ha : U.heap[a]? = some cell := by
    rw [hH a (by rw [hK]; exact (Array.getElem?_eq_some_iff.mp h5).1)]
    exact h5
  have hv : ∃ v, cell.slots[f.slot]? = some v ∧ (v = .null ∨ ∃ t, v = .ref t) := by
    rcases h10 with h | ⟨t, h⟩
    · exact ⟨_, h, Or.inl rfl⟩
    · exact ⟨_, h, Or.inr ⟨t, rfl⟩⟩
  obtain ⟨v, hv1, hv2⟩ := hv
  constructor
  · simp [Cond.before, Cond.holds, Cond.value, h1, h2, h3, h4, ha, h6, h7, h8, h9]
  · have he : (Term.static C n d).eval A U none [] U = some v := by
      simp [Term.eval, State.fieldNamed?, h2, h3, h4, ha, h6, hv1]
    rcases hv2 with rfl | ⟨t, rfl⟩ <;> simp [Cond.before, Cond.holds, Cond.value, he]
def j_four : List Cond := [.laysStatic "java/lang/Throwable" "UNASSIGNED_STACK" "[Ljava/lang/StackTraceElement;", .laysStatic "java/lang/Throwable" "SUPPRESSED_SENTINEL" "Ljava/util/List;", .isRef (.static "java/lang/Throwable" "UNASSIGNED_STACK" "[Ljava/lang/StackTraceElement;"), .isRef (.static "java/lang/Throwable" "SUPPRESSED_SENTINEL" "Ljava/util/List;")]
def j_sup : List String := ["java/lang/RuntimeException", "java/lang/Exception"]
/-- what the tables say of 'throw new X()' in the class own: ia the entry of X, ic that of its constructor, k its number -/
def jXT (own : String) (ia ic k : Nat) (X : String) : Prop := (∃ T : u_T, classes[k]? = some (X, T, 0)) ∧ Bundle.fit X = true ∧ Cond.classLink own ia X ∈ jt ∧ Cond.instantiable X 6 ∈ jt ∧ Cond.initialized X ∈ jt ∧ ∀ w ∈ Bundle.ownAtoms0 own ic X j_sup, w ∈ jt ∨ w ∈ j_four
section JTHROW2
variable {K : jK} {M : jR} {d pc : Nat} {ls : List (Nat × Value)} {st : List Value} {h : jH} {Q : jO → jH → Prop} {mc ms : Nat}
theorem j_throw {ia ic k : Nat} {X : String} (hd0 : decode M.2.1 pc = .ok (.new ia, 3)) (hd3 : decode M.2.1 (pc + 3) = .ok (.dup, 1)) (hd4 : decode M.2.1 (pc + 3 + 1) = .ok (.invokespecial ic, 3)) (hd7 : decode M.2.1 (pc + 3 + 1 + 3) = .ok (.athrow, 1)) (hf : jXT M.1.cls ia ic k X) (hh : M.2.2.2.2 = []) (hdd : 6 ≤ d) (hst : (st.map fun v => v.category).sum ≤ 8)
    (hq : Q (.inr k) (h ++ [.inr (k, [])])) : jE K M d pc ls st h Q mc ms := by
  intro p e R s m args below meth c H locs cells slots la hC hc hs hl hw hLo T hT X0
  subst hT
  obtain ⟨⟨TX, hcl⟩, hfit, hclk, hins, hini, hat⟩ := hf
  have hts := hC.2.2.2.2.1
  have hU : jU K s := ⟨fun w hw' => j_okT (j_jt hw') rfl (hts w hw'), hC.2.2.2.2.2.2.2.2.2.2.2.1, hC.2.2.2.2.2.2.2.2.2.2.2.2⟩
  have X' := j_rebase X0 (by omega) (by omega)
  obtain ⟨s', hs'⟩ : ∃ s', s' = T.setFrames (.invoking m args :: below) := ⟨_, rfl⟩
  have hvm' : s'.vm = T.vm := by rw [hs']; rfl
  have hhp' : s'.heap = T.heap := by rw [hs']; rfl
  rw [← hs'] at X'
  have hW' : s.WarmedH s'.vm := by rw [hvm']; exact X0.warmed
  have hU' : jU K s' := hU.warm hW'
  have hts' : ∀ w ∈ jt, w.before args s' = true := fun w hw' => j_okW (j_jt hw') hW' (hts w hw')
  have hown' : s'.vm.findClass M.1.cls = some m.cls := by rw [hW'.alike.findClass]; exact hC.2.2.2.1
  have htr : e.platform.stackTraces = false := Launch.traces_off hU.2.2.1 X0.admits
  have hKn := hU'.2.1.1 k _ hcl
  have hatoms : ∀ a ∈ Bundle.ownAtoms0 M.1.cls ic X j_sup, a.before args s' = true := by
    intro w hw'
    rcases hat w hw' with h1 | h1
    · exact hts' w h1
    · have hHq : ∀ q : Nat, q < K.2.1 → s'.heap[q]? = K.2.2.1[q]? := by rw [hhp']; exact hw.2.2
      have z1 := (hU'.2.2.2.2.2.1).words hU'.2.2.2.1 hHq args
      have z2 := (hU'.2.2.2.2.2.2.1).words hU'.2.2.2.1 hHq args
      simp only [j_four, List.mem_cons, List.not_mem_nil, or_false] at h1
      rcases h1 with rfl | rfl | rfl | rfl
      · exact z1.1
      · exact z2.1
      · exact z1.2
      · exact z2.2
  have hlocks := hC.2.2.2.2.2.2.1
  have hfr := hC.2.2.2.2.2.2.2.2.2.1
  have hlo := hC.2.2.2.2.2.2.2.2.2.2.1
  have hsize : la.size = c.maxLocals := hl.1.trans hC.2.2.1.symm
  have hmr : (F0 m pc la (st.map (j_v K))).monitorRoom = 0 := by first | rfl | simp [JFrame.monitorRoom, F0]
  have hsum : ((st.map (j_v K)).map fun v => v.category).sum ≤ 8 := by
    have := j_roomS (m := m) (la := la) (pc := pc) (K := K) hst
    rw [hmr] at this
    simpa using this
  have hWW : W p K.1 e { frames := R.frames, cells := R.cells - cells, slots := R.slots - slots, locals := R.locals } s' m args below meth c T.heap [] 0 0
      (fun U => U.status = .running ∧ Ended U below (.threw T.heap.size) ∧ s'.WarmedH U.vm ∧ s'.sameButNew ({ U with vm := s'.vm } : State) [] 1 6 ∧ ∃ ce : Cell, U.heap[T.heap.size]? = some ce ∧ s'.vm.findClass X = some ce.cls ∧ ce.vm = .none) (F0 m pc la (st.map (j_v K))) := by
    refine W.newcK hC.1 hC.2.1 hown' (hts' _ hclk) (hts' _ hins) (hts' _ hini) rfl hd0 (by show 0 + 1 ≤ R.cells - cells; omega) (by show 0 + 6 ≤ R.slots - slots; omega) hKn.2.1 rfl fun H1 kC hkC e1 z1 o1 => ?_
    refine lv_dup hC.1 hC.2.1 hd3 rfl ?_
    intro T2 hT2 X2
    obtain ⟨U, u1, u2, u3, u4, u5, ce, u6, u7⟩ := X2.ctorThrow0 hC.1 htr hown' hfit (by decide) hatoms (fun x hx => by cases hx) hKn.2.1 hkC (a := T.heap.size) (by rw [hT2]; exact e1) (by rw [hhp']; exact Nat.le_refl _) (g := F0 m (pc + 3 + 1) la (.ref T.heap.size :: .ref T.heap.size :: st.map (j_v K))) rfl hsize rfl rfl (rest := st.map (j_v K)) rfl
      (by rw [hC.2.1]; exact hd4) (by rw [hC.2.1]; exact hd7) (by rw [hC.2.2.2.2.2.2.2.2.1, hh]; intro x hx; cases hx) (by show 2 + 3 < R.frames; omega) (by
        have : (F0 m (pc + 3 + 1) la (.ref T.heap.size :: .ref T.heap.size :: st.map (j_v K))).monitorRoom = 0 := by first | rfl | simp [JFrame.monitorRoom, F0]
        rw [this]
        simp only [List.map_cons, List.sum_cons, Value.category]
        show 2 * 0 + (1 + ((st.map (j_v K)).map fun v => v.category).sum) + (13 * (2 + 1) + 41) ≤ R.locals
        omega) hlocks
    exact ⟨U, u1, u2, u3, u4, u5, ce, u6, u7.cls, u7.vm⟩
  obtain ⟨U, u1, u2, u3, u4, u5, ce, u6, u7, u8⟩ := hWW T rfl X'
  have hz := u5.2.1
  have hz2 := u5.2.2.1
  have hlt : T.heap.size < U.heap.size := (Array.getElem?_eq_some_iff.mp u6).1
  have hsz : U.heap.size = T.heap.size + 1 := by
    have h3 : U.heap.size ≤ s'.heap.size + 1 := hz2
    rw [hhp'] at h3
    omega
  have hold : ∀ q : Nat, q < T.heap.size → U.heap[q]? = T.heap[q]? := by
    intro q hq
    have hc0 : s'.heap[q]? = some T.heap[q] := by rw [hhp']; exact Array.getElem?_eq_getElem hq
    have h4 := u5.old_cell hc0
    rw [show T.heap[q]? = some T.heap[q] from Array.getElem?_eq_getElem hq]
    exact h4
  have hwU : jW K (h ++ [.inr (k, [])]) U.heap := by
    refine hw.push ?_ hsz hold
    rw [← hw.2.1]
    refine ⟨_, hcl, ce, u6, ?_, u8, fun j hj => absurd hj (Nat.not_lt_zero j)⟩
    exact Option.some.inj (u7.symm.trans hKn.2.1)
  have hTW : T.WarmedH U.vm := by rw [hs'] at u4; exact u4
  have hsame : T.sameButNew ({ U with vm := T.vm } : State) [] 1 6 := by
    rw [hs'] at u5
    exact j_sbn u5
  have hfin := X0.same.trans (hsame.setVm s.vm)
  rw [List.append_nil] at hfin
  exact ⟨U, u1, .threw T.heap.size, .inr k, _, locs, u2, u3, ⟨h.length, by simp, by simp, by rw [hw.2.1]⟩, hq, hwU, State.WarmedH.trans X0.warmed hTW, hfin.mono (by simp only [j_xc]; omega) (by simp only [j_xc]; omega), hLo⟩
end JTHROW2
end
section
/-! CATCHES: the search through a method's own handlers, their classes' entries resolved or not -/
/-- at pc an object of the class tn is caught at hp: each handler of the list covers pc; those ahead name a class that tn isn't -/
def jFd (own tn : String) (pc : Nat) : List (Nat × Nat × Nat × Nat) → Nat → Prop
  | [], _ => False
  | q :: r, hp => (decide (q.1 ≤ pc) && decide (pc < q.2.1)) = true ∧ q.2.2.2 ≠ 0 ∧ ∃ name : String, Cond.classLink own q.2.2.2 name ∈ jt ∧ ((tn = name ∧ q.2.2.1 = hp) ∨ ((tn, name) ∈ jnc ∧ jFd own tn pc r hp))
theorem j_goLink {e : Env} {S : State} {f : JFrame} {a : Addr} {x : ExceptionTableEntry} {t : List ExceptionTableEntry} {c : ClassId} {cell : Cell} {Q : Handler → Pre} {E : CtlPost} {d : Bool} {acts : List Action} (hx : covers x f.pc = true) (h0 : x.catchType ≠ 0)
    (hl : S.vm.ClassLinks e.platform f.method.cls x.catchType c) (hcell : S.heap[a]? = some cell) (hobj : ∀ k, cell.vm ≠ .statics k) (hk : ∃ k, S.vm.classes[cell.cls]? = some k) (hc : ∃ k, S.vm.classes[c]? = some k) :
    wp (findHandler.go f a (x :: t)) Q E e d acts S ↔ (if S.vm.assignable cell.cls c = true then Q (.found x.handlerPc) d acts (S.setVm (S.vm.noted f.method.cls x.catchType (.cls c))) else wp (findHandler.go f a t) Q E e d acts (S.setVm (S.vm.noted f.method.cls x.catchType (.cls c)))) := by
  simp only [covers] at hx
  obtain ⟨g1, g2⟩ := (resolveClass_links e.toSetting hl).op (op := VmOp.resolveClass f.method.cls x.catchType) rfl
  have hal : S.vm.Alike (S.vm.noted f.method.cls x.catchType (.cls c)) := (Vm.Alike.refl S.vm).noted _ _ _
  obtain ⟨k1, hk1⟩ := hk
  obtain ⟨k2, hk2⟩ := hc
  obtain ⟨k1', hk1', -⟩ := hal.2.2 _ _ hk1
  obtain ⟨k2', hk2', -⟩ := hal.2.2 _ _ hk2
  have has : (S.vm.noted f.method.cls x.catchType (.cls c)).assignable cell.cls c = S.vm.assignable cell.cls c := hal.assignable _ _
  cases hfit : S.vm.assignable cell.cls c <;> rw [hfit] at has <;> simp [findHandler.go, hx, h0, g1, g2, hcell, hobj, hk1', hk2', has, VmOp.dirties, VmOp.acts]
theorem j_search {e : Env} {s : State} {args : Array Value} {f : JFrame} {a : Addr} {cell : Cell} {own tn : String} (hpl : e.platform.magicAccessors = ({} : Platform).magicAccessors) (hown : s.vm.findClass own = some f.method.cls) (hts : ∀ w ∈ jt, w.before args s = true) (hnc : ∀ q ∈ jnc, va_Nc q.1 q.2 s)
    (hcls : s.vm.findClass tn = some cell.cls) (hobj : ∀ k, cell.vm ≠ .statics k) : ∀ (t : List (Nat × Nat × Nat × Nat)) (S : State) (hp : Nat), jFd own tn f.pc t hp → s.WarmedH S.vm → S.heap[a]? = some cell →
      ∃ vm', s.WarmedH vm' ∧ ∀ (Q : Handler → Pre) (E : CtlPost) (d : Bool) (acts : List Action), wp (findHandler.go f a (tableOf t)) Q E e d acts S ↔ Q (.found hp) d acts (S.setVm vm')
  | [], _, _, h, _, _ => h.elim
  | q :: r, S, hp, h, hW, hcell => by
    obtain ⟨hcov, h0, name, hlk, hor⟩ := h
    obtain ⟨c, hc, hl⟩ := Cond.classLink_spec hown (hts _ hlk) e.platform hpl
    obtain ⟨dk, _, _, kt, hd, _, _, _, _, hkt, _, hopen⟩ := hl.here
    obtain ⟨kt', hkt', -⟩ := hW.alike.2.2 _ _ hkt
    obtain ⟨k0, hk0, -⟩ := Vm.findClass_spec hcls
    obtain ⟨k0', hk0', -⟩ := hW.alike.2.2 _ _ hk0
    have hWn : s.WarmedH (S.vm.noted f.method.cls q.2.2.2 (.cls c)) := hW.noted hd hopen (State.rightAt_cls hl)
    have key : ∀ (Q : Handler → Pre) (E : CtlPost) (d : Bool) (acts : List Action), wp (findHandler.go f a (tableOf (q :: r))) Q E e d acts S ↔ _ := fun Q E d acts => j_goLink (x := ⟨q.1, q.2.1, q.2.2.1, q.2.2.2⟩) (t := tableOf r) hcov h0 (hW.classLinks hl) hcell hobj ⟨k0', hk0'⟩ ⟨kt', hkt'⟩
    rcases hor with ⟨rfl, rfl⟩ | ⟨hn, hr⟩
    · cases hcls.symm.trans hc
      refine ⟨_, hWn, fun Q E d acts => (key Q E d acts).trans ?_⟩
      rw [if_pos (va_asg _ _)]
    · obtain ⟨c1, t1, f1, f2, f3⟩ := hnc _ hn
      cases hcls.symm.trans f1
      cases hc.symm.trans f2
      obtain ⟨vm', hW', hq⟩ := j_search hpl hown hts hnc hcls hobj r (S.setVm (S.vm.noted f.method.cls q.2.2.2 (.cls c))) hp hr hWn hcell
      refine ⟨vm', hW', fun Q E d acts => (key Q E d acts).trans ?_⟩
      rw [if_neg (by rw [hW.alike.assignable, f3]; decide)]
      exact hq Q E d acts
theorem j_stepCatch {e : Env} {s : State} {a : Addr} {f : JFrame} {r : List Frame} {pc : Nat} {vm' : Vm} (hfind : ∀ (Q : Handler → Pre) (E : CtlPost) (d : Bool) (acts : List Action), wp (findHandler f a) Q E e d acts s ↔ Q (.found pc) d acts (s.setVm vm')) :
    (stepThrowing e s a (.java f :: r)).Is ((s.setVm vm').setFrames (.java { f with pc := pc, stack := [.ref a] } :: r)) [] := by
  simp only [stepThrowing, searchFrame, vmDo]
  generalize hr : Sem.go _ e false [] s = res
  obtain ⟨as, rfl, ha⟩ := Sem.eq_ok_of hr (a := Handler.found pc) (s' := s.setVm vm') (acts' := []) (by simp [hfind _ _ _ _])
  exact ⟨rfl, ha⟩
section JCATCH
variable {K : jK} {M : jR} {d pc : Nat} {ls : List (Nat × Value)} {st st0 : List Value} {h : jH} {Q Q' : jO → jH → Prop} {mc ms mc' ms' : Nat}
theorem j_catStep {p : Program} {l : Launch} {e : Env} {R : Room} {s : State} {m : MethodId} {args : Array Value} {below : List Frame} {meth : Method} {c : Code} {T : State} {locs : List Loc} {cells slots : Nat} (X : Stand p l e R s m args below meth c T locs cells slots) {g : JFrame} (hg : g.method = m) {own tn : String} {hs : List (Nat × Nat × Nat × Nat)} {hp : Nat} (htab : c.exceptionTable.toList = tableOf hs)
    (hown : s.vm.findClass own = some m.cls) (hts : ∀ w ∈ jt, w.before args s = true) (hnc : ∀ q ∈ jnc, va_Nc q.1 q.2 s) {a : Addr} {cell : Cell} (hcell : T.heap[a]? = some cell) (hcls : s.vm.findClass tn = some cell.cls) (hobj : cell.vm.isStatics = false) (hfd : jFd own tn g.pc hs hp) :
    ∃ vm', Stand p l e R s m args below meth c (T.setVm vm') locs cells slots ∧ ∀ tg, Steps p.tables e below ((T.setVm vm').setTop { g with pc := hp, stack := [.ref a] }) tg → Steps p.tables e below ((T.setTop g).pushFrame (.throwing a)) tg := by
  have hpl : e.platform.magicAccessors = ({} : Platform).magicAccessors := by rw [X.admits.platform]
  subst hg
  have hvmT : ((T.setTop g).pushFrame (.throwing a)).vm = T.vm := by simp [State.pushFrame, State.setFrames, State.setTop, State.modifyTopJava]
  have hhpT : ((T.setTop g).pushFrame (.throwing a)).heap = T.heap := by simp [State.pushFrame, State.setFrames, State.setTop, State.modifyTopJava]
  obtain ⟨vm', hW', hq⟩ := j_search (e := e) (a := a) hpl hown hts hnc hcls (VmData.ne_statics_of hobj) hs ((T.setTop g).pushFrame (.throwing a)) hp hfd (by rw [hvmT]; exact X.warmed) (by rw [hhpT]; exact hcell)
  refine ⟨vm', X.noted hW', fun tg htg => ?_⟩
  obtain ⟨hgo, hw⟩ := X.here.throwing a
  refine Steps.head hgo hw ?_
  have hfind : ∀ (Q : Handler → Pre) (E : CtlPost) (d : Bool) (acts : List Action), wp (findHandler g a) Q E e d acts ((T.setTop g).pushFrame (.throwing a)) ↔ Q (.found hp) d acts (((T.setTop g).pushFrame (.throwing a)).setVm vm') := fun Q E d acts => by
    rw [W.findHandler_eq (meth := meth) (code := c) (by rw [hvmT]; exact X.method') X.code, htab]
    exact hq Q E d acts
  rw [stepThread_throwing (frames_entered X.here.top _), (j_stepCatch hfind).1]
  obtain ⟨g₀, hg0⟩ := Option.isSome_iff_exists.mp X.here.top
  obtain ⟨r, hr⟩ := State.topJava?_eq_some.mp hg0
  have hr' : (T.setVm vm').frames = .java g₀ :: r := hr
  have e1 : ∀ (u : State) (F G : List Frame), ((u.setFrames F).setVm vm').setFrames G = (u.setVm vm').setFrames G := fun u F G => by
    have h1 : (u.setFrames F).setVm vm' = (u.setVm vm').setFrames F := rfl
    rw [h1, State.setFrames_setFrames]
  rw [State.setTop_of_frames _ hr'] at htg
  rw [hr, List.tail_cons, State.pushFrame, e1, State.setTop_of_frames _ hr, e1]
  exact htg
/-- behind a call in a method with handlers: it came back, or what it threw is caught -/
theorem j_catch (hcall : jCall K M d pc ls st0 st h Q' mc' ms') (kr : ∀ (v : Option Value) (h' : jH), Q' (.inl v) h' → jE K M d (pc + 3) ls (v.toList ++ st) h' Q mc ms)
    (kt : ∀ (k : Nat) (h' : jH), Q' (.inr k) h' → ∃ (X : String) (T : u_T) (hp : Nat), classes[k]? = some (X, T, 0) ∧ jFd M.1.cls X pc M.2.2.2.2 hp ∧ jE K M d hp ls [.ref (31 + h'.length)] h' Q mc ms) : jE K M d pc ls st0 h Q (mc' + 1 + mc) (ms' + 6 + ms) := by
  intro p e R s m args below meth c H locs cells slots la hC hc hs hl hw hLo T hT X
  obtain ⟨mo, h', L, B, XB, hq, hwB, hLB, hend⟩ := hcall p e R s m args below meth c H locs cells slots la hC (by omega) (by omega) hl hw hLo T hT X
  rcases hend with ⟨v, rfl, hst⟩ | ⟨k, n, rfl, n1, n2, hst⟩
  · obtain ⟨t, a1, a2⟩ := kr v h' hq p e R s m args below meth c B.heap L _ _ la hC (by simp only [j_xc]; omega) (by simp only [j_xc]; omega) hl hwB hLB B rfl XB
    refine ⟨t, hst t a1, ?_⟩
    obtain ⟨o, mo, h2, L2, b1, b2, b3, b4, b5, b6, b7, b8⟩ := a2
    exact ⟨o, mo, h2, L2, b1, b2, b3, b4, b5, b6, b7.mono (by simp only [j_xc]; omega) (by simp only [j_xc]; omega), b8⟩
  · obtain ⟨X9, TX, hp, hcl, hfd, hE⟩ := kt k h' hq
    obtain ⟨r9, g1, cell, g2, g3, g4, -⟩ := hwB.1 n _ n2
    have hK := hC.2.2.2.2.2.2.2.2.2.2.2.1
    have hXs := hC.2.2.2.2.2.2.2.2.2.2.2.2
    obtain ⟨vm', X2, hs2⟩ := j_catStep XB (g := F0 m pc la (st.map (j_v K))) rfl (hs := M.2.2.2.2) (hp := hp) hC.2.2.2.2.2.2.2.2.1 hC.2.2.2.1 hC.2.2.2.2.1 hXs.2.2.1 (a := K.2.1 + n) (cell := cell) (tn := X9) g2 (by rw [g3]; exact (hK.1 k _ hcl).2.1) (by rw [g4]; rfl) hfd
    obtain ⟨t, a1, a2⟩ := hE p e R s m args below meth c B.heap L _ _ la hC (by simp only [j_xc]; omega) (by simp only [j_xc]; omega) hl hwB hLB (B.setVm vm') rfl X2
    have e9 : ([.ref (31 + h'.length)] : List Value).map (j_v K) = [.ref (K.2.1 + n)] := by
      show ([.ref (j_adr K (31 + h'.length))] : List Value) = _
      rw [n1, show 31 + (n + 1) = 32 + n by omega, j_adr_new]
    rw [e9] at a1
    refine ⟨t, hst t (hs2 t a1), ?_⟩
    obtain ⟨o, mo, h2, L2, b1, b2, b3, b4, b5, b6, b7, b8⟩ := a2
    exact ⟨o, mo, h2, L2, b1, b2, b3, b4, b5, b6, b7.mono (by simp only [j_xc]; omega) (by simp only [j_xc]; omega), b8⟩
end JCATCH
end
section
/-! constants, switches, references that are compared, Object's constructor -/
section JMISC
variable {K : jK} {M : jR} {d pc : Nat} {ls : List (Nat × Value)} {st : List Value} {h : jH} {Q : jO → jH → Prop} {mc ms : Nat}
theorem j_ldc {idx : Nat} {v : Int32} (hd : decode M.2.1 pc = .ok (.ldc idx, 2)) (hw0 : Cond.constant M.1.cls idx v ∈ jt) (k : jE K M d (pc + 2) ls (.int v :: st) h Q mc ms) : jE K M d pc ls st h Q mc ms :=
  fun p e R s m as bl me c H lo ce sl la hC hc hs hl hw hL => lv_ldc hC.1 hC.2.1 hC.2.2.2.1 (hC.2.2.2.2.1 _ hw0) hd (k p e R s m as bl me c H lo ce sl la hC hc hs hl hw hL)
theorem j_ldcw {idx : Nat} {v : Int32} (hd : decode M.2.1 pc = .ok (.ldc_w idx, 3)) (hw0 : Cond.constant M.1.cls idx v ∈ jt) (k : jE K M d (pc + 3) ls (.int v :: st) h Q mc ms) : jE K M d pc ls st h Q mc ms :=
  fun p e R s m as bl me c H lo ce sl la hC hc hs hl hw hL => lv_ldcw hC.1 hC.2.1 hC.2.2.2.1 (hC.2.2.2.2.1 _ hw0) hd (k p e R s m as bl me c H lo ce sl la hC hc hs hl hw hL)
theorem j_ldc2 {idx : Nat} {v : Int64} (hd : decode M.2.1 pc = .ok (.ldc2_w idx, 3)) (hw0 : Cond.constantLong M.1.cls idx v ∈ jt) (k : jE K M d (pc + 3) ls (.long v :: st) h Q mc ms) : jE K M d pc ls st h Q mc ms :=
  fun p e R s m as bl me c H lo ce sl la hC hc hs hl hw hL => lv_ldc2 hC.1 hC.2.1 hC.2.2.2.1 (hC.2.2.2.2.1 _ hw0) hd (k p e R s m as bl me c H lo ce sl la hC hc hs hl hw hL)
theorem j_lcmp {x y : Int64} (hd : decode M.2.1 pc = .ok (.lcmp, 1)) (k : jE K M d (pc + 1) ls (.int (lg_cmp x y) :: st) h Q mc ms) : jE K M d pc ls (.long y :: .long x :: st) h Q mc ms :=
  fun p e R s m as bl me c H lo ce sl la hC hc hs hl hw hL => W.lcmp hC.1 hC.2.1 hd (k p e R s m as bl me c H lo ce sl la hC hc hs hl hw hL)
theorem j_switchIn {dflt lo hi : Int} {offs : Array Int} {len : Nat} {x : Int32} {off : Int} {tgt : Nat} (hd : decode M.2.1 pc = .ok (.tableswitch dflt lo hi offs, len)) (h1 : ¬ x.toInt < lo) (h2 : ¬ hi < x.toInt) (ho : offs[(x.toInt - lo).toNat]? = some off) (ht : (pc : Int) + off = (tgt : Int)) (k : jE K M d tgt ls st h Q mc ms) : jE K M d pc ls (.int x :: st) h Q mc ms :=
  fun p e R s m as bl me c H lo' ce sl la hC hc hs hl hw hL => lv_tableIn hC.1 hC.2.1 hd h1 h2 ho ht (k p e R s m as bl me c H lo' ce sl la hC hc hs hl hw hL)
theorem j_switchOut {dflt lo hi : Int} {offs : Array Int} {len : Nat} {x : Int32} {tgt : Nat} (hd : decode M.2.1 pc = .ok (.tableswitch dflt lo hi offs, len)) (h1 : x.toInt < lo ∨ hi < x.toInt) (ht : (pc : Int) + dflt = (tgt : Int)) (k : jE K M d tgt ls st h Q mc ms) : jE K M d pc ls (.int x :: st) h Q mc ms :=
  fun p e R s m as bl me c H lo' ce sl la hC hc hs hl hw hL => lv_tableOut hC.1 hC.2.1 hd h1 ht (k p e R s m as bl me c H lo' ce sl la hC hc hs hl hw hL)
theorem j_objInit {idx i : Nat} (hd : decode M.2.1 pc = .ok (.invokespecial idx, 3)) (hlink : Cond.methodLink M.1.cls idx Lib.objectInit ∈ jt) (hinst : Cond.instanceMethod Lib.objectInit ∈ jt) (hcode : Cond.code Lib.objectInit ⟨#[0xb1]⟩ 1 none ∈ jt) (hdd : 1 ≤ d) (hst : (st.map fun v => v.category).sum ≤ 8) (k : jE K M d (pc + 3) ls st h Q mc ms) : jE K M d pc ls (.ref i :: st) h Q mc ms := by
  intro p e R s m as bl me c H lo ce sl la hC hc hs hl hw hL
  have hts := hC.2.2.2.2.1
  have hfr := hC.2.2.2.2.2.2.2.2.2.1
  have hlo := hC.2.2.2.2.2.2.2.2.2.2.1
  have hroom := j_roomS (m := m) (la := la) (pc := pc) (K := K) hst
  refine W.objInit hC.1 hC.2.1 hC.2.2.2.1 (hts _ hlink) (hts _ hinst) (hts _ hcode) (g := F0 m pc la (.ref (j_adr K i) :: st.map (j_v K))) rfl (hl.1.trans hC.2.2.1.symm) rfl hd (by omega) ?_ (k p e R s m as bl me c H lo ce sl la hC hc hs hl hw hL)
  have e1 : (F0 m pc la (.ref (j_adr K i) :: st.map (j_v K))).monitorRoom = (F0 m pc la (st.map (j_v K))).monitorRoom := by first | rfl | simp [JFrame.monitorRoom, F0]
  rw [e1]
  have e2 : ((F0 m pc la (st.map (j_v K))).stack.map fun v => v.category).sum = ((st.map (j_v K)).map fun v => v.category).sum := rfl
  rw [e2] at hroom
  omega
end JMISC
end
section
/-! methods -/
def y_B_init : MethodName := ⟨"BitLoom", "<init>", "()V"⟩
abbrev b_B_init : ByteArray := prog_1_method_1_code
abbrev M_B_init : jR := (y_B_init, b_B_init, 1, (none), [])
def y_F_init : MethodName := ⟨"BitLoom$Fields", "<init>", "()V"⟩
abbrev b_F_init : ByteArray := prog_5_method_1_code
abbrev M_F_init : jR := (y_F_init, b_F_init, 1, (none), [])
def y_W_init : MethodName := ⟨"BitLoom$Words", "<init>", "()V"⟩
abbrev b_W_init : ByteArray := prog_11_method_1_code
abbrev M_W_init : jR := (y_W_init, b_W_init, 1, (none), [])
def y_T_init : MethodName := ⟨"BitLoom$Text", "<init>", "()V"⟩
abbrev b_T_init : ByteArray := prog_9_method_1_code
abbrev M_T_init : jR := (y_T_init, b_T_init, 1, (none), [])
def y_S_init : MethodName := ⟨"BitLoom$Statement", "<init>", "(LBitLoom$Fields;LBitLoom$Words;LBitLoom$Text;)V"⟩
abbrev b_S_init : ByteArray := prog_8_method_1_code
abbrev M_S_init : jR := (y_S_init, b_S_init, 4, (none), [])
def y_K_init : MethodName := ⟨"BitLoom$Tokens", "<init>", "(LBitLoom$Text;)V"⟩
abbrev b_K_init : ByteArray := prog_10_method_1_code
abbrev M_K_init : jR := (y_K_init, b_K_init, 2, (none), [])
def y_P_init : MethodName := ⟨"BitLoom$Pair", "<init>", "(LBitLoom$Fields;)V"⟩
abbrev b_P_init : ByteArray := prog_7_method_1_code
abbrev M_P_init : jR := (y_P_init, b_P_init, 2, (none), [])
def y_O_init : MethodName := ⟨"BitLoom$Operand", "<init>", "(LBitLoom$Fields;)V"⟩
abbrev b_O_init : ByteArray := prog_6_method_1_code
abbrev M_O_init : jR := (y_O_init, b_O_init, 2, (none), [])
def y_C_init : MethodName := ⟨"BitLoom$Change", "<init>", "(LBitLoom$Fields;)V"⟩
abbrev b_C_init : ByteArray := prog_4_method_1_code
abbrev M_C_init : jR := (y_C_init, b_C_init, 2, (none), [])
def y_B_search : MethodName := ⟨"BitLoom", "search", "(IIZ)I"⟩
abbrev b_B_search : ByteArray := prog_1_method_8_code
abbrev M_B_search : jR := (y_B_search, b_B_search, 5, (some .int), [])
def y_W_responding : MethodName := ⟨"BitLoom$Words", "responding", "()I"⟩
abbrev b_W_responding : ByteArray := prog_11_method_6_code
abbrev M_W_responding : jR := (y_W_responding, b_W_responding, 1, (some .int), [])
def y_W_inUse : MethodName := ⟨"BitLoom$Words", "inUse", "()I"⟩
abbrev b_W_inUse : ByteArray := prog_11_method_5_code
abbrev M_W_inUse : jR := (y_W_inUse, b_W_inUse, 1, (some .int), [])
def y_W_matching : MethodName := ⟨"BitLoom$Words", "matching", "(III)I"⟩
abbrev b_W_matching : ByteArray := prog_11_method_12_code
abbrev M_W_matching : jR := (y_W_matching, b_W_matching, 6, (some .int), [])
def y_W_holds : MethodName := ⟨"BitLoom$Words", "holds", "(II)Z"⟩
abbrev b_W_holds : ByteArray := prog_11_method_2_code
abbrev M_W_holds : jR := (y_W_holds, b_W_holds, 2, (some .boolean), [])
def y_W_respondOnly : MethodName := ⟨"BitLoom$Words", "respondOnly", "(I)V"⟩
abbrev b_W_respondOnly : ByteArray := prog_11_method_11_code
abbrev M_W_respondOnly : jR := (y_W_respondOnly, b_W_respondOnly, 2, (none), [])
def y_JInteger_bitCount : MethodName := ⟨"java/lang/Integer", "bitCount", "(I)I"⟩
abbrev b_JInteger_bitCount : ByteArray := prog_20_method_49_code
abbrev M_JInteger_bitCount : jR := (y_JInteger_bitCount, b_JInteger_bitCount, 1, (some .int), [])
def y_B_first : MethodName := ⟨"BitLoom", "first", "()I"⟩
abbrev b_B_first : ByteArray := prog_1_method_11_code
abbrev M_B_first : jR := (y_B_first, b_B_first, 2, (some .int), [])
def y_W_lowestOf : MethodName := ⟨"BitLoom$Words", "lowestOf", "(I)I"⟩
abbrev b_W_lowestOf : ByteArray := prog_11_method_3_code
abbrev M_W_lowestOf : jR := (y_W_lowestOf, b_W_lowestOf, 2, (some .int), [])
def y_B_write : MethodName := ⟨"BitLoom", "write", "(J)Z"⟩
abbrev b_B_write : ByteArray := prog_1_method_12_code
abbrev M_B_write : jR := (y_B_write, b_B_write, 3, (some .boolean), [])
def y_T_canTake : MethodName := ⟨"BitLoom$Text", "canTake", "(J)Z"⟩
abbrev b_T_canTake : ByteArray := prog_9_method_5_code
abbrev M_T_canTake : jR := (y_T_canTake, b_T_canTake, 6, (some .boolean), [])
def y_T_codeOf : MethodName := ⟨"BitLoom$Text", "codeOf", "(JI)I"⟩
abbrev b_T_codeOf : ByteArray := prog_9_method_7_code
abbrev M_T_codeOf : jR := (y_T_codeOf, b_T_codeOf, 3, (some .int), [])
def y_T_append : MethodName := ⟨"BitLoom$Text", "append", "(J)V"⟩
abbrev b_T_append : ByteArray := prog_9_method_6_code
abbrev M_T_append : jR := (y_T_append, b_T_append, 5, (none), [])
def y_B_wipe : MethodName := ⟨"BitLoom", "wipe", "()I"⟩
abbrev b_B_wipe : ByteArray := prog_1_method_13_code
abbrev M_B_wipe : jR := (y_B_wipe, b_B_wipe, 2, (some .int), [])
def y_T_length : MethodName := ⟨"BitLoom$Text", "length", "()I"⟩
abbrev b_T_length : ByteArray := prog_9_method_2_code
abbrev M_T_length : jR := (y_T_length, b_T_length, 1, (some .int), [])
def y_T_clear : MethodName := ⟨"BitLoom$Text", "clear", "()V"⟩
abbrev b_T_clear : ByteArray := prog_9_method_4_code
abbrev M_T_clear : jR := (y_T_clear, b_T_clear, 1, (none), [])
def y_B_place : MethodName := ⟨"BitLoom", "place", "()I"⟩
abbrev b_B_place : ByteArray := prog_1_method_15_code
abbrev M_B_place : jR := (y_B_place, b_B_place, 1, (some .int), [])
def y_S_wrongAt : MethodName := ⟨"BitLoom$Statement", "wrongAt", "()I"⟩
abbrev b_S_wrongAt : ByteArray := prog_8_method_2_code
abbrev M_S_wrongAt : jR := (y_S_wrongAt, b_S_wrongAt, 1, (some .int), [])
def y_B_refused : MethodName := ⟨"BitLoom", "refused", "()I"⟩
abbrev b_B_refused : ByteArray := prog_1_method_16_code
abbrev M_B_refused : jR := (y_B_refused, b_B_refused, 1, (some .int), [])
def y_B_field : MethodName := ⟨"BitLoom", "field", "(CIIZ)V"⟩
abbrev b_B_field : ByteArray := prog_1_method_2_code
abbrev M_B_field : jR := (y_B_field, b_B_field, 5, (none), [])
def y_F_isNewName : MethodName := ⟨"BitLoom$Fields", "isNewName", "(C)Z"⟩
abbrev b_F_isNewName : ByteArray := prog_5_method_3_code
abbrev M_F_isNewName : jR := (y_F_isNewName, b_F_isNewName, 2, (some .boolean), [])
def y_F_indexOf : MethodName := ⟨"BitLoom$Fields", "indexOf", "(C)I"⟩
abbrev b_F_indexOf : ByteArray := prog_5_method_6_code
abbrev M_F_indexOf : jR := (y_F_indexOf, b_F_indexOf, 3, (some .int), [])
def y_F_isOpenGround : MethodName := ⟨"BitLoom$Fields", "isOpenGround", "(II)Z"⟩
abbrev b_F_isOpenGround : ByteArray := prog_5_method_4_code
abbrev M_F_isOpenGround : jR := (y_F_isOpenGround, b_F_isOpenGround, 3, (some .boolean), [])
def y_F_ground : MethodName := ⟨"BitLoom$Fields", "ground", "(II)I"⟩
abbrev b_F_ground : ByteArray := prog_5_method_10_code
abbrev M_F_ground : jR := (y_F_ground, b_F_ground, 2, (some .int), [])
def y_F_isFull : MethodName := ⟨"BitLoom$Fields", "isFull", "()Z"⟩
abbrev b_F_isFull : ByteArray := prog_5_method_2_code
abbrev M_F_isFull : jR := (y_F_isFull, b_F_isFull, 1, (some .boolean), [])
def y_F_append : MethodName := ⟨"BitLoom$Fields", "append", "(CIIZ)V"⟩
abbrev b_F_append : ByteArray := prog_5_method_5_code
abbrev M_F_append : jR := (y_F_append, b_F_append, 5, (none), [])
def y_B_insert : MethodName := ⟨"BitLoom", "insert", "()I"⟩
abbrev b_B_insert : ByteArray := prog_1_method_3_code
abbrev M_B_insert : jR := (y_B_insert, b_B_insert, 2, (some .int), [])
def y_W_free : MethodName := ⟨"BitLoom$Words", "free", "()I"⟩
abbrev b_W_free : ByteArray := prog_11_method_4_code
abbrev M_W_free : jR := (y_W_free, b_W_free, 1, (some .int), [])
def y_W_occupy : MethodName := ⟨"BitLoom$Words", "occupy", "(I)V"⟩
abbrev b_W_occupy : ByteArray := prog_11_method_9_code
abbrev M_W_occupy : jR := (y_W_occupy, b_W_occupy, 2, (none), [])
def y_B_remove : MethodName := ⟨"BitLoom", "remove", "(I)V"⟩
abbrev b_B_remove : ByteArray := prog_1_method_4_code
abbrev M_B_remove : jR := (y_B_remove, b_B_remove, 2, (none), [])
def y_B_requireWord : MethodName := ⟨"BitLoom", "requireWord", "(I)V"⟩
abbrev b_B_requireWord : ByteArray := prog_1_method_18_code
abbrev M_B_requireWord : jR := (y_B_requireWord, b_B_requireWord, 2, (none), [])
def y_B_requireInUse : MethodName := ⟨"BitLoom", "requireInUse", "(I)V"⟩
abbrev b_B_requireInUse : ByteArray := prog_1_method_20_code
abbrev M_B_requireInUse : jR := (y_B_requireInUse, b_B_requireInUse, 2, (none), [])
def y_W_release : MethodName := ⟨"BitLoom$Words", "release", "(I)V"⟩
abbrev b_W_release : ByteArray := prog_11_method_10_code
abbrev M_W_release : jR := (y_W_release, b_W_release, 2, (none), [])
def y_B_put : MethodName := ⟨"BitLoom", "put", "(ICI)V"⟩
abbrev b_B_put : ByteArray := prog_1_method_5_code
abbrev M_B_put : jR := (y_B_put, b_B_put, 5, (none), [])
def y_B_requireField : MethodName := ⟨"BitLoom", "requireField", "(C)I"⟩
abbrev b_B_requireField : ByteArray := prog_1_method_19_code
abbrev M_B_requireField : jR := (y_B_requireField, b_B_requireField, 3, (some .int), [])
def y_F_fits : MethodName := ⟨"BitLoom$Fields", "fits", "(II)Z"⟩
abbrev b_F_fits : ByteArray := prog_5_method_7_code
abbrev M_F_fits : jR := (y_F_fits, b_F_fits, 5, (some .boolean), [])
def y_W_bitsOf : MethodName := ⟨"BitLoom$Words", "bitsOf", "(I)I"⟩
abbrev b_W_bitsOf : ByteArray := prog_11_method_7_code
abbrev M_W_bitsOf : jR := (y_W_bitsOf, b_W_bitsOf, 2, (some .int), [])
def y_F_withValue : MethodName := ⟨"BitLoom$Fields", "withValue", "(III)I"⟩
abbrev b_F_withValue : ByteArray := prog_5_method_9_code
abbrev M_F_withValue : jR := (y_F_withValue, b_F_withValue, 5, (some .int), [])
def y_W_replace : MethodName := ⟨"BitLoom$Words", "replace", "(II)V"⟩
abbrev b_W_replace : ByteArray := prog_11_method_8_code
abbrev M_W_replace : jR := (y_W_replace, b_W_replace, 3, (none), [])
def y_B_get : MethodName := ⟨"BitLoom", "get", "(IC)I"⟩
abbrev b_B_get : ByteArray := prog_1_method_6_code
abbrev M_B_get : jR := (y_B_get, b_B_get, 4, (some .int), [])
def y_F_valueIn : MethodName := ⟨"BitLoom$Fields", "valueIn", "(II)I"⟩
abbrev b_F_valueIn : ByteArray := prog_5_method_8_code
abbrev M_F_valueIn : jR := (y_F_valueIn, b_F_valueIn, 5, (some .int), [])
def y_B_bit : MethodName := ⟨"BitLoom", "bit", "(II)Z"⟩
abbrev b_B_bit : ByteArray := prog_1_method_7_code
abbrev M_B_bit : jR := (y_B_bit, b_B_bit, 3, (some .boolean), [])
def y_B_multi : MethodName := ⟨"BitLoom", "multi", "(II)V"⟩
abbrev b_B_multi : ByteArray := prog_1_method_9_code
abbrev M_B_multi : jR := (y_B_multi, b_B_multi, 3, (none), [])
def y_W_overwrite : MethodName := ⟨"BitLoom$Words", "overwrite", "(III)V"⟩
abbrev b_W_overwrite : ByteArray := prog_11_method_13_code
abbrev M_W_overwrite : jR := (y_W_overwrite, b_W_overwrite, 5, (none), [])
def y_B_responds : MethodName := ⟨"BitLoom", "responds", "(I)Z"⟩
abbrev b_B_responds : ByteArray := prog_1_method_10_code
abbrev M_B_responds : jR := (y_B_responds, b_B_responds, 2, (some .boolean), [])
def y_B_run : MethodName := ⟨"BitLoom", "run", "()I"⟩
abbrev b_B_run : ByteArray := prog_1_method_14_code
abbrev M_B_run : jR := (y_B_run, b_B_run, 3, (some .int), [])
def y_S_read : MethodName := ⟨"BitLoom$Statement", "read", "()V"⟩
abbrev b_S_read : ByteArray := prog_8_method_9_code
abbrev M_S_read : jR := (y_S_read, b_S_read, 1, (none), [])
def y_K_cut : MethodName := ⟨"BitLoom$Tokens", "cut", "()V"⟩
abbrev b_K_cut : ByteArray := prog_10_method_2_code
abbrev M_K_cut : jR := (y_K_cut, b_K_cut, 3, (none), [])
def y_T_at : MethodName := ⟨"BitLoom$Text", "at", "(I)C"⟩
abbrev b_T_at : ByteArray := prog_9_method_3_code
abbrev M_T_at : jR := (y_T_at, b_T_at, 2, (some .char), [])
def y_K_cutOne : MethodName := ⟨"BitLoom$Tokens", "cutOne", "(I)I"⟩
abbrev b_K_cutOne : ByteArray := prog_10_method_12_code
abbrev M_K_cutOne : jR := (y_K_cutOne, b_K_cutOne, 4, (some .int), [])
def y_K_isBetween : MethodName := ⟨"BitLoom$Tokens", "isBetween", "(CCC)Z"⟩
abbrev b_K_isBetween : ByteArray := prog_10_method_14_code
abbrev M_K_isBetween : jR := (y_K_isBetween, b_K_isBetween, 3, (some .boolean), [])
def y_K_endOf : MethodName := ⟨"BitLoom$Tokens", "endOf", "(ICC)I"⟩
abbrev b_K_endOf : ByteArray := prog_10_method_13_code
abbrev M_K_endOf : jR := (y_K_endOf, b_K_endOf, 5, (some .int), [])
def y_K_append : MethodName := ⟨"BitLoom$Tokens", "append", "(CII)I"⟩
abbrev b_K_append : ByteArray := prog_10_method_15_code
abbrev M_K_append : jR := (y_K_append, b_K_append, 4, (some .int), [])
def y_JString_indexOf0 : MethodName := ⟨"java/lang/String", "indexOf", "(I)I"⟩
abbrev b_JString_indexOf0 : ByteArray := prog_23_method_79_code
abbrev M_JString_indexOf0 : jR := (y_JString_indexOf0, b_JString_indexOf0, 2, (some .int), [])
def y_JString_indexOf1 : MethodName := ⟨"java/lang/String", "indexOf", "(II)I"⟩
abbrev b_JString_indexOf1 : ByteArray := prog_23_method_80_code
abbrev M_JString_indexOf1 : jR := (y_JString_indexOf1, b_JString_indexOf1, 3, (some .int), [])
def y_JString_isLatin1 : MethodName := ⟨"java/lang/String", "isLatin1", "()Z"⟩
abbrev b_JString_isLatin1 : ByteArray := prog_23_method_154_code
abbrev M_JString_isLatin1 : jR := (y_JString_isLatin1, b_JString_isLatin1, 1, (some .boolean), [])
def y_JString_length : MethodName := ⟨"java/lang/String", "length", "()I"⟩
abbrev b_JString_length : ByteArray := prog_23_method_54_code
abbrev M_JString_length : jR := (y_JString_length, b_JString_length, 1, (some .int), [])
def y_JString_coder : MethodName := ⟨"java/lang/String", "coder", "()B"⟩
abbrev b_JString_coder : ByteArray := prog_23_method_152_code
abbrev M_JString_coder : jR := (y_JString_coder, b_JString_coder, 1, (some .byte), [])
def y_JStringLatin1_indexOf : MethodName := ⟨"java/lang/StringLatin1", "indexOf", "([BIII)I"⟩
abbrev b_JStringLatin1_indexOf : ByteArray := prog_24_method_22_code
abbrev M_JStringLatin1_indexOf : jR := (y_JStringLatin1_indexOf, b_JStringLatin1_indexOf, 4, (some .int), [])
def y_JStringLatin1_canEncode : MethodName := ⟨"java/lang/StringLatin1", "canEncode", "(I)Z"⟩
abbrev b_JStringLatin1_canEncode : ByteArray := prog_24_method_4_code
abbrev M_JStringLatin1_canEncode : jR := (y_JStringLatin1_canEncode, b_JStringLatin1_canEncode, 1, (some .boolean), [])
def y_JMath_max : MethodName := ⟨"java/lang/Math", "max", "(II)I"⟩
abbrev b_JMath_max : ByteArray := prog_21_method_65_code
abbrev M_JMath_max : jR := (y_JMath_max, b_JMath_max, 2, (some .int), [])
def y_JMath_min : MethodName := ⟨"java/lang/Math", "min", "(II)I"⟩
abbrev b_JMath_min : ByteArray := prog_21_method_69_code
abbrev M_JMath_min : jR := (y_JMath_min, b_JMath_min, 2, (some .int), [])
def y_JStringLatin1_indexOfChar : MethodName := ⟨"java/lang/StringLatin1", "indexOfChar", "([BIII)I"⟩
abbrev b_JStringLatin1_indexOfChar : ByteArray := prog_24_method_23_code
abbrev M_JStringLatin1_indexOfChar : jR := (y_JStringLatin1_indexOfChar, b_JStringLatin1_indexOfChar, 6, (some .int), [])
def y_K_isWord : MethodName := ⟨"BitLoom$Tokens", "isWord", "(Ljava/lang/String;)Z"⟩
abbrev b_K_isWord : ByteArray := prog_10_method_9_code
abbrev M_K_isWord : jR := (y_K_isWord, b_K_isWord, 3, (some .boolean), [])
def y_JString_charAt : MethodName := ⟨"java/lang/String", "charAt", "(I)C"⟩
abbrev b_JString_charAt : ByteArray := prog_23_method_56_code
abbrev M_JString_charAt : jR := (y_JString_charAt, b_JString_charAt, 2, (some .char), [])
def y_JStringLatin1_charAt : MethodName := ⟨"java/lang/StringLatin1", "charAt", "([BI)C"⟩
abbrev b_JStringLatin1_charAt : ByteArray := prog_24_method_2_code
abbrev M_JStringLatin1_charAt : jR := (y_JStringLatin1_charAt, b_JStringLatin1_charAt, 2, (some .char), [])
def y_JString_checkIndex : MethodName := ⟨"java/lang/String", "checkIndex", "(II)V"⟩
abbrev b_JString_checkIndex : ByteArray := prog_23_method_155_code
abbrev M_JString_checkIndex : jR := (y_JString_checkIndex, b_JString_checkIndex, 2, (none), [])
def y_JPreconditions_checkIndex : MethodName := ⟨"jdk/internal/util/Preconditions", "checkIndex", "(IILjava/util/function/BiFunction;)I"⟩
abbrev b_JPreconditions_checkIndex : ByteArray := prog_28_method_11_code
abbrev M_JPreconditions_checkIndex : jR := (y_JPreconditions_checkIndex, b_JPreconditions_checkIndex, 3, (some .int), [])
def y_K_advance : MethodName := ⟨"BitLoom$Tokens", "advance", "()V"⟩
abbrev b_K_advance : ByteArray := prog_10_method_3_code
abbrev M_K_advance : jR := (y_K_advance, b_K_advance, 1, (none), [])
def y_S_readCondition : MethodName := ⟨"BitLoom$Statement", "readCondition", "(I)I"⟩
abbrev b_S_readCondition : ByteArray := prog_8_method_11_code
abbrev M_S_readCondition : jR := (y_S_readCondition, b_S_readCondition, 4, (some .int), [])
def y_S_readClause : MethodName := ⟨"BitLoom$Statement", "readClause", "(I)I"⟩
abbrev b_S_readClause : ByteArray := prog_8_method_12_code
abbrev M_S_readClause : jR := (y_S_readClause, b_S_readClause, 4, (some .int), [])
def y_S_readOne : MethodName := ⟨"BitLoom$Statement", "readOne", "(I)I"⟩
abbrev b_S_readOne : ByteArray := prog_8_method_13_code
abbrev M_S_readOne : jR := (y_S_readOne, b_S_readOne, 4, (some .int), [])
def y_K_isSign : MethodName := ⟨"BitLoom$Tokens", "isSign", "(C)Z"⟩
abbrev b_K_isSign : ByteArray := prog_10_method_6_code
abbrev M_K_isSign : jR := (y_K_isSign, b_K_isSign, 2, (some .boolean), [])
def y_S_readComparison : MethodName := ⟨"BitLoom$Statement", "readComparison", "()I"⟩
abbrev b_S_readComparison : ByteArray := prog_8_method_14_code
abbrev M_S_readComparison : jR := (y_S_readComparison, b_S_readComparison, 3, (some .int), [])
def y_S_readOperand : MethodName := ⟨"BitLoom$Statement", "readOperand", "(LBitLoom$Operand;)V"⟩
abbrev b_S_readOperand : ByteArray := prog_8_method_18_code
abbrev M_S_readOperand : jR := (y_S_readOperand, b_S_readOperand, 3, (none), [])
def y_K_isNumber : MethodName := ⟨"BitLoom$Tokens", "isNumber", "()Z"⟩
abbrev b_K_isNumber : ByteArray := prog_10_method_7_code
abbrev M_K_isNumber : jR := (y_K_isNumber, b_K_isNumber, 1, (some .boolean), [])
def y_K_number : MethodName := ⟨"BitLoom$Tokens", "number", "()I"⟩
abbrev b_K_number : ByteArray := prog_10_method_8_code
abbrev M_K_number : jR := (y_K_number, b_K_number, 3, (some .int), [])
def y_O_becomeNumber : MethodName := ⟨"BitLoom$Operand", "becomeNumber", "(I)V"⟩
abbrev b_O_becomeNumber : ByteArray := prog_6_method_3_code
abbrev M_O_becomeNumber : jR := (y_O_becomeNumber, b_O_becomeNumber, 2, (none), [])
def y_S_refuse : MethodName := ⟨"BitLoom$Statement", "refuse", "()V"⟩
abbrev b_S_refuse : ByteArray := prog_8_method_10_code
abbrev M_S_refuse : jR := (y_S_refuse, b_S_refuse, 1, (none), [])
def y_K_start : MethodName := ⟨"BitLoom$Tokens", "start", "()I"⟩
abbrev b_K_start : ByteArray := prog_10_method_4_code
abbrev M_K_start : jR := (y_K_start, b_K_start, 1, (some .int), [])
def y_S_readField : MethodName := ⟨"BitLoom$Statement", "readField", "()I"⟩
abbrev b_S_readField : ByteArray := prog_8_method_19_code
abbrev M_S_readField : jR := (y_S_readField, b_S_readField, 2, (some .int), [])
def y_K_isLetter : MethodName := ⟨"BitLoom$Tokens", "isLetter", "()Z"⟩
abbrev b_K_isLetter : ByteArray := prog_10_method_10_code
abbrev M_K_isLetter : jR := (y_K_isLetter, b_K_isLetter, 1, (some .boolean), [])
def y_K_letter : MethodName := ⟨"BitLoom$Tokens", "letter", "()C"⟩
abbrev b_K_letter : ByteArray := prog_10_method_11_code
abbrev M_K_letter : jR := (y_K_letter, b_K_letter, 1, (some .char), [])
def y_O_becomeField : MethodName := ⟨"BitLoom$Operand", "becomeField", "(I)V"⟩
abbrev b_O_becomeField : ByteArray := prog_6_method_2_code
abbrev M_O_becomeField : jR := (y_O_becomeField, b_O_becomeField, 2, (none), [])
def y_S_readSign : MethodName := ⟨"BitLoom$Statement", "readSign", "(CCC)C"⟩
abbrev b_S_readSign : ByteArray := prog_8_method_21_code
abbrev M_S_readSign : jR := (y_S_readSign, b_S_readSign, 5, (some .char), [])
def y_P_isTrueIn : MethodName := ⟨"BitLoom$Pair", "isTrueIn", "(I)Z"⟩
abbrev b_P_isTrueIn : ByteArray := prog_7_method_2_code
abbrev M_P_isTrueIn : jR := (y_P_isTrueIn, b_P_isTrueIn, 3, (some .boolean), [])
def y_O_valueIn : MethodName := ⟨"BitLoom$Operand", "valueIn", "(I)I"⟩
abbrev b_O_valueIn : ByteArray := prog_6_method_4_code
abbrev M_O_valueIn : jR := (y_O_valueIn, b_O_valueIn, 2, (some .int), [])
def y_JInteger_compare : MethodName := ⟨"java/lang/Integer", "compare", "(II)I"⟩
abbrev b_JInteger_compare : ByteArray := prog_20_method_40_code
abbrev M_JInteger_compare : jR := (y_JInteger_compare, b_JInteger_compare, 2, (some .int), [])
def y_S_passSign : MethodName := ⟨"BitLoom$Statement", "passSign", "(C)V"⟩
abbrev b_S_passSign : ByteArray := prog_8_method_20_code
abbrev M_S_passSign : jR := (y_S_passSign, b_S_passSign, 2, (none), [])
def y_S_readAction : MethodName := ⟨"BitLoom$Statement", "readAction", "()V"⟩
abbrev b_S_readAction : ByteArray := prog_8_method_15_code
abbrev M_S_readAction : jR := (y_S_readAction, b_S_readAction, 1, (none), [])
def y_S_readVerb : MethodName := ⟨"BitLoom$Statement", "readVerb", "()V"⟩
abbrev b_S_readVerb : ByteArray := prog_8_method_16_code
abbrev M_S_readVerb : jR := (y_S_readVerb, b_S_readVerb, 3, (none), [])
def y_A_word : MethodName := ⟨"BitLoom$Action", "word", "()Ljava/lang/String;"⟩
abbrev b_A_word : ByteArray := prog_3_method_4_code
abbrev M_A_word : jR := (y_A_word, b_A_word, 1, (some (.object "java/lang/String")), [])
def y_S_readChange : MethodName := ⟨"BitLoom$Statement", "readChange", "(LBitLoom$Change;)V"⟩
abbrev b_S_readChange : ByteArray := prog_8_method_17_code
abbrev M_S_readChange : jR := (y_S_readChange, b_S_readChange, 2, (none), [])
def y_K_isEnd : MethodName := ⟨"BitLoom$Tokens", "isEnd", "()Z"⟩
abbrev b_K_isEnd : ByteArray := prog_10_method_5_code
abbrev M_K_isEnd : jR := (y_K_isEnd, b_K_isEnd, 1, (some .boolean), [])
def y_S_lacksWord : MethodName := ⟨"BitLoom$Statement", "lacksWord", "()Z"⟩
abbrev b_S_lacksWord : ByteArray := prog_8_method_6_code
abbrev M_S_lacksWord : jR := (y_S_lacksWord, b_S_lacksWord, 1, (some .boolean), [])
def y_S_taken : MethodName := ⟨"BitLoom$Statement", "taken", "()I"⟩
abbrev b_S_taken : ByteArray := prog_8_method_3_code
abbrev M_S_taken : jR := (y_S_taken, b_S_taken, 1, (some .int), [])
def y_B_carryOut : MethodName := ⟨"BitLoom", "carryOut", "(I)I"⟩
abbrev b_B_carryOut : ByteArray := prog_1_method_21_code
abbrev M_B_carryOut : jR := (y_B_carryOut, b_B_carryOut, 3, (some .int), [])
def y_S_subject : MethodName := ⟨"BitLoom$Statement", "subject", "()I"⟩
abbrev b_S_subject : ByteArray := prog_8_method_5_code
abbrev M_S_subject : jR := (y_S_subject, b_S_subject, 1, (some .int), [])
def y_S_action : MethodName := ⟨"BitLoom$Statement", "action", "()LBitLoom$Action;"⟩
abbrev b_S_action : ByteArray := prog_8_method_4_code
abbrev M_S_action : jR := (y_S_action, b_S_action, 1, (some (.object "BitLoom$Action")), [])
def y_JEnum_ordinal : MethodName := ⟨"java/lang/Enum", "ordinal", "()I"⟩
abbrev b_JEnum_ordinal : ByteArray := prog_15_method_2_code
abbrev M_JEnum_ordinal : jR := (y_JEnum_ordinal, b_JEnum_ordinal, 1, (some .int), [])
def y_B_changeAll : MethodName := ⟨"BitLoom", "changeAll", "(I)I"⟩
abbrev b_B_changeAll : ByteArray := prog_1_method_28_code
abbrev M_B_changeAll : jR := (y_B_changeAll, b_B_changeAll, 5, (some .int), [])
def y_S_canChange : MethodName := ⟨"BitLoom$Statement", "canChange", "(I)Z"⟩
abbrev b_S_canChange : ByteArray := prog_8_method_7_code
abbrev M_S_canChange : jR := (y_S_canChange, b_S_canChange, 2, (some .boolean), [])
def y_C_fitsIn : MethodName := ⟨"BitLoom$Change", "fitsIn", "(I)Z"⟩
abbrev b_C_fitsIn : ByteArray := prog_4_method_2_code
abbrev M_C_fitsIn : jR := (y_C_fitsIn, b_C_fitsIn, 2, (some .boolean), [])
def y_P_resultIn : MethodName := ⟨"BitLoom$Pair", "resultIn", "(I)I"⟩
abbrev b_P_resultIn : ByteArray := prog_7_method_3_code
abbrev M_P_resultIn : jR := (y_P_resultIn, b_P_resultIn, 3, (some .int), [])
def y_S_changed : MethodName := ⟨"BitLoom$Statement", "changed", "(I)I"⟩
abbrev b_S_changed : ByteArray := prog_8_method_8_code
abbrev M_S_changed : jR := (y_S_changed, b_S_changed, 3, (some .int), [])
def y_C_appliedTo : MethodName := ⟨"BitLoom$Change", "appliedTo", "(II)I"⟩
abbrev b_C_appliedTo : ByteArray := prog_4_method_3_code
abbrev M_C_appliedTo : jR := (y_C_appliedTo, b_C_appliedTo, 3, (some .int), [])
def y_B_greatest : MethodName := ⟨"BitLoom", "greatest", "(II)I"⟩
abbrev b_B_greatest : ByteArray := prog_1_method_23_code
abbrev M_B_greatest : jR := (y_B_greatest, b_B_greatest, 5, (some .int), [])
def y_B_valueOf : MethodName := ⟨"BitLoom", "valueOf", "(II)I"⟩
abbrev b_B_valueOf : ByteArray := prog_1_method_22_code
abbrev M_B_valueOf : jR := (y_B_valueOf, b_B_valueOf, 3, (some .int), [])
def y_B_least : MethodName := ⟨"BitLoom", "least", "(II)I"⟩
abbrev b_B_least : ByteArray := prog_1_method_24_code
abbrev M_B_least : jR := (y_B_least, b_B_least, 5, (some .int), [])
def y_B_total : MethodName := ⟨"BitLoom", "total", "(II)I"⟩
abbrev b_B_total : ByteArray := prog_1_method_25_code
abbrev M_B_total : jR := (y_B_total, b_B_total, 5, (some .int), [])
def y_B_listAll : MethodName := ⟨"BitLoom", "listAll", "(II)I"⟩
abbrev b_B_listAll : ByteArray := prog_1_method_26_code
abbrev M_B_listAll : jR := (y_B_listAll, b_B_listAll, 4, (some .int), [])
def y_B_sortIn : MethodName := ⟨"BitLoom", "sortIn", "(II)V"⟩
abbrev b_B_sortIn : ByteArray := prog_1_method_27_code
abbrev M_B_sortIn : jR := (y_B_sortIn, b_B_sortIn, 5, (none), [])
def y_B_listed : MethodName := ⟨"BitLoom", "listed", "(I)I"⟩
abbrev b_B_listed : ByteArray := prog_1_method_17_code
abbrev M_B_listed : jR := (y_B_listed, b_B_listed, 2, (some .int), [])
def y_M_init : MethodName := ⟨"BitLoomModel", "<init>", "()V"⟩
abbrev b_M_init : ByteArray := prog_13_method_1_code
abbrev M_M_init : jR := (y_M_init, b_M_init, 1, (none), [])
def y_M_thrown : MethodName := ⟨"BitLoomModel", "thrown", "()I"⟩
abbrev b_M_thrown : ByteArray := prog_13_method_2_code
abbrev M_M_thrown : jR := (y_M_thrown, b_M_thrown, 1, (some .int), [])
def y_M_field : MethodName := ⟨"BitLoomModel", "field", "(CIIZ)V"⟩
abbrev b_M_field : ByteArray := prog_13_method_4_code
abbrev M_M_field : jR := (y_M_field, b_M_field, 7, (none), [])
def y_M_fieldOf : MethodName := ⟨"BitLoomModel", "fieldOf", "(C)I"⟩
abbrev b_M_fieldOf : ByteArray := prog_13_method_3_code
abbrev M_M_fieldOf : jR := (y_M_fieldOf, b_M_fieldOf, 4, (some .int), [])
def y_M_insert : MethodName := ⟨"BitLoomModel", "insert", "()I"⟩
abbrev b_M_insert : ByteArray := prog_13_method_9_code
abbrev M_M_insert : jR := (y_M_insert, b_M_insert, 3, (some .int), [])
def y_M_remove : MethodName := ⟨"BitLoomModel", "remove", "(I)V"⟩
abbrev b_M_remove : ByteArray := prog_13_method_10_code
abbrev M_M_remove : jR := (y_M_remove, b_M_remove, 2, (none), [])
def y_M_isWord : MethodName := ⟨"BitLoomModel", "isWord", "(I)Z"⟩
abbrev b_M_isWord : ByteArray := prog_13_method_5_code
abbrev M_M_isWord : jR := (y_M_isWord, b_M_isWord, 1, (some .boolean), [])
def y_M_put : MethodName := ⟨"BitLoomModel", "put", "(ICI)V"⟩
abbrev b_M_put : ByteArray := prog_13_method_11_code
abbrev M_M_put : jR := (y_M_put, b_M_put, 5, (none), [])
def y_M_fits : MethodName := ⟨"BitLoomModel", "fits", "(II)Z"⟩
abbrev b_M_fits : ByteArray := prog_13_method_7_code
abbrev M_M_fits : jR := (y_M_fits, b_M_fits, 4, (some .boolean), [])
def y_M_setValue : MethodName := ⟨"BitLoomModel", "setValue", "(III)V"⟩
abbrev b_M_setValue : ByteArray := prog_13_method_8_code
abbrev M_M_setValue : jR := (y_M_setValue, b_M_setValue, 5, (none), [])
def y_M_get : MethodName := ⟨"BitLoomModel", "get", "(IC)I"⟩
abbrev b_M_get : ByteArray := prog_13_method_12_code
abbrev M_M_get : jR := (y_M_get, b_M_get, 4, (some .int), [])
def y_M_valueOf : MethodName := ⟨"BitLoomModel", "valueOf", "(II)I"⟩
abbrev b_M_valueOf : ByteArray := prog_13_method_6_code
abbrev M_M_valueOf : jR := (y_M_valueOf, b_M_valueOf, 7, (some .int), [])
def y_M_bit : MethodName := ⟨"BitLoomModel", "bit", "(II)Z"⟩
abbrev b_M_bit : ByteArray := prog_13_method_13_code
abbrev M_M_bit : jR := (y_M_bit, b_M_bit, 3, (some .boolean), [])
def y_M_search : MethodName := ⟨"BitLoomModel", "search", "(IIZ)I"⟩
abbrev b_M_search : ByteArray := prog_13_method_14_code
abbrev M_M_search : jR := (y_M_search, b_M_search, 6, (some .int), [])
def y_M_multi : MethodName := ⟨"BitLoomModel", "multi", "(II)V"⟩
abbrev b_M_multi : ByteArray := prog_13_method_15_code
abbrev M_M_multi : jR := (y_M_multi, b_M_multi, 4, (none), [])
def y_M_responds : MethodName := ⟨"BitLoomModel", "responds", "(I)Z"⟩
abbrev b_M_responds : ByteArray := prog_13_method_16_code
abbrev M_M_responds : jR := (y_M_responds, b_M_responds, 2, (some .boolean), [])
def y_M_first : MethodName := ⟨"BitLoomModel", "first", "()I"⟩
abbrev b_M_first : ByteArray := prog_13_method_17_code
abbrev M_M_first : jR := (y_M_first, b_M_first, 2, (some .int), [])
def y_M_write : MethodName := ⟨"BitLoomModel", "write", "(J)Z"⟩
abbrev b_M_write : ByteArray := prog_13_method_18_code
abbrev M_M_write : jR := (y_M_write, b_M_write, 6, (some .boolean), [])
def y_M_wipe : MethodName := ⟨"BitLoomModel", "wipe", "()I"⟩
abbrev b_M_wipe : ByteArray := prog_13_method_19_code
abbrev M_M_wipe : jR := (y_M_wipe, b_M_wipe, 2, (some .int), [])
def y_M_run : MethodName := ⟨"BitLoomModel", "run", "()I"⟩
abbrev b_M_run : ByteArray := prog_13_method_54_code
abbrev M_M_run : jR := (y_M_run, b_M_run, 5, (some .int), [])
def y_M_readText : MethodName := ⟨"BitLoomModel", "readText", "()I"⟩
abbrev b_M_readText : ByteArray := prog_13_method_46_code
abbrev M_M_readText : jR := (y_M_readText, b_M_readText, 3, (some .int), [])
def y_M_scan : MethodName := ⟨"BitLoomModel", "scan", "(I)V"⟩
abbrev b_M_scan : ByteArray := prog_13_method_24_code
abbrev M_M_scan : jR := (y_M_scan, b_M_scan, 3, (none), [])
def y_M_see : MethodName := ⟨"BitLoomModel", "see", "(I)C"⟩
abbrev b_M_see : ByteArray := prog_13_method_23_code
abbrev M_M_see : jR := (y_M_see, b_M_see, 2, (some .char), [])
def y_M_isLetter : MethodName := ⟨"BitLoomModel", "isLetter", "(C)Z"⟩
abbrev b_M_isLetter : ByteArray := prog_13_method_20_code
abbrev M_M_isLetter : jR := (y_M_isLetter, b_M_isLetter, 1, (some .boolean), [])
def y_M_isDigit : MethodName := ⟨"BitLoomModel", "isDigit", "(C)Z"⟩
abbrev b_M_isDigit : ByteArray := prog_13_method_21_code
abbrev M_M_isDigit : jR := (y_M_isDigit, b_M_isDigit, 1, (some .boolean), [])
def y_M_isSign : MethodName := ⟨"BitLoomModel", "isSign", "(C)Z"⟩
abbrev b_M_isSign : ByteArray := prog_13_method_22_code
abbrev M_M_isSign : jR := (y_M_isSign, b_M_isSign, 1, (some .boolean), [])
def y_M_next : MethodName := ⟨"BitLoomModel", "next", "(I)I"⟩
abbrev b_M_next : ByteArray := prog_13_method_45_code
abbrev M_M_next : jR := (y_M_next, b_M_next, 2, (some .int), [])
def y_M_start : MethodName := ⟨"BitLoomModel", "start", "()I"⟩
abbrev b_M_start : ByteArray := prog_13_method_33_code
abbrev M_M_start : jR := (y_M_start, b_M_start, 1, (some .int), [])
def y_M_emit : MethodName := ⟨"BitLoomModel", "emit", "(II)V"⟩
abbrev b_M_emit : ByteArray := prog_13_method_28_code
abbrev M_M_emit : jR := (y_M_emit, b_M_emit, 3, (none), [])
def y_M_act : MethodName := ⟨"BitLoomModel", "act", "()I"⟩
abbrev b_M_act : ByteArray := prog_13_method_32_code
abbrev M_M_act : jR := (y_M_act, b_M_act, 1, (some .int), [])
def y_M_actionOf : MethodName := ⟨"BitLoomModel", "actionOf", "(J)I"⟩
abbrev b_M_actionOf : ByteArray := prog_13_method_27_code
abbrev M_M_actionOf : jR := (y_M_actionOf, b_M_actionOf, 2, (some .int), [])
def y_M_one : MethodName := ⟨"BitLoomModel", "one", "()I"⟩
abbrev b_M_one : ByteArray := prog_13_method_34_code
abbrev M_M_one : jR := (y_M_one, b_M_one, 1, (some .int), [])
def y_M_isIt : MethodName := ⟨"BitLoomModel", "isIt", "(C)Z"⟩
abbrev b_M_isIt : ByteArray := prog_13_method_25_code
abbrev M_M_isIt : jR := (y_M_isIt, b_M_isIt, 2, (some .boolean), [])
def y_M_push : MethodName := ⟨"BitLoomModel", "push", "(I)V"⟩
abbrev b_M_push : ByteArray := prog_13_method_30_code
abbrev M_M_push : jR := (y_M_push, b_M_push, 2, (none), [])
def y_M_operand : MethodName := ⟨"BitLoomModel", "operand", "(II)I"⟩
abbrev b_M_operand : ByteArray := prog_13_method_35_code
abbrev M_M_operand : jR := (y_M_operand, b_M_operand, 3, (some .int), [])
def y_M_wholeOne : MethodName := ⟨"BitLoomModel", "wholeOne", "()I"⟩
abbrev b_M_wholeOne : ByteArray := prog_13_method_38_code
abbrev M_M_wholeOne : jR := (y_M_wholeOne, b_M_wholeOne, 1, (some .int), [])
def y_M_denied : MethodName := ⟨"BitLoomModel", "denied", "()V"⟩
abbrev b_M_denied : ByteArray := prog_13_method_39_code
abbrev M_M_denied : jR := (y_M_denied, b_M_denied, 1, (none), [])
def y_M_upper : MethodName := ⟨"BitLoomModel", "upper", "()I"⟩
abbrev b_M_upper : ByteArray := prog_13_method_29_code
abbrev M_M_upper : jR := (y_M_upper, b_M_upper, 1, (some .int), [])
def y_M_named : MethodName := ⟨"BitLoomModel", "named", "()I"⟩
abbrev b_M_named : ByteArray := prog_13_method_26_code
abbrev M_M_named : jR := (y_M_named, b_M_named, 1, (some .int), [])
def y_M_negative : MethodName := ⟨"BitLoomModel", "negative", "(I)I"⟩
abbrev b_M_negative : ByteArray := prog_13_method_36_code
abbrev M_M_negative : jR := (y_M_negative, b_M_negative, 2, (some .int), [])
def y_M_relate : MethodName := ⟨"BitLoomModel", "relate", "()I"⟩
abbrev b_M_relate : ByteArray := prog_13_method_37_code
abbrev M_M_relate : jR := (y_M_relate, b_M_relate, 1, (some .int), [])
def y_M_afterOne : MethodName := ⟨"BitLoomModel", "afterOne", "()I"⟩
abbrev b_M_afterOne : ByteArray := prog_13_method_40_code
abbrev M_M_afterOne : jR := (y_M_afterOne, b_M_afterOne, 1, (some .int), [])
def y_M_settle : MethodName := ⟨"BitLoomModel", "settle", "(II)V"⟩
abbrev b_M_settle : ByteArray := prog_13_method_31_code
abbrev M_M_settle : jR := (y_M_settle, b_M_settle, 3, (none), [])
def y_M_pick : MethodName := ⟨"BitLoomModel", "pick", "(I)I"⟩
abbrev b_M_pick : ByteArray := prog_13_method_41_code
abbrev M_M_pick : jR := (y_M_pick, b_M_pick, 2, (some .int), [])
def y_M_part : MethodName := ⟨"BitLoomModel", "part", "(ZZII)I"⟩
abbrev b_M_part : ByteArray := prog_13_method_42_code
abbrev M_M_part : jR := (y_M_part, b_M_part, 7, (some .int), [])
def y_M_afterFirst : MethodName := ⟨"BitLoomModel", "afterFirst", "()I"⟩
abbrev b_M_afterFirst : ByteArray := prog_13_method_43_code
abbrev M_M_afterFirst : jR := (y_M_afterFirst, b_M_afterFirst, 1, (some .int), [])
def y_M_afterChange : MethodName := ⟨"BitLoomModel", "afterChange", "()I"⟩
abbrev b_M_afterChange : ByteArray := prog_13_method_44_code
abbrev M_M_afterChange : jR := (y_M_afterChange, b_M_afterChange, 1, (some .int), [])
def y_M_isTaken : MethodName := ⟨"BitLoomModel", "isTaken", "(I)Z"⟩
abbrev b_M_isTaken : ByteArray := prog_13_method_48_code
abbrev M_M_isTaken : jR := (y_M_isTaken, b_M_isTaken, 4, (some .boolean), [])
def y_M_reckon : MethodName := ⟨"BitLoomModel", "reckon", "(III)I"⟩
abbrev b_M_reckon : ByteArray := prog_13_method_47_code
abbrev M_M_reckon : jR := (y_M_reckon, b_M_reckon, 3, (some .int), [])
def y_M_changeAll : MethodName := ⟨"BitLoomModel", "changeAll", "()I"⟩
abbrev b_M_changeAll : ByteArray := prog_13_method_51_code
abbrev M_M_changeAll : jR := (y_M_changeAll, b_M_changeAll, 4, (some .int), [])
def y_M_change : MethodName := ⟨"BitLoomModel", "change", "(I)Z"⟩
abbrev b_M_change : ByteArray := prog_13_method_50_code
abbrev M_M_change : jR := (y_M_change, b_M_change, 4, (some .boolean), [])
def y_M_resultOf : MethodName := ⟨"BitLoomModel", "resultOf", "(II)I"⟩
abbrev b_M_resultOf : ByteArray := prog_13_method_49_code
abbrev M_M_resultOf : jR := (y_M_resultOf, b_M_resultOf, 5, (some .int), [])
def y_M_listAll : MethodName := ⟨"BitLoomModel", "listAll", "()I"⟩
abbrev b_M_listAll : ByteArray := prog_13_method_52_code
abbrev M_M_listAll : jR := (y_M_listAll, b_M_listAll, 3, (some .int), [])
def y_M_gather : MethodName := ⟨"BitLoomModel", "gather", "()I"⟩
abbrev b_M_gather : ByteArray := prog_13_method_53_code
abbrev M_M_gather : jR := (y_M_gather, b_M_gather, 6, (some .int), [])
def y_M_place : MethodName := ⟨"BitLoomModel", "place", "()I"⟩
abbrev b_M_place : ByteArray := prog_13_method_55_code
abbrev M_M_place : jR := (y_M_place, b_M_place, 1, (some .int), [])
def y_M_refused : MethodName := ⟨"BitLoomModel", "refused", "()I"⟩
abbrev b_M_refused : ByteArray := prog_13_method_56_code
abbrev M_M_refused : jR := (y_M_refused, b_M_refused, 1, (some .int), [])
def y_M_listed : MethodName := ⟨"BitLoomModel", "listed", "(I)I"⟩
abbrev b_M_listed : ByteArray := prog_13_method_57_code
abbrev M_M_listed : jR := (y_M_listed, b_M_listed, 2, (some .int), [])
def y_L_field : MethodName := ⟨"BitLoomLaw", "field", "(LBitLoom;CIIZ)I"⟩
abbrev b_L_field : ByteArray := method_3_code
abbrev M_L_field : jR := (y_L_field, b_L_field, 6, (some .int), [(0, 9, 12, 13), (0, 9, 16, 15)])
def y_L_insert : MethodName := ⟨"BitLoomLaw", "insert", "(LBitLoom;[J)I"⟩
abbrev b_L_insert : ByteArray := method_4_code
abbrev M_L_insert : jR := (y_L_insert, b_L_insert, 3, (some .int), [(0, 8, 11, 21)])
def y_L_remove : MethodName := ⟨"BitLoomLaw", "remove", "(LBitLoom;I)I"⟩
abbrev b_L_remove : ByteArray := method_5_code
abbrev M_L_remove : jR := (y_L_remove, b_L_remove, 3, (some .int), [(0, 5, 8, 13), (0, 5, 11, 21)])
def y_L_put : MethodName := ⟨"BitLoomLaw", "put", "(LBitLoom;ICI)I"⟩
abbrev b_L_put : ByteArray := method_6_code
abbrev M_L_put : jR := (y_L_put, b_L_put, 5, (some .int), [(0, 7, 10, 13), (0, 7, 14, 21), (0, 7, 18, 15)])
def y_L_get : MethodName := ⟨"BitLoomLaw", "get", "(LBitLoom;IC[J)I"⟩
abbrev b_L_get : ByteArray := method_7_code
abbrev M_L_get : jR := (y_L_get, b_L_get, 5, (some .int), [(0, 10, 13, 13), (0, 10, 17, 21)])
def y_L_bit : MethodName := ⟨"BitLoomLaw", "bit", "(LBitLoom;II[J)I"⟩
abbrev b_L_bit : ByteArray := method_8_code
abbrev M_L_bit : jR := (y_L_bit, b_L_bit, 5, (some .int), [(0, 17, 20, 13)])
def y_L_multi : MethodName := ⟨"BitLoomLaw", "multi", "(LBitLoom;II)I"⟩
abbrev b_L_multi : ByteArray := method_9_code
abbrev M_L_multi : jR := (y_L_multi, b_L_multi, 4, (some .int), [(0, 6, 9, 13)])
def y_L_responds : MethodName := ⟨"BitLoomLaw", "responds", "(LBitLoom;I[J)I"⟩
abbrev b_L_responds : ByteArray := method_10_code
abbrev M_L_responds : jR := (y_L_responds, b_L_responds, 4, (some .int), [(0, 16, 19, 13)])
def y_L_run : MethodName := ⟨"BitLoomLaw", "run", "(LBitLoom;[J)I"⟩
abbrev b_L_run : ByteArray := method_11_code
abbrev M_L_run : jR := (y_L_run, b_L_run, 3, (some .int), [(0, 8, 11, 13), (0, 8, 14, 21)])
def y_L_listed : MethodName := ⟨"BitLoomLaw", "listed", "(LBitLoom;I[J)I"⟩
abbrev b_L_listed : ByteArray := method_12_code
abbrev M_L_listed : jR := (y_L_listed, b_L_listed, 4, (some .int), [(0, 9, 12, 54)])
def y_L_law : MethodName := ⟨"BitLoomLaw", "law", "([I)Z"⟩
abbrev b_L_law : ByteArray := code
abbrev M_L_law : jR := (y_L_law, b_L_law, 7, (some .boolean), [])
end
section
theorem d_F_init_0 : decode b_F_init 0 = .ok (.aload_n 0, 1) := by decide +kernel
theorem d_F_init_1 : decode b_F_init 1 = .ok (.invokespecial 3, 3) := by decide +kernel
theorem d_F_init_4 : decode b_F_init 4 = .ok (.aload_n 0, 1) := by decide +kernel
theorem d_F_init_5 : decode b_F_init 5 = .ok (.bipush 6, 2) := by decide +kernel
theorem d_F_init_7 : decode b_F_init 7 = .ok (.newarray .char, 2) := by decide +kernel
theorem d_F_init_9 : decode b_F_init 9 = .ok (.putfield 9, 3) := by decide +kernel
theorem d_F_init_12 : decode b_F_init 12 = .ok (.aload_n 0, 1) := by decide +kernel
theorem d_F_init_13 : decode b_F_init 13 = .ok (.bipush 6, 2) := by decide +kernel
theorem d_F_init_15 : decode b_F_init 15 = .ok (.newarray .int, 2) := by decide +kernel
theorem d_F_init_17 : decode b_F_init 17 = .ok (.putfield 15, 3) := by decide +kernel
theorem d_F_init_20 : decode b_F_init 20 = .ok (.aload_n 0, 1) := by decide +kernel
theorem d_F_init_21 : decode b_F_init 21 = .ok (.bipush 6, 2) := by decide +kernel
theorem d_F_init_23 : decode b_F_init 23 = .ok (.newarray .int, 2) := by decide +kernel
theorem d_F_init_25 : decode b_F_init 25 = .ok (.putfield 19, 3) := by decide +kernel
theorem d_F_init_28 : decode b_F_init 28 = .ok (.aload_n 0, 1) := by decide +kernel
theorem d_F_init_29 : decode b_F_init 29 = .ok (.bipush 6, 2) := by decide +kernel
theorem d_F_init_31 : decode b_F_init 31 = .ok (.newarray .boolean, 2) := by decide +kernel
theorem d_F_init_33 : decode b_F_init 33 = .ok (.putfield 22, 3) := by decide +kernel
theorem d_F_init_36 : decode b_F_init 36 = .ok (.return_, 1) := by decide +kernel
theorem d_F_isNewName_0 : decode b_F_isNewName 0 = .ok (.iload_n 1, 1) := by decide +kernel
theorem d_F_isNewName_1 : decode b_F_isNewName 1 = .ok (.bipush 97, 2) := by decide +kernel
theorem d_F_isNewName_3 : decode b_F_isNewName 3 = .ok (.if_icmp .lt 22, 3) := by decide +kernel
theorem d_F_isNewName_6 : decode b_F_isNewName 6 = .ok (.iload_n 1, 1) := by decide +kernel
theorem d_F_isNewName_7 : decode b_F_isNewName 7 = .ok (.bipush 122, 2) := by decide +kernel
theorem d_F_isNewName_9 : decode b_F_isNewName 9 = .ok (.if_icmp .gt 16, 3) := by decide +kernel
theorem d_F_isNewName_12 : decode b_F_isNewName 12 = .ok (.aload_n 0, 1) := by decide +kernel
theorem d_F_isNewName_13 : decode b_F_isNewName 13 = .ok (.iload_n 1, 1) := by decide +kernel
theorem d_F_isNewName_14 : decode b_F_isNewName 14 = .ok (.invokevirtual 30, 3) := by decide +kernel
theorem d_F_isNewName_17 : decode b_F_isNewName 17 = .ok (.iconst (-1), 1) := by decide +kernel
theorem d_F_isNewName_18 : decode b_F_isNewName 18 = .ok (.if_icmp .ne 7, 3) := by decide +kernel
theorem d_F_isNewName_21 : decode b_F_isNewName 21 = .ok (.iconst 1, 1) := by decide +kernel
theorem d_F_isNewName_22 : decode b_F_isNewName 22 = .ok (.goto 4, 3) := by decide +kernel
theorem d_F_isNewName_25 : decode b_F_isNewName 25 = .ok (.iconst 0, 1) := by decide +kernel
theorem d_F_isNewName_26 : decode b_F_isNewName 26 = .ok (.ireturn, 1) := by decide +kernel
theorem d_F_indexOf_0 : decode b_F_indexOf 0 = .ok (.iconst 0, 1) := by decide +kernel
theorem d_F_indexOf_1 : decode b_F_indexOf 1 = .ok (.istore_n 2, 1) := by decide +kernel
theorem d_F_indexOf_2 : decode b_F_indexOf 2 = .ok (.iload_n 2, 1) := by decide +kernel
theorem d_F_indexOf_3 : decode b_F_indexOf 3 = .ok (.aload_n 0, 1) := by decide +kernel
theorem d_F_indexOf_4 : decode b_F_indexOf 4 = .ok (.getfield 26, 3) := by decide +kernel
theorem d_F_indexOf_7 : decode b_F_indexOf 7 = .ok (.if_icmp .ge 21, 3) := by decide +kernel
theorem d_F_indexOf_10 : decode b_F_indexOf 10 = .ok (.aload_n 0, 1) := by decide +kernel
theorem d_F_indexOf_11 : decode b_F_indexOf 11 = .ok (.getfield 9, 3) := by decide +kernel
theorem d_F_indexOf_14 : decode b_F_indexOf 14 = .ok (.iload_n 2, 1) := by decide +kernel
theorem d_F_indexOf_15 : decode b_F_indexOf 15 = .ok (.caload, 1) := by decide +kernel
theorem d_F_indexOf_16 : decode b_F_indexOf 16 = .ok (.iload_n 1, 1) := by decide +kernel
theorem d_F_indexOf_17 : decode b_F_indexOf 17 = .ok (.if_icmp .ne 5, 3) := by decide +kernel
theorem d_F_indexOf_20 : decode b_F_indexOf 20 = .ok (.iload_n 2, 1) := by decide +kernel
theorem d_F_indexOf_21 : decode b_F_indexOf 21 = .ok (.ireturn, 1) := by decide +kernel
theorem d_F_indexOf_22 : decode b_F_indexOf 22 = .ok (.iinc 2 1, 3) := by decide +kernel
theorem d_F_indexOf_25 : decode b_F_indexOf 25 = .ok (.goto (-23), 3) := by decide +kernel
theorem d_F_indexOf_28 : decode b_F_indexOf 28 = .ok (.iconst (-1), 1) := by decide +kernel
theorem d_F_indexOf_29 : decode b_F_indexOf 29 = .ok (.ireturn, 1) := by decide +kernel
theorem d_F_isOpenGround_0 : decode b_F_isOpenGround 0 = .ok (.iload_n 1, 1) := by decide +kernel
theorem d_F_isOpenGround_1 : decode b_F_isOpenGround 1 = .ok (.ifCond .lt 20, 3) := by decide +kernel
theorem d_F_isOpenGround_4 : decode b_F_isOpenGround 4 = .ok (.iload_n 1, 1) := by decide +kernel
theorem d_F_isOpenGround_5 : decode b_F_isOpenGround 5 = .ok (.bipush 24, 2) := by decide +kernel
theorem d_F_isOpenGround_7 : decode b_F_isOpenGround 7 = .ok (.if_icmp .ge 14, 3) := by decide +kernel
theorem d_F_isOpenGround_10 : decode b_F_isOpenGround 10 = .ok (.iload_n 2, 1) := by decide +kernel
theorem d_F_isOpenGround_11 : decode b_F_isOpenGround 11 = .ok (.iconst 1, 1) := by decide +kernel
theorem d_F_isOpenGround_12 : decode b_F_isOpenGround 12 = .ok (.if_icmp .lt 9, 3) := by decide +kernel
theorem d_F_isOpenGround_15 : decode b_F_isOpenGround 15 = .ok (.iload_n 2, 1) := by decide +kernel
theorem d_F_isOpenGround_16 : decode b_F_isOpenGround 16 = .ok (.bipush 10, 2) := by decide +kernel
theorem d_F_isOpenGround_18 : decode b_F_isOpenGround 18 = .ok (.if_icmp .le 5, 3) := by decide +kernel
theorem d_F_isOpenGround_21 : decode b_F_isOpenGround 21 = .ok (.iconst 0, 1) := by decide +kernel
theorem d_F_isOpenGround_22 : decode b_F_isOpenGround 22 = .ok (.ireturn, 1) := by decide +kernel
theorem d_F_isOpenGround_23 : decode b_F_isOpenGround 23 = .ok (.iload_n 1, 1) := by decide +kernel
theorem d_F_isOpenGround_24 : decode b_F_isOpenGround 24 = .ok (.iload_n 2, 1) := by decide +kernel
theorem d_F_isOpenGround_25 : decode b_F_isOpenGround 25 = .ok (.iadd, 1) := by decide +kernel
theorem d_F_isOpenGround_26 : decode b_F_isOpenGround 26 = .ok (.bipush 24, 2) := by decide +kernel
theorem d_F_isOpenGround_28 : decode b_F_isOpenGround 28 = .ok (.if_icmp .gt 20, 3) := by decide +kernel
theorem d_F_isOpenGround_31 : decode b_F_isOpenGround 31 = .ok (.aload_n 0, 1) := by decide +kernel
theorem d_F_isOpenGround_32 : decode b_F_isOpenGround 32 = .ok (.getfield 34, 3) := by decide +kernel
theorem d_F_isOpenGround_35 : decode b_F_isOpenGround 35 = .ok (.iload_n 1, 1) := by decide +kernel
theorem d_F_isOpenGround_36 : decode b_F_isOpenGround 36 = .ok (.iload_n 2, 1) := by decide +kernel
theorem d_F_isOpenGround_37 : decode b_F_isOpenGround 37 = .ok (.invokestatic 37, 3) := by decide +kernel
theorem d_F_isOpenGround_40 : decode b_F_isOpenGround 40 = .ok (.iand, 1) := by decide +kernel
theorem d_F_isOpenGround_41 : decode b_F_isOpenGround 41 = .ok (.ifCond .ne 7, 3) := by decide +kernel
theorem d_F_isOpenGround_44 : decode b_F_isOpenGround 44 = .ok (.iconst 1, 1) := by decide +kernel
theorem d_F_isOpenGround_45 : decode b_F_isOpenGround 45 = .ok (.goto 4, 3) := by decide +kernel
theorem d_F_isOpenGround_48 : decode b_F_isOpenGround 48 = .ok (.iconst 0, 1) := by decide +kernel
theorem d_F_isOpenGround_49 : decode b_F_isOpenGround 49 = .ok (.ireturn, 1) := by decide +kernel
theorem d_F_ground_0 : decode b_F_ground 0 = .ok (.iconst 1, 1) := by decide +kernel
theorem d_F_ground_1 : decode b_F_ground 1 = .ok (.iload_n 1, 1) := by decide +kernel
theorem d_F_ground_2 : decode b_F_ground 2 = .ok (.ishl, 1) := by decide +kernel
theorem d_F_ground_3 : decode b_F_ground 3 = .ok (.iconst 1, 1) := by decide +kernel
theorem d_F_ground_4 : decode b_F_ground 4 = .ok (.isub, 1) := by decide +kernel
theorem d_F_ground_5 : decode b_F_ground 5 = .ok (.iload_n 0, 1) := by decide +kernel
theorem d_F_ground_6 : decode b_F_ground 6 = .ok (.ishl, 1) := by decide +kernel
theorem d_F_ground_7 : decode b_F_ground 7 = .ok (.ireturn, 1) := by decide +kernel
theorem d_F_isFull_0 : decode b_F_isFull 0 = .ok (.aload_n 0, 1) := by decide +kernel
theorem d_F_isFull_1 : decode b_F_isFull 1 = .ok (.getfield 26, 3) := by decide +kernel
theorem d_F_isFull_4 : decode b_F_isFull 4 = .ok (.bipush 6, 2) := by decide +kernel
theorem d_F_isFull_6 : decode b_F_isFull 6 = .ok (.if_icmp .lt 7, 3) := by decide +kernel
theorem d_F_isFull_9 : decode b_F_isFull 9 = .ok (.iconst 1, 1) := by decide +kernel
theorem d_F_isFull_10 : decode b_F_isFull 10 = .ok (.goto 4, 3) := by decide +kernel
theorem d_F_isFull_13 : decode b_F_isFull 13 = .ok (.iconst 0, 1) := by decide +kernel
theorem d_F_isFull_14 : decode b_F_isFull 14 = .ok (.ireturn, 1) := by decide +kernel
theorem d_F_append_0 : decode b_F_append 0 = .ok (.aload_n 0, 1) := by decide +kernel
theorem d_F_append_1 : decode b_F_append 1 = .ok (.getfield 9, 3) := by decide +kernel
theorem d_F_append_4 : decode b_F_append 4 = .ok (.aload_n 0, 1) := by decide +kernel
theorem d_F_append_5 : decode b_F_append 5 = .ok (.getfield 26, 3) := by decide +kernel
theorem d_F_append_8 : decode b_F_append 8 = .ok (.iload_n 1, 1) := by decide +kernel
theorem d_F_append_9 : decode b_F_append 9 = .ok (.castore, 1) := by decide +kernel
theorem d_F_append_10 : decode b_F_append 10 = .ok (.aload_n 0, 1) := by decide +kernel
theorem d_F_append_11 : decode b_F_append 11 = .ok (.getfield 15, 3) := by decide +kernel
theorem d_F_append_14 : decode b_F_append 14 = .ok (.aload_n 0, 1) := by decide +kernel
theorem d_F_append_15 : decode b_F_append 15 = .ok (.getfield 26, 3) := by decide +kernel
theorem d_F_append_18 : decode b_F_append 18 = .ok (.iload_n 2, 1) := by decide +kernel
theorem d_F_append_19 : decode b_F_append 19 = .ok (.iastore, 1) := by decide +kernel
theorem d_F_append_20 : decode b_F_append 20 = .ok (.aload_n 0, 1) := by decide +kernel
theorem d_F_append_21 : decode b_F_append 21 = .ok (.getfield 19, 3) := by decide +kernel
theorem d_F_append_24 : decode b_F_append 24 = .ok (.aload_n 0, 1) := by decide +kernel
theorem d_F_append_25 : decode b_F_append 25 = .ok (.getfield 26, 3) := by decide +kernel
theorem d_F_append_28 : decode b_F_append 28 = .ok (.iload_n 3, 1) := by decide +kernel
theorem d_F_append_29 : decode b_F_append 29 = .ok (.iastore, 1) := by decide +kernel
theorem d_F_append_30 : decode b_F_append 30 = .ok (.aload_n 0, 1) := by decide +kernel
theorem d_F_append_31 : decode b_F_append 31 = .ok (.getfield 22, 3) := by decide +kernel
theorem d_F_append_34 : decode b_F_append 34 = .ok (.aload_n 0, 1) := by decide +kernel
theorem d_F_append_35 : decode b_F_append 35 = .ok (.getfield 26, 3) := by decide +kernel
theorem d_F_append_38 : decode b_F_append 38 = .ok (.iload 4, 2) := by decide +kernel
theorem d_F_append_40 : decode b_F_append 40 = .ok (.bastore, 1) := by decide +kernel
theorem d_F_append_41 : decode b_F_append 41 = .ok (.aload_n 0, 1) := by decide +kernel
theorem d_F_append_42 : decode b_F_append 42 = .ok (.dup, 1) := by decide +kernel
theorem d_F_append_43 : decode b_F_append 43 = .ok (.getfield 26, 3) := by decide +kernel
theorem d_F_append_46 : decode b_F_append 46 = .ok (.iconst 1, 1) := by decide +kernel
theorem d_F_append_47 : decode b_F_append 47 = .ok (.iadd, 1) := by decide +kernel
theorem d_F_append_48 : decode b_F_append 48 = .ok (.putfield 26, 3) := by decide +kernel
theorem d_F_append_51 : decode b_F_append 51 = .ok (.aload_n 0, 1) := by decide +kernel
theorem d_F_append_52 : decode b_F_append 52 = .ok (.dup, 1) := by decide +kernel
theorem d_F_append_53 : decode b_F_append 53 = .ok (.getfield 34, 3) := by decide +kernel
theorem d_F_append_56 : decode b_F_append 56 = .ok (.iload_n 2, 1) := by decide +kernel
theorem d_F_append_57 : decode b_F_append 57 = .ok (.iload_n 3, 1) := by decide +kernel
theorem d_F_append_58 : decode b_F_append 58 = .ok (.invokestatic 37, 3) := by decide +kernel
theorem d_F_append_61 : decode b_F_append 61 = .ok (.ior, 1) := by decide +kernel
theorem d_F_append_62 : decode b_F_append 62 = .ok (.putfield 34, 3) := by decide +kernel
theorem d_F_append_65 : decode b_F_append 65 = .ok (.return_, 1) := by decide +kernel
theorem d_F_fits_0 : decode b_F_fits 0 = .ok (.iconst 1, 1) := by decide +kernel
theorem d_F_fits_1 : decode b_F_fits 1 = .ok (.aload_n 0, 1) := by decide +kernel
theorem d_F_fits_2 : decode b_F_fits 2 = .ok (.getfield 19, 3) := by decide +kernel
theorem d_F_fits_5 : decode b_F_fits 5 = .ok (.iload_n 1, 1) := by decide +kernel
theorem d_F_fits_6 : decode b_F_fits 6 = .ok (.iaload, 1) := by decide +kernel
theorem d_F_fits_7 : decode b_F_fits 7 = .ok (.ishl, 1) := by decide +kernel
theorem d_F_fits_8 : decode b_F_fits 8 = .ok (.istore_n 3, 1) := by decide +kernel
theorem d_F_fits_9 : decode b_F_fits 9 = .ok (.aload_n 0, 1) := by decide +kernel
theorem d_F_fits_10 : decode b_F_fits 10 = .ok (.getfield 22, 3) := by decide +kernel
theorem d_F_fits_13 : decode b_F_fits 13 = .ok (.iload_n 1, 1) := by decide +kernel
theorem d_F_fits_14 : decode b_F_fits 14 = .ok (.baload, 1) := by decide +kernel
theorem d_F_fits_15 : decode b_F_fits 15 = .ok (.ifCond .eq 10, 3) := by decide +kernel
theorem d_F_fits_18 : decode b_F_fits 18 = .ok (.iload_n 3, 1) := by decide +kernel
theorem d_F_fits_19 : decode b_F_fits 19 = .ok (.iconst 1, 1) := by decide +kernel
theorem d_F_fits_20 : decode b_F_fits 20 = .ok (.ishr, 1) := by decide +kernel
theorem d_F_fits_21 : decode b_F_fits 21 = .ok (.ineg, 1) := by decide +kernel
theorem d_F_fits_22 : decode b_F_fits 22 = .ok (.goto 4, 3) := by decide +kernel
theorem d_F_fits_25 : decode b_F_fits 25 = .ok (.iconst 0, 1) := by decide +kernel
theorem d_F_fits_26 : decode b_F_fits 26 = .ok (.istore 4, 2) := by decide +kernel
theorem d_F_fits_28 : decode b_F_fits 28 = .ok (.iload_n 2, 1) := by decide +kernel
theorem d_F_fits_29 : decode b_F_fits 29 = .ok (.iload 4, 2) := by decide +kernel
theorem d_F_fits_31 : decode b_F_fits 31 = .ok (.if_icmp .lt 15, 3) := by decide +kernel
theorem d_F_fits_34 : decode b_F_fits 34 = .ok (.iload_n 2, 1) := by decide +kernel
theorem d_F_fits_35 : decode b_F_fits 35 = .ok (.iload 4, 2) := by decide +kernel
theorem d_F_fits_37 : decode b_F_fits 37 = .ok (.iload_n 3, 1) := by decide +kernel
theorem d_F_fits_38 : decode b_F_fits 38 = .ok (.iadd, 1) := by decide +kernel
theorem d_F_fits_39 : decode b_F_fits 39 = .ok (.if_icmp .ge 7, 3) := by decide +kernel
theorem d_F_fits_42 : decode b_F_fits 42 = .ok (.iconst 1, 1) := by decide +kernel
theorem d_F_fits_43 : decode b_F_fits 43 = .ok (.goto 4, 3) := by decide +kernel
theorem d_F_fits_46 : decode b_F_fits 46 = .ok (.iconst 0, 1) := by decide +kernel
theorem d_F_fits_47 : decode b_F_fits 47 = .ok (.ireturn, 1) := by decide +kernel
theorem d_F_withValue_0 : decode b_F_withValue 0 = .ok (.aload_n 0, 1) := by decide +kernel
theorem d_F_withValue_1 : decode b_F_withValue 1 = .ok (.getfield 15, 3) := by decide +kernel
theorem d_F_withValue_4 : decode b_F_withValue 4 = .ok (.iload_n 1, 1) := by decide +kernel
theorem d_F_withValue_5 : decode b_F_withValue 5 = .ok (.iaload, 1) := by decide +kernel
theorem d_F_withValue_6 : decode b_F_withValue 6 = .ok (.aload_n 0, 1) := by decide +kernel
theorem d_F_withValue_7 : decode b_F_withValue 7 = .ok (.getfield 19, 3) := by decide +kernel
theorem d_F_withValue_10 : decode b_F_withValue 10 = .ok (.iload_n 1, 1) := by decide +kernel
theorem d_F_withValue_11 : decode b_F_withValue 11 = .ok (.iaload, 1) := by decide +kernel
theorem d_F_withValue_12 : decode b_F_withValue 12 = .ok (.invokestatic 37, 3) := by decide +kernel
theorem d_F_withValue_15 : decode b_F_withValue 15 = .ok (.istore 4, 2) := by decide +kernel
theorem d_F_withValue_17 : decode b_F_withValue 17 = .ok (.iload_n 2, 1) := by decide +kernel
theorem d_F_withValue_18 : decode b_F_withValue 18 = .ok (.iload 4, 2) := by decide +kernel
theorem d_F_withValue_20 : decode b_F_withValue 20 = .ok (.iconst (-1), 1) := by decide +kernel
theorem d_F_withValue_21 : decode b_F_withValue 21 = .ok (.ixor, 1) := by decide +kernel
theorem d_F_withValue_22 : decode b_F_withValue 22 = .ok (.iand, 1) := by decide +kernel
theorem d_F_withValue_23 : decode b_F_withValue 23 = .ok (.iload_n 3, 1) := by decide +kernel
theorem d_F_withValue_24 : decode b_F_withValue 24 = .ok (.aload_n 0, 1) := by decide +kernel
theorem d_F_withValue_25 : decode b_F_withValue 25 = .ok (.getfield 15, 3) := by decide +kernel
theorem d_F_withValue_28 : decode b_F_withValue 28 = .ok (.iload_n 1, 1) := by decide +kernel
theorem d_F_withValue_29 : decode b_F_withValue 29 = .ok (.iaload, 1) := by decide +kernel
theorem d_F_withValue_30 : decode b_F_withValue 30 = .ok (.ishl, 1) := by decide +kernel
theorem d_F_withValue_31 : decode b_F_withValue 31 = .ok (.iload 4, 2) := by decide +kernel
theorem d_F_withValue_33 : decode b_F_withValue 33 = .ok (.iand, 1) := by decide +kernel
theorem d_F_withValue_34 : decode b_F_withValue 34 = .ok (.ior, 1) := by decide +kernel
theorem d_F_withValue_35 : decode b_F_withValue 35 = .ok (.ireturn, 1) := by decide +kernel
theorem d_F_valueIn_0 : decode b_F_valueIn 0 = .ok (.iconst 1, 1) := by decide +kernel
theorem d_F_valueIn_1 : decode b_F_valueIn 1 = .ok (.aload_n 0, 1) := by decide +kernel
theorem d_F_valueIn_2 : decode b_F_valueIn 2 = .ok (.getfield 19, 3) := by decide +kernel
theorem d_F_valueIn_5 : decode b_F_valueIn 5 = .ok (.iload_n 1, 1) := by decide +kernel
theorem d_F_valueIn_6 : decode b_F_valueIn 6 = .ok (.iaload, 1) := by decide +kernel
theorem d_F_valueIn_7 : decode b_F_valueIn 7 = .ok (.ishl, 1) := by decide +kernel
theorem d_F_valueIn_8 : decode b_F_valueIn 8 = .ok (.istore_n 3, 1) := by decide +kernel
theorem d_F_valueIn_9 : decode b_F_valueIn 9 = .ok (.iload_n 2, 1) := by decide +kernel
theorem d_F_valueIn_10 : decode b_F_valueIn 10 = .ok (.aload_n 0, 1) := by decide +kernel
theorem d_F_valueIn_11 : decode b_F_valueIn 11 = .ok (.getfield 15, 3) := by decide +kernel
theorem d_F_valueIn_14 : decode b_F_valueIn 14 = .ok (.iload_n 1, 1) := by decide +kernel
theorem d_F_valueIn_15 : decode b_F_valueIn 15 = .ok (.iaload, 1) := by decide +kernel
theorem d_F_valueIn_16 : decode b_F_valueIn 16 = .ok (.iushr, 1) := by decide +kernel
theorem d_F_valueIn_17 : decode b_F_valueIn 17 = .ok (.iload_n 3, 1) := by decide +kernel
theorem d_F_valueIn_18 : decode b_F_valueIn 18 = .ok (.iconst 1, 1) := by decide +kernel
theorem d_F_valueIn_19 : decode b_F_valueIn 19 = .ok (.isub, 1) := by decide +kernel
theorem d_F_valueIn_20 : decode b_F_valueIn 20 = .ok (.iand, 1) := by decide +kernel
theorem d_F_valueIn_21 : decode b_F_valueIn 21 = .ok (.istore 4, 2) := by decide +kernel
theorem d_F_valueIn_23 : decode b_F_valueIn 23 = .ok (.aload_n 0, 1) := by decide +kernel
theorem d_F_valueIn_24 : decode b_F_valueIn 24 = .ok (.getfield 22, 3) := by decide +kernel
theorem d_F_valueIn_27 : decode b_F_valueIn 27 = .ok (.iload_n 1, 1) := by decide +kernel
theorem d_F_valueIn_28 : decode b_F_valueIn 28 = .ok (.baload, 1) := by decide +kernel
theorem d_F_valueIn_29 : decode b_F_valueIn 29 = .ok (.ifCond .eq 18, 3) := by decide +kernel
theorem d_F_valueIn_32 : decode b_F_valueIn 32 = .ok (.iload 4, 2) := by decide +kernel
theorem d_F_valueIn_34 : decode b_F_valueIn 34 = .ok (.iload_n 3, 1) := by decide +kernel
theorem d_F_valueIn_35 : decode b_F_valueIn 35 = .ok (.iconst 1, 1) := by decide +kernel
theorem d_F_valueIn_36 : decode b_F_valueIn 36 = .ok (.ishr, 1) := by decide +kernel
theorem d_F_valueIn_37 : decode b_F_valueIn 37 = .ok (.if_icmp .lt 10, 3) := by decide +kernel
theorem d_F_valueIn_40 : decode b_F_valueIn 40 = .ok (.iload 4, 2) := by decide +kernel
theorem d_F_valueIn_42 : decode b_F_valueIn 42 = .ok (.iload_n 3, 1) := by decide +kernel
theorem d_F_valueIn_43 : decode b_F_valueIn 43 = .ok (.isub, 1) := by decide +kernel
theorem d_F_valueIn_44 : decode b_F_valueIn 44 = .ok (.goto 5, 3) := by decide +kernel
theorem d_F_valueIn_47 : decode b_F_valueIn 47 = .ok (.iload 4, 2) := by decide +kernel
theorem d_F_valueIn_49 : decode b_F_valueIn 49 = .ok (.ireturn, 1) := by decide +kernel
end
section
/-! what the words say of each field, method and call, by program -/
theorem in_B : ∀ w ∈ u_ws R_B T_B 7, w ∈ jt := by
  intro w hw
  obtain ⟨k, hk, rfl⟩ := List.mem_map.mp hw
  have hk := List.mem_range.mp hk
  have key : ∀ k, k < 7 → tables_1[([222, 224, 226, 228, 230, 232, 234] : List Nat).getD k 0]? = some (u_lay R_B T_B k) ∧ j_ok (u_lay R_B T_B k) = true := by decide +kernel
  exact j_in _ (key k hk).1 (key k hk).2
theorem in_F : ∀ w ∈ u_ws R_F T_F 6, w ∈ jt := by
  intro w hw
  obtain ⟨k, hk, rfl⟩ := List.mem_map.mp hw
  have hk := List.mem_range.mp hk
  have key : ∀ k, k < 6 → tables_1[([48, 50, 52, 54, 56, 58] : List Nat).getD k 0]? = some (u_lay R_F T_F k) ∧ j_ok (u_lay R_F T_F k) = true := by decide +kernel
  exact j_in _ (key k hk).1 (key k hk).2
theorem in_W : ∀ w ∈ u_ws R_W T_W 3, w ∈ jt := by
  intro w hw
  obtain ⟨k, hk, rfl⟩ := List.mem_map.mp hw
  have hk := List.mem_range.mp hk
  have key : ∀ k, k < 3 → tables_1[([73, 75, 77] : List Nat).getD k 0]? = some (u_lay R_W T_W k) ∧ j_ok (u_lay R_W T_W k) = true := by decide +kernel
  exact j_in _ (key k hk).1 (key k hk).2
theorem in_T : ∀ w ∈ u_ws R_T T_T 2, w ∈ jt := by
  intro w hw
  obtain ⟨k, hk, rfl⟩ := List.mem_map.mp hw
  have hk := List.mem_range.mp hk
  have key : ∀ k, k < 2 → tables_1[([88, 90] : List Nat).getD k 0]? = some (u_lay R_T T_T k) ∧ j_ok (u_lay R_T T_T k) = true := by decide +kernel
  exact j_in _ (key k hk).1 (key k hk).2
theorem in_K : ∀ w ∈ u_ws R_K T_K 6, w ∈ jt := by
  intro w hw
  obtain ⟨k, hk, rfl⟩ := List.mem_map.mp hw
  have hk := List.mem_range.mp hk
  have key : ∀ k, k < 6 → tables_1[([111, 113, 115, 117, 119, 121] : List Nat).getD k 0]? = some (u_lay R_K T_K k) ∧ j_ok (u_lay R_K T_K k) = true := by decide +kernel
  exact j_in _ (key k hk).1 (key k hk).2
theorem in_O : ∀ w ∈ u_ws R_O T_O 3, w ∈ jt := by
  intro w hw
  obtain ⟨k, hk, rfl⟩ := List.mem_map.mp hw
  have hk := List.mem_range.mp hk
  have key : ∀ k, k < 3 → tables_1[([139, 141, 143] : List Nat).getD k 0]? = some (u_lay R_O T_O k) ∧ j_ok (u_lay R_O T_O k) = true := by decide +kernel
  exact j_in _ (key k hk).1 (key k hk).2
theorem in_P : ∀ w ∈ u_ws R_P T_P 3, w ∈ jt := by
  intro w hw
  obtain ⟨k, hk, rfl⟩ := List.mem_map.mp hw
  have hk := List.mem_range.mp hk
  have key : ∀ k, k < 3 → tables_1[([152, 154, 156] : List Nat).getD k 0]? = some (u_lay R_P T_P k) ∧ j_ok (u_lay R_P T_P k) = true := by decide +kernel
  exact j_in _ (key k hk).1 (key k hk).2
theorem in_C : ∀ w ∈ u_ws R_C T_C 3, w ∈ jt := by
  intro w hw
  obtain ⟨k, hk, rfl⟩ := List.mem_map.mp hw
  have hk := List.mem_range.mp hk
  have key : ∀ k, k < 3 → tables_1[([172, 174, 176] : List Nat).getD k 0]? = some (u_lay R_C T_C k) ∧ j_ok (u_lay R_C T_C k) = true := by decide +kernel
  exact j_in _ (key k hk).1 (key k hk).2
theorem in_S : ∀ w ∈ u_ws R_S T_S 11, w ∈ jt := by
  intro w hw
  obtain ⟨k, hk, rfl⟩ := List.mem_map.mp hw
  have hk := List.mem_range.mp hk
  have key : ∀ k, k < 11 → tables_1[([192, 194, 196, 198, 200, 202, 204, 206, 208, 210, 212] : List Nat).getD k 0]? = some (u_lay R_S T_S k) ∧ j_ok (u_lay R_S T_S k) = true := by decide +kernel
  exact j_in _ (key k hk).1 (key k hk).2
theorem in_M : ∀ w ∈ u_ws R_M T_M 38, w ∈ jt := by
  intro w hw
  obtain ⟨k, hk, rfl⟩ := List.mem_map.mp hw
  have hk := List.mem_range.mp hk
  have key : ∀ k, k < 38 → tables_1[([954, 956, 958, 960, 962, 964, 966, 968, 970, 972, 974, 976, 978, 980, 982, 984, 986, 988, 990, 992, 994, 996, 998, 1000, 1002, 1004, 1006, 1008, 1010, 1012, 1014, 1016, 1018, 1020, 1022, 1024, 1026, 1028] : List Nat).getD k 0]? = some (u_lay R_M T_M k) ∧ j_ok (u_lay R_M T_M k) = true := by decide +kernel
  exact j_in _ (key k hk).1 (key k hk).2
theorem f_F_9 : jF "BitLoom$Fields" 9 1 0 (.array .char) true := ⟨R_F, T_F, 6, ty_F, rfl, by decide, in_F, rfl, Or.inl (j_in 42 (by decide +kernel) rfl), tk_F, nm_F, rfl, rfl⟩
theorem g_F_9 : ∃ C T N, classes[1]? = some (C, T, N) ∧ Cond.fieldLink "BitLoom$Fields" 9 C (T 0).2.1 (T 0).2.2.1 ∈ jt := ⟨R_F, T_F, 6, rfl, j_in 42 (by decide +kernel) rfl⟩
theorem f_F_15 : jF "BitLoom$Fields" 15 1 1 (.array .int) true := ⟨R_F, T_F, 6, ty_F, rfl, by decide, in_F, rfl, Or.inl (j_in 43 (by decide +kernel) rfl), tk_F, nm_F, rfl, rfl⟩
theorem g_F_15 : ∃ C T N, classes[1]? = some (C, T, N) ∧ Cond.fieldLink "BitLoom$Fields" 15 C (T 1).2.1 (T 1).2.2.1 ∈ jt := ⟨R_F, T_F, 6, rfl, j_in 43 (by decide +kernel) rfl⟩
theorem f_F_19 : jF "BitLoom$Fields" 19 1 2 (.array .int) true := ⟨R_F, T_F, 6, ty_F, rfl, by decide, in_F, rfl, Or.inl (j_in 44 (by decide +kernel) rfl), tk_F, nm_F, rfl, rfl⟩
theorem g_F_19 : ∃ C T N, classes[1]? = some (C, T, N) ∧ Cond.fieldLink "BitLoom$Fields" 19 C (T 2).2.1 (T 2).2.2.1 ∈ jt := ⟨R_F, T_F, 6, rfl, j_in 44 (by decide +kernel) rfl⟩
theorem f_F_22 : jF "BitLoom$Fields" 22 1 3 (.array .boolean) true := ⟨R_F, T_F, 6, ty_F, rfl, by decide, in_F, rfl, Or.inl (j_in 45 (by decide +kernel) rfl), tk_F, nm_F, rfl, rfl⟩
theorem g_F_22 : ∃ C T N, classes[1]? = some (C, T, N) ∧ Cond.fieldLink "BitLoom$Fields" 22 C (T 3).2.1 (T 3).2.2.1 ∈ jt := ⟨R_F, T_F, 6, rfl, j_in 45 (by decide +kernel) rfl⟩
theorem f_F_26 : jF "BitLoom$Fields" 26 1 4 .int false := ⟨R_F, T_F, 6, ty_F, rfl, by decide, in_F, rfl, Or.inl (j_in 46 (by decide +kernel) rfl), tk_F, nm_F, rfl, rfl⟩
theorem f_F_34 : jF "BitLoom$Fields" 34 1 5 .int false := ⟨R_F, T_F, 6, ty_F, rfl, by decide, in_F, rfl, Or.inl (j_in 47 (by decide +kernel) rfl), tk_F, nm_F, rfl, rfl⟩
theorem f_W_9 : jF "BitLoom$Words" 9 2 0 (.array .int) true := ⟨R_W, T_W, 3, ty_W, rfl, by decide, in_W, rfl, Or.inl (j_in 70 (by decide +kernel) rfl), tk_W, nm_W, rfl, rfl⟩
theorem g_W_9 : ∃ C T N, classes[2]? = some (C, T, N) ∧ Cond.fieldLink "BitLoom$Words" 9 C (T 0).2.1 (T 0).2.2.1 ∈ jt := ⟨R_W, T_W, 3, rfl, j_in 70 (by decide +kernel) rfl⟩
theorem f_W_19 : jF "BitLoom$Words" 19 2 1 .int false := ⟨R_W, T_W, 3, ty_W, rfl, by decide, in_W, rfl, Or.inl (j_in 71 (by decide +kernel) rfl), tk_W, nm_W, rfl, rfl⟩
theorem f_W_23 : jF "BitLoom$Words" 23 2 2 .int false := ⟨R_W, T_W, 3, ty_W, rfl, by decide, in_W, rfl, Or.inl (j_in 72 (by decide +kernel) rfl), tk_W, nm_W, rfl, rfl⟩
theorem f_T_9 : jF "BitLoom$Text" 9 3 0 (.array .char) true := ⟨R_T, T_T, 2, ty_T, rfl, by decide, in_T, rfl, Or.inl (j_in 86 (by decide +kernel) rfl), tk_T, nm_T, rfl, rfl⟩
theorem g_T_9 : ∃ C T N, classes[3]? = some (C, T, N) ∧ Cond.fieldLink "BitLoom$Text" 9 C (T 0).2.1 (T 0).2.2.1 ∈ jt := ⟨R_T, T_T, 2, rfl, j_in 86 (by decide +kernel) rfl⟩
theorem f_T_15 : jF "BitLoom$Text" 15 3 1 .int false := ⟨R_T, T_T, 2, ty_T, rfl, by decide, in_T, rfl, Or.inl (j_in 87 (by decide +kernel) rfl), tk_T, nm_T, rfl, rfl⟩
theorem f_K_9 : jF "BitLoom$Tokens" 9 4 0 (.object "BitLoom$Text") true := ⟨R_K, T_K, 6, ty_K, rfl, by decide, in_K, rfl, Or.inl (j_in 105 (by decide +kernel) rfl), tk_K, nm_K, rfl, rfl⟩
theorem g_K_9 : ∃ C T N, classes[4]? = some (C, T, N) ∧ Cond.fieldLink "BitLoom$Tokens" 9 C (T 0).2.1 (T 0).2.2.1 ∈ jt := ⟨R_K, T_K, 6, rfl, j_in 105 (by decide +kernel) rfl⟩
theorem f_K_15 : jF "BitLoom$Tokens" 15 4 1 (.array .char) true := ⟨R_K, T_K, 6, ty_K, rfl, by decide, in_K, rfl, Or.inl (j_in 106 (by decide +kernel) rfl), tk_K, nm_K, rfl, rfl⟩
theorem g_K_15 : ∃ C T N, classes[4]? = some (C, T, N) ∧ Cond.fieldLink "BitLoom$Tokens" 15 C (T 1).2.1 (T 1).2.2.1 ∈ jt := ⟨R_K, T_K, 6, rfl, j_in 106 (by decide +kernel) rfl⟩
theorem f_K_19 : jF "BitLoom$Tokens" 19 4 2 (.array .int) true := ⟨R_K, T_K, 6, ty_K, rfl, by decide, in_K, rfl, Or.inl (j_in 107 (by decide +kernel) rfl), tk_K, nm_K, rfl, rfl⟩
theorem g_K_19 : ∃ C T N, classes[4]? = some (C, T, N) ∧ Cond.fieldLink "BitLoom$Tokens" 19 C (T 2).2.1 (T 2).2.2.1 ∈ jt := ⟨R_K, T_K, 6, rfl, j_in 107 (by decide +kernel) rfl⟩
theorem f_K_23 : jF "BitLoom$Tokens" 23 4 3 (.array .int) true := ⟨R_K, T_K, 6, ty_K, rfl, by decide, in_K, rfl, Or.inl (j_in 108 (by decide +kernel) rfl), tk_K, nm_K, rfl, rfl⟩
theorem g_K_23 : ∃ C T N, classes[4]? = some (C, T, N) ∧ Cond.fieldLink "BitLoom$Tokens" 23 C (T 3).2.1 (T 3).2.2.1 ∈ jt := ⟨R_K, T_K, 6, rfl, j_in 108 (by decide +kernel) rfl⟩
theorem f_K_26 : jF "BitLoom$Tokens" 26 4 4 .int false := ⟨R_K, T_K, 6, ty_K, rfl, by decide, in_K, rfl, Or.inl (j_in 109 (by decide +kernel) rfl), tk_K, nm_K, rfl, rfl⟩
theorem f_K_30 : jF "BitLoom$Tokens" 30 4 5 .int false := ⟨R_K, T_K, 6, ty_K, rfl, by decide, in_K, rfl, Or.inl (j_in 110 (by decide +kernel) rfl), tk_K, nm_K, rfl, rfl⟩
theorem f_O_9 : jF "BitLoom$Operand" 9 5 0 (.object "BitLoom$Fields") true := ⟨R_O, T_O, 3, ty_O, rfl, by decide, in_O, rfl, Or.inl (j_in 136 (by decide +kernel) rfl), tk_O, nm_O, rfl, rfl⟩
theorem g_O_9 : ∃ C T N, classes[5]? = some (C, T, N) ∧ Cond.fieldLink "BitLoom$Operand" 9 C (T 0).2.1 (T 0).2.2.1 ∈ jt := ⟨R_O, T_O, 3, rfl, j_in 136 (by decide +kernel) rfl⟩
theorem f_O_15 : jF "BitLoom$Operand" 15 5 1 .int false := ⟨R_O, T_O, 3, ty_O, rfl, by decide, in_O, rfl, Or.inl (j_in 137 (by decide +kernel) rfl), tk_O, nm_O, rfl, rfl⟩
theorem f_O_19 : jF "BitLoom$Operand" 19 5 2 .int false := ⟨R_O, T_O, 3, ty_O, rfl, by decide, in_O, rfl, Or.inl (j_in 138 (by decide +kernel) rfl), tk_O, nm_O, rfl, rfl⟩
theorem f_P_12 : jF "BitLoom$Pair" 12 6 0 (.object "BitLoom$Operand") true := ⟨R_P, T_P, 3, ty_P, rfl, by decide, in_P, rfl, Or.inl (j_in 146 (by decide +kernel) rfl), tk_P, nm_P, rfl, rfl⟩
theorem g_P_12 : ∃ C T N, classes[6]? = some (C, T, N) ∧ Cond.fieldLink "BitLoom$Pair" 12 C (T 0).2.1 (T 0).2.2.1 ∈ jt := ⟨R_P, T_P, 3, rfl, j_in 146 (by decide +kernel) rfl⟩
theorem f_S_139 : jF "BitLoom$Statement" 139 6 0 (.object "BitLoom$Operand") true := ⟨R_P, T_P, 3, ty_P, rfl, by decide, in_P, rfl, Or.inr ⟨"BitLoom", j_in 147 (by decide +kernel) rfl⟩, tk_P, nm_P, rfl, rfl⟩
theorem f_P_18 : jF "BitLoom$Pair" 18 6 1 (.object "BitLoom$Operand") true := ⟨R_P, T_P, 3, ty_P, rfl, by decide, in_P, rfl, Or.inl (j_in 148 (by decide +kernel) rfl), tk_P, nm_P, rfl, rfl⟩
theorem g_P_18 : ∃ C T N, classes[6]? = some (C, T, N) ∧ Cond.fieldLink "BitLoom$Pair" 18 C (T 1).2.1 (T 1).2.2.1 ∈ jt := ⟨R_P, T_P, 3, rfl, j_in 148 (by decide +kernel) rfl⟩
theorem f_S_155 : jF "BitLoom$Statement" 155 6 1 (.object "BitLoom$Operand") true := ⟨R_P, T_P, 3, ty_P, rfl, by decide, in_P, rfl, Or.inr ⟨"BitLoom", j_in 149 (by decide +kernel) rfl⟩, tk_P, nm_P, rfl, rfl⟩
theorem f_P_21 : jF "BitLoom$Pair" 21 6 2 .char false := ⟨R_P, T_P, 3, ty_P, rfl, by decide, in_P, rfl, Or.inl (j_in 150 (by decide +kernel) rfl), tk_P, nm_P, rfl, rfl⟩
theorem f_S_151 : jF "BitLoom$Statement" 151 6 2 .char false := ⟨R_P, T_P, 3, ty_P, rfl, by decide, in_P, rfl, Or.inr ⟨"BitLoom", j_in 151 (by decide +kernel) rfl⟩, tk_P, nm_P, rfl, rfl⟩
theorem f_C_7 : jF "BitLoom$Change" 7 7 0 (.object "BitLoom$Fields") true := ⟨R_C, T_C, 3, ty_C, rfl, by decide, in_C, rfl, Or.inl (j_in 167 (by decide +kernel) rfl), tk_C, nm_C, rfl, rfl⟩
theorem g_C_7 : ∃ C T N, classes[7]? = some (C, T, N) ∧ Cond.fieldLink "BitLoom$Change" 7 C (T 0).2.1 (T 0).2.2.1 ∈ jt := ⟨R_C, T_C, 3, rfl, j_in 167 (by decide +kernel) rfl⟩
theorem f_C_18 : jF "BitLoom$Change" 18 7 1 (.object "BitLoom$Pair") true := ⟨R_C, T_C, 3, ty_C, rfl, by decide, in_C, rfl, Or.inl (j_in 168 (by decide +kernel) rfl), tk_C, nm_C, rfl, rfl⟩
theorem g_C_18 : ∃ C T N, classes[7]? = some (C, T, N) ∧ Cond.fieldLink "BitLoom$Change" 18 C (T 1).2.1 (T 1).2.2.1 ∈ jt := ⟨R_C, T_C, 3, rfl, j_in 168 (by decide +kernel) rfl⟩
theorem f_S_188 : jF "BitLoom$Statement" 188 7 1 (.object "BitLoom$Pair") true := ⟨R_C, T_C, 3, ty_C, rfl, by decide, in_C, rfl, Or.inr ⟨"BitLoom", j_in 169 (by decide +kernel) rfl⟩, tk_C, nm_C, rfl, rfl⟩
theorem f_C_22 : jF "BitLoom$Change" 22 7 2 .int false := ⟨R_C, T_C, 3, ty_C, rfl, by decide, in_C, rfl, Or.inl (j_in 170 (by decide +kernel) rfl), tk_C, nm_C, rfl, rfl⟩
theorem f_S_185 : jF "BitLoom$Statement" 185 7 2 .int false := ⟨R_C, T_C, 3, ty_C, rfl, by decide, in_C, rfl, Or.inr ⟨"BitLoom", j_in 171 (by decide +kernel) rfl⟩, tk_C, nm_C, rfl, rfl⟩
theorem f_S_9 : jF "BitLoom$Statement" 9 8 0 (.object "BitLoom$Fields") true := ⟨R_S, T_S, 11, ty_S, rfl, by decide, in_S, rfl, Or.inl (j_in 181 (by decide +kernel) rfl), tk_S, nm_S, rfl, rfl⟩
theorem g_S_9 : ∃ C T N, classes[8]? = some (C, T, N) ∧ Cond.fieldLink "BitLoom$Statement" 9 C (T 0).2.1 (T 0).2.2.1 ∈ jt := ⟨R_S, T_S, 11, rfl, j_in 181 (by decide +kernel) rfl⟩
theorem f_S_15 : jF "BitLoom$Statement" 15 8 1 (.object "BitLoom$Words") true := ⟨R_S, T_S, 11, ty_S, rfl, by decide, in_S, rfl, Or.inl (j_in 182 (by decide +kernel) rfl), tk_S, nm_S, rfl, rfl⟩
theorem g_S_15 : ∃ C T N, classes[8]? = some (C, T, N) ∧ Cond.fieldLink "BitLoom$Statement" 15 C (T 1).2.1 (T 1).2.2.1 ∈ jt := ⟨R_S, T_S, 11, rfl, j_in 182 (by decide +kernel) rfl⟩
theorem f_S_24 : jF "BitLoom$Statement" 24 8 2 (.object "BitLoom$Tokens") true := ⟨R_S, T_S, 11, ty_S, rfl, by decide, in_S, rfl, Or.inl (j_in 183 (by decide +kernel) rfl), tk_S, nm_S, rfl, rfl⟩
theorem g_S_24 : ∃ C T N, classes[8]? = some (C, T, N) ∧ Cond.fieldLink "BitLoom$Statement" 24 C (T 2).2.1 (T 2).2.2.1 ∈ jt := ⟨R_S, T_S, 11, rfl, j_in 183 (by decide +kernel) rfl⟩
theorem f_S_33 : jF "BitLoom$Statement" 33 8 3 (.object "BitLoom$Pair") true := ⟨R_S, T_S, 11, ty_S, rfl, by decide, in_S, rfl, Or.inl (j_in 184 (by decide +kernel) rfl), tk_S, nm_S, rfl, rfl⟩
theorem g_S_33 : ∃ C T N, classes[8]? = some (C, T, N) ∧ Cond.fieldLink "BitLoom$Statement" 33 C (T 3).2.1 (T 3).2.2.1 ∈ jt := ⟨R_S, T_S, 11, rfl, j_in 184 (by decide +kernel) rfl⟩
theorem f_S_40 : jF "BitLoom$Statement" 40 8 4 (.object "BitLoom$Change") true := ⟨R_S, T_S, 11, ty_S, rfl, by decide, in_S, rfl, Or.inl (j_in 185 (by decide +kernel) rfl), tk_S, nm_S, rfl, rfl⟩
theorem g_S_40 : ∃ C T N, classes[8]? = some (C, T, N) ∧ Cond.fieldLink "BitLoom$Statement" 40 C (T 4).2.1 (T 4).2.2.1 ∈ jt := ⟨R_S, T_S, 11, rfl, j_in 185 (by decide +kernel) rfl⟩
theorem f_S_44 : jF "BitLoom$Statement" 44 8 5 (.object "BitLoom$Change") true := ⟨R_S, T_S, 11, ty_S, rfl, by decide, in_S, rfl, Or.inl (j_in 186 (by decide +kernel) rfl), tk_S, nm_S, rfl, rfl⟩
theorem g_S_44 : ∃ C T N, classes[8]? = some (C, T, N) ∧ Cond.fieldLink "BitLoom$Statement" 44 C (T 5).2.1 (T 5).2.2.1 ∈ jt := ⟨R_S, T_S, 11, rfl, j_in 186 (by decide +kernel) rfl⟩
theorem f_S_76 : jF "BitLoom$Statement" 76 8 6 .boolean false := ⟨R_S, T_S, 11, ty_S, rfl, by decide, in_S, rfl, Or.inl (j_in 187 (by decide +kernel) rfl), tk_S, nm_S, rfl, rfl⟩
theorem f_S_53 : jF "BitLoom$Statement" 53 8 7 (.object "BitLoom$Action") false := ⟨R_S, T_S, 11, ty_S, rfl, by decide, in_S, rfl, Or.inl (j_in 188 (by decide +kernel) rfl), tk_S, nm_S, rfl, rfl⟩
theorem f_S_63 : jF "BitLoom$Statement" 63 8 8 .int false := ⟨R_S, T_S, 11, ty_S, rfl, by decide, in_S, rfl, Or.inl (j_in 189 (by decide +kernel) rfl), tk_S, nm_S, rfl, rfl⟩
theorem f_S_60 : jF "BitLoom$Statement" 60 8 9 .int false := ⟨R_S, T_S, 11, ty_S, rfl, by decide, in_S, rfl, Or.inl (j_in 190 (by decide +kernel) rfl), tk_S, nm_S, rfl, rfl⟩
theorem f_S_56 : jF "BitLoom$Statement" 56 8 10 .int false := ⟨R_S, T_S, 11, ty_S, rfl, by decide, in_S, rfl, Or.inl (j_in 191 (by decide +kernel) rfl), tk_S, nm_S, rfl, rfl⟩
theorem f_B_12 : jF "BitLoom" 12 0 0 (.object "BitLoom$Fields") true := ⟨R_B, T_B, 7, ty_B, rfl, by decide, in_B, rfl, Or.inl (j_in 215 (by decide +kernel) rfl), tk_B, nm_B, rfl, rfl⟩
theorem g_B_12 : ∃ C T N, classes[0]? = some (C, T, N) ∧ Cond.fieldLink "BitLoom" 12 C (T 0).2.1 (T 0).2.2.1 ∈ jt := ⟨R_B, T_B, 7, rfl, j_in 215 (by decide +kernel) rfl⟩
theorem f_B_19 : jF "BitLoom" 19 0 1 (.object "BitLoom$Words") true := ⟨R_B, T_B, 7, ty_B, rfl, by decide, in_B, rfl, Or.inl (j_in 216 (by decide +kernel) rfl), tk_B, nm_B, rfl, rfl⟩
theorem g_B_19 : ∃ C T N, classes[0]? = some (C, T, N) ∧ Cond.fieldLink "BitLoom" 19 C (T 1).2.1 (T 1).2.2.1 ∈ jt := ⟨R_B, T_B, 7, rfl, j_in 216 (by decide +kernel) rfl⟩
theorem f_B_26 : jF "BitLoom" 26 0 2 (.object "BitLoom$Text") true := ⟨R_B, T_B, 7, ty_B, rfl, by decide, in_B, rfl, Or.inl (j_in 217 (by decide +kernel) rfl), tk_B, nm_B, rfl, rfl⟩
theorem g_B_26 : ∃ C T N, classes[0]? = some (C, T, N) ∧ Cond.fieldLink "BitLoom" 26 C (T 2).2.1 (T 2).2.2.1 ∈ jt := ⟨R_B, T_B, 7, rfl, j_in 217 (by decide +kernel) rfl⟩
theorem f_B_35 : jF "BitLoom" 35 0 3 (.object "BitLoom$Statement") true := ⟨R_B, T_B, 7, ty_B, rfl, by decide, in_B, rfl, Or.inl (j_in 218 (by decide +kernel) rfl), tk_B, nm_B, rfl, rfl⟩
theorem g_B_35 : ∃ C T N, classes[0]? = some (C, T, N) ∧ Cond.fieldLink "BitLoom" 35 C (T 3).2.1 (T 3).2.2.1 ∈ jt := ⟨R_B, T_B, 7, rfl, j_in 218 (by decide +kernel) rfl⟩
theorem f_B_39 : jF "BitLoom" 39 0 4 (.array .int) true := ⟨R_B, T_B, 7, ty_B, rfl, by decide, in_B, rfl, Or.inl (j_in 219 (by decide +kernel) rfl), tk_B, nm_B, rfl, rfl⟩
theorem g_B_39 : ∃ C T N, classes[0]? = some (C, T, N) ∧ Cond.fieldLink "BitLoom" 39 C (T 4).2.1 (T 4).2.2.1 ∈ jt := ⟨R_B, T_B, 7, rfl, j_in 219 (by decide +kernel) rfl⟩
theorem f_B_169 : jF "BitLoom" 169 0 5 .int false := ⟨R_B, T_B, 7, ty_B, rfl, by decide, in_B, rfl, Or.inl (j_in 220 (by decide +kernel) rfl), tk_B, nm_B, rfl, rfl⟩
theorem f_B_165 : jF "BitLoom" 165 0 6 .int false := ⟨R_B, T_B, 7, ty_B, rfl, by decide, in_B, rfl, Or.inl (j_in 221 (by decide +kernel) rfl), tk_B, nm_B, rfl, rfl⟩
theorem f_M_73 : jF "BitLoomModel" 73 9 0 .int false := ⟨R_M, T_M, 38, ty_M, rfl, by decide, in_M, rfl, Or.inl (j_in 916 (by decide +kernel) rfl), tk_M, nm_M, rfl, rfl⟩
theorem f_M_7 : jF "BitLoomModel" 7 9 1 (.array .boolean) true := ⟨R_M, T_M, 38, ty_M, rfl, by decide, in_M, rfl, Or.inl (j_in 917 (by decide +kernel) rfl), tk_M, nm_M, rfl, rfl⟩
theorem g_M_7 : ∃ C T N, classes[9]? = some (C, T, N) ∧ Cond.fieldLink "BitLoomModel" 7 C (T 1).2.1 (T 1).2.2.1 ∈ jt := ⟨R_M, T_M, 38, rfl, j_in 917 (by decide +kernel) rfl⟩
theorem f_M_13 : jF "BitLoomModel" 13 9 2 (.array .int) true := ⟨R_M, T_M, 38, ty_M, rfl, by decide, in_M, rfl, Or.inl (j_in 918 (by decide +kernel) rfl), tk_M, nm_M, rfl, rfl⟩
theorem g_M_13 : ∃ C T N, classes[9]? = some (C, T, N) ∧ Cond.fieldLink "BitLoomModel" 13 C (T 2).2.1 (T 2).2.2.1 ∈ jt := ⟨R_M, T_M, 38, rfl, j_in 918 (by decide +kernel) rfl⟩
theorem f_M_17 : jF "BitLoomModel" 17 9 3 (.array .boolean) true := ⟨R_M, T_M, 38, ty_M, rfl, by decide, in_M, rfl, Or.inl (j_in 919 (by decide +kernel) rfl), tk_M, nm_M, rfl, rfl⟩
theorem g_M_17 : ∃ C T N, classes[9]? = some (C, T, N) ∧ Cond.fieldLink "BitLoomModel" 17 C (T 3).2.1 (T 3).2.2.1 ∈ jt := ⟨R_M, T_M, 38, rfl, j_in 919 (by decide +kernel) rfl⟩
theorem f_M_76 : jF "BitLoomModel" 76 9 4 .int false := ⟨R_M, T_M, 38, ty_M, rfl, by decide, in_M, rfl, Or.inl (j_in 920 (by decide +kernel) rfl), tk_M, nm_M, rfl, rfl⟩
theorem f_M_20 : jF "BitLoomModel" 20 9 5 (.array .char) true := ⟨R_M, T_M, 38, ty_M, rfl, by decide, in_M, rfl, Or.inl (j_in 921 (by decide +kernel) rfl), tk_M, nm_M, rfl, rfl⟩
theorem g_M_20 : ∃ C T N, classes[9]? = some (C, T, N) ∧ Cond.fieldLink "BitLoomModel" 20 C (T 5).2.1 (T 5).2.2.1 ∈ jt := ⟨R_M, T_M, 38, rfl, j_in 921 (by decide +kernel) rfl⟩
theorem f_M_24 : jF "BitLoomModel" 24 9 6 (.array .int) true := ⟨R_M, T_M, 38, ty_M, rfl, by decide, in_M, rfl, Or.inl (j_in 922 (by decide +kernel) rfl), tk_M, nm_M, rfl, rfl⟩
theorem g_M_24 : ∃ C T N, classes[9]? = some (C, T, N) ∧ Cond.fieldLink "BitLoomModel" 24 C (T 6).2.1 (T 6).2.2.1 ∈ jt := ⟨R_M, T_M, 38, rfl, j_in 922 (by decide +kernel) rfl⟩
theorem f_M_27 : jF "BitLoomModel" 27 9 7 (.array .int) true := ⟨R_M, T_M, 38, ty_M, rfl, by decide, in_M, rfl, Or.inl (j_in 923 (by decide +kernel) rfl), tk_M, nm_M, rfl, rfl⟩
theorem g_M_27 : ∃ C T N, classes[9]? = some (C, T, N) ∧ Cond.fieldLink "BitLoomModel" 27 C (T 7).2.1 (T 7).2.2.1 ∈ jt := ⟨R_M, T_M, 38, rfl, j_in 923 (by decide +kernel) rfl⟩
theorem f_M_30 : jF "BitLoomModel" 30 9 8 (.array .boolean) true := ⟨R_M, T_M, 38, ty_M, rfl, by decide, in_M, rfl, Or.inl (j_in 924 (by decide +kernel) rfl), tk_M, nm_M, rfl, rfl⟩
theorem g_M_30 : ∃ C T N, classes[9]? = some (C, T, N) ∧ Cond.fieldLink "BitLoomModel" 30 C (T 8).2.1 (T 8).2.2.1 ∈ jt := ⟨R_M, T_M, 38, rfl, j_in 924 (by decide +kernel) rfl⟩
theorem f_M_102 : jF "BitLoomModel" 102 9 9 .int false := ⟨R_M, T_M, 38, ty_M, rfl, by decide, in_M, rfl, Or.inl (j_in 925 (by decide +kernel) rfl), tk_M, nm_M, rfl, rfl⟩
theorem f_M_33 : jF "BitLoomModel" 33 9 10 (.array .char) true := ⟨R_M, T_M, 38, ty_M, rfl, by decide, in_M, rfl, Or.inl (j_in 926 (by decide +kernel) rfl), tk_M, nm_M, rfl, rfl⟩
theorem g_M_33 : ∃ C T N, classes[9]? = some (C, T, N) ∧ Cond.fieldLink "BitLoomModel" 33 C (T 10).2.1 (T 10).2.2.1 ∈ jt := ⟨R_M, T_M, 38, rfl, j_in 926 (by decide +kernel) rfl⟩
theorem f_M_36 : jF "BitLoomModel" 36 9 11 .int false := ⟨R_M, T_M, 38, ty_M, rfl, by decide, in_M, rfl, Or.inl (j_in 927 (by decide +kernel) rfl), tk_M, nm_M, rfl, rfl⟩
theorem f_M_257 : jF "BitLoomModel" 257 9 12 .int false := ⟨R_M, T_M, 38, ty_M, rfl, by decide, in_M, rfl, Or.inl (j_in 928 (by decide +kernel) rfl), tk_M, nm_M, rfl, rfl⟩
theorem f_M_260 : jF "BitLoomModel" 260 9 13 .int false := ⟨R_M, T_M, 38, ty_M, rfl, by decide, in_M, rfl, Or.inl (j_in 929 (by decide +kernel) rfl), tk_M, nm_M, rfl, rfl⟩
theorem f_M_40 : jF "BitLoomModel" 40 9 14 (.array .int) true := ⟨R_M, T_M, 38, ty_M, rfl, by decide, in_M, rfl, Or.inl (j_in 930 (by decide +kernel) rfl), tk_M, nm_M, rfl, rfl⟩
theorem g_M_40 : ∃ C T N, classes[9]? = some (C, T, N) ∧ Cond.fieldLink "BitLoomModel" 40 C (T 14).2.1 (T 14).2.2.1 ∈ jt := ⟨R_M, T_M, 38, rfl, j_in 930 (by decide +kernel) rfl⟩
theorem f_M_132 : jF "BitLoomModel" 132 9 15 .int false := ⟨R_M, T_M, 38, ty_M, rfl, by decide, in_M, rfl, Or.inl (j_in 931 (by decide +kernel) rfl), tk_M, nm_M, rfl, rfl⟩
theorem f_M_105 : jF "BitLoomModel" 105 9 16 .int false := ⟨R_M, T_M, 38, ty_M, rfl, by decide, in_M, rfl, Or.inl (j_in 932 (by decide +kernel) rfl), tk_M, nm_M, rfl, rfl⟩
theorem f_M_112 : jF "BitLoomModel" 112 9 17 .int false := ⟨R_M, T_M, 38, ty_M, rfl, by decide, in_M, rfl, Or.inl (j_in 933 (by decide +kernel) rfl), tk_M, nm_M, rfl, rfl⟩
theorem f_M_115 : jF "BitLoomModel" 115 9 18 .int false := ⟨R_M, T_M, 38, ty_M, rfl, by decide, in_M, rfl, Or.inl (j_in 934 (by decide +kernel) rfl), tk_M, nm_M, rfl, rfl⟩
theorem f_M_118 : jF "BitLoomModel" 118 9 19 .long false := ⟨R_M, T_M, 38, ty_M, rfl, by decide, in_M, rfl, Or.inl (j_in 935 (by decide +kernel) rfl), tk_M, nm_M, rfl, rfl⟩
theorem f_M_149 : jF "BitLoomModel" 149 9 20 .int false := ⟨R_M, T_M, 38, ty_M, rfl, by decide, in_M, rfl, Or.inl (j_in 936 (by decide +kernel) rfl), tk_M, nm_M, rfl, rfl⟩
theorem f_M_43 : jF "BitLoomModel" 43 9 21 (.array .int) true := ⟨R_M, T_M, 38, ty_M, rfl, by decide, in_M, rfl, Or.inl (j_in 937 (by decide +kernel) rfl), tk_M, nm_M, rfl, rfl⟩
theorem g_M_43 : ∃ C T N, classes[9]? = some (C, T, N) ∧ Cond.fieldLink "BitLoomModel" 43 C (T 21).2.1 (T 21).2.2.1 ∈ jt := ⟨R_M, T_M, 38, rfl, j_in 937 (by decide +kernel) rfl⟩
theorem f_M_46 : jF "BitLoomModel" 46 9 22 (.array .int) true := ⟨R_M, T_M, 38, ty_M, rfl, by decide, in_M, rfl, Or.inl (j_in 938 (by decide +kernel) rfl), tk_M, nm_M, rfl, rfl⟩
theorem g_M_46 : ∃ C T N, classes[9]? = some (C, T, N) ∧ Cond.fieldLink "BitLoomModel" 46 C (T 22).2.1 (T 22).2.2.1 ∈ jt := ⟨R_M, T_M, 38, rfl, j_in 938 (by decide +kernel) rfl⟩
theorem f_M_152 : jF "BitLoomModel" 152 9 23 .int false := ⟨R_M, T_M, 38, ty_M, rfl, by decide, in_M, rfl, Or.inl (j_in 939 (by decide +kernel) rfl), tk_M, nm_M, rfl, rfl⟩
theorem f_M_49 : jF "BitLoomModel" 49 9 24 (.array .int) true := ⟨R_M, T_M, 38, ty_M, rfl, by decide, in_M, rfl, Or.inl (j_in 940 (by decide +kernel) rfl), tk_M, nm_M, rfl, rfl⟩
theorem g_M_49 : ∃ C T N, classes[9]? = some (C, T, N) ∧ Cond.fieldLink "BitLoomModel" 49 C (T 24).2.1 (T 24).2.2.1 ∈ jt := ⟨R_M, T_M, 38, rfl, j_in 940 (by decide +kernel) rfl⟩
theorem f_M_178 : jF "BitLoomModel" 178 9 25 .int false := ⟨R_M, T_M, 38, ty_M, rfl, by decide, in_M, rfl, Or.inl (j_in 941 (by decide +kernel) rfl), tk_M, nm_M, rfl, rfl⟩
theorem f_M_194 : jF "BitLoomModel" 194 9 26 .int false := ⟨R_M, T_M, 38, ty_M, rfl, by decide, in_M, rfl, Or.inl (j_in 942 (by decide +kernel) rfl), tk_M, nm_M, rfl, rfl⟩
theorem f_M_167 : jF "BitLoomModel" 167 9 27 .int false := ⟨R_M, T_M, 38, ty_M, rfl, by decide, in_M, rfl, Or.inl (j_in 943 (by decide +kernel) rfl), tk_M, nm_M, rfl, rfl⟩
theorem f_M_206 : jF "BitLoomModel" 206 9 28 .int false := ⟨R_M, T_M, 38, ty_M, rfl, by decide, in_M, rfl, Or.inl (j_in 944 (by decide +kernel) rfl), tk_M, nm_M, rfl, rfl⟩
theorem f_M_203 : jF "BitLoomModel" 203 9 29 .int false := ⟨R_M, T_M, 38, ty_M, rfl, by decide, in_M, rfl, Or.inl (j_in 945 (by decide +kernel) rfl), tk_M, nm_M, rfl, rfl⟩
theorem f_M_52 : jF "BitLoomModel" 52 9 30 (.array .int) true := ⟨R_M, T_M, 38, ty_M, rfl, by decide, in_M, rfl, Or.inl (j_in 946 (by decide +kernel) rfl), tk_M, nm_M, rfl, rfl⟩
theorem g_M_52 : ∃ C T N, classes[9]? = some (C, T, N) ∧ Cond.fieldLink "BitLoomModel" 52 C (T 30).2.1 (T 30).2.2.1 ∈ jt := ⟨R_M, T_M, 38, rfl, j_in 946 (by decide +kernel) rfl⟩
theorem f_M_55 : jF "BitLoomModel" 55 9 31 (.array .int) true := ⟨R_M, T_M, 38, ty_M, rfl, by decide, in_M, rfl, Or.inl (j_in 947 (by decide +kernel) rfl), tk_M, nm_M, rfl, rfl⟩
theorem g_M_55 : ∃ C T N, classes[9]? = some (C, T, N) ∧ Cond.fieldLink "BitLoomModel" 55 C (T 31).2.1 (T 31).2.2.1 ∈ jt := ⟨R_M, T_M, 38, rfl, j_in 947 (by decide +kernel) rfl⟩
theorem f_M_58 : jF "BitLoomModel" 58 9 32 (.array .int) true := ⟨R_M, T_M, 38, ty_M, rfl, by decide, in_M, rfl, Or.inl (j_in 948 (by decide +kernel) rfl), tk_M, nm_M, rfl, rfl⟩
theorem g_M_58 : ∃ C T N, classes[9]? = some (C, T, N) ∧ Cond.fieldLink "BitLoomModel" 58 C (T 32).2.1 (T 32).2.2.1 ∈ jt := ⟨R_M, T_M, 38, rfl, j_in 948 (by decide +kernel) rfl⟩
theorem f_M_61 : jF "BitLoomModel" 61 9 33 (.array .int) true := ⟨R_M, T_M, 38, ty_M, rfl, by decide, in_M, rfl, Or.inl (j_in 949 (by decide +kernel) rfl), tk_M, nm_M, rfl, rfl⟩
theorem g_M_61 : ∃ C T N, classes[9]? = some (C, T, N) ∧ Cond.fieldLink "BitLoomModel" 61 C (T 33).2.1 (T 33).2.2.1 ∈ jt := ⟨R_M, T_M, 38, rfl, j_in 949 (by decide +kernel) rfl⟩
theorem f_M_64 : jF "BitLoomModel" 64 9 34 (.array .int) true := ⟨R_M, T_M, 38, ty_M, rfl, by decide, in_M, rfl, Or.inl (j_in 950 (by decide +kernel) rfl), tk_M, nm_M, rfl, rfl⟩
theorem g_M_64 : ∃ C T N, classes[9]? = some (C, T, N) ∧ Cond.fieldLink "BitLoomModel" 64 C (T 34).2.1 (T 34).2.2.1 ∈ jt := ⟨R_M, T_M, 38, rfl, j_in 950 (by decide +kernel) rfl⟩
theorem f_M_67 : jF "BitLoomModel" 67 9 35 (.array .int) true := ⟨R_M, T_M, 38, ty_M, rfl, by decide, in_M, rfl, Or.inl (j_in 951 (by decide +kernel) rfl), tk_M, nm_M, rfl, rfl⟩
theorem g_M_67 : ∃ C T N, classes[9]? = some (C, T, N) ∧ Cond.fieldLink "BitLoomModel" 67 C (T 35).2.1 (T 35).2.2.1 ∈ jt := ⟨R_M, T_M, 38, rfl, j_in 951 (by decide +kernel) rfl⟩
theorem f_M_244 : jF "BitLoomModel" 244 9 36 .int false := ⟨R_M, T_M, 38, ty_M, rfl, by decide, in_M, rfl, Or.inl (j_in 952 (by decide +kernel) rfl), tk_M, nm_M, rfl, rfl⟩
theorem f_M_70 : jF "BitLoomModel" 70 9 37 (.array .int) true := ⟨R_M, T_M, 38, ty_M, rfl, by decide, in_M, rfl, Or.inl (j_in 953 (by decide +kernel) rfl), tk_M, nm_M, rfl, rfl⟩
theorem g_M_70 : ∃ C T N, classes[9]? = some (C, T, N) ∧ Cond.fieldLink "BitLoomModel" 70 C (T 37).2.1 (T 37).2.2.1 ∈ jt := ⟨R_M, T_M, 38, rfl, j_in 953 (by decide +kernel) rfl⟩
theorem i_B_init : jMI M_B_init 0 := ⟨j_in 31 (by decide +kernel) rfl, j_in 32 (by decide +kernel) rfl, rfl, rfl, rfl, j_in 1 (by decide +kernel) rfl, ⟨by decide, by decide⟩, by decide +kernel⟩
theorem i_F_init : jMI M_F_init 0 := ⟨j_in 39 (by decide +kernel) rfl, j_in 40 (by decide +kernel) rfl, rfl, rfl, rfl, j_in 2 (by decide +kernel) rfl, ⟨by decide, by decide⟩, by decide +kernel⟩
theorem i_W_init : jMI M_W_init 0 := ⟨j_in 67 (by decide +kernel) rfl, j_in 68 (by decide +kernel) rfl, rfl, rfl, rfl, j_in 3 (by decide +kernel) rfl, ⟨by decide, by decide⟩, by decide +kernel⟩
theorem i_T_init : jMI M_T_init 0 := ⟨j_in 83 (by decide +kernel) rfl, j_in 84 (by decide +kernel) rfl, rfl, rfl, rfl, j_in 4 (by decide +kernel) rfl, ⟨by decide, by decide⟩, by decide +kernel⟩
theorem i_S_init : jMI M_S_init 3 := ⟨j_in 96 (by decide +kernel) rfl, j_in 97 (by decide +kernel) rfl, rfl, rfl, rfl, j_in 5 (by decide +kernel) rfl, ⟨by decide, by decide⟩, by decide +kernel⟩
theorem i_K_init : jMI M_K_init 1 := ⟨j_in 102 (by decide +kernel) rfl, j_in 103 (by decide +kernel) rfl, rfl, rfl, rfl, j_in 6 (by decide +kernel) rfl, ⟨by decide, by decide⟩, by decide +kernel⟩
theorem i_P_init : jMI M_P_init 1 := ⟨j_in 127 (by decide +kernel) rfl, j_in 128 (by decide +kernel) rfl, rfl, rfl, rfl, j_in 7 (by decide +kernel) rfl, ⟨by decide, by decide⟩, by decide +kernel⟩
theorem i_O_init : jMI M_O_init 1 := ⟨j_in 133 (by decide +kernel) rfl, j_in 134 (by decide +kernel) rfl, rfl, rfl, rfl, j_in 8 (by decide +kernel) rfl, ⟨by decide, by decide⟩, by decide +kernel⟩
theorem i_C_init : jMI M_C_init 1 := ⟨j_in 162 (by decide +kernel) rfl, j_in 163 (by decide +kernel) rfl, rfl, rfl, rfl, j_in 9 (by decide +kernel) rfl, ⟨by decide, by decide⟩, by decide +kernel⟩
theorem v_B_search : jMV M_B_search 0 3 := ⟨j_in 238 (by decide +kernel) rfl, j_in 239 (by decide +kernel) rfl, j_in 240 (by decide +kernel) rfl, j_in 1 (by decide +kernel) rfl, ⟨by decide, by decide⟩, by decide +kernel, T_B, 7, rfl⟩
theorem v_W_responding : jMV M_W_responding 2 0 := ⟨j_in 242 (by decide +kernel) rfl, j_in 243 (by decide +kernel) rfl, j_in 244 (by decide +kernel) rfl, j_in 3 (by decide +kernel) rfl, ⟨by decide, by decide⟩, by decide +kernel, T_W, 3, rfl⟩
theorem v_W_inUse : jMV M_W_inUse 2 0 := ⟨j_in 246 (by decide +kernel) rfl, j_in 247 (by decide +kernel) rfl, j_in 248 (by decide +kernel) rfl, j_in 3 (by decide +kernel) rfl, ⟨by decide, by decide⟩, by decide +kernel, T_W, 3, rfl⟩
theorem v_W_matching : jMV M_W_matching 2 3 := ⟨j_in 250 (by decide +kernel) rfl, j_in 251 (by decide +kernel) rfl, j_in 252 (by decide +kernel) rfl, j_in 3 (by decide +kernel) rfl, ⟨by decide, by decide⟩, by decide +kernel, T_W, 3, rfl⟩
theorem s_W_holds : jMS M_W_holds 2 := ⟨j_in 254 (by decide +kernel) rfl, j_in 255 (by decide +kernel) rfl, j_in 3 (by decide +kernel) rfl, ⟨by decide, by decide⟩, by decide +kernel⟩
theorem v_W_respondOnly : jMV M_W_respondOnly 2 1 := ⟨j_in 257 (by decide +kernel) rfl, j_in 258 (by decide +kernel) rfl, j_in 259 (by decide +kernel) rfl, j_in 3 (by decide +kernel) rfl, ⟨by decide, by decide⟩, by decide +kernel, T_W, 3, rfl⟩
theorem s_JInteger_bitCount : jMS M_JInteger_bitCount 1 := ⟨j_in 261 (by decide +kernel) rfl, j_in 262 (by decide +kernel) rfl, j_in 19 (by decide +kernel) rfl, ⟨by decide, by decide⟩, by decide +kernel⟩
theorem v_B_first : jMV M_B_first 0 0 := ⟨j_in 267 (by decide +kernel) rfl, j_in 268 (by decide +kernel) rfl, j_in 269 (by decide +kernel) rfl, j_in 1 (by decide +kernel) rfl, ⟨by decide, by decide⟩, by decide +kernel, T_B, 7, rfl⟩
theorem s_W_lowestOf : jMS M_W_lowestOf 1 := ⟨j_in 271 (by decide +kernel) rfl, j_in 272 (by decide +kernel) rfl, j_in 3 (by decide +kernel) rfl, ⟨by decide, by decide⟩, by decide +kernel⟩
theorem v_B_write : jMV M_B_write 0 1 := ⟨j_in 274 (by decide +kernel) rfl, j_in 275 (by decide +kernel) rfl, j_in 276 (by decide +kernel) rfl, j_in 1 (by decide +kernel) rfl, ⟨by decide, by decide⟩, by decide +kernel, T_B, 7, rfl⟩
theorem v_T_canTake : jMV M_T_canTake 3 1 := ⟨j_in 278 (by decide +kernel) rfl, j_in 279 (by decide +kernel) rfl, j_in 280 (by decide +kernel) rfl, j_in 4 (by decide +kernel) rfl, ⟨by decide, by decide⟩, by decide +kernel, T_T, 2, rfl⟩
theorem s_T_codeOf : jMS M_T_codeOf 2 := ⟨j_in 282 (by decide +kernel) rfl, j_in 283 (by decide +kernel) rfl, j_in 4 (by decide +kernel) rfl, ⟨by decide, by decide⟩, by decide +kernel⟩
theorem v_T_append : jMV M_T_append 3 1 := ⟨j_in 286 (by decide +kernel) rfl, j_in 287 (by decide +kernel) rfl, j_in 288 (by decide +kernel) rfl, j_in 4 (by decide +kernel) rfl, ⟨by decide, by decide⟩, by decide +kernel, T_T, 2, rfl⟩
theorem v_B_wipe : jMV M_B_wipe 0 0 := ⟨j_in 290 (by decide +kernel) rfl, j_in 291 (by decide +kernel) rfl, j_in 292 (by decide +kernel) rfl, j_in 1 (by decide +kernel) rfl, ⟨by decide, by decide⟩, by decide +kernel, T_B, 7, rfl⟩
theorem v_T_length : jMV M_T_length 3 0 := ⟨j_in 294 (by decide +kernel) rfl, j_in 295 (by decide +kernel) rfl, j_in 296 (by decide +kernel) rfl, j_in 4 (by decide +kernel) rfl, ⟨by decide, by decide⟩, by decide +kernel, T_T, 2, rfl⟩
theorem v_T_clear : jMV M_T_clear 3 0 := ⟨j_in 298 (by decide +kernel) rfl, j_in 299 (by decide +kernel) rfl, j_in 300 (by decide +kernel) rfl, j_in 4 (by decide +kernel) rfl, ⟨by decide, by decide⟩, by decide +kernel, T_T, 2, rfl⟩
theorem v_B_place : jMV M_B_place 0 0 := ⟨j_in 302 (by decide +kernel) rfl, j_in 303 (by decide +kernel) rfl, j_in 304 (by decide +kernel) rfl, j_in 1 (by decide +kernel) rfl, ⟨by decide, by decide⟩, by decide +kernel, T_B, 7, rfl⟩
theorem v_S_wrongAt : jMV M_S_wrongAt 8 0 := ⟨j_in 306 (by decide +kernel) rfl, j_in 307 (by decide +kernel) rfl, j_in 308 (by decide +kernel) rfl, j_in 5 (by decide +kernel) rfl, ⟨by decide, by decide⟩, by decide +kernel, T_S, 11, rfl⟩
theorem v_B_refused : jMV M_B_refused 0 0 := ⟨j_in 310 (by decide +kernel) rfl, j_in 311 (by decide +kernel) rfl, j_in 312 (by decide +kernel) rfl, j_in 1 (by decide +kernel) rfl, ⟨by decide, by decide⟩, by decide +kernel, T_B, 7, rfl⟩
theorem v_B_field : jMV M_B_field 0 4 := ⟨j_in 319 (by decide +kernel) rfl, j_in 320 (by decide +kernel) rfl, j_in 321 (by decide +kernel) rfl, j_in 1 (by decide +kernel) rfl, ⟨by decide, by decide⟩, by decide +kernel, T_B, 7, rfl⟩
theorem v_F_isNewName : jMV M_F_isNewName 1 1 := ⟨j_in 323 (by decide +kernel) rfl, j_in 324 (by decide +kernel) rfl, j_in 325 (by decide +kernel) rfl, j_in 2 (by decide +kernel) rfl, ⟨by decide, by decide⟩, by decide +kernel, T_F, 6, rfl⟩
theorem v_F_indexOf : jMV M_F_indexOf 1 1 := ⟨j_in 327 (by decide +kernel) rfl, j_in 328 (by decide +kernel) rfl, j_in 329 (by decide +kernel) rfl, j_in 2 (by decide +kernel) rfl, ⟨by decide, by decide⟩, by decide +kernel, T_F, 6, rfl⟩
theorem v_F_isOpenGround : jMV M_F_isOpenGround 1 2 := ⟨j_in 331 (by decide +kernel) rfl, j_in 332 (by decide +kernel) rfl, j_in 333 (by decide +kernel) rfl, j_in 2 (by decide +kernel) rfl, ⟨by decide, by decide⟩, by decide +kernel, T_F, 6, rfl⟩
theorem s_F_ground : jMS M_F_ground 2 := ⟨j_in 335 (by decide +kernel) rfl, j_in 336 (by decide +kernel) rfl, j_in 2 (by decide +kernel) rfl, ⟨by decide, by decide⟩, by decide +kernel⟩
theorem v_F_isFull : jMV M_F_isFull 1 0 := ⟨j_in 402 (by decide +kernel) rfl, j_in 403 (by decide +kernel) rfl, j_in 404 (by decide +kernel) rfl, j_in 2 (by decide +kernel) rfl, ⟨by decide, by decide⟩, by decide +kernel, T_F, 6, rfl⟩
theorem v_F_append : jMV M_F_append 1 4 := ⟨j_in 421 (by decide +kernel) rfl, j_in 422 (by decide +kernel) rfl, j_in 423 (by decide +kernel) rfl, j_in 2 (by decide +kernel) rfl, ⟨by decide, by decide⟩, by decide +kernel, T_F, 6, rfl⟩
theorem v_B_insert : jMV M_B_insert 0 0 := ⟨j_in 429 (by decide +kernel) rfl, j_in 430 (by decide +kernel) rfl, j_in 431 (by decide +kernel) rfl, j_in 1 (by decide +kernel) rfl, ⟨by decide, by decide⟩, by decide +kernel, T_B, 7, rfl⟩
theorem v_W_free : jMV M_W_free 2 0 := ⟨j_in 433 (by decide +kernel) rfl, j_in 434 (by decide +kernel) rfl, j_in 435 (by decide +kernel) rfl, j_in 3 (by decide +kernel) rfl, ⟨by decide, by decide⟩, by decide +kernel, T_W, 3, rfl⟩
theorem v_W_occupy : jMV M_W_occupy 2 1 := ⟨j_in 452 (by decide +kernel) rfl, j_in 453 (by decide +kernel) rfl, j_in 454 (by decide +kernel) rfl, j_in 3 (by decide +kernel) rfl, ⟨by decide, by decide⟩, by decide +kernel, T_W, 3, rfl⟩
theorem v_B_remove : jMV M_B_remove 0 1 := ⟨j_in 459 (by decide +kernel) rfl, j_in 460 (by decide +kernel) rfl, j_in 461 (by decide +kernel) rfl, j_in 1 (by decide +kernel) rfl, ⟨by decide, by decide⟩, by decide +kernel, T_B, 7, rfl⟩
theorem v_B_requireWord : jMV M_B_requireWord 0 1 := ⟨j_in 464 (by decide +kernel) rfl, j_ip (n := 7) 1 (by decide +kernel), j_in 465 (by decide +kernel) rfl, j_in 1 (by decide +kernel) rfl, ⟨by decide, by decide⟩, by decide +kernel, T_B, 7, rfl⟩
theorem v_B_requireInUse : jMV M_B_requireInUse 0 1 := ⟨j_in 468 (by decide +kernel) rfl, j_ip (n := 7) 2 (by decide +kernel), j_in 469 (by decide +kernel) rfl, j_in 1 (by decide +kernel) rfl, ⟨by decide, by decide⟩, by decide +kernel, T_B, 7, rfl⟩
theorem v_W_release : jMV M_W_release 2 1 := ⟨j_in 472 (by decide +kernel) rfl, j_in 473 (by decide +kernel) rfl, j_in 474 (by decide +kernel) rfl, j_in 3 (by decide +kernel) rfl, ⟨by decide, by decide⟩, by decide +kernel, T_W, 3, rfl⟩
theorem v_B_put : jMV M_B_put 0 3 := ⟨j_in 479 (by decide +kernel) rfl, j_in 480 (by decide +kernel) rfl, j_in 481 (by decide +kernel) rfl, j_in 1 (by decide +kernel) rfl, ⟨by decide, by decide⟩, by decide +kernel, T_B, 7, rfl⟩
theorem v_B_requireField : jMV M_B_requireField 0 1 := ⟨j_in 484 (by decide +kernel) rfl, j_ip (n := 7) 3 (by decide +kernel), j_in 485 (by decide +kernel) rfl, j_in 1 (by decide +kernel) rfl, ⟨by decide, by decide⟩, by decide +kernel, T_B, 7, rfl⟩
theorem v_F_fits : jMV M_F_fits 1 2 := ⟨j_in 488 (by decide +kernel) rfl, j_in 489 (by decide +kernel) rfl, j_in 490 (by decide +kernel) rfl, j_in 2 (by decide +kernel) rfl, ⟨by decide, by decide⟩, by decide +kernel, T_F, 6, rfl⟩
theorem v_W_bitsOf : jMV M_W_bitsOf 2 1 := ⟨j_in 492 (by decide +kernel) rfl, j_in 493 (by decide +kernel) rfl, j_in 494 (by decide +kernel) rfl, j_in 3 (by decide +kernel) rfl, ⟨by decide, by decide⟩, by decide +kernel, T_W, 3, rfl⟩
theorem v_F_withValue : jMV M_F_withValue 1 3 := ⟨j_in 496 (by decide +kernel) rfl, j_in 497 (by decide +kernel) rfl, j_in 498 (by decide +kernel) rfl, j_in 2 (by decide +kernel) rfl, ⟨by decide, by decide⟩, by decide +kernel, T_F, 6, rfl⟩
theorem v_W_replace : jMV M_W_replace 2 2 := ⟨j_in 500 (by decide +kernel) rfl, j_in 501 (by decide +kernel) rfl, j_in 502 (by decide +kernel) rfl, j_in 3 (by decide +kernel) rfl, ⟨by decide, by decide⟩, by decide +kernel, T_W, 3, rfl⟩
theorem v_B_get : jMV M_B_get 0 2 := ⟨j_in 507 (by decide +kernel) rfl, j_in 508 (by decide +kernel) rfl, j_in 509 (by decide +kernel) rfl, j_in 1 (by decide +kernel) rfl, ⟨by decide, by decide⟩, by decide +kernel, T_B, 7, rfl⟩
theorem v_F_valueIn : jMV M_F_valueIn 1 2 := ⟨j_in 511 (by decide +kernel) rfl, j_in 512 (by decide +kernel) rfl, j_in 513 (by decide +kernel) rfl, j_in 2 (by decide +kernel) rfl, ⟨by decide, by decide⟩, by decide +kernel, T_F, 6, rfl⟩
theorem v_B_bit : jMV M_B_bit 0 2 := ⟨j_in 518 (by decide +kernel) rfl, j_in 519 (by decide +kernel) rfl, j_in 520 (by decide +kernel) rfl, j_in 1 (by decide +kernel) rfl, ⟨by decide, by decide⟩, by decide +kernel, T_B, 7, rfl⟩
theorem v_B_multi : jMV M_B_multi 0 2 := ⟨j_in 525 (by decide +kernel) rfl, j_in 526 (by decide +kernel) rfl, j_in 527 (by decide +kernel) rfl, j_in 1 (by decide +kernel) rfl, ⟨by decide, by decide⟩, by decide +kernel, T_B, 7, rfl⟩
theorem v_W_overwrite : jMV M_W_overwrite 2 3 := ⟨j_in 530 (by decide +kernel) rfl, j_in 531 (by decide +kernel) rfl, j_in 532 (by decide +kernel) rfl, j_in 3 (by decide +kernel) rfl, ⟨by decide, by decide⟩, by decide +kernel, T_W, 3, rfl⟩
theorem v_B_responds : jMV M_B_responds 0 1 := ⟨j_in 537 (by decide +kernel) rfl, j_in 538 (by decide +kernel) rfl, j_in 539 (by decide +kernel) rfl, j_in 1 (by decide +kernel) rfl, ⟨by decide, by decide⟩, by decide +kernel, T_B, 7, rfl⟩
theorem v_B_run : jMV M_B_run 0 0 := ⟨j_in 544 (by decide +kernel) rfl, j_in 545 (by decide +kernel) rfl, j_in 546 (by decide +kernel) rfl, j_in 1 (by decide +kernel) rfl, ⟨by decide, by decide⟩, by decide +kernel, T_B, 7, rfl⟩
theorem v_S_read : jMV M_S_read 8 0 := ⟨j_in 548 (by decide +kernel) rfl, j_in 549 (by decide +kernel) rfl, j_in 550 (by decide +kernel) rfl, j_in 5 (by decide +kernel) rfl, ⟨by decide, by decide⟩, by decide +kernel, T_S, 11, rfl⟩
theorem v_K_cut : jMV M_K_cut 4 0 := ⟨j_in 552 (by decide +kernel) rfl, j_in 553 (by decide +kernel) rfl, j_in 554 (by decide +kernel) rfl, j_in 6 (by decide +kernel) rfl, ⟨by decide, by decide⟩, by decide +kernel, T_K, 6, rfl⟩
theorem v_T_at : jMV M_T_at 3 1 := ⟨j_in 557 (by decide +kernel) rfl, j_in 558 (by decide +kernel) rfl, j_in 559 (by decide +kernel) rfl, j_in 4 (by decide +kernel) rfl, ⟨by decide, by decide⟩, by decide +kernel, T_T, 2, rfl⟩
theorem v_K_cutOne : jMV M_K_cutOne 4 1 := ⟨j_in 562 (by decide +kernel) rfl, j_ip (n := 6) 4 (by decide +kernel), j_in 563 (by decide +kernel) rfl, j_in 6 (by decide +kernel) rfl, ⟨by decide, by decide⟩, by decide +kernel, T_K, 6, rfl⟩
theorem s_K_isBetween : jMS M_K_isBetween 3 := ⟨j_in 565 (by decide +kernel) rfl, j_in 566 (by decide +kernel) rfl, j_in 6 (by decide +kernel) rfl, ⟨by decide, by decide⟩, by decide +kernel⟩
theorem v_K_endOf : jMV M_K_endOf 4 3 := ⟨j_in 569 (by decide +kernel) rfl, j_ip (n := 6) 5 (by decide +kernel), j_in 570 (by decide +kernel) rfl, j_in 6 (by decide +kernel) rfl, ⟨by decide, by decide⟩, by decide +kernel, T_K, 6, rfl⟩
theorem v_K_append : jMV M_K_append 4 3 := ⟨j_in 573 (by decide +kernel) rfl, j_ip (n := 6) 6 (by decide +kernel), j_in 574 (by decide +kernel) rfl, j_in 6 (by decide +kernel) rfl, ⟨by decide, by decide⟩, by decide +kernel, T_K, 6, rfl⟩
theorem s_JStringLatin1_indexOf : jMS M_JStringLatin1_indexOf 4 := ⟨j_in 599 (by decide +kernel) rfl, j_in 600 (by decide +kernel) rfl, j_in 21 (by decide +kernel) rfl, ⟨by decide, by decide⟩, by decide +kernel⟩
theorem s_JStringLatin1_canEncode : jMS M_JStringLatin1_canEncode 1 := ⟨j_in 602 (by decide +kernel) rfl, j_in 603 (by decide +kernel) rfl, j_in 21 (by decide +kernel) rfl, ⟨by decide, by decide⟩, by decide +kernel⟩
theorem s_JMath_max : jMS M_JMath_max 2 := ⟨j_in 605 (by decide +kernel) rfl, j_in 606 (by decide +kernel) rfl, j_in 22 (by decide +kernel) rfl, ⟨by decide, by decide⟩, by decide +kernel⟩
theorem s_JMath_min : jMS M_JMath_min 2 := ⟨j_in 608 (by decide +kernel) rfl, j_in 609 (by decide +kernel) rfl, j_in 22 (by decide +kernel) rfl, ⟨by decide, by decide⟩, by decide +kernel⟩
theorem s_JStringLatin1_indexOfChar : jMS M_JStringLatin1_indexOfChar 4 := ⟨j_in 611 (by decide +kernel) rfl, j_in 612 (by decide +kernel) rfl, j_in 21 (by decide +kernel) rfl, ⟨by decide, by decide⟩, by decide +kernel⟩
theorem v_K_isWord : jMV M_K_isWord 4 1 := ⟨j_in 665 (by decide +kernel) rfl, j_in 666 (by decide +kernel) rfl, j_in 667 (by decide +kernel) rfl, j_in 6 (by decide +kernel) rfl, ⟨by decide, by decide⟩, by decide +kernel, T_K, 6, rfl⟩
theorem s_JStringLatin1_charAt : jMS M_JStringLatin1_charAt 2 := ⟨j_in 674 (by decide +kernel) rfl, j_in 675 (by decide +kernel) rfl, j_in 21 (by decide +kernel) rfl, ⟨by decide, by decide⟩, by decide +kernel⟩
theorem s_JString_checkIndex : jMS M_JString_checkIndex 2 := ⟨j_in 677 (by decide +kernel) rfl, j_in 678 (by decide +kernel) rfl, j_in 20 (by decide +kernel) rfl, ⟨by decide, by decide⟩, by decide +kernel⟩
theorem s_JPreconditions_checkIndex : jMS M_JPreconditions_checkIndex 3 := ⟨j_in 680 (by decide +kernel) rfl, j_in 681 (by decide +kernel) rfl, j_in 24 (by decide +kernel) rfl, ⟨by decide, by decide⟩, by decide +kernel⟩
theorem v_K_advance : jMV M_K_advance 4 0 := ⟨j_in 690 (by decide +kernel) rfl, j_in 691 (by decide +kernel) rfl, j_in 692 (by decide +kernel) rfl, j_in 6 (by decide +kernel) rfl, ⟨by decide, by decide⟩, by decide +kernel, T_K, 6, rfl⟩
theorem v_S_readCondition : jMV M_S_readCondition 8 1 := ⟨j_in 695 (by decide +kernel) rfl, j_ip (n := 11) 7 (by decide +kernel), j_in 696 (by decide +kernel) rfl, j_in 5 (by decide +kernel) rfl, ⟨by decide, by decide⟩, by decide +kernel, T_S, 11, rfl⟩
theorem v_S_readClause : jMV M_S_readClause 8 1 := ⟨j_in 699 (by decide +kernel) rfl, j_ip (n := 11) 8 (by decide +kernel), j_in 700 (by decide +kernel) rfl, j_in 5 (by decide +kernel) rfl, ⟨by decide, by decide⟩, by decide +kernel, T_S, 11, rfl⟩
theorem v_S_readOne : jMV M_S_readOne 8 1 := ⟨j_in 703 (by decide +kernel) rfl, j_ip (n := 11) 9 (by decide +kernel), j_in 704 (by decide +kernel) rfl, j_in 5 (by decide +kernel) rfl, ⟨by decide, by decide⟩, by decide +kernel, T_S, 11, rfl⟩
theorem v_K_isSign : jMV M_K_isSign 4 1 := ⟨j_in 706 (by decide +kernel) rfl, j_in 707 (by decide +kernel) rfl, j_in 708 (by decide +kernel) rfl, j_in 6 (by decide +kernel) rfl, ⟨by decide, by decide⟩, by decide +kernel, T_K, 6, rfl⟩
theorem v_S_readComparison : jMV M_S_readComparison 8 0 := ⟨j_in 711 (by decide +kernel) rfl, j_ip (n := 11) 10 (by decide +kernel), j_in 712 (by decide +kernel) rfl, j_in 5 (by decide +kernel) rfl, ⟨by decide, by decide⟩, by decide +kernel, T_S, 11, rfl⟩
theorem v_S_readOperand : jMV M_S_readOperand 8 1 := ⟨j_in 715 (by decide +kernel) rfl, j_ip (n := 11) 11 (by decide +kernel), j_in 716 (by decide +kernel) rfl, j_in 5 (by decide +kernel) rfl, ⟨by decide, by decide⟩, by decide +kernel, T_S, 11, rfl⟩
theorem v_K_isNumber : jMV M_K_isNumber 4 0 := ⟨j_in 718 (by decide +kernel) rfl, j_in 719 (by decide +kernel) rfl, j_in 720 (by decide +kernel) rfl, j_in 6 (by decide +kernel) rfl, ⟨by decide, by decide⟩, by decide +kernel, T_K, 6, rfl⟩
theorem v_K_number : jMV M_K_number 4 0 := ⟨j_in 722 (by decide +kernel) rfl, j_in 723 (by decide +kernel) rfl, j_in 724 (by decide +kernel) rfl, j_in 6 (by decide +kernel) rfl, ⟨by decide, by decide⟩, by decide +kernel, T_K, 6, rfl⟩
theorem v_O_becomeNumber : jMV M_O_becomeNumber 5 1 := ⟨j_in 726 (by decide +kernel) rfl, j_in 727 (by decide +kernel) rfl, j_in 728 (by decide +kernel) rfl, j_in 8 (by decide +kernel) rfl, ⟨by decide, by decide⟩, by decide +kernel, T_O, 3, rfl⟩
theorem v_S_refuse : jMV M_S_refuse 8 0 := ⟨j_in 731 (by decide +kernel) rfl, j_ip (n := 11) 12 (by decide +kernel), j_in 732 (by decide +kernel) rfl, j_in 5 (by decide +kernel) rfl, ⟨by decide, by decide⟩, by decide +kernel, T_S, 11, rfl⟩
theorem v_K_start : jMV M_K_start 4 0 := ⟨j_in 734 (by decide +kernel) rfl, j_in 735 (by decide +kernel) rfl, j_in 736 (by decide +kernel) rfl, j_in 6 (by decide +kernel) rfl, ⟨by decide, by decide⟩, by decide +kernel, T_K, 6, rfl⟩
theorem v_S_readField : jMV M_S_readField 8 0 := ⟨j_in 741 (by decide +kernel) rfl, j_ip (n := 11) 13 (by decide +kernel), j_in 742 (by decide +kernel) rfl, j_in 5 (by decide +kernel) rfl, ⟨by decide, by decide⟩, by decide +kernel, T_S, 11, rfl⟩
theorem v_K_isLetter : jMV M_K_isLetter 4 0 := ⟨j_in 744 (by decide +kernel) rfl, j_in 745 (by decide +kernel) rfl, j_in 746 (by decide +kernel) rfl, j_in 6 (by decide +kernel) rfl, ⟨by decide, by decide⟩, by decide +kernel, T_K, 6, rfl⟩
theorem v_K_letter : jMV M_K_letter 4 0 := ⟨j_in 748 (by decide +kernel) rfl, j_in 749 (by decide +kernel) rfl, j_in 750 (by decide +kernel) rfl, j_in 6 (by decide +kernel) rfl, ⟨by decide, by decide⟩, by decide +kernel, T_K, 6, rfl⟩
theorem v_O_becomeField : jMV M_O_becomeField 5 1 := ⟨j_in 753 (by decide +kernel) rfl, j_in 754 (by decide +kernel) rfl, j_in 755 (by decide +kernel) rfl, j_in 8 (by decide +kernel) rfl, ⟨by decide, by decide⟩, by decide +kernel, T_O, 3, rfl⟩
theorem v_S_readSign : jMV M_S_readSign 8 3 := ⟨j_in 758 (by decide +kernel) rfl, j_ip (n := 11) 14 (by decide +kernel), j_in 759 (by decide +kernel) rfl, j_in 5 (by decide +kernel) rfl, ⟨by decide, by decide⟩, by decide +kernel, T_S, 11, rfl⟩
theorem v_P_isTrueIn : jMV M_P_isTrueIn 6 1 := ⟨j_in 762 (by decide +kernel) rfl, j_in 763 (by decide +kernel) rfl, j_in 764 (by decide +kernel) rfl, j_in 7 (by decide +kernel) rfl, ⟨by decide, by decide⟩, by decide +kernel, T_P, 3, rfl⟩
theorem v_O_valueIn : jMV M_O_valueIn 5 1 := ⟨j_in 766 (by decide +kernel) rfl, j_in 767 (by decide +kernel) rfl, j_in 768 (by decide +kernel) rfl, j_in 8 (by decide +kernel) rfl, ⟨by decide, by decide⟩, by decide +kernel, T_O, 3, rfl⟩
theorem s_JInteger_compare : jMS M_JInteger_compare 2 := ⟨j_in 771 (by decide +kernel) rfl, j_in 772 (by decide +kernel) rfl, j_in 19 (by decide +kernel) rfl, ⟨by decide, by decide⟩, by decide +kernel⟩
theorem v_S_passSign : jMV M_S_passSign 8 1 := ⟨j_in 775 (by decide +kernel) rfl, j_ip (n := 11) 15 (by decide +kernel), j_in 776 (by decide +kernel) rfl, j_in 5 (by decide +kernel) rfl, ⟨by decide, by decide⟩, by decide +kernel, T_S, 11, rfl⟩
theorem v_S_readAction : jMV M_S_readAction 8 0 := ⟨j_in 779 (by decide +kernel) rfl, j_ip (n := 11) 16 (by decide +kernel), j_in 780 (by decide +kernel) rfl, j_in 5 (by decide +kernel) rfl, ⟨by decide, by decide⟩, by decide +kernel, T_S, 11, rfl⟩
theorem v_S_readVerb : jMV M_S_readVerb 8 0 := ⟨j_in 783 (by decide +kernel) rfl, j_ip (n := 11) 17 (by decide +kernel), j_in 784 (by decide +kernel) rfl, j_in 5 (by decide +kernel) rfl, ⟨by decide, by decide⟩, by decide +kernel, T_S, 11, rfl⟩
theorem v_S_readChange : jMV M_S_readChange 8 1 := ⟨j_in 795 (by decide +kernel) rfl, j_ip (n := 11) 18 (by decide +kernel), j_in 796 (by decide +kernel) rfl, j_in 5 (by decide +kernel) rfl, ⟨by decide, by decide⟩, by decide +kernel, T_S, 11, rfl⟩
theorem v_K_isEnd : jMV M_K_isEnd 4 0 := ⟨j_in 798 (by decide +kernel) rfl, j_in 799 (by decide +kernel) rfl, j_in 800 (by decide +kernel) rfl, j_in 6 (by decide +kernel) rfl, ⟨by decide, by decide⟩, by decide +kernel, T_K, 6, rfl⟩
theorem v_S_lacksWord : jMV M_S_lacksWord 8 0 := ⟨j_in 802 (by decide +kernel) rfl, j_in 803 (by decide +kernel) rfl, j_in 804 (by decide +kernel) rfl, j_in 5 (by decide +kernel) rfl, ⟨by decide, by decide⟩, by decide +kernel, T_S, 11, rfl⟩
theorem v_S_taken : jMV M_S_taken 8 0 := ⟨j_in 810 (by decide +kernel) rfl, j_in 811 (by decide +kernel) rfl, j_in 812 (by decide +kernel) rfl, j_in 5 (by decide +kernel) rfl, ⟨by decide, by decide⟩, by decide +kernel, T_S, 11, rfl⟩
theorem v_B_carryOut : jMV M_B_carryOut 0 1 := ⟨j_in 815 (by decide +kernel) rfl, j_ip (n := 7) 19 (by decide +kernel), j_in 816 (by decide +kernel) rfl, j_in 1 (by decide +kernel) rfl, ⟨by decide, by decide⟩, by decide +kernel, T_B, 7, rfl⟩
theorem v_S_subject : jMV M_S_subject 8 0 := ⟨j_in 818 (by decide +kernel) rfl, j_in 819 (by decide +kernel) rfl, j_in 820 (by decide +kernel) rfl, j_in 5 (by decide +kernel) rfl, ⟨by decide, by decide⟩, by decide +kernel, T_S, 11, rfl⟩
theorem v_S_action : jMV M_S_action 8 0 := ⟨j_in 824 (by decide +kernel) rfl, j_in 825 (by decide +kernel) rfl, j_in 826 (by decide +kernel) rfl, j_in 5 (by decide +kernel) rfl, ⟨by decide, by decide⟩, by decide +kernel, T_S, 11, rfl⟩
theorem v_B_changeAll : jMV M_B_changeAll 0 1 := ⟨j_in 835 (by decide +kernel) rfl, j_ip (n := 7) 20 (by decide +kernel), j_in 836 (by decide +kernel) rfl, j_in 1 (by decide +kernel) rfl, ⟨by decide, by decide⟩, by decide +kernel, T_B, 7, rfl⟩
theorem v_S_canChange : jMV M_S_canChange 8 1 := ⟨j_in 838 (by decide +kernel) rfl, j_in 839 (by decide +kernel) rfl, j_in 840 (by decide +kernel) rfl, j_in 5 (by decide +kernel) rfl, ⟨by decide, by decide⟩, by decide +kernel, T_S, 11, rfl⟩
theorem v_C_fitsIn : jMV M_C_fitsIn 7 1 := ⟨j_in 842 (by decide +kernel) rfl, j_in 843 (by decide +kernel) rfl, j_in 844 (by decide +kernel) rfl, j_in 9 (by decide +kernel) rfl, ⟨by decide, by decide⟩, by decide +kernel, T_C, 3, rfl⟩
theorem v_P_resultIn : jMV M_P_resultIn 6 1 := ⟨j_in 846 (by decide +kernel) rfl, j_in 847 (by decide +kernel) rfl, j_in 848 (by decide +kernel) rfl, j_in 7 (by decide +kernel) rfl, ⟨by decide, by decide⟩, by decide +kernel, T_P, 3, rfl⟩
theorem v_S_changed : jMV M_S_changed 8 1 := ⟨j_in 851 (by decide +kernel) rfl, j_in 852 (by decide +kernel) rfl, j_in 853 (by decide +kernel) rfl, j_in 5 (by decide +kernel) rfl, ⟨by decide, by decide⟩, by decide +kernel, T_S, 11, rfl⟩
theorem v_C_appliedTo : jMV M_C_appliedTo 7 2 := ⟨j_in 855 (by decide +kernel) rfl, j_in 856 (by decide +kernel) rfl, j_in 857 (by decide +kernel) rfl, j_in 9 (by decide +kernel) rfl, ⟨by decide, by decide⟩, by decide +kernel, T_C, 3, rfl⟩
theorem v_B_greatest : jMV M_B_greatest 0 2 := ⟨j_in 861 (by decide +kernel) rfl, j_ip (n := 7) 21 (by decide +kernel), j_in 862 (by decide +kernel) rfl, j_in 1 (by decide +kernel) rfl, ⟨by decide, by decide⟩, by decide +kernel, T_B, 7, rfl⟩
theorem v_B_valueOf : jMV M_B_valueOf 0 2 := ⟨j_in 865 (by decide +kernel) rfl, j_ip (n := 7) 22 (by decide +kernel), j_in 866 (by decide +kernel) rfl, j_in 1 (by decide +kernel) rfl, ⟨by decide, by decide⟩, by decide +kernel, T_B, 7, rfl⟩
theorem v_B_least : jMV M_B_least 0 2 := ⟨j_in 870 (by decide +kernel) rfl, j_ip (n := 7) 23 (by decide +kernel), j_in 871 (by decide +kernel) rfl, j_in 1 (by decide +kernel) rfl, ⟨by decide, by decide⟩, by decide +kernel, T_B, 7, rfl⟩
theorem v_B_total : jMV M_B_total 0 2 := ⟨j_in 875 (by decide +kernel) rfl, j_ip (n := 7) 24 (by decide +kernel), j_in 876 (by decide +kernel) rfl, j_in 1 (by decide +kernel) rfl, ⟨by decide, by decide⟩, by decide +kernel, T_B, 7, rfl⟩
theorem v_B_listAll : jMV M_B_listAll 0 2 := ⟨j_in 879 (by decide +kernel) rfl, j_ip (n := 7) 25 (by decide +kernel), j_in 880 (by decide +kernel) rfl, j_in 1 (by decide +kernel) rfl, ⟨by decide, by decide⟩, by decide +kernel, T_B, 7, rfl⟩
theorem v_B_sortIn : jMV M_B_sortIn 0 2 := ⟨j_in 883 (by decide +kernel) rfl, j_ip (n := 7) 26 (by decide +kernel), j_in 884 (by decide +kernel) rfl, j_in 1 (by decide +kernel) rfl, ⟨by decide, by decide⟩, by decide +kernel, T_B, 7, rfl⟩
theorem v_B_listed : jMV M_B_listed 0 1 := ⟨j_in 892 (by decide +kernel) rfl, j_in 893 (by decide +kernel) rfl, j_in 894 (by decide +kernel) rfl, j_in 1 (by decide +kernel) rfl, ⟨by decide, by decide⟩, by decide +kernel, T_B, 7, rfl⟩
theorem i_M_init : jMI M_M_init 0 := ⟨j_in 913 (by decide +kernel) rfl, j_in 914 (by decide +kernel) rfl, rfl, rfl, rfl, j_in 12 (by decide +kernel) rfl, ⟨by decide, by decide⟩, by decide +kernel⟩
theorem v_M_thrown : jMV M_M_thrown 9 0 := ⟨j_in 1032 (by decide +kernel) rfl, j_in 1033 (by decide +kernel) rfl, j_in 1034 (by decide +kernel) rfl, j_in 12 (by decide +kernel) rfl, ⟨by decide, by decide⟩, by decide +kernel, T_M, 38, rfl⟩
theorem v_M_field : jMV M_M_field 9 4 := ⟨j_in 1036 (by decide +kernel) rfl, j_in 1037 (by decide +kernel) rfl, j_in 1038 (by decide +kernel) rfl, j_in 12 (by decide +kernel) rfl, ⟨by decide, by decide⟩, by decide +kernel, T_M, 38, rfl⟩
theorem v_M_fieldOf : jMV M_M_fieldOf 9 1 := ⟨j_in 1041 (by decide +kernel) rfl, j_ip (n := 38) 27 (by decide +kernel), j_in 1042 (by decide +kernel) rfl, j_in 12 (by decide +kernel) rfl, ⟨by decide, by decide⟩, by decide +kernel, T_M, 38, rfl⟩
theorem v_M_insert : jMV M_M_insert 9 0 := ⟨j_in 1044 (by decide +kernel) rfl, j_in 1045 (by decide +kernel) rfl, j_in 1046 (by decide +kernel) rfl, j_in 12 (by decide +kernel) rfl, ⟨by decide, by decide⟩, by decide +kernel, T_M, 38, rfl⟩
theorem v_M_remove : jMV M_M_remove 9 1 := ⟨j_in 1048 (by decide +kernel) rfl, j_in 1049 (by decide +kernel) rfl, j_in 1050 (by decide +kernel) rfl, j_in 12 (by decide +kernel) rfl, ⟨by decide, by decide⟩, by decide +kernel, T_M, 38, rfl⟩
theorem s_M_isWord : jMS M_M_isWord 1 := ⟨j_in 1052 (by decide +kernel) rfl, j_in 1053 (by decide +kernel) rfl, j_in 12 (by decide +kernel) rfl, ⟨by decide, by decide⟩, by decide +kernel⟩
theorem v_M_put : jMV M_M_put 9 3 := ⟨j_in 1055 (by decide +kernel) rfl, j_in 1056 (by decide +kernel) rfl, j_in 1057 (by decide +kernel) rfl, j_in 12 (by decide +kernel) rfl, ⟨by decide, by decide⟩, by decide +kernel, T_M, 38, rfl⟩
theorem v_M_fits : jMV M_M_fits 9 2 := ⟨j_in 1060 (by decide +kernel) rfl, j_ip (n := 38) 28 (by decide +kernel), j_in 1061 (by decide +kernel) rfl, j_in 12 (by decide +kernel) rfl, ⟨by decide, by decide⟩, by decide +kernel, T_M, 38, rfl⟩
theorem v_M_setValue : jMV M_M_setValue 9 3 := ⟨j_in 1064 (by decide +kernel) rfl, j_ip (n := 38) 29 (by decide +kernel), j_in 1065 (by decide +kernel) rfl, j_in 12 (by decide +kernel) rfl, ⟨by decide, by decide⟩, by decide +kernel, T_M, 38, rfl⟩
theorem v_M_get : jMV M_M_get 9 2 := ⟨j_in 1067 (by decide +kernel) rfl, j_in 1068 (by decide +kernel) rfl, j_in 1069 (by decide +kernel) rfl, j_in 12 (by decide +kernel) rfl, ⟨by decide, by decide⟩, by decide +kernel, T_M, 38, rfl⟩
theorem v_M_valueOf : jMV M_M_valueOf 9 2 := ⟨j_in 1072 (by decide +kernel) rfl, j_ip (n := 38) 30 (by decide +kernel), j_in 1073 (by decide +kernel) rfl, j_in 12 (by decide +kernel) rfl, ⟨by decide, by decide⟩, by decide +kernel, T_M, 38, rfl⟩
theorem v_M_bit : jMV M_M_bit 9 2 := ⟨j_in 1075 (by decide +kernel) rfl, j_in 1076 (by decide +kernel) rfl, j_in 1077 (by decide +kernel) rfl, j_in 12 (by decide +kernel) rfl, ⟨by decide, by decide⟩, by decide +kernel, T_M, 38, rfl⟩
theorem v_M_search : jMV M_M_search 9 3 := ⟨j_in 1079 (by decide +kernel) rfl, j_in 1080 (by decide +kernel) rfl, j_in 1081 (by decide +kernel) rfl, j_in 12 (by decide +kernel) rfl, ⟨by decide, by decide⟩, by decide +kernel, T_M, 38, rfl⟩
theorem v_M_multi : jMV M_M_multi 9 2 := ⟨j_in 1083 (by decide +kernel) rfl, j_in 1084 (by decide +kernel) rfl, j_in 1085 (by decide +kernel) rfl, j_in 12 (by decide +kernel) rfl, ⟨by decide, by decide⟩, by decide +kernel, T_M, 38, rfl⟩
theorem v_M_responds : jMV M_M_responds 9 1 := ⟨j_in 1088 (by decide +kernel) rfl, j_in 1089 (by decide +kernel) rfl, j_in 1090 (by decide +kernel) rfl, j_in 12 (by decide +kernel) rfl, ⟨by decide, by decide⟩, by decide +kernel, T_M, 38, rfl⟩
theorem v_M_first : jMV M_M_first 9 0 := ⟨j_in 1092 (by decide +kernel) rfl, j_in 1093 (by decide +kernel) rfl, j_in 1094 (by decide +kernel) rfl, j_in 12 (by decide +kernel) rfl, ⟨by decide, by decide⟩, by decide +kernel, T_M, 38, rfl⟩
theorem v_M_write : jMV M_M_write 9 1 := ⟨j_in 1096 (by decide +kernel) rfl, j_in 1097 (by decide +kernel) rfl, j_in 1098 (by decide +kernel) rfl, j_in 12 (by decide +kernel) rfl, ⟨by decide, by decide⟩, by decide +kernel, T_M, 38, rfl⟩
theorem v_M_wipe : jMV M_M_wipe 9 0 := ⟨j_in 1101 (by decide +kernel) rfl, j_in 1102 (by decide +kernel) rfl, j_in 1103 (by decide +kernel) rfl, j_in 12 (by decide +kernel) rfl, ⟨by decide, by decide⟩, by decide +kernel, T_M, 38, rfl⟩
theorem v_M_run : jMV M_M_run 9 0 := ⟨j_in 1105 (by decide +kernel) rfl, j_in 1106 (by decide +kernel) rfl, j_in 1107 (by decide +kernel) rfl, j_in 12 (by decide +kernel) rfl, ⟨by decide, by decide⟩, by decide +kernel, T_M, 38, rfl⟩
theorem v_M_readText : jMV M_M_readText 9 0 := ⟨j_in 1110 (by decide +kernel) rfl, j_ip (n := 38) 31 (by decide +kernel), j_in 1111 (by decide +kernel) rfl, j_in 12 (by decide +kernel) rfl, ⟨by decide, by decide⟩, by decide +kernel, T_M, 38, rfl⟩
theorem v_M_scan : jMV M_M_scan 9 1 := ⟨j_in 1114 (by decide +kernel) rfl, j_ip (n := 38) 32 (by decide +kernel), j_in 1115 (by decide +kernel) rfl, j_in 12 (by decide +kernel) rfl, ⟨by decide, by decide⟩, by decide +kernel, T_M, 38, rfl⟩
theorem v_M_see : jMV M_M_see 9 1 := ⟨j_in 1118 (by decide +kernel) rfl, j_ip (n := 38) 33 (by decide +kernel), j_in 1119 (by decide +kernel) rfl, j_in 12 (by decide +kernel) rfl, ⟨by decide, by decide⟩, by decide +kernel, T_M, 38, rfl⟩
theorem s_M_isLetter : jMS M_M_isLetter 1 := ⟨j_in 1121 (by decide +kernel) rfl, j_in 1122 (by decide +kernel) rfl, j_in 12 (by decide +kernel) rfl, ⟨by decide, by decide⟩, by decide +kernel⟩
theorem s_M_isDigit : jMS M_M_isDigit 1 := ⟨j_in 1124 (by decide +kernel) rfl, j_in 1125 (by decide +kernel) rfl, j_in 12 (by decide +kernel) rfl, ⟨by decide, by decide⟩, by decide +kernel⟩
theorem s_M_isSign : jMS M_M_isSign 1 := ⟨j_in 1127 (by decide +kernel) rfl, j_in 1128 (by decide +kernel) rfl, j_in 12 (by decide +kernel) rfl, ⟨by decide, by decide⟩, by decide +kernel⟩
theorem v_M_next : jMV M_M_next 9 1 := ⟨j_in 1132 (by decide +kernel) rfl, j_ip (n := 38) 34 (by decide +kernel), j_in 1133 (by decide +kernel) rfl, j_in 12 (by decide +kernel) rfl, ⟨by decide, by decide⟩, by decide +kernel, T_M, 38, rfl⟩
theorem v_M_start : jMV M_M_start 9 0 := ⟨j_in 1136 (by decide +kernel) rfl, j_ip (n := 38) 35 (by decide +kernel), j_in 1137 (by decide +kernel) rfl, j_in 12 (by decide +kernel) rfl, ⟨by decide, by decide⟩, by decide +kernel, T_M, 38, rfl⟩
theorem v_M_emit : jMV M_M_emit 9 2 := ⟨j_in 1141 (by decide +kernel) rfl, j_ip (n := 38) 36 (by decide +kernel), j_in 1142 (by decide +kernel) rfl, j_in 12 (by decide +kernel) rfl, ⟨by decide, by decide⟩, by decide +kernel, T_M, 38, rfl⟩
theorem v_M_act : jMV M_M_act 9 0 := ⟨j_in 1145 (by decide +kernel) rfl, j_ip (n := 38) 37 (by decide +kernel), j_in 1146 (by decide +kernel) rfl, j_in 12 (by decide +kernel) rfl, ⟨by decide, by decide⟩, by decide +kernel, T_M, 38, rfl⟩
theorem s_M_actionOf : jMS M_M_actionOf 1 := ⟨j_in 1148 (by decide +kernel) rfl, j_in 1149 (by decide +kernel) rfl, j_in 12 (by decide +kernel) rfl, ⟨by decide, by decide⟩, by decide +kernel⟩
theorem v_M_one : jMV M_M_one 9 0 := ⟨j_in 1158 (by decide +kernel) rfl, j_ip (n := 38) 38 (by decide +kernel), j_in 1159 (by decide +kernel) rfl, j_in 12 (by decide +kernel) rfl, ⟨by decide, by decide⟩, by decide +kernel, T_M, 38, rfl⟩
theorem v_M_isIt : jMV M_M_isIt 9 1 := ⟨j_in 1162 (by decide +kernel) rfl, j_ip (n := 38) 39 (by decide +kernel), j_in 1163 (by decide +kernel) rfl, j_in 12 (by decide +kernel) rfl, ⟨by decide, by decide⟩, by decide +kernel, T_M, 38, rfl⟩
theorem v_M_push : jMV M_M_push 9 1 := ⟨j_in 1166 (by decide +kernel) rfl, j_ip (n := 38) 40 (by decide +kernel), j_in 1167 (by decide +kernel) rfl, j_in 12 (by decide +kernel) rfl, ⟨by decide, by decide⟩, by decide +kernel, T_M, 38, rfl⟩
theorem v_M_operand : jMV M_M_operand 9 2 := ⟨j_in 1170 (by decide +kernel) rfl, j_ip (n := 38) 41 (by decide +kernel), j_in 1171 (by decide +kernel) rfl, j_in 12 (by decide +kernel) rfl, ⟨by decide, by decide⟩, by decide +kernel, T_M, 38, rfl⟩
theorem v_M_wholeOne : jMV M_M_wholeOne 9 0 := ⟨j_in 1174 (by decide +kernel) rfl, j_ip (n := 38) 42 (by decide +kernel), j_in 1175 (by decide +kernel) rfl, j_in 12 (by decide +kernel) rfl, ⟨by decide, by decide⟩, by decide +kernel, T_M, 38, rfl⟩
theorem v_M_denied : jMV M_M_denied 9 0 := ⟨j_in 1178 (by decide +kernel) rfl, j_ip (n := 38) 43 (by decide +kernel), j_in 1179 (by decide +kernel) rfl, j_in 12 (by decide +kernel) rfl, ⟨by decide, by decide⟩, by decide +kernel, T_M, 38, rfl⟩
theorem v_M_upper : jMV M_M_upper 9 0 := ⟨j_in 1182 (by decide +kernel) rfl, j_ip (n := 38) 44 (by decide +kernel), j_in 1183 (by decide +kernel) rfl, j_in 12 (by decide +kernel) rfl, ⟨by decide, by decide⟩, by decide +kernel, T_M, 38, rfl⟩
theorem v_M_named : jMV M_M_named 9 0 := ⟨j_in 1186 (by decide +kernel) rfl, j_ip (n := 38) 45 (by decide +kernel), j_in 1187 (by decide +kernel) rfl, j_in 12 (by decide +kernel) rfl, ⟨by decide, by decide⟩, by decide +kernel, T_M, 38, rfl⟩
theorem v_M_negative : jMV M_M_negative 9 1 := ⟨j_in 1190 (by decide +kernel) rfl, j_ip (n := 38) 46 (by decide +kernel), j_in 1191 (by decide +kernel) rfl, j_in 12 (by decide +kernel) rfl, ⟨by decide, by decide⟩, by decide +kernel, T_M, 38, rfl⟩
theorem v_M_relate : jMV M_M_relate 9 0 := ⟨j_in 1194 (by decide +kernel) rfl, j_ip (n := 38) 47 (by decide +kernel), j_in 1195 (by decide +kernel) rfl, j_in 12 (by decide +kernel) rfl, ⟨by decide, by decide⟩, by decide +kernel, T_M, 38, rfl⟩
theorem v_M_afterOne : jMV M_M_afterOne 9 0 := ⟨j_in 1198 (by decide +kernel) rfl, j_ip (n := 38) 48 (by decide +kernel), j_in 1199 (by decide +kernel) rfl, j_in 12 (by decide +kernel) rfl, ⟨by decide, by decide⟩, by decide +kernel, T_M, 38, rfl⟩
theorem v_M_settle : jMV M_M_settle 9 2 := ⟨j_in 1202 (by decide +kernel) rfl, j_ip (n := 38) 49 (by decide +kernel), j_in 1203 (by decide +kernel) rfl, j_in 12 (by decide +kernel) rfl, ⟨by decide, by decide⟩, by decide +kernel, T_M, 38, rfl⟩
theorem v_M_pick : jMV M_M_pick 9 1 := ⟨j_in 1206 (by decide +kernel) rfl, j_ip (n := 38) 50 (by decide +kernel), j_in 1207 (by decide +kernel) rfl, j_in 12 (by decide +kernel) rfl, ⟨by decide, by decide⟩, by decide +kernel, T_M, 38, rfl⟩
theorem v_M_part : jMV M_M_part 9 4 := ⟨j_in 1210 (by decide +kernel) rfl, j_ip (n := 38) 51 (by decide +kernel), j_in 1211 (by decide +kernel) rfl, j_in 12 (by decide +kernel) rfl, ⟨by decide, by decide⟩, by decide +kernel, T_M, 38, rfl⟩
theorem v_M_afterFirst : jMV M_M_afterFirst 9 0 := ⟨j_in 1214 (by decide +kernel) rfl, j_ip (n := 38) 52 (by decide +kernel), j_in 1215 (by decide +kernel) rfl, j_in 12 (by decide +kernel) rfl, ⟨by decide, by decide⟩, by decide +kernel, T_M, 38, rfl⟩
theorem v_M_afterChange : jMV M_M_afterChange 9 0 := ⟨j_in 1218 (by decide +kernel) rfl, j_ip (n := 38) 53 (by decide +kernel), j_in 1219 (by decide +kernel) rfl, j_in 12 (by decide +kernel) rfl, ⟨by decide, by decide⟩, by decide +kernel, T_M, 38, rfl⟩
theorem v_M_isTaken : jMV M_M_isTaken 9 1 := ⟨j_in 1222 (by decide +kernel) rfl, j_ip (n := 38) 54 (by decide +kernel), j_in 1223 (by decide +kernel) rfl, j_in 12 (by decide +kernel) rfl, ⟨by decide, by decide⟩, by decide +kernel, T_M, 38, rfl⟩
theorem s_M_reckon : jMS M_M_reckon 3 := ⟨j_in 1225 (by decide +kernel) rfl, j_in 1226 (by decide +kernel) rfl, j_in 12 (by decide +kernel) rfl, ⟨by decide, by decide⟩, by decide +kernel⟩
theorem v_M_changeAll : jMV M_M_changeAll 9 0 := ⟨j_in 1229 (by decide +kernel) rfl, j_ip (n := 38) 55 (by decide +kernel), j_in 1230 (by decide +kernel) rfl, j_in 12 (by decide +kernel) rfl, ⟨by decide, by decide⟩, by decide +kernel, T_M, 38, rfl⟩
theorem v_M_change : jMV M_M_change 9 1 := ⟨j_in 1233 (by decide +kernel) rfl, j_ip (n := 38) 56 (by decide +kernel), j_in 1234 (by decide +kernel) rfl, j_in 12 (by decide +kernel) rfl, ⟨by decide, by decide⟩, by decide +kernel, T_M, 38, rfl⟩
theorem v_M_resultOf : jMV M_M_resultOf 9 2 := ⟨j_in 1237 (by decide +kernel) rfl, j_ip (n := 38) 57 (by decide +kernel), j_in 1238 (by decide +kernel) rfl, j_in 12 (by decide +kernel) rfl, ⟨by decide, by decide⟩, by decide +kernel, T_M, 38, rfl⟩
theorem v_M_listAll : jMV M_M_listAll 9 0 := ⟨j_in 1241 (by decide +kernel) rfl, j_ip (n := 38) 58 (by decide +kernel), j_in 1242 (by decide +kernel) rfl, j_in 12 (by decide +kernel) rfl, ⟨by decide, by decide⟩, by decide +kernel, T_M, 38, rfl⟩
theorem v_M_gather : jMV M_M_gather 9 0 := ⟨j_in 1245 (by decide +kernel) rfl, j_ip (n := 38) 59 (by decide +kernel), j_in 1246 (by decide +kernel) rfl, j_in 12 (by decide +kernel) rfl, ⟨by decide, by decide⟩, by decide +kernel, T_M, 38, rfl⟩
theorem v_M_place : jMV M_M_place 9 0 := ⟨j_in 1248 (by decide +kernel) rfl, j_in 1249 (by decide +kernel) rfl, j_in 1250 (by decide +kernel) rfl, j_in 12 (by decide +kernel) rfl, ⟨by decide, by decide⟩, by decide +kernel, T_M, 38, rfl⟩
theorem v_M_refused : jMV M_M_refused 9 0 := ⟨j_in 1252 (by decide +kernel) rfl, j_in 1253 (by decide +kernel) rfl, j_in 1254 (by decide +kernel) rfl, j_in 12 (by decide +kernel) rfl, ⟨by decide, by decide⟩, by decide +kernel, T_M, 38, rfl⟩
theorem v_M_listed : jMV M_M_listed 9 1 := ⟨j_in 1256 (by decide +kernel) rfl, j_in 1257 (by decide +kernel) rfl, j_in 1258 (by decide +kernel) rfl, j_in 12 (by decide +kernel) rfl, ⟨by decide, by decide⟩, by decide +kernel, T_M, 38, rfl⟩
theorem s_L_field : jMS M_L_field 5 := ⟨j_in 314 (by decide +kernel) rfl, j_in 315 (by decide +kernel) rfl, j_in 0 (by decide +kernel) rfl, ⟨by decide, by decide⟩, by decide +kernel⟩
theorem s_L_insert : jMS M_L_insert 2 := ⟨j_in 425 (by decide +kernel) rfl, j_in 426 (by decide +kernel) rfl, j_in 0 (by decide +kernel) rfl, ⟨by decide, by decide⟩, by decide +kernel⟩
theorem s_L_remove : jMS M_L_remove 2 := ⟨j_in 456 (by decide +kernel) rfl, j_in 457 (by decide +kernel) rfl, j_in 0 (by decide +kernel) rfl, ⟨by decide, by decide⟩, by decide +kernel⟩
theorem s_L_put : jMS M_L_put 4 := ⟨j_in 476 (by decide +kernel) rfl, j_in 477 (by decide +kernel) rfl, j_in 0 (by decide +kernel) rfl, ⟨by decide, by decide⟩, by decide +kernel⟩
theorem s_L_get : jMS M_L_get 4 := ⟨j_in 504 (by decide +kernel) rfl, j_in 505 (by decide +kernel) rfl, j_in 0 (by decide +kernel) rfl, ⟨by decide, by decide⟩, by decide +kernel⟩
theorem s_L_bit : jMS M_L_bit 4 := ⟨j_in 515 (by decide +kernel) rfl, j_in 516 (by decide +kernel) rfl, j_in 0 (by decide +kernel) rfl, ⟨by decide, by decide⟩, by decide +kernel⟩
theorem s_L_multi : jMS M_L_multi 3 := ⟨j_in 522 (by decide +kernel) rfl, j_in 523 (by decide +kernel) rfl, j_in 0 (by decide +kernel) rfl, ⟨by decide, by decide⟩, by decide +kernel⟩
theorem s_L_responds : jMS M_L_responds 3 := ⟨j_in 534 (by decide +kernel) rfl, j_in 535 (by decide +kernel) rfl, j_in 0 (by decide +kernel) rfl, ⟨by decide, by decide⟩, by decide +kernel⟩
theorem s_L_run : jMS M_L_run 2 := ⟨j_in 541 (by decide +kernel) rfl, j_in 542 (by decide +kernel) rfl, j_in 0 (by decide +kernel) rfl, ⟨by decide, by decide⟩, by decide +kernel⟩
theorem s_L_listed : jMS M_L_listed 3 := ⟨j_in 888 (by decide +kernel) rfl, j_in 889 (by decide +kernel) rfl, j_in 0 (by decide +kernel) rfl, ⟨by decide, by decide⟩, by decide +kernel⟩
theorem l_L_56 : Cond.methodLink "BitLoomLaw" 56 y_B_init ∈ jt := j_in 30 (by decide +kernel) rfl
theorem l_B_3 : Cond.methodLink "BitLoom" 3 Lib.objectInit ∈ jt := j_in 33 (by decide +kernel) rfl
theorem l_B_11 : Cond.methodLink "BitLoom" 11 y_F_init ∈ jt := j_in 38 (by decide +kernel) rfl
theorem l_F_3 : Cond.methodLink "BitLoom$Fields" 3 Lib.objectInit ∈ jt := j_in 41 (by decide +kernel) rfl
theorem l_B_18 : Cond.methodLink "BitLoom" 18 y_W_init ∈ jt := j_in 66 (by decide +kernel) rfl
theorem l_W_3 : Cond.methodLink "BitLoom$Words" 3 Lib.objectInit ∈ jt := j_in 69 (by decide +kernel) rfl
theorem l_B_25 : Cond.methodLink "BitLoom" 25 y_T_init ∈ jt := j_in 82 (by decide +kernel) rfl
theorem l_T_3 : Cond.methodLink "BitLoom$Text" 3 Lib.objectInit ∈ jt := j_in 85 (by decide +kernel) rfl
theorem l_B_32 : Cond.methodLink "BitLoom" 32 y_S_init ∈ jt := j_in 95 (by decide +kernel) rfl
theorem l_S_3 : Cond.methodLink "BitLoom$Statement" 3 Lib.objectInit ∈ jt := j_in 98 (by decide +kernel) rfl
theorem l_S_21 : Cond.methodLink "BitLoom$Statement" 21 y_K_init ∈ jt := j_in 101 (by decide +kernel) rfl
theorem l_K_3 : Cond.methodLink "BitLoom$Tokens" 3 Lib.objectInit ∈ jt := j_in 104 (by decide +kernel) rfl
theorem l_S_30 : Cond.methodLink "BitLoom$Statement" 30 y_P_init ∈ jt := j_in 126 (by decide +kernel) rfl
theorem l_P_1 : Cond.methodLink "BitLoom$Pair" 1 Lib.objectInit ∈ jt := j_in 129 (by decide +kernel) rfl
theorem l_P_9 : Cond.methodLink "BitLoom$Pair" 9 y_O_init ∈ jt := j_in 132 (by decide +kernel) rfl
theorem l_O_3 : Cond.methodLink "BitLoom$Operand" 3 Lib.objectInit ∈ jt := j_in 135 (by decide +kernel) rfl
theorem l_S_39 : Cond.methodLink "BitLoom$Statement" 39 y_C_init ∈ jt := j_in 161 (by decide +kernel) rfl
theorem l_C_1 : Cond.methodLink "BitLoom$Change" 1 Lib.objectInit ∈ jt := j_in 164 (by decide +kernel) rfl
theorem l_C_15 : Cond.methodLink "BitLoom$Change" 15 y_P_init ∈ jt := j_in 166 (by decide +kernel) rfl
theorem l_L_89 : Cond.methodLink "BitLoomLaw" 89 y_B_search ∈ jt := j_in 237 (by decide +kernel) rfl
theorem l_B_111 : Cond.methodLink "BitLoom" 111 y_W_responding ∈ jt := j_in 241 (by decide +kernel) rfl
theorem l_B_114 : Cond.methodLink "BitLoom" 114 y_W_inUse ∈ jt := j_in 245 (by decide +kernel) rfl
theorem l_B_117 : Cond.methodLink "BitLoom" 117 y_W_matching ∈ jt := j_in 249 (by decide +kernel) rfl
theorem l_W_15 : Cond.methodLink "BitLoom$Words" 15 y_W_holds ∈ jt := j_in 253 (by decide +kernel) rfl
theorem l_B_120 : Cond.methodLink "BitLoom" 120 y_W_respondOnly ∈ jt := j_in 256 (by decide +kernel) rfl
theorem l_B_123 : Cond.methodLink "BitLoom" 123 y_JInteger_bitCount ∈ jt := j_in 260 (by decide +kernel) rfl
theorem l_L_102 : Cond.methodLink "BitLoomLaw" 102 y_B_first ∈ jt := j_in 266 (by decide +kernel) rfl
theorem l_B_69 : Cond.methodLink "BitLoom" 69 y_W_lowestOf ∈ jt := j_in 270 (by decide +kernel) rfl
theorem l_L_108 : Cond.methodLink "BitLoomLaw" 108 y_B_write ∈ jt := j_in 273 (by decide +kernel) rfl
theorem l_B_136 : Cond.methodLink "BitLoom" 136 y_T_canTake ∈ jt := j_in 277 (by decide +kernel) rfl
theorem l_T_19 : Cond.methodLink "BitLoom$Text" 19 y_T_codeOf ∈ jt := j_in 281 (by decide +kernel) rfl
theorem l_B_140 : Cond.methodLink "BitLoom" 140 y_T_append ∈ jt := j_in 285 (by decide +kernel) rfl
theorem l_L_113 : Cond.methodLink "BitLoomLaw" 113 y_B_wipe ∈ jt := j_in 289 (by decide +kernel) rfl
theorem l_B_143 : Cond.methodLink "BitLoom" 143 y_T_length ∈ jt := j_in 293 (by decide +kernel) rfl
theorem l_B_146 : Cond.methodLink "BitLoom" 146 y_T_clear ∈ jt := j_in 297 (by decide +kernel) rfl
theorem l_L_120 : Cond.methodLink "BitLoomLaw" 120 y_B_place ∈ jt := j_in 301 (by decide +kernel) rfl
theorem l_B_162 : Cond.methodLink "BitLoom" 162 y_S_wrongAt ∈ jt := j_in 305 (by decide +kernel) rfl
theorem l_L_124 : Cond.methodLink "BitLoomLaw" 124 y_B_refused ∈ jt := j_in 309 (by decide +kernel) rfl
theorem l_L_60 : Cond.methodLink "BitLoomLaw" 60 y_L_field ∈ jt := j_in 313 (by decide +kernel) rfl
theorem l_L_7 : Cond.methodLink "BitLoomLaw" 7 y_B_field ∈ jt := j_in 318 (by decide +kernel) rfl
theorem l_B_43 : Cond.methodLink "BitLoom" 43 y_F_isNewName ∈ jt := j_in 322 (by decide +kernel) rfl
theorem l_F_30 : Cond.methodLink "BitLoom$Fields" 30 y_F_indexOf ∈ jt := j_in 326 (by decide +kernel) rfl
theorem l_B_47 : Cond.methodLink "BitLoom" 47 y_F_isOpenGround ∈ jt := j_in 330 (by decide +kernel) rfl
theorem l_F_37 : Cond.methodLink "BitLoom$Fields" 37 y_F_ground ∈ jt := j_in 334 (by decide +kernel) rfl
theorem l_JThrowable_1 : Cond.methodLink "java/lang/Throwable" 1 Lib.objectInit ∈ jt := j_in 362 (by decide +kernel) rfl
theorem l_B_54 : Cond.methodLink "BitLoom" 54 y_F_isFull ∈ jt := j_in 401 (by decide +kernel) rfl
theorem l_B_61 : Cond.methodLink "BitLoom" 61 y_F_append ∈ jt := j_in 420 (by decide +kernel) rfl
theorem l_L_69 : Cond.methodLink "BitLoomLaw" 69 y_L_insert ∈ jt := j_in 424 (by decide +kernel) rfl
theorem l_L_17 : Cond.methodLink "BitLoomLaw" 17 y_B_insert ∈ jt := j_in 428 (by decide +kernel) rfl
theorem l_B_65 : Cond.methodLink "BitLoom" 65 y_W_free ∈ jt := j_in 432 (by decide +kernel) rfl
theorem l_B_76 : Cond.methodLink "BitLoom" 76 y_W_occupy ∈ jt := j_in 451 (by decide +kernel) rfl
theorem l_L_73 : Cond.methodLink "BitLoomLaw" 73 y_L_remove ∈ jt := j_in 455 (by decide +kernel) rfl
theorem l_L_23 : Cond.methodLink "BitLoomLaw" 23 y_B_remove ∈ jt := j_in 458 (by decide +kernel) rfl
theorem l_B_80 : Cond.methodLink "BitLoom" 80 y_B_requireWord ∈ jt := j_in 462 (by decide +kernel) rfl
theorem l_B_83 : Cond.methodLink "BitLoom" 83 y_B_requireInUse ∈ jt := j_in 466 (by decide +kernel) rfl
theorem l_B_133 : Cond.methodLink "BitLoom" 133 y_W_holds ∈ jt := j_in 470 (by decide +kernel) rfl
theorem l_B_86 : Cond.methodLink "BitLoom" 86 y_W_release ∈ jt := j_in 471 (by decide +kernel) rfl
theorem l_L_77 : Cond.methodLink "BitLoomLaw" 77 y_L_put ∈ jt := j_in 475 (by decide +kernel) rfl
theorem l_L_27 : Cond.methodLink "BitLoomLaw" 27 y_B_put ∈ jt := j_in 478 (by decide +kernel) rfl
theorem l_B_89 : Cond.methodLink "BitLoom" 89 y_B_requireField ∈ jt := j_in 482 (by decide +kernel) rfl
theorem l_B_175 : Cond.methodLink "BitLoom" 175 y_F_indexOf ∈ jt := j_in 486 (by decide +kernel) rfl
theorem l_B_93 : Cond.methodLink "BitLoom" 93 y_F_fits ∈ jt := j_in 487 (by decide +kernel) rfl
theorem l_B_96 : Cond.methodLink "BitLoom" 96 y_W_bitsOf ∈ jt := j_in 491 (by decide +kernel) rfl
theorem l_B_99 : Cond.methodLink "BitLoom" 99 y_F_withValue ∈ jt := j_in 495 (by decide +kernel) rfl
theorem l_B_103 : Cond.methodLink "BitLoom" 103 y_W_replace ∈ jt := j_in 499 (by decide +kernel) rfl
theorem l_L_81 : Cond.methodLink "BitLoomLaw" 81 y_L_get ∈ jt := j_in 503 (by decide +kernel) rfl
theorem l_L_31 : Cond.methodLink "BitLoomLaw" 31 y_B_get ∈ jt := j_in 506 (by decide +kernel) rfl
theorem l_B_107 : Cond.methodLink "BitLoom" 107 y_F_valueIn ∈ jt := j_in 510 (by decide +kernel) rfl
theorem l_L_85 : Cond.methodLink "BitLoomLaw" 85 y_L_bit ∈ jt := j_in 514 (by decide +kernel) rfl
theorem l_L_35 : Cond.methodLink "BitLoomLaw" 35 y_B_bit ∈ jt := j_in 517 (by decide +kernel) rfl
theorem l_L_94 : Cond.methodLink "BitLoomLaw" 94 y_L_multi ∈ jt := j_in 521 (by decide +kernel) rfl
theorem l_L_39 : Cond.methodLink "BitLoomLaw" 39 y_B_multi ∈ jt := j_in 524 (by decide +kernel) rfl
theorem l_B_129 : Cond.methodLink "BitLoom" 129 y_W_overwrite ∈ jt := j_in 529 (by decide +kernel) rfl
theorem l_L_98 : Cond.methodLink "BitLoomLaw" 98 y_L_responds ∈ jt := j_in 533 (by decide +kernel) rfl
theorem l_L_43 : Cond.methodLink "BitLoomLaw" 43 y_B_responds ∈ jt := j_in 536 (by decide +kernel) rfl
theorem l_L_117 : Cond.methodLink "BitLoomLaw" 117 y_L_run ∈ jt := j_in 540 (by decide +kernel) rfl
theorem l_L_47 : Cond.methodLink "BitLoomLaw" 47 y_B_run ∈ jt := j_in 543 (by decide +kernel) rfl
theorem l_B_149 : Cond.methodLink "BitLoom" 149 y_S_read ∈ jt := j_in 547 (by decide +kernel) rfl
theorem l_S_84 : Cond.methodLink "BitLoom$Statement" 84 y_K_cut ∈ jt := j_in 551 (by decide +kernel) rfl
theorem l_K_33 : Cond.methodLink "BitLoom$Tokens" 33 y_T_length ∈ jt := j_in 555 (by decide +kernel) rfl
theorem l_K_39 : Cond.methodLink "BitLoom$Tokens" 39 y_T_at ∈ jt := j_in 556 (by decide +kernel) rfl
theorem l_K_42 : Cond.methodLink "BitLoom$Tokens" 42 y_K_cutOne ∈ jt := j_in 560 (by decide +kernel) rfl
theorem l_K_56 : Cond.methodLink "BitLoom$Tokens" 56 y_K_isBetween ∈ jt := j_in 564 (by decide +kernel) rfl
theorem l_K_60 : Cond.methodLink "BitLoom$Tokens" 60 y_K_endOf ∈ jt := j_in 567 (by decide +kernel) rfl
theorem l_K_46 : Cond.methodLink "BitLoom$Tokens" 46 y_K_append ∈ jt := j_in 571 (by decide +kernel) rfl
theorem l_K_66 : Cond.methodLink "BitLoom$Tokens" 66 y_JString_indexOf0 ∈ jt := j_in 576 (by decide +kernel) rfl
theorem l_JString_633 : Cond.methodLink "java/lang/String" 633 y_JString_indexOf1 ∈ jt := j_in 580 (by decide +kernel) rfl
theorem l_JString_492 : Cond.methodLink "java/lang/String" 492 y_JString_isLatin1 ∈ jt := j_in 584 (by decide +kernel) rfl
theorem l_JString_505 : Cond.methodLink "java/lang/String" 505 y_JString_length ∈ jt := j_in 590 (by decide +kernel) rfl
theorem l_JString_335 : Cond.methodLink "java/lang/String" 335 y_JString_coder ∈ jt := j_in 594 (by decide +kernel) rfl
theorem l_JString_637 : Cond.methodLink "java/lang/String" 637 y_JStringLatin1_indexOf ∈ jt := j_in 598 (by decide +kernel) rfl
theorem l_JStringLatin1_88 : Cond.methodLink "java/lang/StringLatin1" 88 y_JStringLatin1_canEncode ∈ jt := j_in 601 (by decide +kernel) rfl
theorem l_JStringLatin1_92 : Cond.methodLink "java/lang/StringLatin1" 92 y_JMath_max ∈ jt := j_in 604 (by decide +kernel) rfl
theorem l_JStringLatin1_38 : Cond.methodLink "java/lang/StringLatin1" 38 y_JMath_min ∈ jt := j_in 607 (by decide +kernel) rfl
theorem l_JStringLatin1_95 : Cond.methodLink "java/lang/StringLatin1" 95 y_JStringLatin1_indexOfChar ∈ jt := j_in 610 (by decide +kernel) rfl
theorem l_JStringUTF16_224 : Cond.methodLink "java/lang/StringUTF16" 224 y_JMath_max ∈ jt := j_in 616 (by decide +kernel) rfl
theorem l_JStringUTF16_183 : Cond.methodLink "java/lang/StringUTF16" 183 y_JMath_min ∈ jt := j_in 617 (by decide +kernel) rfl
theorem l_S_87 : Cond.methodLink "BitLoom$Statement" 87 y_W_inUse ∈ jt := j_in 662 (by decide +kernel) rfl
theorem l_S_95 : Cond.methodLink "BitLoom$Statement" 95 y_K_isWord ∈ jt := j_in 664 (by decide +kernel) rfl
theorem l_K_50 : Cond.methodLink "BitLoom$Tokens" 50 y_JString_length ∈ jt := j_in 668 (by decide +kernel) rfl
theorem l_K_53 : Cond.methodLink "BitLoom$Tokens" 53 y_JString_charAt ∈ jt := j_in 669 (by decide +kernel) rfl
theorem l_JString_495 : Cond.methodLink "java/lang/String" 495 y_JStringLatin1_charAt ∈ jt := j_in 673 (by decide +kernel) rfl
theorem l_JStringLatin1_9 : Cond.methodLink "java/lang/StringLatin1" 9 y_JString_checkIndex ∈ jt := j_in 676 (by decide +kernel) rfl
theorem l_JString_1059 : Cond.methodLink "java/lang/String" 1059 y_JPreconditions_checkIndex ∈ jt := j_in 679 (by decide +kernel) rfl
theorem l_JStringUTF16_414 : Cond.methodLink "java/lang/StringUTF16" 414 y_JString_checkIndex ∈ jt := j_in 688 (by decide +kernel) rfl
theorem l_S_99 : Cond.methodLink "BitLoom$Statement" 99 y_K_advance ∈ jt := j_in 689 (by decide +kernel) rfl
theorem l_S_102 : Cond.methodLink "BitLoom$Statement" 102 y_S_readCondition ∈ jt := j_in 693 (by decide +kernel) rfl
theorem l_S_122 : Cond.methodLink "BitLoom$Statement" 122 y_S_readClause ∈ jt := j_in 697 (by decide +kernel) rfl
theorem l_S_129 : Cond.methodLink "BitLoom$Statement" 129 y_S_readOne ∈ jt := j_in 701 (by decide +kernel) rfl
theorem l_S_125 : Cond.methodLink "BitLoom$Statement" 125 y_K_isSign ∈ jt := j_in 705 (by decide +kernel) rfl
theorem l_S_132 : Cond.methodLink "BitLoom$Statement" 132 y_S_readComparison ∈ jt := j_in 709 (by decide +kernel) rfl
theorem l_S_143 : Cond.methodLink "BitLoom$Statement" 143 y_S_readOperand ∈ jt := j_in 713 (by decide +kernel) rfl
theorem l_S_191 : Cond.methodLink "BitLoom$Statement" 191 y_K_isNumber ∈ jt := j_in 717 (by decide +kernel) rfl
theorem l_S_194 : Cond.methodLink "BitLoom$Statement" 194 y_K_number ∈ jt := j_in 721 (by decide +kernel) rfl
theorem l_S_197 : Cond.methodLink "BitLoom$Statement" 197 y_O_becomeNumber ∈ jt := j_in 725 (by decide +kernel) rfl
theorem l_S_113 : Cond.methodLink "BitLoom$Statement" 113 y_S_refuse ∈ jt := j_in 729 (by decide +kernel) rfl
theorem l_S_116 : Cond.methodLink "BitLoom$Statement" 116 y_K_start ∈ jt := j_in 733 (by decide +kernel) rfl
theorem l_S_174 : Cond.methodLink "BitLoom$Statement" 174 y_S_readField ∈ jt := j_in 739 (by decide +kernel) rfl
theorem l_S_206 : Cond.methodLink "BitLoom$Statement" 206 y_K_isLetter ∈ jt := j_in 743 (by decide +kernel) rfl
theorem l_S_209 : Cond.methodLink "BitLoom$Statement" 209 y_K_letter ∈ jt := j_in 747 (by decide +kernel) rfl
theorem l_S_213 : Cond.methodLink "BitLoom$Statement" 213 y_F_indexOf ∈ jt := j_in 751 (by decide +kernel) rfl
theorem l_S_203 : Cond.methodLink "BitLoom$Statement" 203 y_O_becomeField ∈ jt := j_in 752 (by decide +kernel) rfl
theorem l_S_147 : Cond.methodLink "BitLoom$Statement" 147 y_S_readSign ∈ jt := j_in 756 (by decide +kernel) rfl
theorem l_S_158 : Cond.methodLink "BitLoom$Statement" 158 y_W_bitsOf ∈ jt := j_in 760 (by decide +kernel) rfl
theorem l_S_161 : Cond.methodLink "BitLoom$Statement" 161 y_P_isTrueIn ∈ jt := j_in 761 (by decide +kernel) rfl
theorem l_P_25 : Cond.methodLink "BitLoom$Pair" 25 y_O_valueIn ∈ jt := j_in 765 (by decide +kernel) rfl
theorem l_O_22 : Cond.methodLink "BitLoom$Operand" 22 y_F_valueIn ∈ jt := j_in 769 (by decide +kernel) rfl
theorem l_P_29 : Cond.methodLink "BitLoom$Pair" 29 y_JInteger_compare ∈ jt := j_in 770 (by decide +kernel) rfl
theorem l_S_135 : Cond.methodLink "BitLoom$Statement" 135 y_S_passSign ∈ jt := j_in 773 (by decide +kernel) rfl
theorem l_S_106 : Cond.methodLink "BitLoom$Statement" 106 y_S_readAction ∈ jt := j_in 777 (by decide +kernel) rfl
theorem l_S_164 : Cond.methodLink "BitLoom$Statement" 164 y_S_readVerb ∈ jt := j_in 781 (by decide +kernel) rfl
theorem l_S_181 : Cond.methodLink "BitLoom$Statement" 181 y_A_word ∈ jt := j_in 787 (by decide +kernel) rfl
theorem l_S_170 : Cond.methodLink "BitLoom$Statement" 170 y_S_readChange ∈ jt := j_in 793 (by decide +kernel) rfl
theorem l_S_109 : Cond.methodLink "BitLoom$Statement" 109 y_K_isEnd ∈ jt := j_in 797 (by decide +kernel) rfl
theorem l_B_152 : Cond.methodLink "BitLoom" 152 y_S_lacksWord ∈ jt := j_in 801 (by decide +kernel) rfl
theorem l_B_155 : Cond.methodLink "BitLoom" 155 y_S_taken ∈ jt := j_in 809 (by decide +kernel) rfl
theorem l_B_158 : Cond.methodLink "BitLoom" 158 y_B_carryOut ∈ jt := j_in 813 (by decide +kernel) rfl
theorem l_B_178 : Cond.methodLink "BitLoom" 178 y_S_subject ∈ jt := j_in 817 (by decide +kernel) rfl
theorem l_B_186 : Cond.methodLink "BitLoom" 186 y_S_action ∈ jt := j_in 823 (by decide +kernel) rfl
theorem l_B_195 : Cond.methodLink "BitLoom" 195 y_B_changeAll ∈ jt := j_in 833 (by decide +kernel) rfl
theorem l_B_224 : Cond.methodLink "BitLoom" 224 y_S_canChange ∈ jt := j_in 837 (by decide +kernel) rfl
theorem l_S_72 : Cond.methodLink "BitLoom$Statement" 72 y_C_fitsIn ∈ jt := j_in 841 (by decide +kernel) rfl
theorem l_C_26 : Cond.methodLink "BitLoom$Change" 26 y_P_resultIn ∈ jt := j_in 845 (by decide +kernel) rfl
theorem l_C_30 : Cond.methodLink "BitLoom$Change" 30 y_F_fits ∈ jt := j_in 849 (by decide +kernel) rfl
theorem l_B_228 : Cond.methodLink "BitLoom" 228 y_S_changed ∈ jt := j_in 850 (by decide +kernel) rfl
theorem l_S_80 : Cond.methodLink "BitLoom$Statement" 80 y_C_appliedTo ∈ jt := j_in 854 (by decide +kernel) rfl
theorem l_C_36 : Cond.methodLink "BitLoom$Change" 36 y_F_withValue ∈ jt := j_in 858 (by decide +kernel) rfl
theorem l_B_198 : Cond.methodLink "BitLoom" 198 y_B_greatest ∈ jt := j_in 859 (by decide +kernel) rfl
theorem l_B_210 : Cond.methodLink "BitLoom" 210 y_B_valueOf ∈ jt := j_in 863 (by decide +kernel) rfl
theorem l_B_213 : Cond.methodLink "BitLoom" 213 y_JMath_max ∈ jt := j_in 867 (by decide +kernel) rfl
theorem l_B_201 : Cond.methodLink "BitLoom" 201 y_B_least ∈ jt := j_in 868 (by decide +kernel) rfl
theorem l_B_218 : Cond.methodLink "BitLoom" 218 y_JMath_min ∈ jt := j_in 872 (by decide +kernel) rfl
theorem l_B_204 : Cond.methodLink "BitLoom" 204 y_B_total ∈ jt := j_in 873 (by decide +kernel) rfl
theorem l_B_207 : Cond.methodLink "BitLoom" 207 y_B_listAll ∈ jt := j_in 877 (by decide +kernel) rfl
theorem l_B_221 : Cond.methodLink "BitLoom" 221 y_B_sortIn ∈ jt := j_in 881 (by decide +kernel) rfl
theorem l_L_128 : Cond.methodLink "BitLoomLaw" 128 y_L_listed ∈ jt := j_in 887 (by decide +kernel) rfl
theorem l_L_50 : Cond.methodLink "BitLoomLaw" 50 y_B_listed ∈ jt := j_in 891 (by decide +kernel) rfl
theorem l_L_59 : Cond.methodLink "BitLoomLaw" 59 y_M_init ∈ jt := j_in 912 (by decide +kernel) rfl
theorem l_M_1 : Cond.methodLink "BitLoomModel" 1 Lib.objectInit ∈ jt := j_in 915 (by decide +kernel) rfl
theorem l_L_66 : Cond.methodLink "BitLoomLaw" 66 y_M_thrown ∈ jt := j_in 1031 (by decide +kernel) rfl
theorem l_L_65 : Cond.methodLink "BitLoomLaw" 65 y_M_field ∈ jt := j_in 1035 (by decide +kernel) rfl
theorem l_M_79 : Cond.methodLink "BitLoomModel" 79 y_M_fieldOf ∈ jt := j_in 1039 (by decide +kernel) rfl
theorem l_L_72 : Cond.methodLink "BitLoomLaw" 72 y_M_insert ∈ jt := j_in 1043 (by decide +kernel) rfl
theorem l_L_76 : Cond.methodLink "BitLoomLaw" 76 y_M_remove ∈ jt := j_in 1047 (by decide +kernel) rfl
theorem l_M_83 : Cond.methodLink "BitLoomModel" 83 y_M_isWord ∈ jt := j_in 1051 (by decide +kernel) rfl
theorem l_L_80 : Cond.methodLink "BitLoomLaw" 80 y_M_put ∈ jt := j_in 1054 (by decide +kernel) rfl
theorem l_M_87 : Cond.methodLink "BitLoomModel" 87 y_M_fits ∈ jt := j_in 1058 (by decide +kernel) rfl
theorem l_M_91 : Cond.methodLink "BitLoomModel" 91 y_M_setValue ∈ jt := j_in 1062 (by decide +kernel) rfl
theorem l_L_84 : Cond.methodLink "BitLoomLaw" 84 y_M_get ∈ jt := j_in 1066 (by decide +kernel) rfl
theorem l_M_95 : Cond.methodLink "BitLoomModel" 95 y_M_valueOf ∈ jt := j_in 1070 (by decide +kernel) rfl
theorem l_L_88 : Cond.methodLink "BitLoomLaw" 88 y_M_bit ∈ jt := j_in 1074 (by decide +kernel) rfl
theorem l_L_93 : Cond.methodLink "BitLoomLaw" 93 y_M_search ∈ jt := j_in 1078 (by decide +kernel) rfl
theorem l_L_97 : Cond.methodLink "BitLoomLaw" 97 y_M_multi ∈ jt := j_in 1082 (by decide +kernel) rfl
theorem l_L_101 : Cond.methodLink "BitLoomLaw" 101 y_M_responds ∈ jt := j_in 1087 (by decide +kernel) rfl
theorem l_L_105 : Cond.methodLink "BitLoomLaw" 105 y_M_first ∈ jt := j_in 1091 (by decide +kernel) rfl
theorem l_L_112 : Cond.methodLink "BitLoomLaw" 112 y_M_write ∈ jt := j_in 1095 (by decide +kernel) rfl
theorem l_L_116 : Cond.methodLink "BitLoomLaw" 116 y_M_wipe ∈ jt := j_in 1100 (by decide +kernel) rfl
theorem l_L_119 : Cond.methodLink "BitLoomLaw" 119 y_M_run ∈ jt := j_in 1104 (by decide +kernel) rfl
theorem l_M_263 : Cond.methodLink "BitLoomModel" 263 y_M_readText ∈ jt := j_in 1108 (by decide +kernel) rfl
theorem l_M_238 : Cond.methodLink "BitLoomModel" 238 y_M_scan ∈ jt := j_in 1112 (by decide +kernel) rfl
theorem l_M_108 : Cond.methodLink "BitLoomModel" 108 y_M_see ∈ jt := j_in 1116 (by decide +kernel) rfl
theorem l_M_122 : Cond.methodLink "BitLoomModel" 122 y_M_isLetter ∈ jt := j_in 1120 (by decide +kernel) rfl
theorem l_M_126 : Cond.methodLink "BitLoomModel" 126 y_M_isDigit ∈ jt := j_in 1123 (by decide +kernel) rfl
theorem l_M_129 : Cond.methodLink "BitLoomModel" 129 y_M_isSign ∈ jt := j_in 1126 (by decide +kernel) rfl
theorem l_M_241 : Cond.methodLink "BitLoomModel" 241 y_M_next ∈ jt := j_in 1130 (by decide +kernel) rfl
theorem l_M_212 : Cond.methodLink "BitLoomModel" 212 y_M_start ∈ jt := j_in 1134 (by decide +kernel) rfl
theorem l_M_159 : Cond.methodLink "BitLoomModel" 159 y_M_emit ∈ jt := j_in 1139 (by decide +kernel) rfl
theorem l_M_172 : Cond.methodLink "BitLoomModel" 172 y_M_act ∈ jt := j_in 1143 (by decide +kernel) rfl
theorem l_M_163 : Cond.methodLink "BitLoomModel" 163 y_M_actionOf ∈ jt := j_in 1147 (by decide +kernel) rfl
theorem l_M_215 : Cond.methodLink "BitLoomModel" 215 y_M_one ∈ jt := j_in 1156 (by decide +kernel) rfl
theorem l_M_175 : Cond.methodLink "BitLoomModel" 175 y_M_isIt ∈ jt := j_in 1160 (by decide +kernel) rfl
theorem l_M_181 : Cond.methodLink "BitLoomModel" 181 y_M_push ∈ jt := j_in 1164 (by decide +kernel) rfl
theorem l_M_185 : Cond.methodLink "BitLoomModel" 185 y_M_operand ∈ jt := j_in 1168 (by decide +kernel) rfl
theorem l_M_188 : Cond.methodLink "BitLoomModel" 188 y_M_wholeOne ∈ jt := j_in 1172 (by decide +kernel) rfl
theorem l_M_197 : Cond.methodLink "BitLoomModel" 197 y_M_denied ∈ jt := j_in 1176 (by decide +kernel) rfl
theorem l_M_155 : Cond.methodLink "BitLoomModel" 155 y_M_upper ∈ jt := j_in 1180 (by decide +kernel) rfl
theorem l_M_191 : Cond.methodLink "BitLoomModel" 191 y_M_named ∈ jt := j_in 1184 (by decide +kernel) rfl
theorem l_M_218 : Cond.methodLink "BitLoomModel" 218 y_M_negative ∈ jt := j_in 1188 (by decide +kernel) rfl
theorem l_M_222 : Cond.methodLink "BitLoomModel" 222 y_M_relate ∈ jt := j_in 1192 (by decide +kernel) rfl
theorem l_M_225 : Cond.methodLink "BitLoomModel" 225 y_M_afterOne ∈ jt := j_in 1196 (by decide +kernel) rfl
theorem l_M_200 : Cond.methodLink "BitLoomModel" 200 y_M_settle ∈ jt := j_in 1200 (by decide +kernel) rfl
theorem l_M_228 : Cond.methodLink "BitLoomModel" 228 y_M_pick ∈ jt := j_in 1204 (by decide +kernel) rfl
theorem l_M_231 : Cond.methodLink "BitLoomModel" 231 y_M_part ∈ jt := j_in 1208 (by decide +kernel) rfl
theorem l_M_235 : Cond.methodLink "BitLoomModel" 235 y_M_afterFirst ∈ jt := j_in 1212 (by decide +kernel) rfl
theorem l_M_209 : Cond.methodLink "BitLoomModel" 209 y_M_afterChange ∈ jt := j_in 1216 (by decide +kernel) rfl
theorem l_M_266 : Cond.methodLink "BitLoomModel" 266 y_M_isTaken ∈ jt := j_in 1220 (by decide +kernel) rfl
theorem l_M_247 : Cond.methodLink "BitLoomModel" 247 y_M_reckon ∈ jt := j_in 1224 (by decide +kernel) rfl
theorem l_M_269 : Cond.methodLink "BitLoomModel" 269 y_M_changeAll ∈ jt := j_in 1227 (by decide +kernel) rfl
theorem l_M_254 : Cond.methodLink "BitLoomModel" 254 y_M_change ∈ jt := j_in 1231 (by decide +kernel) rfl
theorem l_M_251 : Cond.methodLink "BitLoomModel" 251 y_M_resultOf ∈ jt := j_in 1235 (by decide +kernel) rfl
theorem l_M_272 : Cond.methodLink "BitLoomModel" 272 y_M_listAll ∈ jt := j_in 1239 (by decide +kernel) rfl
theorem l_M_275 : Cond.methodLink "BitLoomModel" 275 y_M_gather ∈ jt := j_in 1243 (by decide +kernel) rfl
theorem l_L_123 : Cond.methodLink "BitLoomLaw" 123 y_M_place ∈ jt := j_in 1247 (by decide +kernel) rfl
theorem l_L_127 : Cond.methodLink "BitLoomLaw" 127 y_M_refused ∈ jt := j_in 1251 (by decide +kernel) rfl
theorem l_L_130 : Cond.methodLink "BitLoomLaw" 130 y_M_listed ∈ jt := j_in 1255 (by decide +kernel) rfl
theorem o_inst : Cond.instanceMethod Lib.objectInit ∈ jt := j_in 34 (by decide +kernel) rfl
theorem o_code : Cond.code Lib.objectInit ⟨#[0xb1]⟩ 1 none ∈ jt := j_in 35 (by decide +kernel) rfl
theorem n_L_8 : jN "BitLoomLaw" 8 0 7 [.null, .null, .null, .null, .null, .int 0, .int 0] := ⟨R_B, T_B, ty_B, rfl, in_B, tk_B, j_in 28 (by decide +kernel) rfl, j_in 29 (by decide +kernel) rfl, j_in 1 (by decide +kernel) rfl, by decide +kernel⟩
theorem n_B_9 : jN "BitLoom" 9 1 6 [.null, .null, .null, .null, .int 0, .int 0] := ⟨R_F, T_F, ty_F, rfl, in_F, tk_F, j_in 36 (by decide +kernel) rfl, j_in 37 (by decide +kernel) rfl, j_in 2 (by decide +kernel) rfl, by decide +kernel⟩
theorem n_B_16 : jN "BitLoom" 16 2 3 [.null, .int 0, .int 0] := ⟨R_W, T_W, ty_W, rfl, in_W, tk_W, j_in 64 (by decide +kernel) rfl, j_in 65 (by decide +kernel) rfl, j_in 3 (by decide +kernel) rfl, by decide +kernel⟩
theorem n_B_23 : jN "BitLoom" 23 3 2 [.null, .int 0] := ⟨R_T, T_T, ty_T, rfl, in_T, tk_T, j_in 80 (by decide +kernel) rfl, j_in 81 (by decide +kernel) rfl, j_in 4 (by decide +kernel) rfl, by decide +kernel⟩
theorem n_B_30 : jN "BitLoom" 30 8 11 [.null, .null, .null, .null, .null, .null, .int 0, .null, .int 0, .int 0, .int 0] := ⟨R_S, T_S, ty_S, rfl, in_S, tk_S, j_in 93 (by decide +kernel) rfl, j_in 94 (by decide +kernel) rfl, j_in 5 (by decide +kernel) rfl, by decide +kernel⟩
theorem n_S_19 : jN "BitLoom$Statement" 19 4 6 [.null, .null, .null, .null, .int 0, .int 0] := ⟨R_K, T_K, ty_K, rfl, in_K, tk_K, j_in 99 (by decide +kernel) rfl, j_in 100 (by decide +kernel) rfl, j_in 6 (by decide +kernel) rfl, by decide +kernel⟩
theorem n_S_28 : jN "BitLoom$Statement" 28 6 3 [.null, .null, .int 0] := ⟨R_P, T_P, ty_P, rfl, in_P, tk_P, j_in 124 (by decide +kernel) rfl, j_in 125 (by decide +kernel) rfl, j_in 7 (by decide +kernel) rfl, by decide +kernel⟩
theorem n_P_7 : jN "BitLoom$Pair" 7 5 3 [.null, .int 0, .int 0] := ⟨R_O, T_O, ty_O, rfl, in_O, tk_O, j_in 130 (by decide +kernel) rfl, j_in 131 (by decide +kernel) rfl, j_in 8 (by decide +kernel) rfl, by decide +kernel⟩
theorem n_S_37 : jN "BitLoom$Statement" 37 7 3 [.null, .null, .int 0] := ⟨R_C, T_C, ty_C, rfl, in_C, tk_C, j_in 159 (by decide +kernel) rfl, j_in 160 (by decide +kernel) rfl, j_in 9 (by decide +kernel) rfl, by decide +kernel⟩
theorem n_C_13 : jN "BitLoom$Change" 13 6 3 [.null, .null, .int 0] := ⟨R_P, T_P, ty_P, rfl, in_P, tk_P, j_in 165 (by decide +kernel) rfl, j_in 125 (by decide +kernel) rfl, j_in 7 (by decide +kernel) rfl, by decide +kernel⟩
theorem k_L_13 : Cond.classLink "BitLoomLaw" 13 "java/lang/IllegalArgumentException" ∈ jt := j_in 316 (by decide +kernel) rfl
theorem k_L_15 : Cond.classLink "BitLoomLaw" 15 "java/lang/IllegalStateException" ∈ jt := j_in 317 (by decide +kernel) rfl
theorem x_B_51 : jXT "BitLoom" 51 53 10 "java/lang/IllegalArgumentException" := ⟨⟨T_XA, rfl⟩, by decide +kernel, j_in 337 (by decide +kernel) rfl, j_in 338 (by decide +kernel) rfl, j_in 16 (by decide +kernel) rfl, by decide +kernel⟩
theorem k_B_51 : Cond.classLink "BitLoom" 51 "java/lang/IllegalArgumentException" ∈ jt := j_in 337 (by decide +kernel) rfl
theorem x_B_58 : jXT "BitLoom" 58 60 12 "java/lang/IllegalStateException" := ⟨⟨T_XS, rfl⟩, by decide +kernel, j_in 405 (by decide +kernel) rfl, j_in 406 (by decide +kernel) rfl, j_in 17 (by decide +kernel) rfl, by decide +kernel⟩
theorem k_B_58 : Cond.classLink "BitLoom" 58 "java/lang/IllegalStateException" ∈ jt := j_in 405 (by decide +kernel) rfl
theorem k_L_21 : Cond.classLink "BitLoomLaw" 21 "java/util/NoSuchElementException" ∈ jt := j_in 427 (by decide +kernel) rfl
theorem x_B_73 : jXT "BitLoom" 73 75 11 "java/util/NoSuchElementException" := ⟨⟨T_XN, rfl⟩, by decide +kernel, j_in 436 (by decide +kernel) rfl, j_in 437 (by decide +kernel) rfl, j_in 18 (by decide +kernel) rfl, by decide +kernel⟩
theorem k_B_73 : Cond.classLink "BitLoom" 73 "java/util/NoSuchElementException" ∈ jt := j_in 436 (by decide +kernel) rfl
theorem x_S_119 : jXT "BitLoom$Statement" 119 121 10 "java/lang/IllegalArgumentException" := ⟨⟨T_XA, rfl⟩, by decide +kernel, j_in 737 (by decide +kernel) rfl, j_in 338 (by decide +kernel) rfl, j_in 16 (by decide +kernel) rfl, by decide +kernel⟩
theorem k_S_119 : Cond.classLink "BitLoom$Statement" 119 "java/lang/IllegalArgumentException" ∈ jt := j_in 737 (by decide +kernel) rfl
theorem k_L_54 : Cond.classLink "BitLoomLaw" 54 "java/lang/IndexOutOfBoundsException" ∈ jt := j_in 890 (by decide +kernel) rfl
theorem x_B_172 : jXT "BitLoom" 172 174 13 "java/lang/IndexOutOfBoundsException" := ⟨⟨T_XI, rfl⟩, by decide +kernel, j_in 895 (by decide +kernel) rfl, j_in 896 (by decide +kernel) rfl, j_in 27 (by decide +kernel) rfl, by decide +kernel⟩
theorem k_B_172 : Cond.classLink "BitLoom" 172 "java/lang/IndexOutOfBoundsException" ∈ jt := j_in 895 (by decide +kernel) rfl
theorem n_L_57 : jN "BitLoomLaw" 57 9 38 [.int 0, .null, .null, .null, .int 0, .null, .null, .null, .null, .int 0, .null, .int 0, .int 0, .int 0, .null, .int 0, .int 0, .int 0, .int 0, .long 0, .int 0, .null, .null, .int 0, .null, .int 0, .int 0, .int 0, .int 0, .int 0, .null, .null, .null, .null, .null, .null, .int 0, .null] := ⟨R_M, T_M, ty_M, rfl, in_M, tk_M, j_in 910 (by decide +kernel) rfl, j_in 911 (by decide +kernel) rfl, j_in 12 (by decide +kernel) rfl, by decide +kernel⟩
theorem a_char : Cond.arrayClass .char ∈ jt := j_in 61 (by decide +kernel) rfl
theorem a_int : Cond.arrayClass .int ∈ jt := j_in 62 (by decide +kernel) rfl
theorem a_boolean : Cond.arrayClass .boolean ∈ jt := j_in 63 (by decide +kernel) rfl
theorem c_JInteger_265 : Cond.constant "java/lang/Integer" 265 (1431655765) ∈ jt := j_in 263 (by decide +kernel) rfl
theorem c_JInteger_266 : Cond.constant "java/lang/Integer" 266 (858993459) ∈ jt := j_in 264 (by decide +kernel) rfl
theorem c_JInteger_267 : Cond.constant "java/lang/Integer" 267 (252645135) ∈ jt := j_in 265 (by decide +kernel) rfl
theorem c_T_23 : Cond.constantLong "BitLoom$Text" 23 (255) ∈ jt := j_in 284 (by decide +kernel) rfl
theorem c_B_128 : Cond.constant "BitLoom" 128 (16777215) ∈ jt := j_in 528 (by decide +kernel) rfl
theorem c_JStringUTF16_227 : Cond.constant "java/lang/StringUTF16" 227 (65536) ∈ jt := j_in 618 (by decide +kernel) rfl
theorem c_JCharacter_110 : Cond.constant "java/lang/Character" 110 (55232) ∈ jt := j_in 657 (by decide +kernel) rfl
theorem c_JCharacter_76 : Cond.constant "java/lang/Character" 76 (56320) ∈ jt := j_in 661 (by decide +kernel) rfl
theorem c_B_161 : Cond.constant "BitLoom" 161 (-16777216) ∈ jt := j_in 885 (by decide +kernel) rfl
theorem c_M_99 : Cond.constant "BitLoomModel" 99 (16777215) ∈ jt := j_in 1086 (by decide +kernel) rfl
theorem c_M_100 : Cond.constantLong "BitLoomModel" 100 (255) ∈ jt := j_in 1099 (by decide +kernel) rfl
theorem c_M_135 : Cond.constantLong "BitLoomModel" 135 (-1) ∈ jt := j_in 1129 (by decide +kernel) rfl
theorem c_M_170 : Cond.constantLong "BitLoomModel" 170 (512852587109) ∈ jt := j_in 1138 (by decide +kernel) rfl
theorem c_M_137 : Cond.constantLong "BitLoomModel" 137 (7562612) ∈ jt := j_in 1150 (by decide +kernel) rfl
theorem c_M_139 : Cond.constantLong "BitLoomModel" 139 (7168376) ∈ jt := j_in 1151 (by decide +kernel) rfl
theorem c_M_141 : Cond.constantLong "BitLoomModel" 141 (7170414) ∈ jt := j_in 1152 (by decide +kernel) rfl
theorem c_M_143 : Cond.constantLong "BitLoomModel" 143 (7566701) ∈ jt := j_in 1153 (by decide +kernel) rfl
theorem c_M_145 : Cond.constantLong "BitLoomModel" 145 (1818850164) ∈ jt := j_in 1154 (by decide +kernel) rfl
theorem c_M_147 : Cond.constantLong "BitLoomModel" 147 (427071729268) ∈ jt := j_in 1155 (by decide +kernel) rfl
theorem c_L_106 : Cond.constantLong "BitLoomLaw" 106 (4294967295) ∈ jt := j_in 1259 (by decide +kernel) rfl
theorem a_long : Cond.arrayClass .long ∈ jt := j_in 1260 (by decide +kernel) rfl
end
section
/-! THE STATE: scalars by number (S.1), arrays by number (S.2.1), the reference's word of letters (S.2.2.1), the law's own cell (S.2.2.2.1), the action (S.2.2.2.2). The world is 'lay S', and behind it what was thrown -/
abbrev jS : Type := (Nat → Int32) × (Nat → Nat → Int32) × Int64 × (Nat → Int64) × Nat
def lay (S : jS) : jH := [
  .inr (0, [.ref 33, .ref 38, .ref 40, .ref 42, .ref 58, .int (S.1 0), .int (S.1 1)]),
  .inr (1, [.ref 34, .ref 35, .ref 36, .ref 37, .int (S.1 2), .int (S.1 3)]),
  .inl (1, 6, .inl (S.2.1 0)),
  .inl (0, 6, .inl (S.2.1 1)),
  .inl (0, 6, .inl (S.2.1 2)),
  .inl (2, 6, .inl (S.2.1 3)),
  .inr (2, [.ref 39, .int (S.1 4), .int (S.1 5)]),
  .inl (0, 32, .inl (S.2.1 4)),
  .inr (3, [.ref 41, .int (S.1 6)]),
  .inl (1, 100, .inl (S.2.1 5)),
  .inr (8, [.ref 33, .ref 38, .ref 43, .ref 47, .ref 50, .ref 54, .int (S.1 7), .ref S.2.2.2.2, .int (S.1 8), .int (S.1 9), .int (S.1 10)]),
  .inr (4, [.ref 40, .ref 44, .ref 45, .ref 46, .int (S.1 11), .int (S.1 12)]),
  .inl (1, 101, .inl (S.2.1 6)),
  .inl (0, 101, .inl (S.2.1 7)),
  .inl (0, 101, .inl (S.2.1 8)),
  .inr (6, [.ref 48, .ref 49, .int (S.1 13)]),
  .inr (5, [.ref 33, .int (S.1 14), .int (S.1 15)]),
  .inr (5, [.ref 33, .int (S.1 16), .int (S.1 17)]),
  .inr (7, [.ref 33, .ref 51, .int (S.1 18)]),
  .inr (6, [.ref 52, .ref 53, .int (S.1 19)]),
  .inr (5, [.ref 33, .int (S.1 20), .int (S.1 21)]),
  .inr (5, [.ref 33, .int (S.1 22), .int (S.1 23)]),
  .inr (7, [.ref 33, .ref 55, .int (S.1 24)]),
  .inr (6, [.ref 56, .ref 57, .int (S.1 25)]),
  .inr (5, [.ref 33, .int (S.1 26), .int (S.1 27)]),
  .inr (5, [.ref 33, .int (S.1 28), .int (S.1 29)]),
  .inl (0, 32, .inl (S.2.1 9)),
  .inr (9, [.int (S.1 30), .ref 60, .ref 61, .ref 62, .int (S.1 31), .ref 63, .ref 64, .ref 65, .ref 66, .int (S.1 32), .ref 67, .int (S.1 33), .int (S.1 34), .int (S.1 35), .ref 68, .int (S.1 36), .int (S.1 37), .int (S.1 38), .int (S.1 39), .long S.2.2.1, .int (S.1 40), .ref 69, .ref 70, .int (S.1 41), .ref 71, .int (S.1 42), .int (S.1 43), .int (S.1 44), .int (S.1 45), .int (S.1 46), .ref 72, .ref 73, .ref 74, .ref 75, .ref 76, .ref 77, .int (S.1 47), .ref 78]),
  .inl (2, 32, .inl (S.2.1 10)),
  .inl (0, 32, .inl (S.2.1 11)),
  .inl (2, 32, .inl (S.2.1 12)),
  .inl (1, 6, .inl (S.2.1 13)),
  .inl (0, 6, .inl (S.2.1 14)),
  .inl (0, 6, .inl (S.2.1 15)),
  .inl (2, 6, .inl (S.2.1 16)),
  .inl (1, 100, .inl (S.2.1 17)),
  .inl (0, 32, .inl (S.2.1 18)),
  .inl (0, 120, .inl (S.2.1 19)),
  .inl (0, 120, .inl (S.2.1 20)),
  .inl (0, 120, .inl (S.2.1 21)),
  .inl (0, 2, .inl (S.2.1 22)),
  .inl (0, 2, .inl (S.2.1 23)),
  .inl (0, 2, .inl (S.2.1 24)),
  .inl (0, 2, .inl (S.2.1 25)),
  .inl (0, 2, .inl (S.2.1 26)),
  .inl (0, 2, .inl (S.2.1 27)),
  .inl (0, 120, .inl (S.2.1 28)),
  .inl (3, 1, .inr (.inl S.2.2.2.1))]
abbrev s1 (S : jS) (i : Nat) (v : Int32) : jS := (va_up S.1 i v, S.2)
abbrev s2 (S : jS) (i : Nat) (f : Nat → Int32) : jS := (S.1, va_up S.2.1 i f, S.2.2)
abbrev s3 (S : jS) (v : Int64) : jS := (S.1, S.2.1, v, S.2.2.2)
abbrev s4 (S : jS) (f : Nat → Int64) : jS := (S.1, S.2.1, S.2.2.1, f, S.2.2.2.2)
abbrev s5 (S : jS) (n : Nat) : jS := (S.1, S.2.1, S.2.2.1, S.2.2.2.1, n)
end
section
/-! how methods end, locals, counters -/
def rI (v : Int32) (g : jH) : jO → jH → Prop := fun o h => o = .inl (some (.int v)) ∧ h = g
def rV (g : jH) : jO → jH → Prop := fun o h => o = .inl none ∧ h = g
def rX (k : Nat) (g : jH) : jO → jH → Prop := fun o h => o = .inr k ∧ h = g ++ [.inr (k, [])]
def j_sub (ls : List (Nat × Value)) : List (Nat × Value) → Prop
  | [] => True
  | q :: r => j_lg ls q.1 = some q.2 ∧ j_sub ls r
theorem j_sub_all {ls : List (Nat × Value)} : ∀ {ls' : List (Nat × Value)}, j_sub ls ls' → ∀ q ∈ ls', j_lg ls q.1 = some q.2
  | [], _, q, hq => by cases hq
  | r :: ls', h, q, hq => by
    rcases List.mem_cons.mp hq with rfl | hq
    · exact h.1
    · exact j_sub_all h.2 q hq
theorem j_loc' {K : jK} {M : jR} {d pc : Nat} {ls : List (Nat × Value)} {st : List Value} {h : jH} {Q : jO → jH → Prop} {mc ms : Nat} (ls' : List (Nat × Value)) (hs : j_sub ls ls') (k : jE K M d pc ls' st h Q mc ms) : jE K M d pc ls st h Q mc ms := j_few (j_sub_all hs) k
theorem j_iincN {K : jK} {M : jR} {d pc : Nat} {ls : List (Nat × Value)} {st : List Value} {h : jH} {Q : jO → jH → Prop} {mc ms i j : Nat} (hd : decode M.2.1 pc = .ok (.iinc i 1, 3)) (hg : j_lg ls i = some (.int (nI j))) (hn : i < M.2.2.1) (k : jE K M d (pc + 3) (j_ls ls i (.int (nI (j + 1)))) st h Q mc ms) : jE K M d pc ls st h Q mc ms :=
  j_iinc hd hg (by rw [nI_succ]; rfl) hn k
theorem j_iincP {K : jK} {M : jR} {d pc : Nat} {ls : List (Nat × Value)} {st : List Value} {h : jH} {Q : jO → jH → Prop} {mc ms i j : Nat} (hd : decode M.2.1 pc = .ok (.iinc i (-1), 3)) (hg : j_lg ls i = some (.int (nI (j + 1)))) (hn : i < M.2.2.1) (k : jE K M d (pc + 3) (j_ls ls i (.int (nI j))) st h Q mc ms) : jE K M d pc ls st h Q mc ms :=
  j_iinc hd hg (by rw [← pk_m1 j]; rfl) hn k
end
section
/-! BitLoom$Fields -/
theorem m_F_isFull (K : jK) (d : Nat) (S : jS) (J : jH) : jM K M_F_isFull d [.ref 33] (lay S ++ J) (rI (if 6 ≤ S.1 2 then 1 else 0) (lay S ++ J)) 0 0 := by
  refine jM.of (by decide) (Nat.le_of_ble_eq_true rfl) ?_
  refine j_aload_n d_F_isFull_0 rfl ?_
  refine j_getf d_F_isFull_1 f_F_26 rfl rfl ?_
  refine j_bipush (v := 6) d_F_isFull_4 (by decide) ?_
  refine j_icmp_lt (tgt := 13) d_F_isFull_6 rfl (fun hc => ?_) (fun hc => ?_)
  · refine j_iconst (v := 0) d_F_isFull_13 rfl ?_
    exact j_zret rfl rfl d_F_isFull_14 ⟨by rw [if_neg (Int32.not_le.mpr hc)], rfl⟩
  · refine j_iconst (v := 1) d_F_isFull_9 rfl ?_
    refine j_goto (tgt := 14) d_F_isFull_10 rfl ?_
    exact j_zret rfl rfl d_F_isFull_14 ⟨by rw [if_pos (Int32.not_lt.mp hc)], rfl⟩
theorem m_F_ground (K : jK) (d : Nat) (h : jH) (a w : Int32) : jM K M_F_ground d [.int a, .int w] h (rI (((1 <<< (w &&& 31)) - 1) <<< (a &&& 31)) h) 0 0 := by
  refine jM.of (by decide) (Nat.le_of_ble_eq_true rfl) ?_
  refine j_iconst (v := 1) d_F_ground_0 rfl ?_
  refine j_iload_n d_F_ground_1 rfl ?_
  refine j_ishl d_F_ground_2 ?_
  refine j_iconst (v := 1) d_F_ground_3 rfl ?_
  refine j_isub d_F_ground_4 ?_
  refine j_iload_n d_F_ground_5 rfl ?_
  refine j_ishl d_F_ground_6 ?_
  exact j_iret rfl d_F_ground_7 ⟨rfl, rfl⟩
def ixOf (f : Nat → Int32) (c : Int32) : Nat → Nat → Int32
  | 0, _ => -1
  | k + 1, i => if f i = c then nI i else ixOf f c k (i + 1)
theorem m_F_indexOf (K : jK) (d : Nat) (S : jS) (J : jH) (c : Int32) (n : Nat) (hn : S.1 2 = nI n) (h6 : n ≤ 6) : jM K M_F_indexOf d [.ref 33, .int c] (lay S ++ J) (rI (ixOf (S.2.1 0) c n 0) (lay S ++ J)) 0 0 := by
  refine jM.of (by decide) (Nat.le_of_ble_eq_true rfl) ?_
  have loop : ∀ k i, i + k = n → jE K M_F_indexOf d 2 [(0, .ref 33), (1, .int c), (2, .int (nI i))] [] (lay S ++ J) (rI (ixOf (S.2.1 0) c k i) (lay S ++ J)) 0 0 := by
    intro k
    induction k with
    | zero =>
      intro i hi
      refine j_iload_n d_F_indexOf_2 rfl ?_
      refine j_aload_n d_F_indexOf_3 rfl ?_
      refine j_getf d_F_indexOf_4 f_F_26 rfl rfl ?_
      refine j_icmp_geT (tgt := 28) d_F_indexOf_7 rfl (by rw [hn]; exact (nI_leI (by omega) (by omega)).mpr (by omega)) ?_
      refine j_iconst (v := -1) d_F_indexOf_28 rfl ?_
      exact j_iret rfl d_F_indexOf_29 ⟨rfl, rfl⟩
    | succ k ih =>
      intro i hi
      refine j_iload_n d_F_indexOf_2 rfl ?_
      refine j_aload_n d_F_indexOf_3 rfl ?_
      refine j_getf d_F_indexOf_4 f_F_26 rfl rfl ?_
      refine j_icmp_geF (tgt := 28) d_F_indexOf_7 rfl (by rw [hn]; exact fun q => absurd ((nI_leI (by omega) (by omega)).mp q) (by omega)) ?_
      refine j_aload_n d_F_indexOf_10 rfl ?_
      refine j_getf d_F_indexOf_11 f_F_9 rfl rfl ?_
      refine j_iload_n d_F_indexOf_14 rfl ?_
      refine j_cald (j := i) d_F_indexOf_15 rfl (by omega) (by decide) ?_
      refine j_iload_n d_F_indexOf_16 rfl ?_
      refine j_icmp_ne (tgt := 22) d_F_indexOf_17 rfl (fun hc => ?_) (fun hc => ?_)
      · refine j_iincN d_F_indexOf_22 rfl (by decide) ?_
        refine j_goto (tgt := 2) d_F_indexOf_25 rfl ?_
        refine j_loc' [(0, .ref 33), (1, .int c), (2, .int (nI (i + 1)))] ⟨rfl, rfl, rfl, trivial⟩ ?_
        rw [show ixOf (S.2.1 0) c (k + 1) i = ixOf (S.2.1 0) c k (i + 1) by rw [ixOf, if_neg hc]]
        exact ih (i + 1) (by omega)
      · refine j_iload_n d_F_indexOf_20 rfl ?_
        exact j_iret rfl d_F_indexOf_21 ⟨by rw [ixOf, if_pos hc], rfl⟩
  refine j_iconst (v := 0) d_F_indexOf_0 rfl ?_
  refine j_istore_n d_F_indexOf_1 (by decide) ?_
  exact j_loc' [(0, .ref 33), (1, .int c), (2, .int (nI 0))] ⟨rfl, rfl, rfl, trivial⟩ (loop n 0 (by omega))
end
