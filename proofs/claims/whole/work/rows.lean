section
-- ===== PART A: goes FIRST, ahead of the names: the tables' words, and 'selects' of the private methods out of them =====
/-- a private method of a class that the tables say can be made, by its rows of tables_1 -/
def lw_okq (q : MethodName × Nat) : Prop := (q.1.cls ≠ "java/lang/invoke/MethodHandle" ∧ q.1.cls ≠ "java/lang/invoke/VarHandle") ∧ Cond.instantiable q.1.cls q.2 ∈ tables_1 ∧ Cond.privateMethod q.1 ∈ tables_1 ∧ Cond.instanceMethod q.1 ∈ tables_1
theorem lw_p0 : lw_okq (⟨"java/lang/Throwable", "fillInStackTrace", "(I)Ljava/lang/Throwable;"⟩, 6) := ⟨⟨by decide +kernel, by decide +kernel⟩, List.mem_of_getElem? (i := 377) (by decide +kernel), List.mem_of_getElem? (i := 375) (by decide +kernel), List.mem_of_getElem? (i := 376) (by decide +kernel)⟩
theorem lw_p1 : lw_okq (⟨"BitLoom", "requireWord", "(I)V"⟩, 7) := ⟨⟨by decide +kernel, by decide +kernel⟩, List.mem_of_getElem? (i := 29) (by decide +kernel), List.mem_of_getElem? (i := 463) (by decide +kernel), List.mem_of_getElem? (i := 464) (by decide +kernel)⟩
theorem lw_p2 : lw_okq (⟨"BitLoom", "requireInUse", "(I)V"⟩, 7) := ⟨⟨by decide +kernel, by decide +kernel⟩, List.mem_of_getElem? (i := 29) (by decide +kernel), List.mem_of_getElem? (i := 467) (by decide +kernel), List.mem_of_getElem? (i := 468) (by decide +kernel)⟩
theorem lw_p3 : lw_okq (⟨"BitLoom", "requireField", "(C)I"⟩, 7) := ⟨⟨by decide +kernel, by decide +kernel⟩, List.mem_of_getElem? (i := 29) (by decide +kernel), List.mem_of_getElem? (i := 483) (by decide +kernel), List.mem_of_getElem? (i := 484) (by decide +kernel)⟩
theorem lw_p4 : lw_okq (⟨"BitLoom$Tokens", "cutOne", "(I)I"⟩, 6) := ⟨⟨by decide +kernel, by decide +kernel⟩, List.mem_of_getElem? (i := 100) (by decide +kernel), List.mem_of_getElem? (i := 561) (by decide +kernel), List.mem_of_getElem? (i := 562) (by decide +kernel)⟩
theorem lw_p5 : lw_okq (⟨"BitLoom$Tokens", "endOf", "(ICC)I"⟩, 6) := ⟨⟨by decide +kernel, by decide +kernel⟩, List.mem_of_getElem? (i := 100) (by decide +kernel), List.mem_of_getElem? (i := 568) (by decide +kernel), List.mem_of_getElem? (i := 569) (by decide +kernel)⟩
theorem lw_p6 : lw_okq (⟨"BitLoom$Tokens", "append", "(CII)I"⟩, 6) := ⟨⟨by decide +kernel, by decide +kernel⟩, List.mem_of_getElem? (i := 100) (by decide +kernel), List.mem_of_getElem? (i := 572) (by decide +kernel), List.mem_of_getElem? (i := 573) (by decide +kernel)⟩
theorem lw_p7 : lw_okq (⟨"BitLoom$Statement", "readCondition", "(I)I"⟩, 11) := ⟨⟨by decide +kernel, by decide +kernel⟩, List.mem_of_getElem? (i := 94) (by decide +kernel), List.mem_of_getElem? (i := 694) (by decide +kernel), List.mem_of_getElem? (i := 695) (by decide +kernel)⟩
theorem lw_p8 : lw_okq (⟨"BitLoom$Statement", "readClause", "(I)I"⟩, 11) := ⟨⟨by decide +kernel, by decide +kernel⟩, List.mem_of_getElem? (i := 94) (by decide +kernel), List.mem_of_getElem? (i := 698) (by decide +kernel), List.mem_of_getElem? (i := 699) (by decide +kernel)⟩
theorem lw_p9 : lw_okq (⟨"BitLoom$Statement", "readOne", "(I)I"⟩, 11) := ⟨⟨by decide +kernel, by decide +kernel⟩, List.mem_of_getElem? (i := 94) (by decide +kernel), List.mem_of_getElem? (i := 702) (by decide +kernel), List.mem_of_getElem? (i := 703) (by decide +kernel)⟩
theorem lw_p10 : lw_okq (⟨"BitLoom$Statement", "readComparison", "()I"⟩, 11) := ⟨⟨by decide +kernel, by decide +kernel⟩, List.mem_of_getElem? (i := 94) (by decide +kernel), List.mem_of_getElem? (i := 710) (by decide +kernel), List.mem_of_getElem? (i := 711) (by decide +kernel)⟩
theorem lw_p11 : lw_okq (⟨"BitLoom$Statement", "readOperand", "(LBitLoom$Operand;)V"⟩, 11) := ⟨⟨by decide +kernel, by decide +kernel⟩, List.mem_of_getElem? (i := 94) (by decide +kernel), List.mem_of_getElem? (i := 714) (by decide +kernel), List.mem_of_getElem? (i := 715) (by decide +kernel)⟩
theorem lw_p12 : lw_okq (⟨"BitLoom$Statement", "refuse", "()V"⟩, 11) := ⟨⟨by decide +kernel, by decide +kernel⟩, List.mem_of_getElem? (i := 94) (by decide +kernel), List.mem_of_getElem? (i := 730) (by decide +kernel), List.mem_of_getElem? (i := 731) (by decide +kernel)⟩
theorem lw_p13 : lw_okq (⟨"BitLoom$Statement", "readField", "()I"⟩, 11) := ⟨⟨by decide +kernel, by decide +kernel⟩, List.mem_of_getElem? (i := 94) (by decide +kernel), List.mem_of_getElem? (i := 740) (by decide +kernel), List.mem_of_getElem? (i := 741) (by decide +kernel)⟩
theorem lw_p14 : lw_okq (⟨"BitLoom$Statement", "readSign", "(CCC)C"⟩, 11) := ⟨⟨by decide +kernel, by decide +kernel⟩, List.mem_of_getElem? (i := 94) (by decide +kernel), List.mem_of_getElem? (i := 757) (by decide +kernel), List.mem_of_getElem? (i := 758) (by decide +kernel)⟩
theorem lw_p15 : lw_okq (⟨"BitLoom$Statement", "passSign", "(C)V"⟩, 11) := ⟨⟨by decide +kernel, by decide +kernel⟩, List.mem_of_getElem? (i := 94) (by decide +kernel), List.mem_of_getElem? (i := 774) (by decide +kernel), List.mem_of_getElem? (i := 775) (by decide +kernel)⟩
def lw_privs_1 : List (MethodName × Nat) := [(⟨"java/lang/Throwable", "fillInStackTrace", "(I)Ljava/lang/Throwable;"⟩, 6), (⟨"BitLoom", "requireWord", "(I)V"⟩, 7), (⟨"BitLoom", "requireInUse", "(I)V"⟩, 7), (⟨"BitLoom", "requireField", "(C)I"⟩, 7), (⟨"BitLoom$Tokens", "cutOne", "(I)I"⟩, 6), (⟨"BitLoom$Tokens", "endOf", "(ICC)I"⟩, 6), (⟨"BitLoom$Tokens", "append", "(CII)I"⟩, 6), (⟨"BitLoom$Statement", "readCondition", "(I)I"⟩, 11), (⟨"BitLoom$Statement", "readClause", "(I)I"⟩, 11), (⟨"BitLoom$Statement", "readOne", "(I)I"⟩, 11), (⟨"BitLoom$Statement", "readComparison", "()I"⟩, 11), (⟨"BitLoom$Statement", "readOperand", "(LBitLoom$Operand;)V"⟩, 11), (⟨"BitLoom$Statement", "refuse", "()V"⟩, 11), (⟨"BitLoom$Statement", "readField", "()I"⟩, 11), (⟨"BitLoom$Statement", "readSign", "(CCC)C"⟩, 11), (⟨"BitLoom$Statement", "passSign", "(C)V"⟩, 11)]
theorem lw_r1 : ∀ q ∈ lw_privs_1, lw_okq q := List.forall_mem_cons.mpr ⟨lw_p0, List.forall_mem_cons.mpr ⟨lw_p1, List.forall_mem_cons.mpr ⟨lw_p2, List.forall_mem_cons.mpr ⟨lw_p3, List.forall_mem_cons.mpr ⟨lw_p4, List.forall_mem_cons.mpr ⟨lw_p5, List.forall_mem_cons.mpr ⟨lw_p6, List.forall_mem_cons.mpr ⟨lw_p7, List.forall_mem_cons.mpr ⟨lw_p8, List.forall_mem_cons.mpr ⟨lw_p9, List.forall_mem_cons.mpr ⟨lw_p10, List.forall_mem_cons.mpr ⟨lw_p11, List.forall_mem_cons.mpr ⟨lw_p12, List.forall_mem_cons.mpr ⟨lw_p13, List.forall_mem_cons.mpr ⟨lw_p14, List.forall_mem_cons.mpr ⟨lw_p15, fun _ h => absurd h List.not_mem_nil⟩⟩⟩⟩⟩⟩⟩⟩⟩⟩⟩⟩⟩⟩⟩⟩
theorem lw_p16 : lw_okq (⟨"BitLoom$Statement", "readAction", "()V"⟩, 11) := ⟨⟨by decide +kernel, by decide +kernel⟩, List.mem_of_getElem? (i := 94) (by decide +kernel), List.mem_of_getElem? (i := 778) (by decide +kernel), List.mem_of_getElem? (i := 779) (by decide +kernel)⟩
theorem lw_p17 : lw_okq (⟨"BitLoom$Statement", "readVerb", "()V"⟩, 11) := ⟨⟨by decide +kernel, by decide +kernel⟩, List.mem_of_getElem? (i := 94) (by decide +kernel), List.mem_of_getElem? (i := 782) (by decide +kernel), List.mem_of_getElem? (i := 783) (by decide +kernel)⟩
theorem lw_p18 : lw_okq (⟨"BitLoom$Statement", "readChange", "(LBitLoom$Change;)V"⟩, 11) := ⟨⟨by decide +kernel, by decide +kernel⟩, List.mem_of_getElem? (i := 94) (by decide +kernel), List.mem_of_getElem? (i := 794) (by decide +kernel), List.mem_of_getElem? (i := 795) (by decide +kernel)⟩
theorem lw_p19 : lw_okq (⟨"BitLoom", "carryOut", "(I)I"⟩, 7) := ⟨⟨by decide +kernel, by decide +kernel⟩, List.mem_of_getElem? (i := 29) (by decide +kernel), List.mem_of_getElem? (i := 814) (by decide +kernel), List.mem_of_getElem? (i := 815) (by decide +kernel)⟩
theorem lw_p20 : lw_okq (⟨"BitLoom", "changeAll", "(I)I"⟩, 7) := ⟨⟨by decide +kernel, by decide +kernel⟩, List.mem_of_getElem? (i := 29) (by decide +kernel), List.mem_of_getElem? (i := 834) (by decide +kernel), List.mem_of_getElem? (i := 835) (by decide +kernel)⟩
theorem lw_p21 : lw_okq (⟨"BitLoom", "greatest", "(II)I"⟩, 7) := ⟨⟨by decide +kernel, by decide +kernel⟩, List.mem_of_getElem? (i := 29) (by decide +kernel), List.mem_of_getElem? (i := 860) (by decide +kernel), List.mem_of_getElem? (i := 861) (by decide +kernel)⟩
theorem lw_p22 : lw_okq (⟨"BitLoom", "valueOf", "(II)I"⟩, 7) := ⟨⟨by decide +kernel, by decide +kernel⟩, List.mem_of_getElem? (i := 29) (by decide +kernel), List.mem_of_getElem? (i := 864) (by decide +kernel), List.mem_of_getElem? (i := 865) (by decide +kernel)⟩
theorem lw_p23 : lw_okq (⟨"BitLoom", "least", "(II)I"⟩, 7) := ⟨⟨by decide +kernel, by decide +kernel⟩, List.mem_of_getElem? (i := 29) (by decide +kernel), List.mem_of_getElem? (i := 869) (by decide +kernel), List.mem_of_getElem? (i := 870) (by decide +kernel)⟩
theorem lw_p24 : lw_okq (⟨"BitLoom", "total", "(II)I"⟩, 7) := ⟨⟨by decide +kernel, by decide +kernel⟩, List.mem_of_getElem? (i := 29) (by decide +kernel), List.mem_of_getElem? (i := 874) (by decide +kernel), List.mem_of_getElem? (i := 875) (by decide +kernel)⟩
theorem lw_p25 : lw_okq (⟨"BitLoom", "listAll", "(II)I"⟩, 7) := ⟨⟨by decide +kernel, by decide +kernel⟩, List.mem_of_getElem? (i := 29) (by decide +kernel), List.mem_of_getElem? (i := 878) (by decide +kernel), List.mem_of_getElem? (i := 879) (by decide +kernel)⟩
theorem lw_p26 : lw_okq (⟨"BitLoom", "sortIn", "(II)V"⟩, 7) := ⟨⟨by decide +kernel, by decide +kernel⟩, List.mem_of_getElem? (i := 29) (by decide +kernel), List.mem_of_getElem? (i := 882) (by decide +kernel), List.mem_of_getElem? (i := 883) (by decide +kernel)⟩
theorem lw_p27 : lw_okq (⟨"BitLoomModel", "fieldOf", "(C)I"⟩, 38) := ⟨⟨by decide +kernel, by decide +kernel⟩, List.mem_of_getElem? (i := 911) (by decide +kernel), List.mem_of_getElem? (i := 1040) (by decide +kernel), List.mem_of_getElem? (i := 1041) (by decide +kernel)⟩
theorem lw_p28 : lw_okq (⟨"BitLoomModel", "fits", "(II)Z"⟩, 38) := ⟨⟨by decide +kernel, by decide +kernel⟩, List.mem_of_getElem? (i := 911) (by decide +kernel), List.mem_of_getElem? (i := 1059) (by decide +kernel), List.mem_of_getElem? (i := 1060) (by decide +kernel)⟩
theorem lw_p29 : lw_okq (⟨"BitLoomModel", "setValue", "(III)V"⟩, 38) := ⟨⟨by decide +kernel, by decide +kernel⟩, List.mem_of_getElem? (i := 911) (by decide +kernel), List.mem_of_getElem? (i := 1063) (by decide +kernel), List.mem_of_getElem? (i := 1064) (by decide +kernel)⟩
theorem lw_p30 : lw_okq (⟨"BitLoomModel", "valueOf", "(II)I"⟩, 38) := ⟨⟨by decide +kernel, by decide +kernel⟩, List.mem_of_getElem? (i := 911) (by decide +kernel), List.mem_of_getElem? (i := 1071) (by decide +kernel), List.mem_of_getElem? (i := 1072) (by decide +kernel)⟩
theorem lw_p31 : lw_okq (⟨"BitLoomModel", "readText", "()I"⟩, 38) := ⟨⟨by decide +kernel, by decide +kernel⟩, List.mem_of_getElem? (i := 911) (by decide +kernel), List.mem_of_getElem? (i := 1109) (by decide +kernel), List.mem_of_getElem? (i := 1110) (by decide +kernel)⟩
def lw_privs_2 : List (MethodName × Nat) := [(⟨"BitLoom$Statement", "readAction", "()V"⟩, 11), (⟨"BitLoom$Statement", "readVerb", "()V"⟩, 11), (⟨"BitLoom$Statement", "readChange", "(LBitLoom$Change;)V"⟩, 11), (⟨"BitLoom", "carryOut", "(I)I"⟩, 7), (⟨"BitLoom", "changeAll", "(I)I"⟩, 7), (⟨"BitLoom", "greatest", "(II)I"⟩, 7), (⟨"BitLoom", "valueOf", "(II)I"⟩, 7), (⟨"BitLoom", "least", "(II)I"⟩, 7), (⟨"BitLoom", "total", "(II)I"⟩, 7), (⟨"BitLoom", "listAll", "(II)I"⟩, 7), (⟨"BitLoom", "sortIn", "(II)V"⟩, 7), (⟨"BitLoomModel", "fieldOf", "(C)I"⟩, 38), (⟨"BitLoomModel", "fits", "(II)Z"⟩, 38), (⟨"BitLoomModel", "setValue", "(III)V"⟩, 38), (⟨"BitLoomModel", "valueOf", "(II)I"⟩, 38), (⟨"BitLoomModel", "readText", "()I"⟩, 38)]
theorem lw_r2 : ∀ q ∈ lw_privs_2, lw_okq q := List.forall_mem_cons.mpr ⟨lw_p16, List.forall_mem_cons.mpr ⟨lw_p17, List.forall_mem_cons.mpr ⟨lw_p18, List.forall_mem_cons.mpr ⟨lw_p19, List.forall_mem_cons.mpr ⟨lw_p20, List.forall_mem_cons.mpr ⟨lw_p21, List.forall_mem_cons.mpr ⟨lw_p22, List.forall_mem_cons.mpr ⟨lw_p23, List.forall_mem_cons.mpr ⟨lw_p24, List.forall_mem_cons.mpr ⟨lw_p25, List.forall_mem_cons.mpr ⟨lw_p26, List.forall_mem_cons.mpr ⟨lw_p27, List.forall_mem_cons.mpr ⟨lw_p28, List.forall_mem_cons.mpr ⟨lw_p29, List.forall_mem_cons.mpr ⟨lw_p30, List.forall_mem_cons.mpr ⟨lw_p31, fun _ h => absurd h List.not_mem_nil⟩⟩⟩⟩⟩⟩⟩⟩⟩⟩⟩⟩⟩⟩⟩⟩
theorem lw_p32 : lw_okq (⟨"BitLoomModel", "scan", "(I)V"⟩, 38) := ⟨⟨by decide +kernel, by decide +kernel⟩, List.mem_of_getElem? (i := 911) (by decide +kernel), List.mem_of_getElem? (i := 1113) (by decide +kernel), List.mem_of_getElem? (i := 1114) (by decide +kernel)⟩
theorem lw_p33 : lw_okq (⟨"BitLoomModel", "see", "(I)C"⟩, 38) := ⟨⟨by decide +kernel, by decide +kernel⟩, List.mem_of_getElem? (i := 911) (by decide +kernel), List.mem_of_getElem? (i := 1117) (by decide +kernel), List.mem_of_getElem? (i := 1118) (by decide +kernel)⟩
theorem lw_p34 : lw_okq (⟨"BitLoomModel", "next", "(I)I"⟩, 38) := ⟨⟨by decide +kernel, by decide +kernel⟩, List.mem_of_getElem? (i := 911) (by decide +kernel), List.mem_of_getElem? (i := 1131) (by decide +kernel), List.mem_of_getElem? (i := 1132) (by decide +kernel)⟩
theorem lw_p35 : lw_okq (⟨"BitLoomModel", "start", "()I"⟩, 38) := ⟨⟨by decide +kernel, by decide +kernel⟩, List.mem_of_getElem? (i := 911) (by decide +kernel), List.mem_of_getElem? (i := 1135) (by decide +kernel), List.mem_of_getElem? (i := 1136) (by decide +kernel)⟩
theorem lw_p36 : lw_okq (⟨"BitLoomModel", "emit", "(II)V"⟩, 38) := ⟨⟨by decide +kernel, by decide +kernel⟩, List.mem_of_getElem? (i := 911) (by decide +kernel), List.mem_of_getElem? (i := 1140) (by decide +kernel), List.mem_of_getElem? (i := 1141) (by decide +kernel)⟩
theorem lw_p37 : lw_okq (⟨"BitLoomModel", "act", "()I"⟩, 38) := ⟨⟨by decide +kernel, by decide +kernel⟩, List.mem_of_getElem? (i := 911) (by decide +kernel), List.mem_of_getElem? (i := 1144) (by decide +kernel), List.mem_of_getElem? (i := 1145) (by decide +kernel)⟩
theorem lw_p38 : lw_okq (⟨"BitLoomModel", "one", "()I"⟩, 38) := ⟨⟨by decide +kernel, by decide +kernel⟩, List.mem_of_getElem? (i := 911) (by decide +kernel), List.mem_of_getElem? (i := 1157) (by decide +kernel), List.mem_of_getElem? (i := 1158) (by decide +kernel)⟩
theorem lw_p39 : lw_okq (⟨"BitLoomModel", "isIt", "(C)Z"⟩, 38) := ⟨⟨by decide +kernel, by decide +kernel⟩, List.mem_of_getElem? (i := 911) (by decide +kernel), List.mem_of_getElem? (i := 1161) (by decide +kernel), List.mem_of_getElem? (i := 1162) (by decide +kernel)⟩
theorem lw_p40 : lw_okq (⟨"BitLoomModel", "push", "(I)V"⟩, 38) := ⟨⟨by decide +kernel, by decide +kernel⟩, List.mem_of_getElem? (i := 911) (by decide +kernel), List.mem_of_getElem? (i := 1165) (by decide +kernel), List.mem_of_getElem? (i := 1166) (by decide +kernel)⟩
theorem lw_p41 : lw_okq (⟨"BitLoomModel", "operand", "(II)I"⟩, 38) := ⟨⟨by decide +kernel, by decide +kernel⟩, List.mem_of_getElem? (i := 911) (by decide +kernel), List.mem_of_getElem? (i := 1169) (by decide +kernel), List.mem_of_getElem? (i := 1170) (by decide +kernel)⟩
theorem lw_p42 : lw_okq (⟨"BitLoomModel", "wholeOne", "()I"⟩, 38) := ⟨⟨by decide +kernel, by decide +kernel⟩, List.mem_of_getElem? (i := 911) (by decide +kernel), List.mem_of_getElem? (i := 1173) (by decide +kernel), List.mem_of_getElem? (i := 1174) (by decide +kernel)⟩
theorem lw_p43 : lw_okq (⟨"BitLoomModel", "denied", "()V"⟩, 38) := ⟨⟨by decide +kernel, by decide +kernel⟩, List.mem_of_getElem? (i := 911) (by decide +kernel), List.mem_of_getElem? (i := 1177) (by decide +kernel), List.mem_of_getElem? (i := 1178) (by decide +kernel)⟩
theorem lw_p44 : lw_okq (⟨"BitLoomModel", "upper", "()I"⟩, 38) := ⟨⟨by decide +kernel, by decide +kernel⟩, List.mem_of_getElem? (i := 911) (by decide +kernel), List.mem_of_getElem? (i := 1181) (by decide +kernel), List.mem_of_getElem? (i := 1182) (by decide +kernel)⟩
theorem lw_p45 : lw_okq (⟨"BitLoomModel", "named", "()I"⟩, 38) := ⟨⟨by decide +kernel, by decide +kernel⟩, List.mem_of_getElem? (i := 911) (by decide +kernel), List.mem_of_getElem? (i := 1185) (by decide +kernel), List.mem_of_getElem? (i := 1186) (by decide +kernel)⟩
theorem lw_p46 : lw_okq (⟨"BitLoomModel", "negative", "(I)I"⟩, 38) := ⟨⟨by decide +kernel, by decide +kernel⟩, List.mem_of_getElem? (i := 911) (by decide +kernel), List.mem_of_getElem? (i := 1189) (by decide +kernel), List.mem_of_getElem? (i := 1190) (by decide +kernel)⟩
theorem lw_p47 : lw_okq (⟨"BitLoomModel", "relate", "()I"⟩, 38) := ⟨⟨by decide +kernel, by decide +kernel⟩, List.mem_of_getElem? (i := 911) (by decide +kernel), List.mem_of_getElem? (i := 1193) (by decide +kernel), List.mem_of_getElem? (i := 1194) (by decide +kernel)⟩
def lw_privs_3 : List (MethodName × Nat) := [(⟨"BitLoomModel", "scan", "(I)V"⟩, 38), (⟨"BitLoomModel", "see", "(I)C"⟩, 38), (⟨"BitLoomModel", "next", "(I)I"⟩, 38), (⟨"BitLoomModel", "start", "()I"⟩, 38), (⟨"BitLoomModel", "emit", "(II)V"⟩, 38), (⟨"BitLoomModel", "act", "()I"⟩, 38), (⟨"BitLoomModel", "one", "()I"⟩, 38), (⟨"BitLoomModel", "isIt", "(C)Z"⟩, 38), (⟨"BitLoomModel", "push", "(I)V"⟩, 38), (⟨"BitLoomModel", "operand", "(II)I"⟩, 38), (⟨"BitLoomModel", "wholeOne", "()I"⟩, 38), (⟨"BitLoomModel", "denied", "()V"⟩, 38), (⟨"BitLoomModel", "upper", "()I"⟩, 38), (⟨"BitLoomModel", "named", "()I"⟩, 38), (⟨"BitLoomModel", "negative", "(I)I"⟩, 38), (⟨"BitLoomModel", "relate", "()I"⟩, 38)]
theorem lw_r3 : ∀ q ∈ lw_privs_3, lw_okq q := List.forall_mem_cons.mpr ⟨lw_p32, List.forall_mem_cons.mpr ⟨lw_p33, List.forall_mem_cons.mpr ⟨lw_p34, List.forall_mem_cons.mpr ⟨lw_p35, List.forall_mem_cons.mpr ⟨lw_p36, List.forall_mem_cons.mpr ⟨lw_p37, List.forall_mem_cons.mpr ⟨lw_p38, List.forall_mem_cons.mpr ⟨lw_p39, List.forall_mem_cons.mpr ⟨lw_p40, List.forall_mem_cons.mpr ⟨lw_p41, List.forall_mem_cons.mpr ⟨lw_p42, List.forall_mem_cons.mpr ⟨lw_p43, List.forall_mem_cons.mpr ⟨lw_p44, List.forall_mem_cons.mpr ⟨lw_p45, List.forall_mem_cons.mpr ⟨lw_p46, List.forall_mem_cons.mpr ⟨lw_p47, fun _ h => absurd h List.not_mem_nil⟩⟩⟩⟩⟩⟩⟩⟩⟩⟩⟩⟩⟩⟩⟩⟩
theorem lw_p48 : lw_okq (⟨"BitLoomModel", "afterOne", "()I"⟩, 38) := ⟨⟨by decide +kernel, by decide +kernel⟩, List.mem_of_getElem? (i := 911) (by decide +kernel), List.mem_of_getElem? (i := 1197) (by decide +kernel), List.mem_of_getElem? (i := 1198) (by decide +kernel)⟩
theorem lw_p49 : lw_okq (⟨"BitLoomModel", "settle", "(II)V"⟩, 38) := ⟨⟨by decide +kernel, by decide +kernel⟩, List.mem_of_getElem? (i := 911) (by decide +kernel), List.mem_of_getElem? (i := 1201) (by decide +kernel), List.mem_of_getElem? (i := 1202) (by decide +kernel)⟩
theorem lw_p50 : lw_okq (⟨"BitLoomModel", "pick", "(I)I"⟩, 38) := ⟨⟨by decide +kernel, by decide +kernel⟩, List.mem_of_getElem? (i := 911) (by decide +kernel), List.mem_of_getElem? (i := 1205) (by decide +kernel), List.mem_of_getElem? (i := 1206) (by decide +kernel)⟩
theorem lw_p51 : lw_okq (⟨"BitLoomModel", "part", "(ZZII)I"⟩, 38) := ⟨⟨by decide +kernel, by decide +kernel⟩, List.mem_of_getElem? (i := 911) (by decide +kernel), List.mem_of_getElem? (i := 1209) (by decide +kernel), List.mem_of_getElem? (i := 1210) (by decide +kernel)⟩
theorem lw_p52 : lw_okq (⟨"BitLoomModel", "afterFirst", "()I"⟩, 38) := ⟨⟨by decide +kernel, by decide +kernel⟩, List.mem_of_getElem? (i := 911) (by decide +kernel), List.mem_of_getElem? (i := 1213) (by decide +kernel), List.mem_of_getElem? (i := 1214) (by decide +kernel)⟩
theorem lw_p53 : lw_okq (⟨"BitLoomModel", "afterChange", "()I"⟩, 38) := ⟨⟨by decide +kernel, by decide +kernel⟩, List.mem_of_getElem? (i := 911) (by decide +kernel), List.mem_of_getElem? (i := 1217) (by decide +kernel), List.mem_of_getElem? (i := 1218) (by decide +kernel)⟩
theorem lw_p54 : lw_okq (⟨"BitLoomModel", "isTaken", "(I)Z"⟩, 38) := ⟨⟨by decide +kernel, by decide +kernel⟩, List.mem_of_getElem? (i := 911) (by decide +kernel), List.mem_of_getElem? (i := 1221) (by decide +kernel), List.mem_of_getElem? (i := 1222) (by decide +kernel)⟩
theorem lw_p55 : lw_okq (⟨"BitLoomModel", "changeAll", "()I"⟩, 38) := ⟨⟨by decide +kernel, by decide +kernel⟩, List.mem_of_getElem? (i := 911) (by decide +kernel), List.mem_of_getElem? (i := 1228) (by decide +kernel), List.mem_of_getElem? (i := 1229) (by decide +kernel)⟩
theorem lw_p56 : lw_okq (⟨"BitLoomModel", "change", "(I)Z"⟩, 38) := ⟨⟨by decide +kernel, by decide +kernel⟩, List.mem_of_getElem? (i := 911) (by decide +kernel), List.mem_of_getElem? (i := 1232) (by decide +kernel), List.mem_of_getElem? (i := 1233) (by decide +kernel)⟩
theorem lw_p57 : lw_okq (⟨"BitLoomModel", "resultOf", "(II)I"⟩, 38) := ⟨⟨by decide +kernel, by decide +kernel⟩, List.mem_of_getElem? (i := 911) (by decide +kernel), List.mem_of_getElem? (i := 1236) (by decide +kernel), List.mem_of_getElem? (i := 1237) (by decide +kernel)⟩
theorem lw_p58 : lw_okq (⟨"BitLoomModel", "listAll", "()I"⟩, 38) := ⟨⟨by decide +kernel, by decide +kernel⟩, List.mem_of_getElem? (i := 911) (by decide +kernel), List.mem_of_getElem? (i := 1240) (by decide +kernel), List.mem_of_getElem? (i := 1241) (by decide +kernel)⟩
theorem lw_p59 : lw_okq (⟨"BitLoomModel", "gather", "()I"⟩, 38) := ⟨⟨by decide +kernel, by decide +kernel⟩, List.mem_of_getElem? (i := 911) (by decide +kernel), List.mem_of_getElem? (i := 1244) (by decide +kernel), List.mem_of_getElem? (i := 1245) (by decide +kernel)⟩
def lw_privs_4 : List (MethodName × Nat) := [(⟨"BitLoomModel", "afterOne", "()I"⟩, 38), (⟨"BitLoomModel", "settle", "(II)V"⟩, 38), (⟨"BitLoomModel", "pick", "(I)I"⟩, 38), (⟨"BitLoomModel", "part", "(ZZII)I"⟩, 38), (⟨"BitLoomModel", "afterFirst", "()I"⟩, 38), (⟨"BitLoomModel", "afterChange", "()I"⟩, 38), (⟨"BitLoomModel", "isTaken", "(I)Z"⟩, 38), (⟨"BitLoomModel", "changeAll", "()I"⟩, 38), (⟨"BitLoomModel", "change", "(I)Z"⟩, 38), (⟨"BitLoomModel", "resultOf", "(II)I"⟩, 38), (⟨"BitLoomModel", "listAll", "()I"⟩, 38), (⟨"BitLoomModel", "gather", "()I"⟩, 38)]
theorem lw_r4 : ∀ q ∈ lw_privs_4, lw_okq q := List.forall_mem_cons.mpr ⟨lw_p48, List.forall_mem_cons.mpr ⟨lw_p49, List.forall_mem_cons.mpr ⟨lw_p50, List.forall_mem_cons.mpr ⟨lw_p51, List.forall_mem_cons.mpr ⟨lw_p52, List.forall_mem_cons.mpr ⟨lw_p53, List.forall_mem_cons.mpr ⟨lw_p54, List.forall_mem_cons.mpr ⟨lw_p55, List.forall_mem_cons.mpr ⟨lw_p56, List.forall_mem_cons.mpr ⟨lw_p57, List.forall_mem_cons.mpr ⟨lw_p58, List.forall_mem_cons.mpr ⟨lw_p59, fun _ h => absurd h List.not_mem_nil⟩⟩⟩⟩⟩⟩⟩⟩⟩⟩⟩⟩
def lw_privs : List (MethodName × Nat) := lw_privs_1 ++ (lw_privs_2 ++ (lw_privs_3 ++ (lw_privs_4)))
def lw_tbl : List Cond := k2_sels lw_privs ++ tables_1
theorem lw_privs_ok : ∀ q ∈ lw_privs, lw_okq q := by
  show ∀ q ∈ lw_privs_1 ++ (lw_privs_2 ++ (lw_privs_3 ++ (lw_privs_4))), lw_okq q
  exact List.forall_mem_append.mpr ⟨lw_r1, List.forall_mem_append.mpr ⟨lw_r2, List.forall_mem_append.mpr ⟨lw_r3, lw_r4⟩⟩⟩
end
section
/-! classes, fields, methods, by program out of the Statement -/
def R_B : String := "BitLoom"
def T_B : u_T := fun k => match k with
  | 0 => ("BitLoom", "fields", "LBitLoom$Fields;", true)
  | 1 => ("BitLoom", "words", "LBitLoom$Words;", true)
  | 2 => ("BitLoom", "text", "LBitLoom$Text;", true)
  | 3 => ("BitLoom", "statement", "LBitLoom$Statement;", true)
  | 4 => ("BitLoom", "list", "[I", true)
  | 5 => ("BitLoom", "listLength", "I", false)
  | _ => ("BitLoom", "refusals", "I", false)
def ty_B : Nat → FieldType := fun k => match k with
  | 0 => (.object "BitLoom$Fields")
  | 1 => (.object "BitLoom$Words")
  | 2 => (.object "BitLoom$Text")
  | 3 => (.object "BitLoom$Statement")
  | 4 => (.array .int)
  | 5 => .int
  | _ => .int
theorem nm_B : ∀ a, a < 7 → ∀ b, b < 7 → a ≠ b → (T_B a).2.1 ≠ (T_B b).2.1 := by decide +kernel
theorem tk_B : ∀ k, k < 7 → parseFieldDescriptor (T_B k).2.2.1 = some (ty_B k) := by decide +kernel
def R_F : String := "BitLoom$Fields"
def T_F : u_T := fun k => match k with
  | 0 => ("BitLoom$Fields", "names", "[C", true)
  | 1 => ("BitLoom$Fields", "firsts", "[I", true)
  | 2 => ("BitLoom$Fields", "widths", "[I", true)
  | 3 => ("BitLoom$Fields", "signs", "[Z", true)
  | 4 => ("BitLoom$Fields", "count", "I", false)
  | _ => ("BitLoom$Fields", "covered", "I", false)
def ty_F : Nat → FieldType := fun k => match k with
  | 0 => (.array .char)
  | 1 => (.array .int)
  | 2 => (.array .int)
  | 3 => (.array .boolean)
  | 4 => .int
  | _ => .int
theorem nm_F : ∀ a, a < 6 → ∀ b, b < 6 → a ≠ b → (T_F a).2.1 ≠ (T_F b).2.1 := by decide +kernel
theorem tk_F : ∀ k, k < 6 → parseFieldDescriptor (T_F k).2.2.1 = some (ty_F k) := by decide +kernel
def R_W : String := "BitLoom$Words"
def T_W : u_T := fun k => match k with
  | 0 => ("BitLoom$Words", "bits", "[I", true)
  | 1 => ("BitLoom$Words", "inUse", "I", false)
  | _ => ("BitLoom$Words", "responding", "I", false)
def ty_W : Nat → FieldType := fun k => match k with
  | 0 => (.array .int)
  | 1 => .int
  | _ => .int
theorem nm_W : ∀ a, a < 3 → ∀ b, b < 3 → a ≠ b → (T_W a).2.1 ≠ (T_W b).2.1 := by decide +kernel
theorem tk_W : ∀ k, k < 3 → parseFieldDescriptor (T_W k).2.2.1 = some (ty_W k) := by decide +kernel
def R_T : String := "BitLoom$Text"
def T_T : u_T := fun k => match k with
  | 0 => ("BitLoom$Text", "characters", "[C", true)
  | _ => ("BitLoom$Text", "length", "I", false)
def ty_T : Nat → FieldType := fun k => match k with
  | 0 => (.array .char)
  | _ => .int
theorem nm_T : ∀ a, a < 2 → ∀ b, b < 2 → a ≠ b → (T_T a).2.1 ≠ (T_T b).2.1 := by decide +kernel
theorem tk_T : ∀ k, k < 2 → parseFieldDescriptor (T_T k).2.2.1 = some (ty_T k) := by decide +kernel
def R_K : String := "BitLoom$Tokens"
def T_K : u_T := fun k => match k with
  | 0 => ("BitLoom$Tokens", "text", "LBitLoom$Text;", true)
  | 1 => ("BitLoom$Tokens", "kinds", "[C", true)
  | 2 => ("BitLoom$Tokens", "starts", "[I", true)
  | 3 => ("BitLoom$Tokens", "ends", "[I", true)
  | 4 => ("BitLoom$Tokens", "count", "I", false)
  | _ => ("BitLoom$Tokens", "at", "I", false)
def ty_K : Nat → FieldType := fun k => match k with
  | 0 => (.object "BitLoom$Text")
  | 1 => (.array .char)
  | 2 => (.array .int)
  | 3 => (.array .int)
  | 4 => .int
  | _ => .int
theorem nm_K : ∀ a, a < 6 → ∀ b, b < 6 → a ≠ b → (T_K a).2.1 ≠ (T_K b).2.1 := by decide +kernel
theorem tk_K : ∀ k, k < 6 → parseFieldDescriptor (T_K k).2.2.1 = some (ty_K k) := by decide +kernel
def R_O : String := "BitLoom$Operand"
def T_O : u_T := fun k => match k with
  | 0 => ("BitLoom$Operand", "fields", "LBitLoom$Fields;", true)
  | 1 => ("BitLoom$Operand", "field", "I", false)
  | _ => ("BitLoom$Operand", "number", "I", false)
def ty_O : Nat → FieldType := fun k => match k with
  | 0 => (.object "BitLoom$Fields")
  | 1 => .int
  | _ => .int
theorem nm_O : ∀ a, a < 3 → ∀ b, b < 3 → a ≠ b → (T_O a).2.1 ≠ (T_O b).2.1 := by decide +kernel
theorem tk_O : ∀ k, k < 3 → parseFieldDescriptor (T_O k).2.2.1 = some (ty_O k) := by decide +kernel
def R_P : String := "BitLoom$Pair"
def T_P : u_T := fun k => match k with
  | 0 => ("BitLoom$Pair", "left", "LBitLoom$Operand;", true)
  | 1 => ("BitLoom$Pair", "right", "LBitLoom$Operand;", true)
  | _ => ("BitLoom$Pair", "sign", "C", false)
def ty_P : Nat → FieldType := fun k => match k with
  | 0 => (.object "BitLoom$Operand")
  | 1 => (.object "BitLoom$Operand")
  | _ => .char
theorem nm_P : ∀ a, a < 3 → ∀ b, b < 3 → a ≠ b → (T_P a).2.1 ≠ (T_P b).2.1 := by decide +kernel
theorem tk_P : ∀ k, k < 3 → parseFieldDescriptor (T_P k).2.2.1 = some (ty_P k) := by decide +kernel
def R_C : String := "BitLoom$Change"
def T_C : u_T := fun k => match k with
  | 0 => ("BitLoom$Change", "fields", "LBitLoom$Fields;", true)
  | 1 => ("BitLoom$Change", "operands", "LBitLoom$Pair;", true)
  | _ => ("BitLoom$Change", "target", "I", false)
def ty_C : Nat → FieldType := fun k => match k with
  | 0 => (.object "BitLoom$Fields")
  | 1 => (.object "BitLoom$Pair")
  | _ => .int
theorem nm_C : ∀ a, a < 3 → ∀ b, b < 3 → a ≠ b → (T_C a).2.1 ≠ (T_C b).2.1 := by decide +kernel
theorem tk_C : ∀ k, k < 3 → parseFieldDescriptor (T_C k).2.2.1 = some (ty_C k) := by decide +kernel
def R_S : String := "BitLoom$Statement"
def T_S : u_T := fun k => match k with
  | 0 => ("BitLoom$Statement", "fields", "LBitLoom$Fields;", true)
  | 1 => ("BitLoom$Statement", "words", "LBitLoom$Words;", true)
  | 2 => ("BitLoom$Statement", "tokens", "LBitLoom$Tokens;", true)
  | 3 => ("BitLoom$Statement", "compared", "LBitLoom$Pair;", true)
  | 4 => ("BitLoom$Statement", "change", "LBitLoom$Change;", true)
  | 5 => ("BitLoom$Statement", "secondChange", "LBitLoom$Change;", true)
  | 6 => ("BitLoom$Statement", "hasSecondChange", "Z", false)
  | 7 => ("BitLoom$Statement", "action", "LBitLoom$Action;", false)
  | 8 => ("BitLoom$Statement", "subject", "I", false)
  | 9 => ("BitLoom$Statement", "taken", "I", false)
  | _ => ("BitLoom$Statement", "wrongAt", "I", false)
def ty_S : Nat → FieldType := fun k => match k with
  | 0 => (.object "BitLoom$Fields")
  | 1 => (.object "BitLoom$Words")
  | 2 => (.object "BitLoom$Tokens")
  | 3 => (.object "BitLoom$Pair")
  | 4 => (.object "BitLoom$Change")
  | 5 => (.object "BitLoom$Change")
  | 6 => .boolean
  | 7 => (.object "BitLoom$Action")
  | 8 => .int
  | 9 => .int
  | _ => .int
theorem nm_S : ∀ a, a < 11 → ∀ b, b < 11 → a ≠ b → (T_S a).2.1 ≠ (T_S b).2.1 := by decide +kernel
theorem tk_S : ∀ k, k < 11 → parseFieldDescriptor (T_S k).2.2.1 = some (ty_S k) := by decide +kernel
def R_M : String := "BitLoomModel"
def T_M : u_T := fun k => match k with
  | 0 => ("BitLoomModel", "code", "I", false)
  | 1 => ("BitLoomModel", "used", "[Z", true)
  | 2 => ("BitLoomModel", "bits", "[I", true)
  | 3 => ("BitLoomModel", "responds", "[Z", true)
  | 4 => ("BitLoomModel", "fields", "I", false)
  | 5 => ("BitLoomModel", "names", "[C", true)
  | 6 => ("BitLoomModel", "lows", "[I", true)
  | 7 => ("BitLoomModel", "widths", "[I", true)
  | 8 => ("BitLoomModel", "signs", "[Z", true)
  | 9 => ("BitLoomModel", "typed", "I", false)
  | 10 => ("BitLoomModel", "text", "[C", true)
  | 11 => ("BitLoomModel", "place", "I", false)
  | 12 => ("BitLoomModel", "refused", "I", false)
  | 13 => ("BitLoomModel", "many", "I", false)
  | 14 => ("BitLoomModel", "list", "[I", true)
  | 15 => ("BitLoomModel", "kind", "I", false)
  | 16 => ("BitLoomModel", "begin", "I", false)
  | 17 => ("BitLoomModel", "end", "I", false)
  | 18 => ("BitLoomModel", "amount", "I", false)
  | 19 => ("BitLoomModel", "letters", "J", false)
  | 20 => ("BitLoomModel", "length", "I", false)
  | 21 => ("BitLoomModel", "order", "[I", true)
  | 22 => ("BitLoomModel", "arg", "[I", true)
  | 23 => ("BitLoomModel", "open", "I", false)
  | 24 => ("BitLoomModel", "pile", "[I", true)
  | 25 => ("BitLoomModel", "nested", "I", false)
  | 26 => ("BitLoomModel", "relation", "I", false)
  | 27 => ("BitLoomModel", "action", "I", false)
  | 28 => ("BitLoomModel", "of", "I", false)
  | 29 => ("BitLoomModel", "changes", "I", false)
  | 30 => ("BitLoomModel", "target", "[I", true)
  | 31 => ("BitLoomModel", "oneField", "[I", true)
  | 32 => ("BitLoomModel", "oneNumber", "[I", true)
  | 33 => ("BitLoomModel", "how", "[I", true)
  | 34 => ("BitLoomModel", "twoField", "[I", true)
  | 35 => ("BitLoomModel", "twoNumber", "[I", true)
  | 36 => ("BitLoomModel", "high", "I", false)
  | _ => ("BitLoomModel", "stack", "[I", true)
def ty_M : Nat → FieldType := fun k => match k with
  | 0 => .int
  | 1 => (.array .boolean)
  | 2 => (.array .int)
  | 3 => (.array .boolean)
  | 4 => .int
  | 5 => (.array .char)
  | 6 => (.array .int)
  | 7 => (.array .int)
  | 8 => (.array .boolean)
  | 9 => .int
  | 10 => (.array .char)
  | 11 => .int
  | 12 => .int
  | 13 => .int
  | 14 => (.array .int)
  | 15 => .int
  | 16 => .int
  | 17 => .int
  | 18 => .int
  | 19 => .long
  | 20 => .int
  | 21 => (.array .int)
  | 22 => (.array .int)
  | 23 => .int
  | 24 => (.array .int)
  | 25 => .int
  | 26 => .int
  | 27 => .int
  | 28 => .int
  | 29 => .int
  | 30 => (.array .int)
  | 31 => (.array .int)
  | 32 => (.array .int)
  | 33 => (.array .int)
  | 34 => (.array .int)
  | 35 => (.array .int)
  | 36 => .int
  | _ => (.array .int)
theorem nm_M : ∀ a, a < 38 → ∀ b, b < 38 → a ≠ b → (T_M a).2.1 ≠ (T_M b).2.1 := by decide +kernel
theorem tk_M : ∀ k, k < 38 → parseFieldDescriptor (T_M k).2.2.1 = some (ty_M k) := by decide +kernel
def R_XA : String := "java/lang/IllegalArgumentException"
def T_XA : u_T := fun k => match k with
  | _ => ("", "", "", false)
def ty_XA : Nat → FieldType := fun k => match k with
  | _ => .int
theorem nm_XA : ∀ a, a < 0 → ∀ b, b < 0 → a ≠ b → (T_XA a).2.1 ≠ (T_XA b).2.1 := by decide +kernel
theorem tk_XA : ∀ k, k < 0 → parseFieldDescriptor (T_XA k).2.2.1 = some (ty_XA k) := by decide +kernel
def R_XN : String := "java/util/NoSuchElementException"
def T_XN : u_T := fun k => match k with
  | _ => ("", "", "", false)
def ty_XN : Nat → FieldType := fun k => match k with
  | _ => .int
theorem nm_XN : ∀ a, a < 0 → ∀ b, b < 0 → a ≠ b → (T_XN a).2.1 ≠ (T_XN b).2.1 := by decide +kernel
theorem tk_XN : ∀ k, k < 0 → parseFieldDescriptor (T_XN k).2.2.1 = some (ty_XN k) := by decide +kernel
def R_XS : String := "java/lang/IllegalStateException"
def T_XS : u_T := fun k => match k with
  | _ => ("", "", "", false)
def ty_XS : Nat → FieldType := fun k => match k with
  | _ => .int
theorem nm_XS : ∀ a, a < 0 → ∀ b, b < 0 → a ≠ b → (T_XS a).2.1 ≠ (T_XS b).2.1 := by decide +kernel
theorem tk_XS : ∀ k, k < 0 → parseFieldDescriptor (T_XS k).2.2.1 = some (ty_XS k) := by decide +kernel
def R_XI : String := "java/lang/IndexOutOfBoundsException"
def T_XI : u_T := fun k => match k with
  | _ => ("", "", "", false)
def ty_XI : Nat → FieldType := fun k => match k with
  | _ => .int
theorem nm_XI : ∀ a, a < 0 → ∀ b, b < 0 → a ≠ b → (T_XI a).2.1 ≠ (T_XI b).2.1 := by decide +kernel
theorem tk_XI : ∀ k, k < 0 → parseFieldDescriptor (T_XI k).2.2.1 = some (ty_XI k) := by decide +kernel
/-- the classes whose objects the worlds hold, by number -/
abbrev classes : List vw_C := [(R_B, T_B, 7), (R_F, T_F, 6), (R_W, T_W, 3), (R_T, T_T, 2), (R_K, T_K, 6), (R_O, T_O, 3), (R_P, T_P, 3), (R_C, T_C, 3), (R_S, T_S, 11), (R_M, T_M, 38), (R_XA, T_XA, 0), (R_XN, T_XN, 0), (R_XS, T_XS, 0), (R_XI, T_XI, 0)]
/-- words that stay true of warmer tables, whatever the heap -/
def j_ok (w : Cond) : Bool := match w with
  | .arrayClass _ => true
  | .fieldLinkNest .. => true
  | .methodLinkNest .. => true
  | w => w.onTables && w.keepsFace
def jt : List Cond := lw_tbl.filter j_ok
theorem j_in (i : Nat) {w : Cond} (h : tables_1[i]? = some w) (hok : j_ok w = true) : w ∈ jt := List.mem_filter.mpr ⟨List.mem_append_right _ (List.mem_of_getElem? h), hok⟩
theorem j_ip (i : Nat) {y : MethodName} {n : Nat} (h : lw_privs[i]? = some (y, n)) : Cond.selects y.cls y y ∈ jt := List.mem_filter.mpr ⟨List.mem_append_left _ (List.mem_map.mpr ⟨(y, n), List.mem_of_getElem? h, rfl⟩), rfl⟩
end
section
/-! THE MINI MACHINE. A world is a list of cells, told by number: the cell j lies at the address N0 + j, and a reference to it is '.ref (32 + j)'; the numbers below 32 name cells that were there before (constants). Everything later speaks of these numbers alone. -/
abbrev jH : Type := List va_E
/-- how a method ends: it returned, or it threw an object of the class with that number, which is the world's last cell -/
abbrev jO : Type := Option Value ⊕ Nat
/-- launch; first new address; the heap at the law's start; class numbers; array classes; addresses of the constants; the script's length and ints -/
abbrev jK : Type := Launch × Nat × Heap × va_G × (Nat → ClassId) × (Nat → Nat) × Nat × (Nat → Int32)
/-- a method: name, code, locals, result, handlers -/
abbrev jR : Type := MethodName × ByteArray × Nat × Option FieldType × List (Nat × Nat × Nat × Nat)
def j_adr (K : jK) (i : Nat) : Nat := if i < 32 then K.2.2.2.2.2.1 i else K.2.1 + (i - 32)
def j_v (K : jK) (v : Value) : Value := match v with
  | .ref i => .ref (j_adr K i)
  | x => x
def j_l (K : jK) (q : Nat × Value) : Nat × Value := (q.1, j_v K q.2)
def j_e (K : jK) (x : va_E) : va_E := match x with
  | .inl a => .inl (K.2.2.2.2.1 a.1, a.2)
  | .inr o => .inr (o.1, o.2.map (j_v K))
abbrev j_ty (K : jK) : List (ClassId × FieldType) := [(K.2.2.2.2.1 0, .int), (K.2.2.2.2.1 1, .char), (K.2.2.2.2.1 2, .boolean), (K.2.2.2.2.1 3, .long)]
/-! what was there before, and never changes: told by numbers below 32. 0: the script; 1: BitLoom.ACTIONS; 2 to 7: the Actions by ordinal; 8 to 13: their words; 14: "where"; 15: the signs; 16 to 23: the bytes of 8 to 15; 24: the switch's table; 25: the formatter that a check of an index is given (or null) -/
abbrev jA (K : jK) : Nat → Prop := fun q => K.2.1 ≤ q
abbrev j_x (K : jK) (i : Nat) : Nat := K.2.2.2.2.2.1 i
def j_nA : String := "java/lang/IllegalArgumentException"
def j_nN : String := "java/util/NoSuchElementException"
def j_nS : String := "java/lang/IllegalStateException"
def j_nI : String := "java/lang/IndexOutOfBoundsException"
def jnc : List (String × String) := [(j_nS, j_nA), (j_nN, j_nA), (j_nI, j_nA), (j_nA, j_nS), (j_nN, j_nS), (j_nI, j_nS), (j_nA, j_nN), (j_nS, j_nN), (j_nI, j_nN), (j_nA, j_nI), (j_nS, j_nI), (j_nN, j_nI)]
def j_txL : List Nat := [3, 3, 3, 3, 4, 5, 5, 12]
def j_tx : List (List Int32) := [[115, 101, 116], [109, 97, 120], [109, 105, 110], [115, 117, 109], [108, 105, 115, 116], [99, 111, 117, 110, 116], [119, 104, 101, 114, 101], [60, 61, 62, 38, 124, 33, 40, 41, 44, 43, 45, 42]]
def j_sw : List Int32 := [1, 2, 3, 4, 5, 0]
/-- a static that was laid before and holds a reference or null -/
def jLS (K : jK) (C n d : String) (U : State) : Prop := ∃ (c : ClassId) (k : Class) (i : Nat) (f : Field) (a : Nat) (cell : Cell), U.vm.findClass C = some c ∧ U.fieldFound? C n d = some (c, k, i, f) ∧ f.isStatic = true ∧ k.statics = some a ∧ K.2.2.1[a]? = some cell ∧ cell.vm.isStatics = true ∧ cell.cls = c ∧
  f.slot < cell.slots.size ∧ k.staticTypes[f.slot]? = some f.type ∧ (cell.slots[f.slot]? = some .null ∨ ∃ t : Nat, cell.slots[f.slot]? = some (.ref t))
theorem jLS.moved {K : jK} {C n d : String} {u U : State} (hvm : u.vm.Alike U.vm) (h : jLS K C n d u) : jLS K C n d U := by
  obtain ⟨c, k, i, f, a, cell, h1, h2, h3, h4, h5, h6, h7, h8, h9, h10⟩ := h
  obtain ⟨k', hi', he⟩ := State.fieldFound?_setVm hvm h2
  exact ⟨c, k', i, f, a, cell, by rw [hvm.findClass]; exact h1, hi', h3, by rw [he]; exact h4, h5, h6, h7, h8, by rw [he]; exact h9, h10⟩
def jX (K : jK) (U : State) : Prop :=
  K.1.flags = flags0 ∧ K.2.1 = K.2.2.1.size ∧ (∀ q ∈ jnc, va_Nc q.1 q.2 U) ∧ jLS K "java/lang/Throwable" "UNASSIGNED_STACK" "[Ljava/lang/StackTraceElement;" U ∧ jLS K "java/lang/Throwable" "SUPPRESSED_SENTINEL" "Ljava/util/List;" U ∧
  va_Z "java/lang/String" "COMPACT_STRINGS" "Z" (.int 1) (jA K) U K.2.2.1 ∧ (va_Z "jdk/internal/util/Preconditions" "SIOOBE_FORMATTER" "Ljava/util/function/BiFunction;" .null (jA K) U K.2.2.1 ∨ va_Z "jdk/internal/util/Preconditions" "SIOOBE_FORMATTER" "Ljava/util/function/BiFunction;" (.ref (j_x K 25)) (jA K) U K.2.2.1) ∧
  va_Z "BitLoom" "ACTIONS" "[LBitLoom$Action;" (.ref (j_x K 1)) (jA K) U K.2.2.1 ∧ va_T (.object "BitLoom$Action") (j_x K 1) 6 (fun j => .ref (j_x K (2 + j))) (jA K) U K.2.2.1 ∧
  va_En "BitLoom$Action" "LBitLoom$Action;" ["SET", "MAX", "MIN", "SUM", "LIST", "COUNT"] [("java/lang/Enum", "ordinal", "I", [0, 1, 2, 3, 4, 5])] (fun i => j_x K (2 + i)) (jA K) U K.2.2.1 ∧
  (∀ i, i < 6 → va_OF "BitLoom$Action" "word" "Ljava/lang/String;" (.ref (j_x K (8 + i))) (j_x K (2 + i)) (jA K) U K.2.2.1) ∧
  va_Z "BitLoom$1" "$SwitchMap$BitLoom$Action" "[I" (.ref (j_x K 24)) (jA K) U K.2.2.1 ∧ va_T .int (j_x K 24) 6 (fun j => .int (j_sw.getD j 0)) (jA K) U K.2.2.1 ∧
  vk_S 8 j_txL j_tx (fun i => j_x K (8 + i)) (fun i => j_x K (16 + i)) (jA K) U K.2.2.1 ∧ vk_R "BitLoom$Statement" 93 "where" (j_x K 14) U ∧ vk_R "BitLoom$Tokens" 64 "<=>&|!(),+-*" (j_x K 15) U ∧
  va_X (j_x K 0) K.2.2.2.2.2.2.1 K.2.2.2.2.2.2.2 U K.2.2.1 ∧ j_x K 0 < K.2.1
theorem jX.warm {K : jK} {s U : State} (hW : s.WarmedH U.vm) (h : jX K s) : jX K U := by
  have ha := hW.alike
  obtain ⟨h1, h2, h3, h4, h5, h6, h7, h8, h9, h10, h11, h12, h13, h14, h15, h16, h17, h18⟩ := h
  exact ⟨h1, h2, fun q hq => (h3 q hq).moved ha, h4.moved ha, h5.moved ha, h6.moved ha, h7.imp (fun q => q.moved ha) (fun q => q.moved ha), h8.moved ha, h9.moved ha, h10.moved ha, fun i hi => (h11 i hi).moved ha, h12.moved ha, h13.moved ha, h14.moved ha, h15.warm hW, h16.warm hW, h17.moved ha, h18⟩
theorem j_okT {w : Cond} (h : j_ok w = true) {A A' : Array Value} {u U : State} (hv : u.vm = U.vm) (hb : w.before A u = true) : w.before A' U = true := by
  have hU : U = U.setVm u.vm := by rw [hv]; rfl
  cases w
  case arrayClass ty =>
    have e : (Cond.arrayClass ty).before A u = (Cond.arrayClass ty).before A' (U.setVm u.vm) := rfl
    rw [hU, ← e]
    exact hb
  all_goals
    refine va_tabs ?_ hv hb
    simp only [j_ok, Bool.and_eq_true] at h
    first | exact h.1 | rfl
theorem j_okW {w : Cond} (h : j_ok w = true) {A A' : Array Value} {s U : State} (hW : s.WarmedH U.vm) (hb : w.before A s = true) : w.before A' U = true := by
  have key : w.before A (s.setVm U.vm) = true := by
    cases w
    case fieldLinkNest a i b n d hh => exact Cond.fieldLinkNest_warmed hW hb
    case methodLinkNest a i x hh => exact Cond.methodLinkNest_warmed hW hb
    case arrayClass ty => exact Cond.before_shiftedFace (State.Shifted.of_warmed hW) _ rfl hb
    all_goals
      refine Cond.before_shiftedFace (State.Shifted.of_warmed hW) _ ?_ hb
      simp only [j_ok, Bool.and_eq_true] at h
      exact h.2
  exact j_okT h (u := s.setVm U.vm) rfl key
theorem j_jt {w : Cond} (h : w ∈ jt) : j_ok w = true := (List.mem_filter.mp h).2
def jU (K : jK) (U : State) : Prop := (∀ w ∈ jt, w.before #[] U = true) ∧ va_K K.2.2.2.1 classes (j_ty K) U ∧ jX K U
theorem jU.warm {K : jK} {s U : State} (hW : s.WarmedH U.vm) (h : jU K s) : jU K U := ⟨fun w hw => j_okW (j_jt hw) hW (h.1 w hw), h.2.1.moved hW.alike, h.2.2.warm hW⟩
def j_get (h : jH) (i : Nat) : Option va_E := if i < 32 then none else h[i - 32]?
def j_set (h : jH) (i : Nat) (x : va_E) : jH := h.set (i - 32) x
def jW (K : jK) (h : jH) (H : Heap) : Prop := (∀ (j : Nat) (x : va_E), h[j]? = some x → va_at K.2.2.2.1 classes (K.2.1 + j, j_e K x) H) ∧ H.size = K.2.1 + h.length ∧ ∀ q : Nat, q < K.2.1 → H[q]? = K.2.2.1[q]?
def j_oc (K : jK) (h : jH) (mo : jO) (o : Outcome) : Prop := match mo with
  | .inl v => o = .returned (v.map (j_v K))
  | .inr k => ∃ n : Nat, h.length = n + 1 ∧ h[n]? = some (.inr (k, [])) ∧ o = .threw (K.2.1 + n)
def j_xc (mo : jO) : Nat := match mo with
  | .inl _ => 0
  | .inr _ => 1
def jZ (K : jK) (below : List Frame) (s : State) (C S : Nat) (Q : jO → jH → Prop) : State → Prop := fun t =>
  ∃ (o : Outcome) (mo : jO) (h : jH) (L : List Loc), t.status = .running ∧ Ended t below o ∧ j_oc K h mo o ∧ Q mo h ∧ jW K h t.heap ∧ s.WarmedH t.vm ∧ s.sameButNew ({ t with vm := s.vm } : State) L (C + j_xc mo) (S + 6 * j_xc mo) ∧ ∀ q ∈ L, K.2.1 ≤ q.base
def jC (K : jK) (M : jR) (d : Nat) (p : Program) (R : Room) (s : State) (m : MethodId) (args : Array Value) (meth : Method) (c : Code) : Prop :=
  p.tables.exec = Jvm.exec ∧ c.code = M.2.1 ∧ c.maxLocals = M.2.2.1 ∧ s.vm.findClass M.1.cls = some m.cls ∧ (∀ w ∈ jt, w.before args s = true) ∧ meth.sig.returnType = M.2.2.2.1 ∧ meth.locks = false ∧ meth.name = M.1.name ∧ c.exceptionTable.toList = tableOf M.2.2.2.2 ∧ d ≤ R.frames ∧ 64 * d ≤ R.locals ∧ va_K K.2.2.2.1 classes (j_ty K) s ∧ jX K s
/-- from here, with these locals, this stack, this world: the method ends, and Q; at most mc cells of ms slots more are made (a throw makes one more, of six) -/
def jE (K : jK) (M : jR) (d pc : Nat) (ls : List (Nat × Value)) (st : List Value) (h : jH) (Q : jO → jH → Prop) (mc ms : Nat) : Prop :=
  ∀ (p : Program) (e : Env) (R : Room) (s : State) (m : MethodId) (args : Array Value) (below : List Frame) (meth : Method) (c : Code) (H : Heap) (locs : List Loc) (cells slots : Nat) (la : Array Slot),
    jC K M d p R s m args meth c → cells + mc + 1 ≤ R.cells → slots + ms + 6 ≤ R.slots → lv_has la M.2.2.1 (ls.map (j_l K)) → jW K h H → (∀ q ∈ locs, K.2.1 ≤ q.base) →
    W p K.1 e R s m args below meth c H locs cells slots (jZ K below s (cells + mc) (slots + ms) Q) (F0 m pc la (st.map (j_v K)))
theorem j_cat (K : jK) (v : Value) : (j_v K v).category = v.category := by cases v <;> rfl
def j_lg : List (Nat × Value) → Nat → Option Value
  | [], _ => none
  | q :: r, i => if q.1 = i then some q.2 else j_lg r i
theorem j_lg_at {K : jK} {la : Array Slot} {n : Nat} {ls : List (Nat × Value)} (hl : lv_has la n (ls.map (j_l K))) {i : Nat} {v : Value} (h : j_lg ls i = some v) : la[i]? = some (.val (j_v K v)) := by
  have key : ∀ r : List (Nat × Value), j_lg r i = some v → (i, v) ∈ r := by
    intro r
    induction r with
    | nil => intro h; cases h
    | cons q r ih =>
      intro h
      unfold j_lg at h
      split at h
      · rename_i hq
        cases h
        rw [← hq]
        exact List.mem_cons_self
      · exact List.mem_cons_of_mem _ (ih h)
  have hm := key ls h
  exact hl.2.2 (i, j_v K v) (List.mem_map.mpr ⟨(i, v), hm, rfl⟩)
def j_ls (ls : List (Nat × Value)) (i : Nat) (v : Value) : List (Nat × Value) := (i, v) :: ls.filter (fun q => !(q.1 == i) && !(q.1 + 1 == i && q.2.category == 2))
def j_ls2 (ls : List (Nat × Value)) (i : Nat) (v : Value) : List (Nat × Value) := (i, v) :: ls.filter (fun q => !(q.1 == i) && (!(q.1 == i + 1) && !(q.1 + 1 == i && q.2.category == 2)))
theorem j_ls_map (K : jK) (ls : List (Nat × Value)) (i : Nat) (v : Value) : (i, j_v K v) :: (ls.map (j_l K)).filter (fun q => !(q.1 == i) && !(q.1 + 1 == i && q.2.category == 2)) = (j_ls ls i v).map (j_l K) := by
  unfold j_ls
  rw [List.map_cons, List.filter_map]
  have e : ((fun q : Nat × Value => !(q.1 == i) && !(q.1 + 1 == i && q.2.category == 2)) ∘ j_l K) = (fun q : Nat × Value => !(q.1 == i) && !(q.1 + 1 == i && q.2.category == 2)) := by
    funext q
    simp [Function.comp, j_l, j_cat]
  rw [e]
  rfl
theorem j_ls2_map (K : jK) (ls : List (Nat × Value)) (i : Nat) (v : Value) : (i, j_v K v) :: (ls.map (j_l K)).filter (fun q => !(q.1 == i) && (!(q.1 == i + 1) && !(q.1 + 1 == i && q.2.category == 2))) = (j_ls2 ls i v).map (j_l K) := by
  unfold j_ls2
  rw [List.map_cons, List.filter_map]
  have e : ((fun q : Nat × Value => !(q.1 == i) && (!(q.1 == i + 1) && !(q.1 + 1 == i && q.2.category == 2))) ∘ j_l K) = (fun q : Nat × Value => !(q.1 == i) && (!(q.1 == i + 1) && !(q.1 + 1 == i && q.2.category == 2))) := by
    funext q
    simp [Function.comp, j_l, j_cat]
  rw [e]
  rfl
theorem j_mono {p : Program} {l : Launch} {e : Env} {R : Room} {s : State} {m : MethodId} {args : Array Value} {below : List Frame} {meth : Method} {c : Code} {H : Heap} {locs : List Loc} {cells slots : Nat} {Q Q' : State → Prop} {g : JFrame} (hQ : ∀ t, Q t → Q' t)
    (k : W p l e R s m args below meth c H locs cells slots Q g) : W p l e R s m args below meth c H locs cells slots Q' g := fun T hT X => by
  obtain ⟨t, a, b⟩ := k T hT X
  exact ⟨t, a, hQ t b⟩
section JROWS
variable {K : jK} {M : jR} {d pc : Nat} {ls : List (Nat × Value)} {st : List Value} {h : jH} {Q : jO → jH → Prop} {mc ms : Nat}
theorem j_iconst {n : Int} {v : Int32} (hd : decode M.2.1 pc = .ok (.iconst n, 1)) (hv : Int32.ofInt n = v) (k : jE K M d (pc + 1) ls (.int v :: st) h Q mc ms) : jE K M d pc ls (st) h Q mc ms :=
  fun p e R s m as bl me c H lo ce sl la hC hc hs hl hw hL => lv_iconst hC.1 hC.2.1 hd hv (k p e R s m as bl me c H lo ce sl la hC hc hs hl hw hL)
theorem j_bipush {n : Int} {v : Int32} (hd : decode M.2.1 pc = .ok (.bipush n, 2)) (hv : (Int8.ofInt n).toInt32 = v) (k : jE K M d (pc + 2) ls (.int v :: st) h Q mc ms) : jE K M d pc ls (st) h Q mc ms :=
  fun p e R s m as bl me c H lo ce sl la hC hc hs hl hw hL => lv_bipush hC.1 hC.2.1 hd hv (k p e R s m as bl me c H lo ce sl la hC hc hs hl hw hL)
theorem j_sipush {n : Int} {v : Int32} (hd : decode M.2.1 pc = .ok (.sipush n, 3)) (hv : (Int16.ofInt n).toInt32 = v) (k : jE K M d (pc + 3) ls (.int v :: st) h Q mc ms) : jE K M d pc ls (st) h Q mc ms :=
  fun p e R s m as bl me c H lo ce sl la hC hc hs hl hw hL => lv_sipush hC.1 hC.2.1 hd hv (k p e R s m as bl me c H lo ce sl la hC hc hs hl hw hL)
theorem j_lconst {n : Fin 2} {v : Int64} (hd : decode M.2.1 pc = .ok (.lconst n, 1)) (hv : Int64.ofNat (n : Nat) = v) (k : jE K M d (pc + 1) ls (.long v :: st) h Q mc ms) : jE K M d pc ls (st) h Q mc ms :=
  fun p e R s m as bl me c H lo ce sl la hC hc hs hl hw hL => lv_lconst hC.1 hC.2.1 hd hv (k p e R s m as bl me c H lo ce sl la hC hc hs hl hw hL)
theorem j_iload_n {k : Fin 4} {x : Int32} (hd : decode M.2.1 pc = .ok (.iload_n k, 1)) (hg : j_lg ls k = some (.int x)) (k : jE K M d (pc + 1) ls (.int x :: st) h Q mc ms) : jE K M d pc ls (st) h Q mc ms :=
  fun p e R s m as bl me c H lo ce sl la hC hc hs hl hw hL => lv_iload_n hC.1 hC.2.1 hd rfl (j_lg_at hl hg) (k p e R s m as bl me c H lo ce sl la hC hc hs hl hw hL)
theorem j_iload {i : Nat} {x : Int32} (hd : decode M.2.1 pc = .ok (.iload i, 2)) (hg : j_lg ls i = some (.int x)) (k : jE K M d (pc + 2) ls (.int x :: st) h Q mc ms) : jE K M d pc ls (st) h Q mc ms :=
  fun p e R s m as bl me c H lo ce sl la hC hc hs hl hw hL => lv_iload hC.1 hC.2.1 hd (j_lg_at hl hg) (k p e R s m as bl me c H lo ce sl la hC hc hs hl hw hL)
theorem j_istore_n {k : Fin 4} {x : Int32} (hd : decode M.2.1 pc = .ok (.istore_n k, 1)) (hn : (k : Nat) < M.2.2.1) (k : jE K M d (pc + 1) (j_ls ls k (.int x)) st h Q mc ms) : jE K M d pc ls (.int x :: st) h Q mc ms :=
  fun p e R s m as bl me c H lo ce sl la hC hc hs hl hw hL => lv_istore_n hC.1 hC.2.1 hd rfl hl hn (j_ls_map K ls _ (.int x)) (fun la' hl' => k p e R s m as bl me c H lo ce sl la' hC hc hs hl' hw hL)
theorem j_istore {i : Nat} {x : Int32} (hd : decode M.2.1 pc = .ok (.istore i, 2)) (hn : i < M.2.2.1) (k : jE K M d (pc + 2) (j_ls ls i (.int x)) st h Q mc ms) : jE K M d pc ls (.int x :: st) h Q mc ms :=
  fun p e R s m as bl me c H lo ce sl la hC hc hs hl hw hL => lv_istore hC.1 hC.2.1 hd hl hn (j_ls_map K ls _ (.int x)) (fun la' hl' => k p e R s m as bl me c H lo ce sl la' hC hc hs hl' hw hL)
theorem j_lload_n {k : Fin 4} {x : Int64} (hd : decode M.2.1 pc = .ok (.lload_n k, 1)) (hg : j_lg ls k = some (.long x)) (k : jE K M d (pc + 1) ls (.long x :: st) h Q mc ms) : jE K M d pc ls (st) h Q mc ms :=
  fun p e R s m as bl me c H lo ce sl la hC hc hs hl hw hL => lv_lload_n hC.1 hC.2.1 hd rfl (j_lg_at hl hg) (k p e R s m as bl me c H lo ce sl la hC hc hs hl hw hL)
theorem j_lload {i : Nat} {x : Int64} (hd : decode M.2.1 pc = .ok (.lload i, 2)) (hg : j_lg ls i = some (.long x)) (k : jE K M d (pc + 2) ls (.long x :: st) h Q mc ms) : jE K M d pc ls (st) h Q mc ms :=
  fun p e R s m as bl me c H lo ce sl la hC hc hs hl hw hL => lv_lload hC.1 hC.2.1 hd (j_lg_at hl hg) (k p e R s m as bl me c H lo ce sl la hC hc hs hl hw hL)
theorem j_lstore_n {k : Fin 4} {x : Int64} (hd : decode M.2.1 pc = .ok (.lstore_n k, 1)) (hn : (k : Nat) + 1 < M.2.2.1) (k : jE K M d (pc + 1) (j_ls2 ls k (.long x)) st h Q mc ms) : jE K M d pc ls (.long x :: st) h Q mc ms :=
  fun p e R s m as bl me c H lo ce sl la hC hc hs hl hw hL => lv_lstore_n hC.1 hC.2.1 hd rfl hl hn (j_ls2_map K ls _ (.long x)) (fun la' hl' => k p e R s m as bl me c H lo ce sl la' hC hc hs hl' hw hL)
theorem j_lstore {i : Nat} {x : Int64} (hd : decode M.2.1 pc = .ok (.lstore i, 2)) (hn : i + 1 < M.2.2.1) (k : jE K M d (pc + 2) (j_ls2 ls i (.long x)) st h Q mc ms) : jE K M d pc ls (.long x :: st) h Q mc ms :=
  fun p e R s m as bl me c H lo ce sl la hC hc hs hl hw hL => lv_lstore hC.1 hC.2.1 hd hl hn (j_ls2_map K ls _ (.long x)) (fun la' hl' => k p e R s m as bl me c H lo ce sl la' hC hc hs hl' hw hL)
theorem j_aload_n {k : Fin 4} {x : Nat} (hd : decode M.2.1 pc = .ok (.aload_n k, 1)) (hg : j_lg ls k = some (.ref x)) (k : jE K M d (pc + 1) ls (.ref x :: st) h Q mc ms) : jE K M d pc ls (st) h Q mc ms :=
  fun p e R s m as bl me c H lo ce sl la hC hc hs hl hw hL => lv_aload_n hC.1 hC.2.1 hd rfl (j_lg_at hl hg) (k p e R s m as bl me c H lo ce sl la hC hc hs hl hw hL)
theorem j_aload {i : Nat} {x : Nat} (hd : decode M.2.1 pc = .ok (.aload i, 2)) (hg : j_lg ls i = some (.ref x)) (k : jE K M d (pc + 2) ls (.ref x :: st) h Q mc ms) : jE K M d pc ls (st) h Q mc ms :=
  fun p e R s m as bl me c H lo ce sl la hC hc hs hl hw hL => lv_aload hC.1 hC.2.1 hd (j_lg_at hl hg) (k p e R s m as bl me c H lo ce sl la hC hc hs hl hw hL)
theorem j_astore_n {k : Fin 4} {x : Nat} (hd : decode M.2.1 pc = .ok (.astore_n k, 1)) (hn : (k : Nat) < M.2.2.1) (k : jE K M d (pc + 1) (j_ls ls k (.ref x)) st h Q mc ms) : jE K M d pc ls (.ref x :: st) h Q mc ms :=
  fun p e R s m as bl me c H lo ce sl la hC hc hs hl hw hL => lv_astore_n hC.1 hC.2.1 hd rfl hl hn (j_ls_map K ls _ (.ref x)) (fun la' hl' => k p e R s m as bl me c H lo ce sl la' hC hc hs hl' hw hL)
theorem j_astore {i : Nat} {x : Nat} (hd : decode M.2.1 pc = .ok (.astore i, 2)) (hn : i < M.2.2.1) (k : jE K M d (pc + 2) (j_ls ls i (.ref x)) st h Q mc ms) : jE K M d pc ls (.ref x :: st) h Q mc ms :=
  fun p e R s m as bl me c H lo ce sl la hC hc hs hl hw hL => lv_astore hC.1 hC.2.1 hd hl hn (j_ls_map K ls _ (.ref x)) (fun la' hl' => k p e R s m as bl me c H lo ce sl la' hC hc hs hl' hw hL)
theorem j_iadd {x y : Int32} (hd : decode M.2.1 pc = .ok (.iadd, 1)) (k : jE K M d (pc + 1) ls (.int (x + y) :: st) h Q mc ms) : jE K M d pc ls (.int y :: .int x :: st) h Q mc ms :=
  fun p e R s m as bl me c H lo ce sl la hC hc hs hl hw hL => lv_iadd hC.1 hC.2.1 hd (k p e R s m as bl me c H lo ce sl la hC hc hs hl hw hL)
theorem j_isub {x y : Int32} (hd : decode M.2.1 pc = .ok (.isub, 1)) (k : jE K M d (pc + 1) ls (.int (x - y) :: st) h Q mc ms) : jE K M d pc ls (.int y :: .int x :: st) h Q mc ms :=
  fun p e R s m as bl me c H lo ce sl la hC hc hs hl hw hL => lv_isub hC.1 hC.2.1 hd (k p e R s m as bl me c H lo ce sl la hC hc hs hl hw hL)
theorem j_imul {x y : Int32} (hd : decode M.2.1 pc = .ok (.imul, 1)) (k : jE K M d (pc + 1) ls (.int (x * y) :: st) h Q mc ms) : jE K M d pc ls (.int y :: .int x :: st) h Q mc ms :=
  fun p e R s m as bl me c H lo ce sl la hC hc hs hl hw hL => lv_imul hC.1 hC.2.1 hd (k p e R s m as bl me c H lo ce sl la hC hc hs hl hw hL)
theorem j_iand {x y : Int32} (hd : decode M.2.1 pc = .ok (.iand, 1)) (k : jE K M d (pc + 1) ls (.int (x &&& y) :: st) h Q mc ms) : jE K M d pc ls (.int y :: .int x :: st) h Q mc ms :=
  fun p e R s m as bl me c H lo ce sl la hC hc hs hl hw hL => lv_iand hC.1 hC.2.1 hd (k p e R s m as bl me c H lo ce sl la hC hc hs hl hw hL)
theorem j_ior {x y : Int32} (hd : decode M.2.1 pc = .ok (.ior, 1)) (k : jE K M d (pc + 1) ls (.int (x ||| y) :: st) h Q mc ms) : jE K M d pc ls (.int y :: .int x :: st) h Q mc ms :=
  fun p e R s m as bl me c H lo ce sl la hC hc hs hl hw hL => lv_ior hC.1 hC.2.1 hd (k p e R s m as bl me c H lo ce sl la hC hc hs hl hw hL)
theorem j_ixor {x y : Int32} (hd : decode M.2.1 pc = .ok (.ixor, 1)) (k : jE K M d (pc + 1) ls (.int (x ^^^ y) :: st) h Q mc ms) : jE K M d pc ls (.int y :: .int x :: st) h Q mc ms :=
  fun p e R s m as bl me c H lo ce sl la hC hc hs hl hw hL => lv_ixor hC.1 hC.2.1 hd (k p e R s m as bl me c H lo ce sl la hC hc hs hl hw hL)
theorem j_ishl {x y : Int32} (hd : decode M.2.1 pc = .ok (.ishl, 1)) (k : jE K M d (pc + 1) ls (.int (x <<< (y &&& 31)) :: st) h Q mc ms) : jE K M d pc ls (.int y :: .int x :: st) h Q mc ms :=
  fun p e R s m as bl me c H lo ce sl la hC hc hs hl hw hL => lv_ishl hC.1 hC.2.1 hd (k p e R s m as bl me c H lo ce sl la hC hc hs hl hw hL)
theorem j_ishr {x y : Int32} (hd : decode M.2.1 pc = .ok (.ishr, 1)) (k : jE K M d (pc + 1) ls (.int (x >>> (y &&& 31)) :: st) h Q mc ms) : jE K M d pc ls (.int y :: .int x :: st) h Q mc ms :=
  fun p e R s m as bl me c H lo ce sl la hC hc hs hl hw hL => lv_ishr hC.1 hC.2.1 hd (k p e R s m as bl me c H lo ce sl la hC hc hs hl hw hL)
theorem j_iushr {x y : Int32} (hd : decode M.2.1 pc = .ok (.iushr, 1)) (k : jE K M d (pc + 1) ls (.int (x.toUInt32 >>> (y.toUInt32 &&& Int32.toUInt32 31)).toInt32 :: st) h Q mc ms) : jE K M d pc ls (.int y :: .int x :: st) h Q mc ms :=
  fun p e R s m as bl me c H lo ce sl la hC hc hs hl hw hL => lv_iushr hC.1 hC.2.1 hd rfl (k p e R s m as bl me c H lo ce sl la hC hc hs hl hw hL)
theorem j_idiv {x y : Int32} (hd : decode M.2.1 pc = .ok (.idiv, 1)) (hne : ¬ y = 0) (k : jE K M d (pc + 1) ls (.int (x / y) :: st) h Q mc ms) : jE K M d pc ls (.int y :: .int x :: st) h Q mc ms :=
  fun p e R s m as bl me c H lo ce sl la hC hc hs hl hw hL => lv_idiv hC.1 hC.2.1 hd hne (k p e R s m as bl me c H lo ce sl la hC hc hs hl hw hL)
theorem j_irem {x y : Int32} (hd : decode M.2.1 pc = .ok (.irem, 1)) (hne : ¬ y = 0) (k : jE K M d (pc + 1) ls (.int (x - x / y * y) :: st) h Q mc ms) : jE K M d pc ls (.int y :: .int x :: st) h Q mc ms :=
  fun p e R s m as bl me c H lo ce sl la hC hc hs hl hw hL => lv_irem hC.1 hC.2.1 hd hne (k p e R s m as bl me c H lo ce sl la hC hc hs hl hw hL)
theorem j_ineg {x : Int32} (hd : decode M.2.1 pc = .ok (.ineg, 1)) (k : jE K M d (pc + 1) ls (.int (-x) :: st) h Q mc ms) : jE K M d pc ls (.int x :: st) h Q mc ms :=
  fun p e R s m as bl me c H lo ce sl la hC hc hs hl hw hL => lv_ineg hC.1 hC.2.1 hd (k p e R s m as bl me c H lo ce sl la hC hc hs hl hw hL)
theorem j_ladd {x y : Int64} (hd : decode M.2.1 pc = .ok (.ladd, 1)) (k : jE K M d (pc + 1) ls (.long (x + y) :: st) h Q mc ms) : jE K M d pc ls (.long y :: .long x :: st) h Q mc ms :=
  fun p e R s m as bl me c H lo ce sl la hC hc hs hl hw hL => lv_ladd hC.1 hC.2.1 hd (k p e R s m as bl me c H lo ce sl la hC hc hs hl hw hL)
theorem j_lsub {x y : Int64} (hd : decode M.2.1 pc = .ok (.lsub, 1)) (k : jE K M d (pc + 1) ls (.long (x - y) :: st) h Q mc ms) : jE K M d pc ls (.long y :: .long x :: st) h Q mc ms :=
  fun p e R s m as bl me c H lo ce sl la hC hc hs hl hw hL => lv_lsub hC.1 hC.2.1 hd (k p e R s m as bl me c H lo ce sl la hC hc hs hl hw hL)
theorem j_lmul {x y : Int64} (hd : decode M.2.1 pc = .ok (.lmul, 1)) (k : jE K M d (pc + 1) ls (.long (x * y) :: st) h Q mc ms) : jE K M d pc ls (.long y :: .long x :: st) h Q mc ms :=
  fun p e R s m as bl me c H lo ce sl la hC hc hs hl hw hL => lv_lmul hC.1 hC.2.1 hd (k p e R s m as bl me c H lo ce sl la hC hc hs hl hw hL)
theorem j_land {x y : Int64} (hd : decode M.2.1 pc = .ok (.land, 1)) (k : jE K M d (pc + 1) ls (.long (x &&& y) :: st) h Q mc ms) : jE K M d pc ls (.long y :: .long x :: st) h Q mc ms :=
  fun p e R s m as bl me c H lo ce sl la hC hc hs hl hw hL => lv_land hC.1 hC.2.1 hd (k p e R s m as bl me c H lo ce sl la hC hc hs hl hw hL)
theorem j_lor {x y : Int64} (hd : decode M.2.1 pc = .ok (.lor, 1)) (k : jE K M d (pc + 1) ls (.long (x ||| y) :: st) h Q mc ms) : jE K M d pc ls (.long y :: .long x :: st) h Q mc ms :=
  fun p e R s m as bl me c H lo ce sl la hC hc hs hl hw hL => lv_lor hC.1 hC.2.1 hd (k p e R s m as bl me c H lo ce sl la hC hc hs hl hw hL)
theorem j_lxor {x y : Int64} (hd : decode M.2.1 pc = .ok (.lxor, 1)) (k : jE K M d (pc + 1) ls (.long (x ^^^ y) :: st) h Q mc ms) : jE K M d pc ls (.long y :: .long x :: st) h Q mc ms :=
  fun p e R s m as bl me c H lo ce sl la hC hc hs hl hw hL => lv_lxor hC.1 hC.2.1 hd (k p e R s m as bl me c H lo ce sl la hC hc hs hl hw hL)
theorem j_lushr {x : Int64} {y : Int32} (hd : decode M.2.1 pc = .ok (.lushr, 1)) (k : jE K M d (pc + 1) ls (.long (x.toUInt64 >>> (y.toInt64.toUInt64 &&& Int64.toUInt64 63)).toInt64 :: st) h Q mc ms) : jE K M d pc ls (.int y :: .long x :: st) h Q mc ms :=
  fun p e R s m as bl me c H lo ce sl la hC hc hs hl hw hL => lv_lushr hC.1 hC.2.1 hd rfl (k p e R s m as bl me c H lo ce sl la hC hc hs hl hw hL)
theorem j_lshl {x : Int64} {y : Int32} (hd : decode M.2.1 pc = .ok (.lshl, 1)) (k : jE K M d (pc + 1) ls (.long (x <<< (y.toInt64 &&& 63)) :: st) h Q mc ms) : jE K M d pc ls (.int y :: .long x :: st) h Q mc ms :=
  fun p e R s m as bl me c H lo ce sl la hC hc hs hl hw hL => lv_lshl hC.1 hC.2.1 hd rfl (k p e R s m as bl me c H lo ce sl la hC hc hs hl hw hL)
theorem j_lshr {x : Int64} {y : Int32} (hd : decode M.2.1 pc = .ok (.lshr, 1)) (k : jE K M d (pc + 1) ls (.long (x >>> (y.toInt64 &&& 63)) :: st) h Q mc ms) : jE K M d pc ls (.int y :: .long x :: st) h Q mc ms :=
  fun p e R s m as bl me c H lo ce sl la hC hc hs hl hw hL => lv_lshr hC.1 hC.2.1 hd rfl (k p e R s m as bl me c H lo ce sl la hC hc hs hl hw hL)
theorem j_i2l {x : Int32} (hd : decode M.2.1 pc = .ok (.i2l, 1)) (k : jE K M d (pc + 1) ls (.long x.toInt64 :: st) h Q mc ms) : jE K M d pc ls (.int x :: st) h Q mc ms :=
  fun p e R s m as bl me c H lo ce sl la hC hc hs hl hw hL => lv_i2l hC.1 hC.2.1 hd rfl (k p e R s m as bl me c H lo ce sl la hC hc hs hl hw hL)
theorem j_l2i {x : Int64} (hd : decode M.2.1 pc = .ok (.l2i, 1)) (k : jE K M d (pc + 1) ls (.int x.toInt32 :: st) h Q mc ms) : jE K M d pc ls (.long x :: st) h Q mc ms :=
  fun p e R s m as bl me c H lo ce sl la hC hc hs hl hw hL => lv_l2i hC.1 hC.2.1 hd rfl (k p e R s m as bl me c H lo ce sl la hC hc hs hl hw hL)
theorem j_i2b {x : Int32} (hd : decode M.2.1 pc = .ok (.i2b, 1)) (k : jE K M d (pc + 1) ls (.int x.toInt8.toInt32 :: st) h Q mc ms) : jE K M d pc ls (.int x :: st) h Q mc ms :=
  fun p e R s m as bl me c H lo ce sl la hC hc hs hl hw hL => lv_i2b hC.1 hC.2.1 hd rfl (k p e R s m as bl me c H lo ce sl la hC hc hs hl hw hL)
theorem j_i2c {x : Int32} (hd : decode M.2.1 pc = .ok (.i2c, 1)) (k : jE K M d (pc + 1) ls (.int (x.toUInt32 % 65536).toInt32 :: st) h Q mc ms) : jE K M d pc ls (.int x :: st) h Q mc ms :=
  fun p e R s m as bl me c H lo ce sl la hC hc hs hl hw hL => lv_i2c hC.1 hC.2.1 hd rfl (k p e R s m as bl me c H lo ce sl la hC hc hs hl hw hL)
theorem j_dup {v : Value} (hd : decode M.2.1 pc = .ok (.dup, 1)) (hv : v.category = 1) (k : jE K M d (pc + 1) ls (v :: v :: st) h Q mc ms) : jE K M d pc ls (v :: st) h Q mc ms :=
  fun p e R s m as bl me c H lo ce sl la hC hc hs hl hw hL => lv_dup hC.1 hC.2.1 hd ((j_cat K _).trans hv) (k p e R s m as bl me c H lo ce sl la hC hc hs hl hw hL)
theorem j_pop {v : Value} (hd : decode M.2.1 pc = .ok (.pop, 1)) (hv : v.category = 1) (k : jE K M d (pc + 1) ls (st) h Q mc ms) : jE K M d pc ls (v :: st) h Q mc ms :=
  fun p e R s m as bl me c H lo ce sl la hC hc hs hl hw hL => lv_pop hC.1 hC.2.1 hd ((j_cat K _).trans hv) (k p e R s m as bl me c H lo ce sl la hC hc hs hl hw hL)
theorem j_dup_x1 {v w : Value} (hd : decode M.2.1 pc = .ok (.dup_x1, 1)) (hv : v.category = 1) (hw9 : w.category = 1) (k : jE K M d (pc + 1) ls (v :: w :: v :: st) h Q mc ms) : jE K M d pc ls (v :: w :: st) h Q mc ms :=
  fun p e R s m as bl me c H lo ce sl la hC hc hs hl hw hL => lv_dup_x1 hC.1 hC.2.1 hd ((j_cat K _).trans hv) ((j_cat K _).trans hw9) (k p e R s m as bl me c H lo ce sl la hC hc hs hl hw hL)
theorem j_dup_x2 {v w u : Value} (hd : decode M.2.1 pc = .ok (.dup_x2, 1)) (hv : v.category = 1) (hw9 : w.category = 1) (hu : u.category = 1) (k : jE K M d (pc + 1) ls (v :: w :: u :: v :: st) h Q mc ms) : jE K M d pc ls (v :: w :: u :: st) h Q mc ms :=
  fun p e R s m as bl me c H lo ce sl la hC hc hs hl hw hL => lv_dup_x2 hC.1 hC.2.1 hd ((j_cat K _).trans hv) ((j_cat K _).trans hw9) ((j_cat K _).trans hu) (k p e R s m as bl me c H lo ce sl la hC hc hs hl hw hL)
theorem j_dup2 {v w : Value} (hd : decode M.2.1 pc = .ok (.dup2, 1)) (hv : v.category = 1) (hw9 : w.category = 1) (k : jE K M d (pc + 1) ls (v :: w :: v :: w :: st) h Q mc ms) : jE K M d pc ls (v :: w :: st) h Q mc ms :=
  fun p e R s m as bl me c H lo ce sl la hC hc hs hl hw hL => lv_dup2_11 hC.1 hC.2.1 hd ((j_cat K _).trans hv) ((j_cat K _).trans hw9) (k p e R s m as bl me c H lo ce sl la hC hc hs hl hw hL)
theorem j_goto {off : Int} {tgt : Nat} (hd : decode M.2.1 pc = .ok (.goto off, 3)) (ht : (pc : Int) + off = (tgt : Int)) (k : jE K M d tgt ls st h Q mc ms) : jE K M d pc ls st h Q mc ms :=
  fun p e R s m as bl me c H lo ce sl la hC hc hs hl hw hL => lv_goto hC.1 hC.2.1 hd ht (k p e R s m as bl me c H lo ce sl la hC hc hs hl hw hL)
theorem j_if_eq {x : Int32} {off : Int} {tgt : Nat} (hd : decode M.2.1 pc = .ok (.ifCond .eq off, 3)) (ht : (pc : Int) + off = (tgt : Int)) (kt : x = 0 → jE K M d tgt ls st h Q mc ms) (kf : ¬ x = 0 → jE K M d (pc + 3) ls st h Q mc ms) : jE K M d pc ls (.int x :: st) h Q mc ms :=
  fun p e R s m as bl me c H lo ce sl la hC hc hs hl hw hL => lv_if_eq hC.1 hC.2.1 hd ht (fun q => kt q p e R s m as bl me c H lo ce sl la hC hc hs hl hw hL) (fun q => kf q p e R s m as bl me c H lo ce sl la hC hc hs hl hw hL)
theorem j_if_eqT {x : Int32} {off : Int} {tgt : Nat} (hd : decode M.2.1 pc = .ok (.ifCond .eq off, 3)) (ht : (pc : Int) + off = (tgt : Int)) (q : x = 0) (kt : jE K M d tgt ls st h Q mc ms) : jE K M d pc ls (.int x :: st) h Q mc ms := j_if_eq hd ht (fun _ => kt) (fun z => absurd q (by first | exact z | exact fun w => z w | exact not_not_intro z))
theorem j_if_eqF {x : Int32} {off : Int} {tgt : Nat} (hd : decode M.2.1 pc = .ok (.ifCond .eq off, 3)) (ht : (pc : Int) + off = (tgt : Int)) (q : ¬ x = 0) (kf : jE K M d (pc + 3) ls st h Q mc ms) : jE K M d pc ls (.int x :: st) h Q mc ms := j_if_eq hd ht (fun z => absurd q (by first | exact z | exact fun w => w z | exact not_not_intro z)) (fun _ => kf)
theorem j_icmp_eq {x y : Int32} {off : Int} {tgt : Nat} (hd : decode M.2.1 pc = .ok (.if_icmp .eq off, 3)) (ht : (pc : Int) + off = (tgt : Int)) (kt : x = y → jE K M d tgt ls st h Q mc ms) (kf : ¬ x = y → jE K M d (pc + 3) ls st h Q mc ms) : jE K M d pc ls (.int y :: .int x :: st) h Q mc ms :=
  fun p e R s m as bl me c H lo ce sl la hC hc hs hl hw hL => lv_icmp_eq hC.1 hC.2.1 hd ht (fun q => kt q p e R s m as bl me c H lo ce sl la hC hc hs hl hw hL) (fun q => kf q p e R s m as bl me c H lo ce sl la hC hc hs hl hw hL)
theorem j_icmp_eqT {x y : Int32} {off : Int} {tgt : Nat} (hd : decode M.2.1 pc = .ok (.if_icmp .eq off, 3)) (ht : (pc : Int) + off = (tgt : Int)) (q : x = y) (kt : jE K M d tgt ls st h Q mc ms) : jE K M d pc ls (.int y :: .int x :: st) h Q mc ms := j_icmp_eq hd ht (fun _ => kt) (fun z => absurd q (by first | exact z | exact fun w => z w | exact not_not_intro z))
theorem j_icmp_eqF {x y : Int32} {off : Int} {tgt : Nat} (hd : decode M.2.1 pc = .ok (.if_icmp .eq off, 3)) (ht : (pc : Int) + off = (tgt : Int)) (q : ¬ x = y) (kf : jE K M d (pc + 3) ls st h Q mc ms) : jE K M d pc ls (.int y :: .int x :: st) h Q mc ms := j_icmp_eq hd ht (fun z => absurd q (by first | exact z | exact fun w => w z | exact not_not_intro z)) (fun _ => kf)
theorem j_if_ne {x : Int32} {off : Int} {tgt : Nat} (hd : decode M.2.1 pc = .ok (.ifCond .ne off, 3)) (ht : (pc : Int) + off = (tgt : Int)) (kt : ¬ x = 0 → jE K M d tgt ls st h Q mc ms) (kf : x = 0 → jE K M d (pc + 3) ls st h Q mc ms) : jE K M d pc ls (.int x :: st) h Q mc ms :=
  fun p e R s m as bl me c H lo ce sl la hC hc hs hl hw hL => lv_if_ne hC.1 hC.2.1 hd ht (fun q => kt q p e R s m as bl me c H lo ce sl la hC hc hs hl hw hL) (fun q => kf q p e R s m as bl me c H lo ce sl la hC hc hs hl hw hL)
theorem j_if_neT {x : Int32} {off : Int} {tgt : Nat} (hd : decode M.2.1 pc = .ok (.ifCond .ne off, 3)) (ht : (pc : Int) + off = (tgt : Int)) (q : ¬ x = 0) (kt : jE K M d tgt ls st h Q mc ms) : jE K M d pc ls (.int x :: st) h Q mc ms := j_if_ne hd ht (fun _ => kt) (fun z => absurd q (by first | exact z | exact fun w => z w | exact not_not_intro z))
theorem j_if_neF {x : Int32} {off : Int} {tgt : Nat} (hd : decode M.2.1 pc = .ok (.ifCond .ne off, 3)) (ht : (pc : Int) + off = (tgt : Int)) (q : x = 0) (kf : jE K M d (pc + 3) ls st h Q mc ms) : jE K M d pc ls (.int x :: st) h Q mc ms := j_if_ne hd ht (fun z => absurd q (by first | exact z | exact fun w => w z | exact not_not_intro z)) (fun _ => kf)
theorem j_icmp_ne {x y : Int32} {off : Int} {tgt : Nat} (hd : decode M.2.1 pc = .ok (.if_icmp .ne off, 3)) (ht : (pc : Int) + off = (tgt : Int)) (kt : ¬ x = y → jE K M d tgt ls st h Q mc ms) (kf : x = y → jE K M d (pc + 3) ls st h Q mc ms) : jE K M d pc ls (.int y :: .int x :: st) h Q mc ms :=
  fun p e R s m as bl me c H lo ce sl la hC hc hs hl hw hL => lv_icmp_ne hC.1 hC.2.1 hd ht (fun q => kt q p e R s m as bl me c H lo ce sl la hC hc hs hl hw hL) (fun q => kf q p e R s m as bl me c H lo ce sl la hC hc hs hl hw hL)
theorem j_icmp_neT {x y : Int32} {off : Int} {tgt : Nat} (hd : decode M.2.1 pc = .ok (.if_icmp .ne off, 3)) (ht : (pc : Int) + off = (tgt : Int)) (q : ¬ x = y) (kt : jE K M d tgt ls st h Q mc ms) : jE K M d pc ls (.int y :: .int x :: st) h Q mc ms := j_icmp_ne hd ht (fun _ => kt) (fun z => absurd q (by first | exact z | exact fun w => z w | exact not_not_intro z))
theorem j_icmp_neF {x y : Int32} {off : Int} {tgt : Nat} (hd : decode M.2.1 pc = .ok (.if_icmp .ne off, 3)) (ht : (pc : Int) + off = (tgt : Int)) (q : x = y) (kf : jE K M d (pc + 3) ls st h Q mc ms) : jE K M d pc ls (.int y :: .int x :: st) h Q mc ms := j_icmp_ne hd ht (fun z => absurd q (by first | exact z | exact fun w => w z | exact not_not_intro z)) (fun _ => kf)
theorem j_if_lt {x : Int32} {off : Int} {tgt : Nat} (hd : decode M.2.1 pc = .ok (.ifCond .lt off, 3)) (ht : (pc : Int) + off = (tgt : Int)) (kt : x < 0 → jE K M d tgt ls st h Q mc ms) (kf : ¬ x < 0 → jE K M d (pc + 3) ls st h Q mc ms) : jE K M d pc ls (.int x :: st) h Q mc ms :=
  fun p e R s m as bl me c H lo ce sl la hC hc hs hl hw hL => lv_if_lt hC.1 hC.2.1 hd ht (fun q => kt q p e R s m as bl me c H lo ce sl la hC hc hs hl hw hL) (fun q => kf q p e R s m as bl me c H lo ce sl la hC hc hs hl hw hL)
theorem j_if_ltT {x : Int32} {off : Int} {tgt : Nat} (hd : decode M.2.1 pc = .ok (.ifCond .lt off, 3)) (ht : (pc : Int) + off = (tgt : Int)) (q : x < 0) (kt : jE K M d tgt ls st h Q mc ms) : jE K M d pc ls (.int x :: st) h Q mc ms := j_if_lt hd ht (fun _ => kt) (fun z => absurd q (by first | exact z | exact fun w => z w | exact not_not_intro z))
theorem j_if_ltF {x : Int32} {off : Int} {tgt : Nat} (hd : decode M.2.1 pc = .ok (.ifCond .lt off, 3)) (ht : (pc : Int) + off = (tgt : Int)) (q : ¬ x < 0) (kf : jE K M d (pc + 3) ls st h Q mc ms) : jE K M d pc ls (.int x :: st) h Q mc ms := j_if_lt hd ht (fun z => absurd q (by first | exact z | exact fun w => w z | exact not_not_intro z)) (fun _ => kf)
theorem j_icmp_lt {x y : Int32} {off : Int} {tgt : Nat} (hd : decode M.2.1 pc = .ok (.if_icmp .lt off, 3)) (ht : (pc : Int) + off = (tgt : Int)) (kt : x < y → jE K M d tgt ls st h Q mc ms) (kf : ¬ x < y → jE K M d (pc + 3) ls st h Q mc ms) : jE K M d pc ls (.int y :: .int x :: st) h Q mc ms :=
  fun p e R s m as bl me c H lo ce sl la hC hc hs hl hw hL => lv_icmp_lt hC.1 hC.2.1 hd ht (fun q => kt q p e R s m as bl me c H lo ce sl la hC hc hs hl hw hL) (fun q => kf q p e R s m as bl me c H lo ce sl la hC hc hs hl hw hL)
theorem j_icmp_ltT {x y : Int32} {off : Int} {tgt : Nat} (hd : decode M.2.1 pc = .ok (.if_icmp .lt off, 3)) (ht : (pc : Int) + off = (tgt : Int)) (q : x < y) (kt : jE K M d tgt ls st h Q mc ms) : jE K M d pc ls (.int y :: .int x :: st) h Q mc ms := j_icmp_lt hd ht (fun _ => kt) (fun z => absurd q (by first | exact z | exact fun w => z w | exact not_not_intro z))
theorem j_icmp_ltF {x y : Int32} {off : Int} {tgt : Nat} (hd : decode M.2.1 pc = .ok (.if_icmp .lt off, 3)) (ht : (pc : Int) + off = (tgt : Int)) (q : ¬ x < y) (kf : jE K M d (pc + 3) ls st h Q mc ms) : jE K M d pc ls (.int y :: .int x :: st) h Q mc ms := j_icmp_lt hd ht (fun z => absurd q (by first | exact z | exact fun w => w z | exact not_not_intro z)) (fun _ => kf)
theorem j_if_ge {x : Int32} {off : Int} {tgt : Nat} (hd : decode M.2.1 pc = .ok (.ifCond .ge off, 3)) (ht : (pc : Int) + off = (tgt : Int)) (kt : 0 ≤ x → jE K M d tgt ls st h Q mc ms) (kf : ¬ 0 ≤ x → jE K M d (pc + 3) ls st h Q mc ms) : jE K M d pc ls (.int x :: st) h Q mc ms :=
  fun p e R s m as bl me c H lo ce sl la hC hc hs hl hw hL => lv_if_ge hC.1 hC.2.1 hd ht (fun q => kt q p e R s m as bl me c H lo ce sl la hC hc hs hl hw hL) (fun q => kf q p e R s m as bl me c H lo ce sl la hC hc hs hl hw hL)
theorem j_if_geT {x : Int32} {off : Int} {tgt : Nat} (hd : decode M.2.1 pc = .ok (.ifCond .ge off, 3)) (ht : (pc : Int) + off = (tgt : Int)) (q : 0 ≤ x) (kt : jE K M d tgt ls st h Q mc ms) : jE K M d pc ls (.int x :: st) h Q mc ms := j_if_ge hd ht (fun _ => kt) (fun z => absurd q (by first | exact z | exact fun w => z w | exact not_not_intro z))
theorem j_if_geF {x : Int32} {off : Int} {tgt : Nat} (hd : decode M.2.1 pc = .ok (.ifCond .ge off, 3)) (ht : (pc : Int) + off = (tgt : Int)) (q : ¬ 0 ≤ x) (kf : jE K M d (pc + 3) ls st h Q mc ms) : jE K M d pc ls (.int x :: st) h Q mc ms := j_if_ge hd ht (fun z => absurd q (by first | exact z | exact fun w => w z | exact not_not_intro z)) (fun _ => kf)
theorem j_icmp_ge {x y : Int32} {off : Int} {tgt : Nat} (hd : decode M.2.1 pc = .ok (.if_icmp .ge off, 3)) (ht : (pc : Int) + off = (tgt : Int)) (kt : y ≤ x → jE K M d tgt ls st h Q mc ms) (kf : ¬ y ≤ x → jE K M d (pc + 3) ls st h Q mc ms) : jE K M d pc ls (.int y :: .int x :: st) h Q mc ms :=
  fun p e R s m as bl me c H lo ce sl la hC hc hs hl hw hL => lv_icmp_ge hC.1 hC.2.1 hd ht (fun q => kt q p e R s m as bl me c H lo ce sl la hC hc hs hl hw hL) (fun q => kf q p e R s m as bl me c H lo ce sl la hC hc hs hl hw hL)
theorem j_icmp_geT {x y : Int32} {off : Int} {tgt : Nat} (hd : decode M.2.1 pc = .ok (.if_icmp .ge off, 3)) (ht : (pc : Int) + off = (tgt : Int)) (q : y ≤ x) (kt : jE K M d tgt ls st h Q mc ms) : jE K M d pc ls (.int y :: .int x :: st) h Q mc ms := j_icmp_ge hd ht (fun _ => kt) (fun z => absurd q (by first | exact z | exact fun w => z w | exact not_not_intro z))
theorem j_icmp_geF {x y : Int32} {off : Int} {tgt : Nat} (hd : decode M.2.1 pc = .ok (.if_icmp .ge off, 3)) (ht : (pc : Int) + off = (tgt : Int)) (q : ¬ y ≤ x) (kf : jE K M d (pc + 3) ls st h Q mc ms) : jE K M d pc ls (.int y :: .int x :: st) h Q mc ms := j_icmp_ge hd ht (fun z => absurd q (by first | exact z | exact fun w => w z | exact not_not_intro z)) (fun _ => kf)
theorem j_if_gt {x : Int32} {off : Int} {tgt : Nat} (hd : decode M.2.1 pc = .ok (.ifCond .gt off, 3)) (ht : (pc : Int) + off = (tgt : Int)) (kt : 0 < x → jE K M d tgt ls st h Q mc ms) (kf : ¬ 0 < x → jE K M d (pc + 3) ls st h Q mc ms) : jE K M d pc ls (.int x :: st) h Q mc ms :=
  fun p e R s m as bl me c H lo ce sl la hC hc hs hl hw hL => lv_if_gt hC.1 hC.2.1 hd ht (fun q => kt q p e R s m as bl me c H lo ce sl la hC hc hs hl hw hL) (fun q => kf q p e R s m as bl me c H lo ce sl la hC hc hs hl hw hL)
theorem j_if_gtT {x : Int32} {off : Int} {tgt : Nat} (hd : decode M.2.1 pc = .ok (.ifCond .gt off, 3)) (ht : (pc : Int) + off = (tgt : Int)) (q : 0 < x) (kt : jE K M d tgt ls st h Q mc ms) : jE K M d pc ls (.int x :: st) h Q mc ms := j_if_gt hd ht (fun _ => kt) (fun z => absurd q (by first | exact z | exact fun w => z w | exact not_not_intro z))
theorem j_if_gtF {x : Int32} {off : Int} {tgt : Nat} (hd : decode M.2.1 pc = .ok (.ifCond .gt off, 3)) (ht : (pc : Int) + off = (tgt : Int)) (q : ¬ 0 < x) (kf : jE K M d (pc + 3) ls st h Q mc ms) : jE K M d pc ls (.int x :: st) h Q mc ms := j_if_gt hd ht (fun z => absurd q (by first | exact z | exact fun w => w z | exact not_not_intro z)) (fun _ => kf)
theorem j_icmp_gt {x y : Int32} {off : Int} {tgt : Nat} (hd : decode M.2.1 pc = .ok (.if_icmp .gt off, 3)) (ht : (pc : Int) + off = (tgt : Int)) (kt : y < x → jE K M d tgt ls st h Q mc ms) (kf : ¬ y < x → jE K M d (pc + 3) ls st h Q mc ms) : jE K M d pc ls (.int y :: .int x :: st) h Q mc ms :=
  fun p e R s m as bl me c H lo ce sl la hC hc hs hl hw hL => lv_icmp_gt hC.1 hC.2.1 hd ht (fun q => kt q p e R s m as bl me c H lo ce sl la hC hc hs hl hw hL) (fun q => kf q p e R s m as bl me c H lo ce sl la hC hc hs hl hw hL)
theorem j_icmp_gtT {x y : Int32} {off : Int} {tgt : Nat} (hd : decode M.2.1 pc = .ok (.if_icmp .gt off, 3)) (ht : (pc : Int) + off = (tgt : Int)) (q : y < x) (kt : jE K M d tgt ls st h Q mc ms) : jE K M d pc ls (.int y :: .int x :: st) h Q mc ms := j_icmp_gt hd ht (fun _ => kt) (fun z => absurd q (by first | exact z | exact fun w => z w | exact not_not_intro z))
theorem j_icmp_gtF {x y : Int32} {off : Int} {tgt : Nat} (hd : decode M.2.1 pc = .ok (.if_icmp .gt off, 3)) (ht : (pc : Int) + off = (tgt : Int)) (q : ¬ y < x) (kf : jE K M d (pc + 3) ls st h Q mc ms) : jE K M d pc ls (.int y :: .int x :: st) h Q mc ms := j_icmp_gt hd ht (fun z => absurd q (by first | exact z | exact fun w => w z | exact not_not_intro z)) (fun _ => kf)
theorem j_if_le {x : Int32} {off : Int} {tgt : Nat} (hd : decode M.2.1 pc = .ok (.ifCond .le off, 3)) (ht : (pc : Int) + off = (tgt : Int)) (kt : x ≤ 0 → jE K M d tgt ls st h Q mc ms) (kf : ¬ x ≤ 0 → jE K M d (pc + 3) ls st h Q mc ms) : jE K M d pc ls (.int x :: st) h Q mc ms :=
  fun p e R s m as bl me c H lo ce sl la hC hc hs hl hw hL => lv_if_le hC.1 hC.2.1 hd ht (fun q => kt q p e R s m as bl me c H lo ce sl la hC hc hs hl hw hL) (fun q => kf q p e R s m as bl me c H lo ce sl la hC hc hs hl hw hL)
theorem j_if_leT {x : Int32} {off : Int} {tgt : Nat} (hd : decode M.2.1 pc = .ok (.ifCond .le off, 3)) (ht : (pc : Int) + off = (tgt : Int)) (q : x ≤ 0) (kt : jE K M d tgt ls st h Q mc ms) : jE K M d pc ls (.int x :: st) h Q mc ms := j_if_le hd ht (fun _ => kt) (fun z => absurd q (by first | exact z | exact fun w => z w | exact not_not_intro z))
theorem j_if_leF {x : Int32} {off : Int} {tgt : Nat} (hd : decode M.2.1 pc = .ok (.ifCond .le off, 3)) (ht : (pc : Int) + off = (tgt : Int)) (q : ¬ x ≤ 0) (kf : jE K M d (pc + 3) ls st h Q mc ms) : jE K M d pc ls (.int x :: st) h Q mc ms := j_if_le hd ht (fun z => absurd q (by first | exact z | exact fun w => w z | exact not_not_intro z)) (fun _ => kf)
theorem j_icmp_le {x y : Int32} {off : Int} {tgt : Nat} (hd : decode M.2.1 pc = .ok (.if_icmp .le off, 3)) (ht : (pc : Int) + off = (tgt : Int)) (kt : x ≤ y → jE K M d tgt ls st h Q mc ms) (kf : ¬ x ≤ y → jE K M d (pc + 3) ls st h Q mc ms) : jE K M d pc ls (.int y :: .int x :: st) h Q mc ms :=
  fun p e R s m as bl me c H lo ce sl la hC hc hs hl hw hL => lv_icmp_le hC.1 hC.2.1 hd ht (fun q => kt q p e R s m as bl me c H lo ce sl la hC hc hs hl hw hL) (fun q => kf q p e R s m as bl me c H lo ce sl la hC hc hs hl hw hL)
theorem j_icmp_leT {x y : Int32} {off : Int} {tgt : Nat} (hd : decode M.2.1 pc = .ok (.if_icmp .le off, 3)) (ht : (pc : Int) + off = (tgt : Int)) (q : x ≤ y) (kt : jE K M d tgt ls st h Q mc ms) : jE K M d pc ls (.int y :: .int x :: st) h Q mc ms := j_icmp_le hd ht (fun _ => kt) (fun z => absurd q (by first | exact z | exact fun w => z w | exact not_not_intro z))
theorem j_icmp_leF {x y : Int32} {off : Int} {tgt : Nat} (hd : decode M.2.1 pc = .ok (.if_icmp .le off, 3)) (ht : (pc : Int) + off = (tgt : Int)) (q : ¬ x ≤ y) (kf : jE K M d (pc + 3) ls st h Q mc ms) : jE K M d pc ls (.int y :: .int x :: st) h Q mc ms := j_icmp_le hd ht (fun z => absurd q (by first | exact z | exact fun w => w z | exact not_not_intro z)) (fun _ => kf)
theorem j_lg_mem {ls : List (Nat × Value)} {i : Nat} {v : Value} (h : j_lg ls i = some v) : (i, v) ∈ ls := by
  induction ls with
  | nil => cases h
  | cons q r ih =>
    unfold j_lg at h
    split at h
    · rename_i hq
      cases h
      rw [← hq]
      exact List.mem_cons_self
    · exact List.mem_cons_of_mem _ (ih h)
theorem j_iinc {i : Nat} {n : Int} {x v : Int32} (hd : decode M.2.1 pc = .ok (.iinc i n, 3)) (hg : j_lg ls i = some (.int x)) (hv : x + Int32.ofInt n = v) (hn : i < M.2.2.1) (k : jE K M d (pc + 3) (j_ls ls i (.int v)) st h Q mc ms) : jE K M d pc ls st h Q mc ms := by
  intro p e R s m as bl me c H lo ce sl la hC hc hs hl hw hL
  obtain ⟨k0, hk0⟩ := List.getElem?_of_mem (List.mem_map.mpr ⟨(i, .int x), j_lg_mem hg, rfl⟩ : (j_l K (i, .int x)) ∈ ls.map (j_l K))
  exact lv_iinc hC.1 hC.2.1 hd hl (k := k0) (x := x) hk0 hv hn (j_ls_map K ls i (.int v)) (fun la' hl' => k p e R s m as bl me c H lo ce sl la' hC hc hs hl' hw hL)
/-- the top of the stack under another name -/
theorem j_top {v w : Value} (hv : v = w) (k : jE K M d pc ls (w :: st) h Q mc ms) : jE K M d pc ls (v :: st) h Q mc ms := hv ▸ k
theorem j_st {st' : List Value} (hv : st = st') (k : jE K M d pc ls st' h Q mc ms) : jE K M d pc ls st h Q mc ms := hv ▸ k
theorem j_lsr {ls' : List (Nat × Value)} (hv : ls = ls') (k : jE K M d pc ls' st h Q mc ms) : jE K M d pc ls st h Q mc ms := hv ▸ k
theorem j_hp {h' : jH} (hv : h = h') (k : jE K M d pc ls st h' Q mc ms) : jE K M d pc ls st h Q mc ms := hv ▸ k
/-- fewer locals, in any order -/
theorem j_few {ls' : List (Nat × Value)} (hs : ∀ q ∈ ls', j_lg ls q.1 = some q.2) (k : jE K M d pc ls' st h Q mc ms) : jE K M d pc ls st h Q mc ms :=
  fun p e R s m as bl me c H lo ce sl la hC hc hs' hl hw hL => k p e R s m as bl me c H lo ce sl la hC hc hs' ⟨hl.1, hl.2.1, fun q hq => by
    obtain ⟨r, hr, rfl⟩ := List.mem_map.mp hq
    exact j_lg_at hl (hs r hr)⟩ hw hL
theorem j_wide {mc' ms' : Nat} {Q' : jO → jH → Prop} (h1 : mc' ≤ mc) (h2 : ms' ≤ ms) (hQ : ∀ o g, Q' o g → Q o g) (k : jE K M d pc ls st h Q' mc' ms') : jE K M d pc ls st h Q mc ms :=
  fun p e R s m as bl me c H lo ce sl la hC hc hs hl hw hL => j_mono (fun t => by
    rintro ⟨o, mo, h', L, a1, a2, a3, a4, a5, a6, a7, a8⟩
    exact ⟨o, mo, h', L, a1, a2, a3, hQ _ _ a4, a5, a6, a7.mono (by omega) (by omega), a8⟩) (k p e R s m as bl me c H lo ce sl la hC (by omega) (by omega) hl hw hL)
/-! returns -/
theorem j_iret {v : Int32} (hr : M.2.2.2.1 = some .int) (hd : decode M.2.1 pc = .ok (.ireturn, 1)) (hq : Q (.inl (some (.int v))) h) : jE K M d pc ls [.int v] h Q mc ms := by
  intro p e R s m as bl me c H lo ce sl la hC hc hs hl hw hL
  have hlocks := hC.2.2.2.2.2.2.1
  refine j_mono ?_ (W.iret (Qc := fun _ _ o t => o = .returned (some (.int v)) ∧ t.heap = H) (free := fun q => K.2.1 ≤ q) hC.1 hC.2.1 (hC.2.2.2.2.2.1.trans hr) (fun t ht _ => ⟨rfl, ht⟩) hL hd hlocks)
  rintro t ⟨o, h1, h2, ⟨rfl, hh⟩, L, ⟨-, hW, hsame⟩, hL'⟩
  exact ⟨_, .inl (some (.int v)), h, L, h1, h2, rfl, hq, hh ▸ hw, hW, hsame.mono (by simp [j_xc]) (by simp [j_xc]), hL'⟩
theorem j_zret {v : Int32} {ty : FieldType} (hr : M.2.2.2.1 = some ty) (hn : narrow ty (.int v) = .int v) (hd : decode M.2.1 pc = .ok (.ireturn, 1)) (hq : Q (.inl (some (.int v))) h) : jE K M d pc ls [.int v] h Q mc ms := by
  intro p e R s m as bl me c H lo ce sl la hC hc hs hl hw hL
  have hlocks := hC.2.2.2.2.2.2.1
  refine j_mono ?_ (W.zret (Qc := fun _ _ o t => o = .returned (some (.int v)) ∧ t.heap = H) (free := fun q => K.2.1 ≤ q) hC.1 hC.2.1 (hC.2.2.2.2.2.1.trans hr) hn (fun t ht _ => ⟨rfl, ht⟩) hL hd hlocks)
  rintro t ⟨o, h1, h2, ⟨rfl, hh⟩, L, ⟨-, hW, hsame⟩, hL'⟩
  exact ⟨_, .inl (some (.int v)), h, L, h1, h2, rfl, hq, hh ▸ hw, hW, hsame.mono (by simp [j_xc]) (by simp [j_xc]), hL'⟩
theorem j_vret (hr : M.2.2.2.1 = none) (hd : decode M.2.1 pc = .ok (.return_, 1)) (hq : Q (.inl none) h) : jE K M d pc ls [] h Q mc ms := by
  intro p e R s m as bl me c H lo ce sl la hC hc hs hl hw hL
  have hlocks := hC.2.2.2.2.2.2.1
  refine j_mono ?_ (W.vret (Qc := fun _ _ o t => o = .returned none ∧ t.heap = H) (free := fun q => K.2.1 ≤ q) hC.1 hC.2.1 (hC.2.2.2.2.2.1.trans hr) (fun t ht _ => ⟨rfl, ht⟩) hL hd hlocks)
  rintro t ⟨o, h1, h2, ⟨rfl, hh⟩, L, ⟨-, hW, hsame⟩, hL'⟩
  exact ⟨_, .inl none, h, L, h1, h2, rfl, hq, hh ▸ hw, hW, hsame.mono (by simp [j_xc]) (by simp [j_xc]), hL'⟩
theorem j_aret {i : Nat} {rt : FieldType} (hr : M.2.2.2.1 = some rt) (hrt : (∃ n, rt = .object n) ∨ ∃ t, rt = .array t) (hd : decode M.2.1 pc = .ok (.areturn, 1)) (hq : Q (.inl (some (.ref i))) h) : jE K M d pc ls [.ref i] h Q mc ms := by
  intro p e R s m as bl me c H lo ce sl la hC hc hs hl hw hL
  have hlocks := hC.2.2.2.2.2.2.1
  refine j_mono ?_ (W.aret (Qc := fun _ _ o t => o = .returned (some (.ref (j_adr K i))) ∧ t.heap = H) (free := fun q => K.2.1 ≤ q) hC.1 hC.2.1 (hC.2.2.2.2.2.1.trans hr) hrt (Or.inr ⟨_, rfl⟩) (fun t ht _ => ⟨rfl, ht⟩) hL hd hlocks)
  rintro t ⟨o, h1, h2, ⟨rfl, hh⟩, L, ⟨-, hW, hsame⟩, hL'⟩
  exact ⟨_, .inl (some (.ref i)), h, L, h1, h2, rfl, hq, hh ▸ hw, hW, hsame.mono (by simp [j_xc]) (by simp [j_xc]), hL'⟩
end JROWS
end
section
/-! cells of the world -/
theorem j_P1 {D : va_G} {cl : List vw_C} {q : Nat × va_E} {H : Heap} (h : va_at D cl q H) : va_P D cl [q] H := by
  intro k x hx
  cases k with
  | zero => cases hx; exact h
  | succ k => cases hx
theorem jW.at {K : jK} {h : jH} {H : Heap} (hw : jW K h H) {i : Nat} {x : va_E} (hx : j_get h i = some x) : va_at K.2.2.2.1 classes (j_adr K i, j_e K x) H := by
  unfold j_get at hx
  split at hx
  · cases hx
  · rename_i hi
    have h1 := hw.1 (i - 32) x hx
    rw [show j_adr K i = K.2.1 + (i - 32) by simp [j_adr, hi]]
    exact h1
theorem jW.put {K : jK} {h : jH} {H H1 : Heap} (hw : jW K h H) {i : Nat} {x y : va_E} (hx : j_get h i = some x) (hat : va_at K.2.2.2.1 classes (j_adr K i, j_e K y) H1) (hz : H1.size = H.size) (ho : ∀ q : Nat, q ≠ j_adr K i → H1[q]? = H[q]?) : jW K (j_set h i y) H1 := by
  unfold j_get at hx
  split at hx
  · cases hx
  · rename_i hi
    have ha : j_adr K i = K.2.1 + (i - 32) := by simp [j_adr, hi]
    rw [ha] at hat ho
    have hlt : i - 32 < h.length := (List.getElem?_eq_some_iff.mp hx).1
    refine ⟨fun j z hj => ?_, by rw [hz, hw.2.1]; simp [j_set], fun q hq => (ho q (by omega)).trans (hw.2.2 q hq)⟩
    by_cases e : j = i - 32
    · subst e
      have hj' : (h.set (i - 32) y)[i - 32]? = some z := hj
      rw [List.getElem?_set_self hlt] at hj'
      cases hj'
      exact hat
    · have hj' : (h.set (i - 32) y)[j]? = some z := hj
      rw [List.getElem?_set_ne (Ne.symm e)] at hj'
      exact (hw.1 j z hj').kept (ho _ (by show K.2.1 + j ≠ _; omega))
theorem jW.push {K : jK} {h : jH} {H H1 : Heap} (hw : jW K h H) {y : va_E} (hat : va_at K.2.2.2.1 classes (K.2.1 + h.length, j_e K y) H1) (hz : H1.size = H.size + 1) (ho : ∀ q : Nat, q < H.size → H1[q]? = H[q]?) : jW K (h ++ [y]) H1 := by
  have hsz := hw.2.1
  refine ⟨fun j z hj => ?_, by rw [hz, hsz]; simp; omega, fun q hq => (ho q (by omega)).trans (hw.2.2 q hq)⟩
  by_cases e : j < h.length
  · rw [List.getElem?_append_left e] at hj
    exact (hw.1 j z hj).kept (ho _ (by show K.2.1 + j < _; omega))
  · rw [List.getElem?_append_right (by omega)] at hj
    have e2 : j - h.length = 0 := by
      have := (List.getElem?_eq_some_iff.mp hj).1
      simp at this
      omega
    rw [e2] at hj
    cases hj
    rw [show j = h.length by omega]
    exact hat
/-- what the tables say of a field that an instruction names: own: the instruction's class; ci, k: the class and the field by number; its type; final or not -/
def jF (own : String) (idx ci k : Nat) (ty : FieldType) (fin : Bool) : Prop := ∃ (C : String) (T : u_T) (N : Nat) (ty0 : Nat → FieldType), classes[ci]? = some (C, T, N) ∧ k < N ∧ (∀ w ∈ u_ws C T N, w ∈ jt) ∧ (T k).1 = C ∧
  (Cond.fieldLink own idx C (T k).2.1 (T k).2.2.1 ∈ jt ∨ ∃ host, Cond.fieldLinkNest own idx C (T k).2.1 (T k).2.2.1 host ∈ jt) ∧ (∀ k, k < N → parseFieldDescriptor (T k).2.2.1 = some (ty0 k)) ∧ (∀ a, a < N → ∀ b, b < N → a ≠ b → (T a).2.1 ≠ (T b).2.1) ∧ ty0 k = ty ∧ (T k).2.2.2 = fin
section JHEAP
variable {K : jK} {M : jR} {d pc : Nat} {ls : List (Nat × Value)} {st : List Value} {h : jH} {Q : jO → jH → Prop} {mc ms : Nat}
theorem j_getf {idx ci k i : Nat} {ty : FieldType} {fin : Bool} {fs : List Value} {v : Value} (hd : decode M.2.1 pc = .ok (.getfield idx, 3)) (hf : jF M.1.cls idx ci k ty fin) (hx : j_get h i = some (.inr (ci, fs))) (hv : fs[k]? = some v) (kk : jE K M d (pc + 3) ls (v :: st) h Q mc ms) : jE K M d pc ls (.ref i :: st) h Q mc ms := by
  intro p e R s m as bl me c H lo ce sl la hC hc hs hl hw hL
  obtain ⟨C, T, N, ty0, hcl, hk, hin, hdecl, hlink, -⟩ := hf
  have hP : va_P K.2.2.2.1 classes [(j_adr K i, .inr (ci, fs.map (j_v K)))] H := j_P1 (hw.at hx)
  have hv' : (fs.map (j_v K))[k]? = some (j_v K v) := by rw [List.getElem?_map, hv]; rfl
  have hK := hC.2.2.2.2.2.2.2.2.2.2.2.1
  have hts := hC.2.2.2.2.1
  have kk' := kk p e R s m as bl me c H lo ce sl la hC hc hs hl hw hL
  rcases hlink with hlink | ⟨host, hlink⟩
  · exact va_get (ref := C) hC.1 hC.2.1 hts hin hC.2.2.2.1 hK hP 0 rfl hcl k hk (hts _ hlink) (fun x hx => by rw [hdecl] at hx; exact hx) hv' hd kk'
  · exact va_getN (ref := C) hC.1 hC.2.1 hts hin hC.2.2.2.1 hK hP 0 rfl hcl k hk (hts _ hlink) (fun x hx => by rw [hdecl] at hx; exact hx) hv' hd kk'
theorem j_putf {idx ci k i : Nat} {ty : FieldType} {fs : List Value} {v : Value} {h' : jH} (hd : decode M.2.1 pc = .ok (.putfield idx, 3)) (hf : jF M.1.cls idx ci k ty false) (hx : j_get h i = some (.inr (ci, fs))) (hlen : k < fs.length) (hn : narrow ty (j_v K v) = j_v K v) (hfit : fits ty (j_v K v) = true) (hh : j_set h i (.inr (ci, fs.set k v)) = h')
    (kk : jE K M d (pc + 3) ls st h' Q mc ms) : jE K M d pc ls (v :: .ref i :: st) h Q mc ms := by
  subst hh
  intro p e R s m as bl me c H lo ce sl la hC hc hs hl hw hL
  obtain ⟨C, T, N, ty0, hcl, hk, hin, hdecl, hlink, hty, hnm, rfl, hfin⟩ := hf
  have hK := hC.2.2.2.2.2.2.2.2.2.2.2.1
  have hts := hC.2.2.2.2.1
  have hap := va_apart (own := M.1.cls) hts hin ty0 hty hnm hK hcl
  obtain ⟨r, h1, cell, q1, q2, q3, q4⟩ := hw.at hx
  have hr : r = (C, T, N) := Option.some.inj (h1.symm.trans hcl)
  subst hr
  obtain ⟨hS, hfc, kC, hkC, hkind⟩ := hK.1 ci _ hcl
  obtain ⟨cf, kf, fi, f, hi, hsl⟩ := hS k hk
  have hlay := hts _ (hin _ (u_in_lay hk))
  unfold u_lay at hlay
  rw [if_neg (by rw [hfin]; decide)] at hlay
  have hst := (u_facts hfc hkC (u_lays hts hin hk) hi).1
  have h6 := u_store hfc hkC hkind hlay hi (hty k hk) hn hfit
  have hsame : s.fieldFound? C (T k).2.1 (T k).2.2.1 = some (cf, kf, fi, f) := by rw [hdecl] at hi; exact hi
  have hlen' : k < (fs.map (j_v K)).length := by simpa using hlen
  have key : ∀ H' : Heap, H'[j_adr K i]? = some (cell.setSlot f.slot (j_v K v)) → H'.size = H.size → (∀ q, q ≠ j_adr K i → H'[q]? = H[q]?) → W p K.1 e R s m as bl me c H' (lo ++ [⟨j_adr K i, f.slot⟩]) ce sl (jZ K bl s (ce + mc) (sl + ms) Q) (F0 m (pc + 3) la (st.map (j_v K))) := by
    intro H' e1 e2 e3
    refine kk p e R s m as bl me c H' _ ce sl la hC hc hs hl (hw.put hx ?_ e2 e3) ?_
    · rw [hsl] at e1
      refine ⟨_, hcl, ?_⟩
      have := t_OB.to (V := updV (vp_V (fs.map (j_v K))) k (j_v K v)) ⟨_, e1, q2, q3, t_set q4 hap hk (j_v K v)⟩ (fun j _ => vp_updV_set hlen' (j_v K v) j)
      rw [← List.map_set] at this
      exact this
    · intro q hq
      rcases List.mem_append.mp hq with h2 | h2
      · exact hL q h2
      · rw [List.mem_singleton.mp h2]
        show K.2.1 ≤ j_adr K i
        have : ¬ i < 32 := by
          intro hlt
          simp [j_get, hlt] at hx
        simp [j_adr, this]
  rcases hlink with hlink | ⟨host, hlink⟩
  · exact W.putK hC.1 hC.2.1 (f := f) ⟨hC.2.2.2.1, hts _ hlink, ⟨_, _, _, hsame⟩, hst⟩ (by rw [q2]; exact h6) q1 q3 (by rw [hsl]; exact k2_hasslot (q4 k hk)) rfl rfl hd key
  · exact va_WputK hC.1 hC.2.1 (f := f) hC.2.2.2.1 (hts _ hlink) hsame hst (by rw [q2]; exact h6) q1 q3 (by rw [hsl]; exact k2_hasslot (q4 k hk)) rfl rfl hd key
theorem j_putF {idx ci k i : Nat} {ty : FieldType} {fs : List Value} {v : Value} {h' : jH} (hd : decode M.2.1 pc = .ok (.putfield idx, 3)) (hf : jF M.1.cls idx ci k ty true) (hnI : M.1.name = "<init>") (hl0 : ∃ C T N, classes[ci]? = some (C, T, N) ∧ Cond.fieldLink M.1.cls idx C (T k).2.1 (T k).2.2.1 ∈ jt) (hown : ∀ C T N, classes[ci]? = some (C, T, N) → C = M.1.cls) (hx : j_get h i = some (.inr (ci, fs))) (hlen : k < fs.length) (hn : narrow ty (j_v K v) = j_v K v) (hfit : fits ty (j_v K v) = true) (hh : j_set h i (.inr (ci, fs.set k v)) = h')
    (kk : jE K M d (pc + 3) ls st h' Q mc ms) : jE K M d pc ls (v :: .ref i :: st) h Q mc ms := by
  subst hh
  intro p e R s m as bl me c H lo ce sl la hC hc hs hl hw hL
  obtain ⟨C, T, N, ty0, hcl, hk, hin, hdecl, hlink, hty, hnm, rfl, hfin⟩ := hf
  have hCo := hown C T N hcl
  have hK := hC.2.2.2.2.2.2.2.2.2.2.2.1
  have hts := hC.2.2.2.2.1
  have hap := va_apart (own := M.1.cls) hts hin ty0 hty hnm hK hcl
  obtain ⟨r, h1, cell, q1, q2, q3, q4⟩ := hw.at hx
  have hr : r = (C, T, N) := Option.some.inj (h1.symm.trans hcl)
  subst hr
  obtain ⟨hS, hfc, kC, hkC, hkind⟩ := hK.1 ci _ hcl
  obtain ⟨cf, kf, fi, f, hi, hsl⟩ := hS k hk
  have hlay := hts _ (hin _ (u_in_lay hk))
  unfold u_lay at hlay
  rw [if_pos hfin] at hlay
  have hst := (u_facts hfc hkC (u_lays hts hin hk) hi).1
  have hcf : m.cls = cf := by
    obtain ⟨_, _, c', _, _, _, -, -, hf', -, -, -, hown2, -⟩ := Cond.laysFinal_spec hlay
    have e1 : c' = cf := by have := hi.symm.trans hf'; simp at this; exact this.1.symm
    rw [hdecl, hCo] at hown2
    rw [← e1]; exact Option.some.inj (hC.2.2.2.1.symm.trans hown2)
  have h6 := u_fits hfc hkC hkind (Or.inr hlay) hi (hty k hk) hn hfit
  have hsame : s.fieldFound? C (T k).2.1 (T k).2.2.1 = some (cf, kf, fi, f) := by rw [hdecl] at hi; exact hi
  have hlen' : k < (fs.map (j_v K)).length := by simpa using hlen
  obtain ⟨C', T', N', hcl', hlink0⟩ := hl0
  obtain ⟨rfl, rfl, rfl⟩ : C' = C ∧ T' = T ∧ N' = N := by
    have h9 := Option.some.inj (hcl'.symm.trans hcl)
    simp only [Prod.mk.injEq] at h9
    exact h9
  refine W.putFinK hC.1 hC.2.1 hC.2.2.2.1 (hts _ hlink0) hsame hst hcf (hC.2.2.2.2.2.2.2.1.trans hnI) (by rw [q2]; exact h6) q1 q3 (by rw [hsl]; exact k2_hasslot (q4 k hk)) rfl rfl hd ?_
  intro H' e1 e2 e3
  refine kk p e R s m as bl me c H' _ ce sl la hC hc hs hl (hw.put hx ?_ e2 e3) ?_
  · rw [hsl] at e1
    refine ⟨_, hcl, ?_⟩
    have := t_OB.to (V := updV (vp_V (fs.map (j_v K))) k (j_v K v)) ⟨_, e1, q2, q3, t_set q4 hap hk (j_v K v)⟩ (fun j _ => vp_updV_set hlen' (j_v K v) j)
    rw [← List.map_set] at this
    exact this
  · intro q hq
    rcases List.mem_append.mp hq with h2 | h2
    · exact hL q h2
    · rw [List.mem_singleton.mp h2]
      show K.2.1 ≤ j_adr K i
      have : ¬ i < 32 := by
        intro hlt
        simp [j_get, hlt] at hx
      simp [j_adr, this]
theorem j_iald {i n j : Nat} {f : Nat → Int32} (hd : decode M.2.1 pc = .ok (.iaload, 1)) (hx : j_get h i = some (.inl (0, n, .inl f))) (hj : j < n) (hn : n < 2 ^ 31) (kk : jE K M d (pc + 1) ls (.int (f j) :: st) h Q mc ms) : jE K M d pc ls (.int (nI j) :: .ref i :: st) h Q mc ms := by
  intro p e R s m as bl me c H lo ce sl la hC hc hs hl hw hL
  have hP : va_P K.2.2.2.1 classes [(j_adr K i, .inl (K.2.2.2.2.1 0, n, .inl f))] H := j_P1 (hw.at hx)
  have kk' := kk p e R s m as bl me c H lo ce sl la hC hc hs hl hw hL
  refine va_iald hC.1 hC.2.1 hC.2.2.2.2.2.2.2.2.2.2.2.1 hP 0 0 rfl rfl (i := nI j) (vp_in_nI hj hn) hd ?_
  rw [nI_clamp (Nat.lt_trans hj hn)]
  exact kk'
theorem j_cald {i n j : Nat} {f : Nat → Int32} (hd : decode M.2.1 pc = .ok (.caload, 1)) (hx : j_get h i = some (.inl (1, n, .inl f))) (hj : j < n) (hn : n < 2 ^ 31) (kk : jE K M d (pc + 1) ls (.int (f j) :: st) h Q mc ms) : jE K M d pc ls (.int (nI j) :: .ref i :: st) h Q mc ms := by
  intro p e R s m as bl me c H lo ce sl la hC hc hs hl hw hL
  have hP : va_P K.2.2.2.1 classes [(j_adr K i, .inl (K.2.2.2.2.1 1, n, .inl f))] H := j_P1 (hw.at hx)
  have kk' := kk p e R s m as bl me c H lo ce sl la hC hc hs hl hw hL
  refine va_cald hC.1 hC.2.1 hC.2.2.2.2.2.2.2.2.2.2.2.1 hP 0 1 rfl rfl (i := nI j) (vp_in_nI hj hn) hd ?_
  rw [nI_clamp (Nat.lt_trans hj hn)]
  exact kk'
theorem j_zald {i n j : Nat} {f : Nat → Int32} (hd : decode M.2.1 pc = .ok (.baload, 1)) (hx : j_get h i = some (.inl (2, n, .inl f))) (hj : j < n) (hn : n < 2 ^ 31) (kk : jE K M d (pc + 1) ls (.int (f j) :: st) h Q mc ms) : jE K M d pc ls (.int (nI j) :: .ref i :: st) h Q mc ms := by
  intro p e R s m as bl me c H lo ce sl la hC hc hs hl hw hL
  have hP : va_P K.2.2.2.1 classes [(j_adr K i, .inl (K.2.2.2.2.1 2, n, .inl f))] H := j_P1 (hw.at hx)
  have kk' := kk p e R s m as bl me c H lo ce sl la hC hc hs hl hw hL
  refine va_zald hC.1 hC.2.1 hC.2.2.2.2.2.2.2.2.2.2.2.1 hP 0 2 rfl rfl (i := nI j) (vp_in_nI hj hn) hd ?_
  rw [nI_clamp (Nat.lt_trans hj hn)]
  exact kk'
theorem j_lald {i n j : Nat} {f : Nat → Int64} (hd : decode M.2.1 pc = .ok (.laload, 1)) (hx : j_get h i = some (.inl (3, n, .inr (.inl f)))) (hj : j < n) (hn : n < 2 ^ 31) (kk : jE K M d (pc + 1) ls (.long (f j) :: st) h Q mc ms) : jE K M d pc ls (.int (nI j) :: .ref i :: st) h Q mc ms := by
  intro p e R s m as bl me c H lo ce sl la hC hc hs hl hw hL
  have hP : va_P K.2.2.2.1 classes [(j_adr K i, .inl (K.2.2.2.2.1 3, n, .inr (.inl f)))] H := j_P1 (hw.at hx)
  have kk' := kk p e R s m as bl me c H lo ce sl la hC hc hs hl hw hL
  refine va_lald hC.1 hC.2.1 hC.2.2.2.2.2.2.2.2.2.2.2.1 hP 0 3 rfl rfl (i := nI j) (vp_in_nI hj hn) hd ?_
  rw [nI_clamp (Nat.lt_trans hj hn)]
  exact kk'
theorem j_loc {K : jK} {h : jH} {i k : Nat} {x : va_E} {lo : List Loc} (hx : j_get h i = some x) (hL : ∀ q ∈ lo, K.2.1 ≤ q.base) : ∀ q ∈ lo ++ [(⟨j_adr K i, k⟩ : Loc)], K.2.1 ≤ q.base := by
  intro q hq
  rcases List.mem_append.mp hq with h2 | h2
  · exact hL q h2
  · rw [List.mem_singleton.mp h2]
    show K.2.1 ≤ j_adr K i
    have : ¬ i < 32 := by
      intro hlt
      simp [j_get, hlt] at hx
    simp [j_adr, this]
theorem j_iast {i n j : Nat} {f : Nat → Int32} {x : Int32} {h' : jH} (hd : decode M.2.1 pc = .ok (.iastore, 1)) (hx : j_get h i = some (.inl (0, n, .inl f))) (hj : j < n) (hn : n < 2 ^ 31) (hh : j_set h i (.inl (0, n, .inl (upd f j x))) = h') (kk : jE K M d (pc + 1) ls st h' Q mc ms) : jE K M d pc ls (.int x :: .int (nI j) :: .ref i :: st) h Q mc ms := by
  subst hh
  intro p e R s m as bl me c H lo ce sl la hC hc hs hl hw hL
  have hat : H[j_adr K i]? = some (vp_cell (K.2.2.2.2.1 0) (n, .inl f)) := hw.at hx
  have hin : vp_in (nI j) n := vp_in_nI hj hn
  refine W.iast hC.1 hC.2.1 hat (((hC.2.2.2.2.2.2.2.2.2.2.2.1).2 0 _ rfl).1 n (fun j => .int (f j))) (fun q => by cases q) (by show ¬ (_ ∨ (arrV _ _ _).slots.size ≤ _); rw [arrV_size]; exact hin) rfl rfl hd fun H1 e1 z oq => ?_
  refine kk p e R s m as bl me c H1 _ ce sl la hC hc hs hl (hw.put hx ?_ z oq) (j_loc hx hL)
  show H1[j_adr K i]? = some (vp_cell _ _)
  rw [e1]
  rw [vp_cell_i, vp_cell_i, arrV_store, nI_clamp (Nat.lt_trans hj hn)]
  congr 2
  funext q
  by_cases hq : q = j
  · subst hq
    simp [updV, upd]
  · simp [updV, upd, hq]
theorem j_cast {i n j : Nat} {f : Nat → Int32} {x : Int32} {h' : jH} (hd : decode M.2.1 pc = .ok (.castore, 1)) (hx : j_get h i = some (.inl (1, n, .inl f))) (hj : j < n) (hn : n < 2 ^ 31) (hv : narrow .char (.int x) = .int x) (hh : j_set h i (.inl (1, n, .inl (upd f j x))) = h') (kk : jE K M d (pc + 1) ls st h' Q mc ms) : jE K M d pc ls (.int x :: .int (nI j) :: .ref i :: st) h Q mc ms := by
  subst hh
  intro p e R s m as bl me c H lo ce sl la hC hc hs hl hw hL
  have hat : H[j_adr K i]? = some (vp_cell (K.2.2.2.2.1 1) (n, .inl f)) := hw.at hx
  have hin : vp_in (nI j) n := vp_in_nI hj hn
  refine W.cast hC.1 hC.2.1 hat (((hC.2.2.2.2.2.2.2.2.2.2.2.1).2 1 _ rfl).1 n (fun j => .int (f j))) (fun q => by cases q) (by show ¬ (_ ∨ (arrV _ _ _).slots.size ≤ _); rw [arrV_size]; exact hin) rfl rfl hd fun H1 e1 z oq => ?_
  refine kk p e R s m as bl me c H1 _ ce sl la hC hc hs hl (hw.put hx ?_ z oq) (j_loc hx hL)
  show H1[j_adr K i]? = some (vp_cell _ _)
  rw [e1]
  rw [vp_cell_i, vp_cell_i, arrV_store, nI_clamp (Nat.lt_trans hj hn), hv]
  congr 2
  funext q
  by_cases hq : q = j
  · subst hq
    simp [updV, upd]
  · simp [updV, upd, hq]
theorem j_zast {i n j : Nat} {f : Nat → Int32} {x : Int32} {h' : jH} (hd : decode M.2.1 pc = .ok (.bastore, 1)) (hx : j_get h i = some (.inl (2, n, .inl f))) (hj : j < n) (hn : n < 2 ^ 31) (hv : narrow .boolean (.int x) = .int x) (hh : j_set h i (.inl (2, n, .inl (upd f j x))) = h') (kk : jE K M d (pc + 1) ls st h' Q mc ms) : jE K M d pc ls (.int x :: .int (nI j) :: .ref i :: st) h Q mc ms := by
  subst hh
  intro p e R s m as bl me c H lo ce sl la hC hc hs hl hw hL
  have hat : H[j_adr K i]? = some (vp_cell (K.2.2.2.2.1 2) (n, .inl f)) := hw.at hx
  have hin : vp_in (nI j) n := vp_in_nI hj hn
  refine W.zast hC.1 hC.2.1 hat (((hC.2.2.2.2.2.2.2.2.2.2.2.1).2 2 _ rfl).1 n (fun j => .int (f j))) (fun q => by cases q) (by show ¬ (_ ∨ (arrV _ _ _).slots.size ≤ _); rw [arrV_size]; exact hin) rfl rfl hd fun H1 e1 z oq => ?_
  refine kk p e R s m as bl me c H1 _ ce sl la hC hc hs hl (hw.put hx ?_ z oq) (j_loc hx hL)
  show H1[j_adr K i]? = some (vp_cell _ _)
  rw [e1]
  rw [vp_cell_i, vp_cell_i, arrV_store, nI_clamp (Nat.lt_trans hj hn), hv]
  congr 2
  funext q
  by_cases hq : q = j
  · subst hq
    simp [updV, upd]
  · simp [updV, upd, hq]
theorem j_last {i n j : Nat} {f : Nat → Int64} {x : Int64} {h' : jH} (hd : decode M.2.1 pc = .ok (.lastore, 1)) (hx : j_get h i = some (.inl (3, n, .inr (.inl f)))) (hj : j < n) (hn : n < 2 ^ 31) (hh : j_set h i (.inl (3, n, .inr (.inl (vp_updL f j x)))) = h') (kk : jE K M d (pc + 1) ls st h' Q mc ms) : jE K M d pc ls (.long x :: .int (nI j) :: .ref i :: st) h Q mc ms := by
  subst hh
  intro p e R s m as bl me c H lo ce sl la hC hc hs hl hw hL
  have hat : H[j_adr K i]? = some (vp_cell (K.2.2.2.2.1 3) (n, .inr (.inl f))) := hw.at hx
  have hin : vp_in (nI j) n := vp_in_nI hj hn
  refine W.last hC.1 hC.2.1 hat (((hC.2.2.2.2.2.2.2.2.2.2.2.1).2 3 _ rfl).1 n (fun j => .long (f j))) (fun q => by cases q) (by show ¬ (_ ∨ (arrV _ _ _).slots.size ≤ _); rw [arrV_size]; exact hin) rfl rfl hd fun H1 e1 z oq => ?_
  refine kk p e R s m as bl me c H1 _ ce sl la hC hc hs hl (hw.put hx ?_ z oq) (j_loc hx hL)
  show H1[j_adr K i]? = some (vp_cell _ _)
  rw [e1]
  rw [vp_cell_l, vp_cell_l, arrV_store, nI_clamp (Nat.lt_trans hj hn)]
  congr 2
  funext q
  by_cases hq : q = j
  · subst hq
    simp [updV, vp_updL]
  · simp [updV, vp_updL, hq]
theorem j_alen {i n t : Nat} {a : (Nat → Int32) ⊕ (Nat → Int64) ⊕ (Nat → UInt32) ⊕ (Nat → UInt64) ⊕ (Nat → Option Nat)} {ty : FieldType} (ht : (j_ty K)[t]? = some (K.2.2.2.2.1 t, ty)) (hd : decode M.2.1 pc = .ok (.arraylength, 1)) (hx : j_get h i = some (.inl (t, n, a))) (kk : jE K M d (pc + 1) ls (.int (nI n) :: st) h Q mc ms) : jE K M d pc ls (.ref i :: st) h Q mc ms := by
  intro p e R s m as bl me c H lo ce sl la hC hc hs hl hw hL
  have hP : va_P K.2.2.2.1 classes [(j_adr K i, .inl (K.2.2.2.2.1 t, n, a))] H := j_P1 (hw.at hx)
  exact va_alen hC.1 hC.2.1 hC.2.2.2.2.2.2.2.2.2.2.2.1 hP 0 t rfl ht rfl hd (kk p e R s m as bl me c H lo ce sl la hC hc hs hl hw hL)
/-- what the tables say of a class that an instruction makes -/
def jN (own : String) (idx ci N : Nat) (fs : List Value) : Prop := ∃ (C : String) (T : u_T) (ty0 : Nat → FieldType), classes[ci]? = some (C, T, N) ∧ (∀ w ∈ u_ws C T N, w ∈ jt) ∧ (∀ k, k < N → parseFieldDescriptor (T k).2.2.1 = some (ty0 k)) ∧
  Cond.classLink own idx C ∈ jt ∧ Cond.instantiable C N ∈ jt ∧ Cond.initialized C ∈ jt ∧ ∀ j, j < N → defaultValue (ty0 j) = vp_V fs j
theorem j_adr_new (K : jK) (n : Nat) : j_adr K (32 + n) = K.2.1 + n := by
  have : ¬ 32 + n < 32 := by omega
  simp [j_adr, this]
theorem j_new {idx ci N : Nat} {fs : List Value} (hd : decode M.2.1 pc = .ok (.new idx, 3)) (hn : jN M.1.cls idx ci N fs) (hfs : fs.map (j_v K) = fs) (kk : jE K M d (pc + 3) ls (.ref (32 + h.length) :: st) (h ++ [.inr (ci, fs)]) Q mc ms) : jE K M d pc ls st h Q (mc + 1) (ms + N) := by
  intro p e R s m as bl me c H lo ce sl la hC hc hs hl hw hL
  obtain ⟨C, T, ty0, hcl, hin, hty, h1, h2, h3, hdef⟩ := hn
  have hK := hC.2.2.2.2.2.2.2.2.2.2.2.1
  have hts := hC.2.2.2.2.1
  have hKn := hK.1 ci _ hcl
  refine W.newcK hC.1 hC.2.1 hC.2.2.2.1 (hts _ h1) (hts _ h2) (hts _ h3) rfl hd (by omega) (by omega) hKn.2.1 rfl fun H1 kC hkC e1 z1 o1 => ?_
  have hat : va_at K.2.2.2.1 classes (K.2.1 + h.length, j_e K (.inr (ci, fs))) H1 := by
    rw [← hw.2.1]
    refine ⟨_, hcl, ?_⟩
    show t_OB _ _ _ _ _ (vp_V (fs.map (j_v K)))
    rw [hfs]
    exact (u_born ty0 hts hin hKn hkC e1 hty).to hdef
  have hE := kk p e R s m as bl me c H1 lo (ce + 1) (sl + N) la hC (by omega) (by omega) hl (hw.push hat z1 o1) hL
  rw [show ce + 1 + mc = ce + (mc + 1) by omega, show sl + N + ms = sl + (ms + N) by omega] at hE
  have e9 : (.ref (32 + h.length) :: st : List Value).map (j_v K) = .ref H.size :: st.map (j_v K) := by
    show (.ref (j_adr K (32 + h.length)) :: st.map (j_v K) : List Value) = _
    rw [j_adr_new, hw.2.1]
  rw [e9] at hE
  exact hE
theorem j_newa {atype : ArrayType} {t N : Nat} {ty : FieldType} {x : Int32} {a : (Nat → Int32) ⊕ (Nat → Int64) ⊕ (Nat → UInt32) ⊕ (Nat → UInt64) ⊕ (Nat → Option Nat)} (hd : decode M.2.1 pc = .ok (.newarray atype, 2)) (hty : newarray.typeOf atype = ty) (ht : (j_ty K)[t]? = some (K.2.2.2.2.1 t, ty)) (hra : ∀ (U : State) (cA : ClassId), va_RA U cA ty → U.vm.findClass ("[" ++ ty.toString) = some cA) (hw0 : Cond.arrayClass ty ∈ jt)
    (ha : ∀ cA : ClassId, vp_cell cA (N, a) = arrV cA N (fun _ => defaultValue ty)) (hx : ¬ x < 0) (hN : x.toNatClampNeg = N) (hb : N * componentBytes ty ≤ 536870912) (kk : jE K M d (pc + 2) ls (.ref (32 + h.length) :: st) (h ++ [.inl (t, N, a)]) Q mc ms) : jE K M d pc ls (.int x :: st) h Q (mc + 1) (ms + N) := by
  subst hty
  intro p e R s m as bl me c H lo ce sl la hC hc hs hl hw hL
  have hK := hC.2.2.2.2.2.2.2.2.2.2.2.1
  have hts := hC.2.2.2.2.1
  refine va_newaK hC.1 hC.2.1 (hts _ hw0) rfl hd rfl hx hN hb (by omega) (by omega) rfl fun H1 cA e1 z1 o1 hAr hNm => ?_
  have hcA : K.2.2.2.2.1 t = cA := Option.some.inj ((hra _ _ (hK.2 t _ ht).2).symm.trans hNm)
  have hat : va_at K.2.2.2.1 classes (K.2.1 + h.length, j_e K (.inl (t, N, a))) H1 := by
    rw [← hw.2.1]
    show H1[H.size]? = some (vp_cell (K.2.2.2.2.1 t) (N, a))
    rw [ha, hcA]
    exact e1
  have hE := kk p e R s m as bl me c H1 lo (ce + 1) (sl + N) la hC (by omega) (by omega) hl (hw.push hat z1 o1) hL
  rw [show ce + 1 + mc = ce + (mc + 1) by omega, show sl + N + ms = sl + (ms + N) by omega] at hE
  have e9 : (.ref (32 + h.length) :: st : List Value).map (j_v K) = .ref H.size :: st.map (j_v K) := by
    show (.ref (j_adr K (32 + h.length)) :: st.map (j_v K) : List Value) = _
    rw [j_adr_new, hw.2.1]
  rw [e9] at hE
  exact hE
end JHEAP
end
section
/-! METHODS: a contract, how it is proved (jM.of), how it is used (j_pay, and the rows of the calls) -/
def j_code (M : jR) : Cond := match M.2.2.2.2 with
  | [] => .code M.1 M.2.1 M.2.2.1 M.2.2.2.1
  | q :: hs => .codeWith M.1 M.2.1 M.2.2.1 M.2.2.2.1 (q :: hs)
theorem j_code_spec {M : jR} {args : Array Value} {s : State} {m : MethodId} (hn : s.methodNamed? M.1 = some m) (h : (j_code M).before args s = true) :
    ∃ meth c, s.vm.method? m = some meth ∧ meth.code = some c ∧ c.code = M.2.1 ∧ c.maxLocals = M.2.2.1 ∧ meth.sig.returnType = M.2.2.2.1 ∧ meth.locks = false ∧ c.exceptionTable.toList = tableOf M.2.2.2.2 ∧ parseMethodDescriptor M.1.desc = some meth.sig := by
  obtain ⟨y, b, n, r, hs⟩ := M
  cases hs with
  | nil =>
    obtain ⟨meth, c, h1, h2, h3, h4, h5, h6, h7, h8⟩ := Cond.code_spec hn h
    refine ⟨meth, c, h1, h2, h3, h4, h5, h6, ?_, h8⟩
    have h0 : c.exceptionTable.size = 0 := by simpa [Array.isEmpty] using h7
    exact List.eq_nil_of_length_eq_zero (by simpa using h0)
  | cons q hs =>
    obtain ⟨m9, meth, c, hn9, h1, h2, h3, h4, h7, h5, h6, h8⟩ := Cond.codeWith_spec h
    cases hn.symm.trans hn9
    exact ⟨meth, c, h1, h2, h3, h4, h5, h6, by rw [← h7, table_eq], h8⟩
def jM (K : jK) (M : jR) (d : Nat) (av : List Value) (h : jH) (Q : jO → jH → Prop) (mc ms : Nat) : Prop :=
  MetFree K.1 M.1 (headSpec [j_code M] { frames := d, cells := mc + 1, slots := ms + 6, locals := 64 * d })
    (fun a U => a = (av.map (j_v K)).toArray ∧ jW K h U.heap ∧ jU K U) (fun _ _ _ _ _ => True)
    (fun _ st o t => ∃ (mo : jO) (h' : jH) (L : List Loc), j_oc K h' mo o ∧ Q mo h' ∧ jW K h' t.heap ∧ st.WarmedH t.vm ∧ st.sameButNew ({ t with vm := st.vm } : State) L (mc + j_xc mo) (ms + 6 * j_xc mo) ∧ ∀ q ∈ L, K.2.1 ≤ q.base)
theorem j_args (K : jK) : ∀ (av : List Value) (i : Nat), lv_args i (av.map (j_v K)) = (lv_args i av).map (j_l K)
  | [], _ => rfl
  | v :: av, i => by
    show (i, j_v K v) :: lv_args _ _ = (i, j_v K v) :: _
    rw [j_args K av, j_cat]
theorem j_slots (K : jK) (av : List Value) : (lg_sl (av.map (j_v K))).length = (lg_sl av).length := by
  induction av with
  | nil => rfl
  | cons v av ih =>
    simp only [lg_sl, List.map_cons, List.flatMap_cons, List.length_append] at ih ⊢
    rw [ih, j_cat]
    split <;> rfl
section JMETH
variable {K : jK} {M : jR} {d : Nat} {av : List Value} {h : jH} {Q : jO → jH → Prop} {mc ms : Nat}
theorem jM.of (hp : plainFor M.1 = true) (hlen : (lg_sl av).length ≤ M.2.2.1) (k : jE K M d 0 (lv_args 0 av) [] h Q mc ms) : jM K M d av h Q mc ms := by
  refine MetFree.of_bodySF (code := M.2.1) (maxLocals := M.2.2.1) (ret := M.2.2.2.1) hp ?_ ?_
  · intro args s m hpre hn
    obtain ⟨meth, c, h1, h2, h3, h4, h5, h6, -, -⟩ := j_code_spec hn (atoms_spec (ws := [j_code M]) hpre _ List.mem_cons_self)
    exact ⟨meth, c, h1, h2, h3, h4, h5, h6⟩
  · intro p e s m args below meth c s₁ B hml hP _
    obtain ⟨rfl, hw, hU⟩ := hP
    have X := Stand.of_body B
    obtain ⟨meth', c', h1, h2, -, -, -, -, h7, -⟩ := j_code_spec B.named (atoms_spec (ws := [j_code M]) B.pre _ List.mem_cons_self)
    cases B.method.symm.trans h1
    cases X.code.symm.trans h2
    have hh0 : s₁.heap = s.heap := by rw [B.state]; rfl
    have hl := lv_entry (av.map (j_v K)) (n := M.2.2.1) (by rw [j_slots]; exact hlen)
    rw [j_args] at hl
    have hE := k p e _ s m _ below meth c s.heap [] 0 0 _ ⟨B.exec, B.bytes, hml, findClass_of_methodNamed B.named, fun w hw' => j_okT (j_jt hw') rfl (hU.1 w hw'), B.returns, B.notSynchronized, (name_of_methodNamed B.named B.method).1, h7, Nat.le_refl _, Nat.le_refl _, hU.2.1, hU.2.2⟩ (by simp [headSpec]) (by simp [headSpec]) hl hw (fun q hq => by cases hq) s₁ hh0 X
    rw [lg_entry_eq]
    obtain ⟨t, a1, o, mo, h', L, b1, b2, b3, b4, b5, b6, b7, b8⟩ := hE
    refine ⟨t, o, a1, b1, b2, mo, h', L, b3, b4, b5, b6, ?_, b8⟩
    simpa using b7
theorem jM.mono {Q' : jO → jH → Prop} (hQ : ∀ o g, Q o g → Q' o g) (k : jM K M d av h Q mc ms) : jM K M d av h Q' mc ms := by
  intro p e ha hc hk s m args below hf happ hP hK
  obtain ⟨n, o, h1, h2, h3, mo, h', L, b1, b2, b3⟩ := k p e ha hc hk s m args below hf happ hP hK
  exact ⟨n, o, h1, h2, h3, mo, h', L, b1, hQ _ _ b2, b3⟩
variable {p : Program} {e : Env} {R : Room} {s : State} {m : MethodId} {args : Array Value} {below : List Frame} {meth : Method} {c : Code} {U : State} {Ls : List Loc} {c0 s0 : Nat}
/-- a call by contract, from the frame that has popped the arguments: it comes back behind the call, or the note 'is thrown' lies over the frame -/
theorem j_pay (X : Stand p K.1 e R s m args below meth c U Ls c0 s0) (hM : jM K M d av h Q mc ms) (hfr : d + 1 ≤ R.frames) (hlo : 8 + (M.2.2.1 + 11) + 64 * d ≤ R.locals) (hce : c0 + mc + 1 ≤ R.cells) (hsl : s0 + ms + 6 ≤ R.slots)
    {g : JFrame} (hg : g.method = m) (hsize : g.locals.size = c.maxLocals) {ig : Instr} {len : Nat} (hdg : decode c.code g.pc = .ok (ig, len)) (hW : 2 * g.monitorRoom + (g.stack.map fun v => v.category).sum ≤ 8)
    {mk : MethodId} (hn : U.methodNamed? M.1 = some mk) (hcode : (j_code M).before (av.map (j_v K)).toArray U = true) (hinit : (Cond.initialized M.1.cls).before (av.map (j_v K)).toArray U = true) (hw : jW K h U.heap) (hU : jU K U) :
    ∃ (mo : jO) (h' : jH) (L : List Loc) (B : State), Stand p K.1 e R s m args below meth c B (Ls ++ L) (c0 + (mc + j_xc mo)) (s0 + (ms + 6 * j_xc mo)) ∧ Q mo h' ∧ jW K h' B.heap ∧ (∀ q ∈ L, K.2.1 ≤ q.base) ∧
      ((∃ v, mo = .inl v ∧ Steps p.tables e below (doInvoke e (U.setTop g) [] mk (av.map (j_v K)).toArray).1 (B.setTop { g with pc := g.pc + len, stack := (v.map (j_v K)).toList ++ g.stack })) ∨
       (∃ k n, mo = .inr k ∧ h'.length = n + 1 ∧ h'[n]? = some (.inr (k, [])) ∧ Steps p.tables e below (doInvoke e (U.setTop g) [] mk (av.map (j_v K)).toArray).1 ((B.setTop g).pushFrame (.throwing (K.2.1 + n))))) := by
  obtain ⟨methY, cY, hmY, hcY, -, hlY, -, -, -, -⟩ := j_code_spec hn hcode
  obtain ⟨kY, hkY, -⟩ := className_of_methodNamed hn
  have hinitY : kY.init = .initialized := Cond.initialized_spec (findClass_of_methodNamed hn) hkY hinit
  have hat : At U g.method c below := by rw [hg]; exact X.here
  have happ : (headSpec [j_code M] { frames := d, cells := mc + 1, slots := ms + 6, locals := 64 * d }).appliesLoose M.1 e.platform (U.calling g mk (av.map (j_v K)).toArray) = true :=
    Spec.appliesLoose_calling (g := g) hat hdg hn hkY hinitY
      (X.room_calling (g := g) (R' := { frames := d, cells := mc + 1, slots := ms + 6, locals := 64 * d }) hsize hmY hcY hfr (by rw [hlY]; show _ + _ + 64 * d ≤ _; omega) (by show c0 + (mc + 1) ≤ _; omega) (by show s0 + (ms + 6) ≤ _; omega)) (atoms_intro fun w hw => by rw [List.mem_singleton.mp hw]; exact hcode)
  obtain ⟨mid, hmid⟩ := hat.above
  have hfr2 : (U.setTop g).frames = (.java g :: mid) ++ below := by rw [State.frames_setTop' g hat.top, hmid]; rfl
  have hheap : (U.calling g mk (av.map (j_v K)).toArray).heap = U.heap := by simp [State.calling, State.pushFrame, State.setFrames, State.setTop, State.modifyTopJava]
  have hvm : (U.calling g mk (av.map (j_v K)).toArray).vm = U.vm := by simp [State.calling, State.pushFrame, State.setFrames, State.setTop, State.modifyTopJava]
  have hPre : (av.map (j_v K)).toArray = (av.map (j_v K)).toArray ∧ jW K h (U.calling g mk (av.map (j_v K)).toArray).heap ∧ jU K (U.calling g mk (av.map (j_v K)).toArray) :=
    ⟨rfl, by rw [hheap]; exact hw, hU.warm (by rw [hvm]; exact State.WarmedH.refl U)⟩
  obtain ⟨o, s₂, hsteps, -, hend, mo, h', L, q1, q2, q3, q4, q5, q6⟩ := Steps.callFree hM p X.admits X.cas X.clock (acts := []) hfr2 happ hPre trivial
  have q5' : (U.calling g mk (av.map (j_v K)).toArray).sameButNew ({ s₂ with vm := (U.calling g mk (av.map (j_v K)).toArray).vm } : State) L (mc + j_xc mo) (ms + 6 * j_xc mo) := q5
  have hW₂ : (U.calling g mk (av.map (j_v K)).toArray).WarmedH s₂.vm := q4
  rw [State.frames_setTop' g hat.top] at hend
  obtain ⟨e2, r2, r3, r4, r5, r6⟩ := id q5'
  have e3 : s₂ = ({ (U.calling g mk (av.map (j_v K)).toArray).setFrames s₂.frames with heap := s₂.heap, slotsUsed := s₂.slotsUsed } : State).setVm s₂.vm := by
    have : s₂ = ({ s₂ with vm := (U.calling g mk (av.map (j_v K)).toArray).vm } : State).setVm s₂.vm := rfl
    rw [e2] at this
    exact this
  have hW' : U.WarmedH s₂.vm := hW₂
  obtain ⟨g₀, hg0⟩ := Option.isSome_iff_exists.mp hat.top
  obtain ⟨r, hr⟩ := State.topJava?_eq_some.mp hg0
  have hr' : (({ U with heap := s₂.heap, slotsUsed := s₂.slotsUsed } : State).setVm s₂.vm).frames = .java g₀ :: r := hr
  have hsame : U.sameButNew ({ U with heap := s₂.heap, slotsUsed := s₂.slotsUsed } : State) L (mc + j_xc mo) (ms + 6 * j_xc mo) := by
    refine ⟨?_, r2, r3, r4, r5, r6⟩
    obtain ⟨t, ht, -⟩ := State.frames_cons hr
    show ({ U with heap := s₂.heap, slotsUsed := s₂.slotsUsed } : State) = { U.setFrames U.frames with heap := s₂.heap, slotsUsed := s₂.slotsUsed }
    rw [State.setFrames_self ht]
  have hst : Stand p K.1 e R s m args below meth c (({ U with heap := s₂.heap, slotsUsed := s₂.slotsUsed } : State).setVm s₂.vm) (Ls ++ L) (c0 + (mc + j_xc mo)) (s0 + (ms + 6 * j_xc mo)) :=
    ⟨X.admits, X.cas, X.clock, X.frames, X.room, X.hears, X.method, X.code, (X.here.setHeapUsed s₂.heap s₂.slotsUsed).setVm hW'.alike, X.tail, State.WarmedH.trans X.warmed hW', X.limits, X.bytes, X.same.trans (hsame.setVm s.vm)⟩
  refine ⟨mo, h', L, _, hst, q2, q3, q6, ?_⟩
  cases mo with
  | inl v =>
    have q1' : o = .returned (v.map (j_v K)) := q1
    subst q1'
    refine Or.inl ⟨v, rfl, ?_⟩
    obtain ⟨c₂, i₂, len₂, hc₂, hd₂, hf₂⟩ := hend
    have hcc : c₂ = c := by
      have h1 : s₂.code? g.method = U.code? g.method := by
        rw [State.code?_eq, State.code?_eq, hW'.alike.method?]
      exact Option.some.inj (hc₂.symm.trans (h1.trans hat.code))
    subst hcc
    have hlen : len₂ = len := by rw [hdg] at hd₂; cases hd₂; rfl
    subst hlen
    have hs₂ : s₂ = (({ U with heap := s₂.heap, slotsUsed := s₂.slotsUsed } : State).setVm s₂.vm).setTop { g with pc := g.pc + len₂, stack := (v.map (j_v K)).toList ++ g.stack } := by
      refine e3.trans ?_
      rw [hf₂, State.calling_eq hat.top, State.setFrames_setFrames, State.setTop_of_frames _ hr', hr]
      rfl
    rw [← hs₂]
    exact hsteps
  | inr k =>
    obtain ⟨n, n1, n2, rfl⟩ := q1
    refine Or.inr ⟨k, n, rfl, n1, n2, ?_⟩
    have hf₂ : s₂.frames = .throwing (K.2.1 + n) :: .java g :: U.frames.tail := hend
    have hs₂ : s₂ = ((({ U with heap := s₂.heap, slotsUsed := s₂.slotsUsed } : State).setVm s₂.vm).setTop g).pushFrame (.throwing (K.2.1 + n)) := by
      refine e3.trans ?_
      rw [hf₂, State.calling_eq hat.top, State.setFrames_setFrames, State.pushFrame, State.frames_setTop _ hr', State.setTop_of_frames _ hr', State.setFrames_setFrames, hr]
      rfl
    rw [← hs₂]
    exact hsteps
end JMETH
end
section
/-! CALLS -/
/-- what the tables say of a method that is called on an object of the class number ci -/
def jMV (M' : jR) (ci n : Nat) : Prop := Cond.instanceMethod M'.1 ∈ jt ∧ Cond.selects M'.1.cls M'.1 M'.1 ∈ jt ∧ j_code M' ∈ jt ∧ Cond.initialized M'.1.cls ∈ jt ∧ (M'.1.cls ≠ "java/lang/invoke/MethodHandle" ∧ M'.1.cls ≠ "java/lang/invoke/VarHandle") ∧ (parseMethodDescriptor M'.1.desc).map (fun d => d.parameters.length) = some n ∧ ∃ (T : u_T) (N : Nat), classes[ci]? = some (M'.1.cls, T, N)
def jMS (M' : jR) (n : Nat) : Prop := Cond.static M'.1 ∈ jt ∧ j_code M' ∈ jt ∧ Cond.initialized M'.1.cls ∈ jt ∧ (M'.1.cls ≠ "java/lang/invoke/MethodHandle" ∧ M'.1.cls ≠ "java/lang/invoke/VarHandle") ∧ (parseMethodDescriptor M'.1.desc).map (fun d => d.parameters.length) = some n
def jMI (M' : jR) (n : Nat) : Prop := Cond.instanceMethod M'.1 ∈ jt ∧ Cond.code M'.1 M'.2.1 M'.2.2.1 none ∈ jt ∧ M'.2.2.2.1 = none ∧ M'.2.2.2.2 = [] ∧ M'.1.name = "<init>" ∧ Cond.initialized M'.1.cls ∈ jt ∧ (M'.1.cls ≠ "java/lang/invoke/MethodHandle" ∧ M'.1.cls ≠ "java/lang/invoke/VarHandle") ∧ (parseMethodDescriptor M'.1.desc).map (fun d => d.parameters.length) = some n
/-- a call from the frame at pc, whose stack is st when the arguments are popped -/
def jCall (K : jK) (M : jR) (d pc : Nat) (ls : List (Nat × Value)) (st0 st : List Value) (h : jH) (Q' : jO → jH → Prop) (mc ms : Nat) : Prop :=
  ∀ (p : Program) (e : Env) (R : Room) (s : State) (m : MethodId) (args : Array Value) (below : List Frame) (meth : Method) (c : Code) (H : Heap) (locs : List Loc) (cells slots : Nat) (la : Array Slot),
    jC K M d p R s m args meth c → cells + mc + 1 ≤ R.cells → slots + ms + 6 ≤ R.slots → lv_has la M.2.2.1 (ls.map (j_l K)) → jW K h H → (∀ q ∈ locs, K.2.1 ≤ q.base) →
    ∀ T : State, T.heap = H → Stand p K.1 e R s m args below meth c T locs cells slots →
    ∃ (mo : jO) (h' : jH) (L : List Loc) (B : State), Stand p K.1 e R s m args below meth c B L (cells + (mc + j_xc mo)) (slots + (ms + 6 * j_xc mo)) ∧ Q' mo h' ∧ jW K h' B.heap ∧ (∀ q ∈ L, K.2.1 ≤ q.base) ∧
      ((∃ v, mo = .inl v ∧ ∀ tg, Steps p.tables e below (B.setTop (F0 m (pc + 3) la ((v.toList ++ st).map (j_v K)))) tg → Steps p.tables e below (T.setTop (F0 m pc la (st0.map (j_v K)))) tg) ∨
       (∃ k n, mo = .inr k ∧ h'.length = n + 1 ∧ h'[n]? = some (.inr (k, [])) ∧ ∀ tg, Steps p.tables e below ((B.setTop (F0 m pc la (st.map (j_v K)))).pushFrame (.throwing (K.2.1 + n))) tg → Steps p.tables e below (T.setTop (F0 m pc la (st0.map (j_v K)))) tg))
section JCALL
variable {K : jK} {M : jR} {d pc : Nat} {ls : List (Nat × Value)} {st st0 av : List Value} {h : jH} {Q Q' : jO → jH → Prop} {mc ms mc' ms' : Nat} {M' : jR} {d' : Nat}
theorem j_roomS {m : MethodId} {la : Array Slot} {pc : Nat} {K : jK} {st : List Value} (hst : (st.map fun v => v.category).sum ≤ 8) : 2 * (F0 m pc la (st.map (j_v K))).monitorRoom + ((F0 m pc la (st.map (j_v K))).stack.map fun v => v.category).sum ≤ 8 := by
  have e : ((st.map (j_v K)).map fun v => v.category) = st.map fun v => v.category := by
    rw [List.map_map]
    congr 1
    funext v
    exact j_cat K v
  show 2 * (F0 m pc la (st.map (j_v K))).monitorRoom + ((st.map (j_v K)).map fun v => v.category).sum ≤ 8
  have hmr : (F0 m pc la (st.map (j_v K))).monitorRoom = 0 := by first | rfl | simp [JFrame.monitorRoom, F0]
  rw [hmr, e]
  omega
theorem j_inv (hM : jM K M' d' av h Q' mc ms) (hd : d' + 1 ≤ d) (hL : M'.2.2.1 ≤ 45) (hst : (st.map fun v => v.category).sum ≤ 8) (hcode : j_code M' ∈ jt) (hini : Cond.initialized M'.1.cls ∈ jt)
    {p : Program} {e : Env} {R : Room} {s : State} {m : MethodId} {args : Array Value} {below : List Frame} {meth : Method} {c : Code} {H : Heap} {locs : List Loc} {cells slots : Nat} {la : Array Slot}
    (hC : jC K M d p R s m args meth c) (hc : cells + mc + 1 ≤ R.cells) (hs : slots + ms + 6 ≤ R.slots) (hl : lv_has la M.2.2.1 (ls.map (j_l K))) (hw : jW K h H) (hLo : ∀ q ∈ locs, K.2.1 ≤ q.base)
    {T : State} (hT : T.heap = H) {vm₁ : Vm} (X₁ : Stand p K.1 e R s m args below meth c (T.setVm vm₁) locs cells slots) {ig : Instr} (hdg : decode c.code pc = .ok (ig, 3)) {mk : MethodId} (hn : s.methodNamed? M'.1 = some mk)
    (hstep : ∀ target, (∀ acts, Steps p.tables e below (doInvoke e ((T.setVm vm₁).setTop (F0 m pc la (st.map (j_v K)))) acts mk (av.map (j_v K)).toArray).1 target) → Steps p.tables e below (T.setTop (F0 m pc la (st0.map (j_v K)))) target) :
    ∃ (mo : jO) (h' : jH) (L : List Loc) (B : State), Stand p K.1 e R s m args below meth c B L (cells + (mc + j_xc mo)) (slots + (ms + 6 * j_xc mo)) ∧ Q' mo h' ∧ jW K h' B.heap ∧ (∀ q ∈ L, K.2.1 ≤ q.base) ∧
      ((∃ v, mo = .inl v ∧ ∀ tg, Steps p.tables e below (B.setTop (F0 m (pc + 3) la ((v.toList ++ st).map (j_v K)))) tg → Steps p.tables e below (T.setTop (F0 m pc la (st0.map (j_v K)))) tg) ∨
       (∃ k n, mo = .inr k ∧ h'.length = n + 1 ∧ h'[n]? = some (.inr (k, [])) ∧ ∀ tg, Steps p.tables e below ((B.setTop (F0 m pc la (st.map (j_v K)))).pushFrame (.throwing (K.2.1 + n))) tg → Steps p.tables e below (T.setTop (F0 m pc la (st0.map (j_v K)))) tg)) := by
  have hts := hC.2.2.2.2.1
  have hU : jU K s := ⟨fun w hw' => j_okT (j_jt hw') rfl (hts w hw'), hC.2.2.2.2.2.2.2.2.2.2.2.1, hC.2.2.2.2.2.2.2.2.2.2.2.2⟩
  have hfr := hC.2.2.2.2.2.2.2.2.2.1
  have hlo := hC.2.2.2.2.2.2.2.2.2.2.1
  have hsize : la.size = c.maxLocals := hl.1.trans hC.2.2.1.symm
  obtain ⟨mo, h', L, B, XB, hq, hwB, hLB, hend⟩ := j_pay X₁ hM (by omega) (by omega) hc hs (g := F0 m pc la (st.map (j_v K))) rfl hsize hdg (j_roomS hst) (X₁.named hn) (j_okW (j_jt hcode) X₁.warmed (hts _ hcode)) (j_okW (j_jt hini) X₁.warmed (hts _ hini)) (by show jW K h T.heap; rw [hT]; exact hw) (hU.warm X₁.warmed)
  refine ⟨mo, h', locs ++ L, B, XB, hq, hwB, ?_, ?_⟩
  · intro q hq
    rcases List.mem_append.mp hq with h2 | h2
    · exact hLo q h2
    · exact hLB q h2
  · rcases hend with ⟨v, rfl, hsteps⟩ | ⟨k, n, rfl, n1, n2, hsteps⟩
    · refine Or.inl ⟨v, rfl, fun tg htg => hstep tg fun acts => ?_⟩
      rw [doInvoke_state]
      refine hsteps.trans ?_
      have e9 : (v.toList ++ st).map (j_v K) = (v.map (j_v K)).toList ++ st.map (j_v K) := by cases v <;> rfl
      rw [e9] at htg
      exact htg
    · refine Or.inr ⟨k, n, rfl, n1, n2, fun tg htg => hstep tg fun acts => ?_⟩
      rw [doInvoke_state]
      exact hsteps.trans htg
theorem j_len {M' : jR} {n : Nat} (h : (parseMethodDescriptor M'.1.desc).map (fun d => d.parameters.length) = some n) {sig : MethodDescriptor} (hs : parseMethodDescriptor M'.1.desc = some sig) : n = sig.parameters.length := by
  rw [hs] at h
  exact (Option.some.inj h).symm
theorem j_callV {idx ci i n : Nat} {as : List Value} {fs : List Value} (hd : decode M.2.1 pc = .ok (.invokevirtual idx, 3)) (hf : jMV M' ci n) (hlink : Cond.methodLink M.1.cls idx M'.1 ∈ jt) (hn : as.length = n) (hx : j_get h i = some (.inr (ci, fs)))
    (hM : jM K M' d' (.ref i :: as) h Q' mc ms) (hdd : d' + 1 ≤ d) (hL : M'.2.2.1 ≤ 45) (hst : (st.map fun v => v.category).sum ≤ 8) (h0 : st0 = as.reverse ++ .ref i :: st) : jCall K M d pc ls st0 st h Q' mc ms := by
  subst h0
  intro p e R s m args below meth c H locs cells slots la hC hc hs hl hw hLo T hT X
  obtain ⟨hinst, hsel, hcode, hini, hy, hpar, T', N, hcl⟩ := hf
  have hts := hC.2.2.2.2.1
  obtain ⟨mk, methM, hnamed, hmethM, hstM, habM⟩ := Cond.instanceMethod_spec (hts _ hinst)
  obtain ⟨methM', cM, hmethM', -, -, -, -, -, -, hsigM⟩ := j_code_spec hnamed (hts _ hcode)
  cases hmethM.symm.trans hmethM'
  obtain ⟨c2, r2, m2, q1, q2, q3, q4, kP, hkP, hkPi⟩ := Cond.selects_spec (hts _ hsel)
  obtain ⟨r, g1, cellB, g2, g3, g4, -⟩ := hw.at hx
  have hcls : s.vm.findClass M'.1.cls = some cellB.cls := by rw [g3]; exact ((hC.2.2.2.2.2.2.2.2.2.2.2.1).1 ci _ hcl).2.1
  cases hcls.symm.trans q1
  cases (State.methodFound?_of_named hnamed hy).symm.trans q2
  cases hnamed.symm.trans q3
  have hselP : selectMethod e.platform s.vm cellB.cls mk = .method mk := by rw [Launch.admits_selectMethod X.admits]; exact q4
  have hdg : decode c.code pc = .ok (.invokevirtual idx, 3) := by rw [hC.2.1]; exact hd
  obtain ⟨vm₁, X₁, hstep₁⟩ := X.invokevirtual hC.1 hC.2.2.2.1 (hts _ hlink) hnamed hmethM hstM hkP hkPi hy (a := j_adr K i) (cell := cellB) (by rw [hT]; exact g2)
    (fun z hz => by rw [g4] at hz; cases hz) hselP hmethM habM hkP hkPi (g := F0 m pc la ((as.reverse ++ .ref i :: st).map (j_v K))) rfl (argsL := as.map (j_v K)) (rest := st.map (j_v K)) (by rw [List.length_map, hn]; exact j_len hpar hsigM)
    (by show (as.reverse ++ .ref i :: st).map (j_v K) = _; rw [List.map_append, List.map_reverse]; rfl) hdg
  exact j_inv hM hdd hL hst hcode hini hC hc hs hl hw hLo hT X₁ hdg hnamed hstep₁
theorem j_callS {idx n : Nat} {as : List Value} (hd : decode M.2.1 pc = .ok (.invokestatic idx, 3)) (hf : jMS M' n) (hlink : Cond.methodLink M.1.cls idx M'.1 ∈ jt) (hn : as.length = n)
    (hM : jM K M' d' as h Q' mc ms) (hdd : d' + 1 ≤ d) (hL : M'.2.2.1 ≤ 45) (hst : (st.map fun v => v.category).sum ≤ 8) (h0 : st0 = as.reverse ++ st) : jCall K M d pc ls st0 st h Q' mc ms := by
  subst h0
  intro p e R s m args below meth c H locs cells slots la hC hc hs hl hw hLo T hT X
  obtain ⟨hstat, hcode, hini, hy, hpar⟩ := hf
  have hts := hC.2.2.2.2.1
  have hcod := hts _ hcode
  obtain ⟨mk, hnamed⟩ : ∃ mk, s.methodNamed? M'.1 = some mk := by
    cases hmk : s.methodNamed? M'.1 with
    | some mk => exact ⟨mk, rfl⟩
    | none =>
      have h9 := hts _ hstat
      simp [Cond.before, Cond.holds, Cond.value, hmk] at h9
  obtain ⟨methM, cM, hmethM, -, -, -, -, -, -, hsigM⟩ := j_code_spec hnamed hcod
  have hstatic : methM.isStatic = true := Cond.static_spec hnamed hmethM (hts _ hstat)
  obtain ⟨kP, hkP, -⟩ := className_of_methodNamed hnamed
  have hinitP : kP.init = .initialized := Cond.initialized_spec (findClass_of_methodNamed hnamed) hkP (hts _ hini)
  have hdg : decode c.code pc = .ok (.invokestatic idx, 3) := by rw [hC.2.1]; exact hd
  obtain ⟨vm₁, X₁, hstep₁⟩ := X.invokestatic hC.1 hC.2.2.2.1 (hts _ hlink) hnamed hmethM hstatic hkP hinitP hy (g := F0 m pc la ((as.reverse ++ st).map (j_v K))) rfl (argsL := as.map (j_v K)) (rest := st.map (j_v K)) (by rw [List.length_map, hn]; exact j_len hpar hsigM)
    (by show (as.reverse ++ st).map (j_v K) = _; rw [List.map_append, List.map_reverse]) hdg
  exact j_inv hM hdd hL hst hcode hini hC hc hs hl hw hLo hT X₁ hdg hnamed hstep₁
theorem j_callI {idx i n : Nat} {as : List Value} (hd : decode M.2.1 pc = .ok (.invokespecial idx, 3)) (hf : jMI M' n) (hlink : Cond.methodLink M.1.cls idx M'.1 ∈ jt) (hn : as.length = n)
    (hM : jM K M' d' (.ref i :: as) h Q' mc ms) (hdd : d' + 1 ≤ d) (hL : M'.2.2.1 ≤ 45) (hst : (st.map fun v => v.category).sum ≤ 8) (h0 : st0 = as.reverse ++ .ref i :: st) : jCall K M d pc ls st0 st h Q' mc ms := by
  subst h0
  intro p e R s m args below meth c H locs cells slots la hC hc hs hl hw hLo T hT X
  obtain ⟨hinst, hcode, hret, hhan, hy1, hini, hy, hpar⟩ := hf
  have hts := hC.2.2.2.2.1
  have hcode' : j_code M' ∈ jt := by
    have : j_code M' = Cond.code M'.1 M'.2.1 M'.2.2.1 none := by
      unfold j_code
      rw [hhan, hret]
    rw [this]
    exact hcode
  have hdg : decode c.code pc = .ok (.invokespecial idx, 3) := by rw [hC.2.1]; exact hd
  have hpl : e.platform.magicAccessors = ({} : Platform).magicAccessors := by rw [X.admits.platform]
  obtain ⟨mk, methM, cM, kP, vm₁, hnamed, hmethM, hcodeM, -, hlocalsM, -, hkP, -, hW₁, hstep₁⟩ := Steps.initColdArgs (e := e) X.here hC.1 X.warmed hpl hC.2.2.2.1 hy1 hy (hts _ hlink) (hts _ hinst) (hts _ hcode) (f := F0 m pc la ((as.reverse ++ .ref i :: st).map (j_v K))) rfl (a := j_adr K i) (argsL := as.map (j_v K)) (rest := st.map (j_v K))
    (fun sig hsig => by rw [List.length_map, hn]; exact j_len hpar hsig) (by show (as.reverse ++ .ref i :: st).map (j_v K) = _; rw [List.map_append, List.map_reverse]; rfl) hdg
  exact j_inv hM hdd hL hst hcode' hini hC hc hs hl hw hLo hT (X.noted hW₁) hdg hnamed hstep₁
/-- behind a call: it came back, or it threw and nothing catches -/
theorem j_ret (hcall : jCall K M d pc ls st0 st h Q' mc' ms') (hh : M.2.2.2.2 = []) (kr : ∀ (v : Option Value) (h' : jH), Q' (.inl v) h' → jE K M d (pc + 3) ls (v.toList ++ st) h' Q mc ms) (kt : ∀ (k : Nat) (h' : jH), Q' (.inr k) h' → Q (.inr k) h') : jE K M d pc ls st0 h Q (mc' + mc) (ms' + ms) := by
  intro p e R s m args below meth c H locs cells slots la hC hc hs hl hw hLo T hT X
  obtain ⟨mo, h', L, B, XB, hq, hwB, hLB, hend⟩ := hcall p e R s m args below meth c H locs cells slots la hC (by omega) (by omega) hl hw hLo T hT X
  rcases hend with ⟨v, rfl, hst⟩ | ⟨k, n, rfl, n1, n2, hst⟩
  · obtain ⟨t, a1, a2⟩ := kr v h' hq p e R s m args below meth c B.heap L _ _ la hC (by simp only [j_xc]; omega) (by simp only [j_xc]; omega) hl hwB hLB B rfl XB
    refine ⟨t, hst t a1, ?_⟩
    obtain ⟨o, mo, h2, L2, b1, b2, b3, b4, b5, b6, b7, b8⟩ := a2
    exact ⟨o, mo, h2, L2, b1, b2, b3, b4, b5, b6, b7.mono (by simp only [j_xc]; omega) (by simp only [j_xc]; omega), b8⟩
  · have hlocks := hC.2.2.2.2.2.2.1
    obtain ⟨w1, w2, w3, w4, w5⟩ := XB.leaveThrown (K.2.1 + n) (g := F0 m pc la (st.map (j_v K))) rfl rfl rfl (by rw [hC.2.2.2.2.2.2.2.2.1, hh]; intro x hx; cases hx) hlocks
    refine ⟨_, hst _ w1, .threw (K.2.1 + n), .inr k, h', L, w2, w3, ⟨n, n1, n2, rfl⟩, kt k h' hq, hwB, w4, w5.mono (by simp only [j_xc]; omega) (by simp only [j_xc]; omega), hLB⟩
/-- behind a call of a method that makes nothing -/
theorem j_ret0 (hcall : jCall K M d pc ls st0 st h Q' 0 0) (hh : M.2.2.2.2 = []) (kr : ∀ (v : Option Value) (h' : jH), Q' (.inl v) h' → jE K M d (pc + 3) ls (v.toList ++ st) h' Q mc ms) (kt : ∀ (k : Nat) (h' : jH), Q' (.inr k) h' → Q (.inr k) h') : jE K M d pc ls st0 h Q mc ms := by
  have := j_ret hcall hh kr kt
  rw [Nat.zero_add, Nat.zero_add] at this
  exact this
end JCALL
end
section
/-! THROWS: 'throw new X()' as one row; what is caught where -/
section JTHROW
variable {p : Program} {l : Launch} {e : Env} {R : Room} {s : State} {m : MethodId} {args : Array Value} {below : List Frame} {meth : Method} {c : Code} {T : State} {locs : List Loc} {cells slots : Nat}
theorem j_sbn {T U : State} {L : List Loc} {k n : Nat} {fs : List Frame} (h : (T.setFrames fs).sameButNew U L k n) : T.sameButNew U L k n := by
  obtain ⟨h1, h2, h3, h4, h5, h6⟩ := h
  refine ⟨?_, h2, h3, h4, h5, h6⟩
  rw [State.setFrames_setFrames] at h1
  exact h1
/-- the walk from here on, as if the invocation began here -/
theorem j_rebase (X : Stand p l e R s m args below meth c T locs cells slots) (hc : cells ≤ R.cells) (hs : slots ≤ R.slots) :
    Stand p l e { frames := R.frames, cells := R.cells - cells, slots := R.slots - slots, locals := R.locals } (T.setFrames (.invoking m args :: below)) m args below meth c T [] 0 0 := by
  obtain ⟨g₀, hfr⟩ := X.frames_eq
  have hcur : T.cur < T.threads.size := State.cur_lt_of_frames hfr
  have hF : (T.setFrames (.invoking m args :: below)).frames = .invoking m args :: below := State.frames_setFrames _ hcur
  obtain ⟨x, hx, -⟩ := State.frames_cons hfr
  refine ⟨X.admits, X.cas, X.clock, hF, ?_, ?_, X.method', X.code, X.here, X.tail, State.WarmedH.refl _, by rw [State.stackLimits_setFrames], by rw [State.stackBytes_setFrames], ?_⟩
  · have hroom := X.room
    simp only [State.hasRoom, Bool.and_eq_true, decide_eq_true_eq] at hroom ⊢
    obtain ⟨⟨⟨⟨r1, r2, r3, r4, r5, r6⟩, r7⟩, r8⟩, r9⟩ := hroom
    have hloc : (T.setFrames (.invoking m args :: below)).localsInUse = s.localsInUse := by
      rw [State.localsInUse_invoking hF (meth := meth) (c := c) X.method' X.code, State.localsInUse_invoking X.frames X.method X.code]
    rw [hloc, hF, State.stackLimits_setFrames, X.limits, State.stackBytes_setFrames, X.bytes]
    rw [X.frames] at r2 r3
    have hu := X.used
    have hz := X.heapSize
    refine ⟨⟨⟨⟨r1, r2, r3, r4, r5, r6⟩, ?_⟩, ?_⟩, ?_⟩
    · show T.heap.size + (R.cells - cells) ≤ _
      omega
    · show T.slotsUsed + (R.slots - slots) ≤ _
      omega
    · exact X.book
  · have hh := X.hears
    have ha := X.warmed.alike
    rcases below with _ | ⟨y, r⟩
    · simpa [State.hears, ha.method?, State.setFrames] using hh
    · cases y <;> first | exact hh | (simp only [State.hears, State.code?_eq] at hh ⊢; simpa [State.setFrames, ha.method?] using hh)
  · have h1 : (T.setFrames (.invoking m args :: below)).frames = .invoking m args :: below := hF
    obtain ⟨y, hy, -⟩ := State.frames_cons hF
    have h2 := (State.sameButNew.refl (T.setFrames (.invoking m args :: below)) hy).setFrames T.frames (State.cur_lt_of_frames hF)
    rw [State.setFrames_setFrames, State.setFrames_self hx] at h2
    exact h2
end JTHROW
theorem jLS.words {K : jK} {C n d : String} {U : State} (h : jLS K C n d U) (hK : K.2.1 = K.2.2.1.size) (hH : ∀ q : Nat, q < K.2.1 → U.heap[q]? = K.2.2.1[q]?) (A : Array Value) :
    (Cond.laysStatic C n d).before A U = true ∧ (Cond.isRef (.static C n d)).before A U = true := by
  obtain ⟨c, k, i, f, a, cell, h1, h2, h3, h4, h5, h6, h7, h8, h9, h10⟩ := h
  have ha : U.heap[a]? = some cell := by
    rw [hH a (by rw [hK]; exact (Array.getElem?_eq_some_iff.mp h5).1)]
    exact h5
  have hv : ∃ v, cell.slots[f.slot]? = some v ∧ (v = .null ∨ ∃ t, v = .ref t) := by
    rcases h10 with h | ⟨t, h⟩
    · exact ⟨_, h, Or.inl rfl⟩
    · exact ⟨_, h, Or.inr ⟨t, rfl⟩⟩
  obtain ⟨v, hv1, hv2⟩ := hv
  constructor
  · simp [Cond.before, Cond.holds, Cond.value, h1, h2, h3, h4, ha, h6, h7, h8, h9]
  · have he : (Term.static C n d).eval A U none [] U = some v := by
      simp [Term.eval, State.fieldNamed?, h2, h3, h4, ha, h6, hv1]
    rcases hv2 with rfl | ⟨t, rfl⟩ <;> simp [Cond.before, Cond.holds, Cond.value, he]
def j_four : List Cond := [.laysStatic "java/lang/Throwable" "UNASSIGNED_STACK" "[Ljava/lang/StackTraceElement;", .laysStatic "java/lang/Throwable" "SUPPRESSED_SENTINEL" "Ljava/util/List;", .isRef (.static "java/lang/Throwable" "UNASSIGNED_STACK" "[Ljava/lang/StackTraceElement;"), .isRef (.static "java/lang/Throwable" "SUPPRESSED_SENTINEL" "Ljava/util/List;")]
def j_sup : List String := ["java/lang/RuntimeException", "java/lang/Exception"]
/-- what the tables say of 'throw new X()' in the class own: ia the entry of X, ic that of its constructor, k its number -/
def jXT (own : String) (ia ic k : Nat) (X : String) : Prop := (∃ T : u_T, classes[k]? = some (X, T, 0)) ∧ Bundle.fit X = true ∧ Cond.classLink own ia X ∈ jt ∧ Cond.instantiable X 6 ∈ jt ∧ Cond.initialized X ∈ jt ∧ ∀ w ∈ Bundle.ownAtoms0 own ic X j_sup, w ∈ jt ∨ w ∈ j_four
section JTHROW2
variable {K : jK} {M : jR} {d pc : Nat} {ls : List (Nat × Value)} {st : List Value} {h : jH} {Q : jO → jH → Prop} {mc ms : Nat}
theorem j_throw {ia ic k : Nat} {X : String} (hd0 : decode M.2.1 pc = .ok (.new ia, 3)) (hd3 : decode M.2.1 (pc + 3) = .ok (.dup, 1)) (hd4 : decode M.2.1 (pc + 3 + 1) = .ok (.invokespecial ic, 3)) (hd7 : decode M.2.1 (pc + 3 + 1 + 3) = .ok (.athrow, 1)) (hf : jXT M.1.cls ia ic k X) (hh : M.2.2.2.2 = []) (hdd : 6 ≤ d) (hst : (st.map fun v => v.category).sum ≤ 8)
    (hq : Q (.inr k) (h ++ [.inr (k, [])])) : jE K M d pc ls st h Q mc ms := by
  intro p e R s m args below meth c H locs cells slots la hC hc hs hl hw hLo T hT X0
  subst hT
  obtain ⟨⟨TX, hcl⟩, hfit, hclk, hins, hini, hat⟩ := hf
  have hts := hC.2.2.2.2.1
  have hU : jU K s := ⟨fun w hw' => j_okT (j_jt hw') rfl (hts w hw'), hC.2.2.2.2.2.2.2.2.2.2.2.1, hC.2.2.2.2.2.2.2.2.2.2.2.2⟩
  have X' := j_rebase X0 (by omega) (by omega)
  obtain ⟨s', hs'⟩ : ∃ s', s' = T.setFrames (.invoking m args :: below) := ⟨_, rfl⟩
  have hvm' : s'.vm = T.vm := by rw [hs']; rfl
  have hhp' : s'.heap = T.heap := by rw [hs']; rfl
  rw [← hs'] at X'
  have hW' : s.WarmedH s'.vm := by rw [hvm']; exact X0.warmed
  have hU' : jU K s' := hU.warm hW'
  have hts' : ∀ w ∈ jt, w.before args s' = true := fun w hw' => j_okW (j_jt hw') hW' (hts w hw')
  have hown' : s'.vm.findClass M.1.cls = some m.cls := by rw [hW'.alike.findClass]; exact hC.2.2.2.1
  have htr : e.platform.stackTraces = false := Launch.traces_off hU.2.2.1 X0.admits
  have hKn := hU'.2.1.1 k _ hcl
  have hatoms : ∀ a ∈ Bundle.ownAtoms0 M.1.cls ic X j_sup, a.before args s' = true := by
    intro w hw'
    rcases hat w hw' with h1 | h1
    · exact hts' w h1
    · have hHq : ∀ q : Nat, q < K.2.1 → s'.heap[q]? = K.2.2.1[q]? := by rw [hhp']; exact hw.2.2
      have z1 := (hU'.2.2.2.2.2.1).words hU'.2.2.2.1 hHq args
      have z2 := (hU'.2.2.2.2.2.2.1).words hU'.2.2.2.1 hHq args
      simp only [j_four, List.mem_cons, List.not_mem_nil, or_false] at h1
      rcases h1 with rfl | rfl | rfl | rfl
      · exact z1.1
      · exact z2.1
      · exact z1.2
      · exact z2.2
  have hlocks := hC.2.2.2.2.2.2.1
  have hfr := hC.2.2.2.2.2.2.2.2.2.1
  have hlo := hC.2.2.2.2.2.2.2.2.2.2.1
  have hsize : la.size = c.maxLocals := hl.1.trans hC.2.2.1.symm
  have hmr : (F0 m pc la (st.map (j_v K))).monitorRoom = 0 := by first | rfl | simp [JFrame.monitorRoom, F0]
  have hsum : ((st.map (j_v K)).map fun v => v.category).sum ≤ 8 := by
    have := j_roomS (m := m) (la := la) (pc := pc) (K := K) hst
    rw [hmr] at this
    simpa using this
  have hWW : W p K.1 e { frames := R.frames, cells := R.cells - cells, slots := R.slots - slots, locals := R.locals } s' m args below meth c T.heap [] 0 0
      (fun U => U.status = .running ∧ Ended U below (.threw T.heap.size) ∧ s'.WarmedH U.vm ∧ s'.sameButNew ({ U with vm := s'.vm } : State) [] 1 6 ∧ ∃ ce : Cell, U.heap[T.heap.size]? = some ce ∧ s'.vm.findClass X = some ce.cls ∧ ce.vm = .none) (F0 m pc la (st.map (j_v K))) := by
    refine W.newcK hC.1 hC.2.1 hown' (hts' _ hclk) (hts' _ hins) (hts' _ hini) rfl hd0 (by show 0 + 1 ≤ R.cells - cells; omega) (by show 0 + 6 ≤ R.slots - slots; omega) hKn.2.1 rfl fun H1 kC hkC e1 z1 o1 => ?_
    refine lv_dup hC.1 hC.2.1 hd3 rfl ?_
    intro T2 hT2 X2
    obtain ⟨U, u1, u2, u3, u4, u5, ce, u6, u7⟩ := X2.ctorThrow0 hC.1 htr hown' hfit (by decide) hatoms (fun x hx => by cases hx) hKn.2.1 hkC (a := T.heap.size) (by rw [hT2]; exact e1) (by rw [hhp']; exact Nat.le_refl _) (g := F0 m (pc + 3 + 1) la (.ref T.heap.size :: .ref T.heap.size :: st.map (j_v K))) rfl hsize rfl rfl (rest := st.map (j_v K)) rfl
      (by rw [hC.2.1]; exact hd4) (by rw [hC.2.1]; exact hd7) (by rw [hC.2.2.2.2.2.2.2.2.1, hh]; intro x hx; cases hx) (by show 2 + 3 < R.frames; omega) (by
        have : (F0 m (pc + 3 + 1) la (.ref T.heap.size :: .ref T.heap.size :: st.map (j_v K))).monitorRoom = 0 := by first | rfl | simp [JFrame.monitorRoom, F0]
        rw [this]
        simp only [List.map_cons, List.sum_cons, Value.category]
        show 2 * 0 + (1 + ((st.map (j_v K)).map fun v => v.category).sum) + (13 * (2 + 1) + 41) ≤ R.locals
        omega) hlocks
    exact ⟨U, u1, u2, u3, u4, u5, ce, u6, u7.cls, u7.vm⟩
  obtain ⟨U, u1, u2, u3, u4, u5, ce, u6, u7, u8⟩ := hWW T rfl X'
  have hz := u5.2.1
  have hz2 := u5.2.2.1
  have hlt : T.heap.size < U.heap.size := (Array.getElem?_eq_some_iff.mp u6).1
  have hsz : U.heap.size = T.heap.size + 1 := by
    have h3 : U.heap.size ≤ s'.heap.size + 1 := hz2
    rw [hhp'] at h3
    omega
  have hold : ∀ q : Nat, q < T.heap.size → U.heap[q]? = T.heap[q]? := by
    intro q hq
    have hc0 : s'.heap[q]? = some T.heap[q] := by rw [hhp']; exact Array.getElem?_eq_getElem hq
    have h4 := u5.old_cell hc0
    rw [show T.heap[q]? = some T.heap[q] from Array.getElem?_eq_getElem hq]
    exact h4
  have hwU : jW K (h ++ [.inr (k, [])]) U.heap := by
    refine hw.push ?_ hsz hold
    rw [← hw.2.1]
    refine ⟨_, hcl, ce, u6, ?_, u8, fun j hj => absurd hj (Nat.not_lt_zero j)⟩
    exact Option.some.inj (u7.symm.trans hKn.2.1)
  have hTW : T.WarmedH U.vm := by rw [hs'] at u4; exact u4
  have hsame : T.sameButNew ({ U with vm := T.vm } : State) [] 1 6 := by
    rw [hs'] at u5
    exact j_sbn u5
  have hfin := X0.same.trans (hsame.setVm s.vm)
  rw [List.append_nil] at hfin
  exact ⟨U, u1, .threw T.heap.size, .inr k, _, locs, u2, u3, ⟨h.length, by simp, by simp, by rw [hw.2.1]⟩, hq, hwU, State.WarmedH.trans X0.warmed hTW, hfin.mono (by simp only [j_xc]; omega) (by simp only [j_xc]; omega), hLo⟩
end JTHROW2
end
section
/-! CATCHES: the search through a method's own handlers, their classes' entries resolved or not -/
/-- at pc an object of the class tn is caught at hp: each handler of the list covers pc; those ahead name a class that tn isn't -/
def jFd (own tn : String) (pc : Nat) : List (Nat × Nat × Nat × Nat) → Nat → Prop
  | [], _ => False
  | q :: r, hp => (decide (q.1 ≤ pc) && decide (pc < q.2.1)) = true ∧ q.2.2.2 ≠ 0 ∧ ∃ name : String, Cond.classLink own q.2.2.2 name ∈ jt ∧ ((tn = name ∧ q.2.2.1 = hp) ∨ ((tn, name) ∈ jnc ∧ jFd own tn pc r hp))
theorem j_goLink {e : Env} {S : State} {f : JFrame} {a : Addr} {x : ExceptionTableEntry} {t : List ExceptionTableEntry} {c : ClassId} {cell : Cell} {Q : Handler → Pre} {E : CtlPost} {d : Bool} {acts : List Action} (hx : covers x f.pc = true) (h0 : x.catchType ≠ 0)
    (hl : S.vm.ClassLinks e.platform f.method.cls x.catchType c) (hcell : S.heap[a]? = some cell) (hobj : ∀ k, cell.vm ≠ .statics k) (hk : ∃ k, S.vm.classes[cell.cls]? = some k) (hc : ∃ k, S.vm.classes[c]? = some k) :
    wp (findHandler.go f a (x :: t)) Q E e d acts S ↔ (if S.vm.assignable cell.cls c = true then Q (.found x.handlerPc) d acts (S.setVm (S.vm.noted f.method.cls x.catchType (.cls c))) else wp (findHandler.go f a t) Q E e d acts (S.setVm (S.vm.noted f.method.cls x.catchType (.cls c)))) := by
  simp only [covers] at hx
  obtain ⟨g1, g2⟩ := (resolveClass_links e.toSetting hl).op (op := VmOp.resolveClass f.method.cls x.catchType) rfl
  have hal : S.vm.Alike (S.vm.noted f.method.cls x.catchType (.cls c)) := (Vm.Alike.refl S.vm).noted _ _ _
  obtain ⟨k1, hk1⟩ := hk
  obtain ⟨k2, hk2⟩ := hc
  obtain ⟨k1', hk1', -⟩ := hal.2.2 _ _ hk1
  obtain ⟨k2', hk2', -⟩ := hal.2.2 _ _ hk2
  have has : (S.vm.noted f.method.cls x.catchType (.cls c)).assignable cell.cls c = S.vm.assignable cell.cls c := hal.assignable _ _
  cases hfit : S.vm.assignable cell.cls c <;> rw [hfit] at has <;> simp [findHandler.go, hx, h0, g1, g2, hcell, hobj, hk1', hk2', has, VmOp.dirties, VmOp.acts]
theorem j_search {e : Env} {s : State} {args : Array Value} {f : JFrame} {a : Addr} {cell : Cell} {own tn : String} (hpl : e.platform.magicAccessors = ({} : Platform).magicAccessors) (hown : s.vm.findClass own = some f.method.cls) (hts : ∀ w ∈ jt, w.before args s = true) (hnc : ∀ q ∈ jnc, va_Nc q.1 q.2 s)
    (hcls : s.vm.findClass tn = some cell.cls) (hobj : ∀ k, cell.vm ≠ .statics k) : ∀ (t : List (Nat × Nat × Nat × Nat)) (S : State) (hp : Nat), jFd own tn f.pc t hp → s.WarmedH S.vm → S.heap[a]? = some cell →
      ∃ vm', s.WarmedH vm' ∧ ∀ (Q : Handler → Pre) (E : CtlPost) (d : Bool) (acts : List Action), wp (findHandler.go f a (tableOf t)) Q E e d acts S ↔ Q (.found hp) d acts (S.setVm vm')
  | [], _, _, h, _, _ => h.elim
  | q :: r, S, hp, h, hW, hcell => by
    obtain ⟨hcov, h0, name, hlk, hor⟩ := h
    obtain ⟨c, hc, hl⟩ := Cond.classLink_spec hown (hts _ hlk) e.platform hpl
    obtain ⟨dk, _, _, kt, hd, _, _, _, _, hkt, _, hopen⟩ := hl.here
    obtain ⟨kt', hkt', -⟩ := hW.alike.2.2 _ _ hkt
    obtain ⟨k0, hk0, -⟩ := Vm.findClass_spec hcls
    obtain ⟨k0', hk0', -⟩ := hW.alike.2.2 _ _ hk0
    have hWn : s.WarmedH (S.vm.noted f.method.cls q.2.2.2 (.cls c)) := hW.noted hd hopen (State.rightAt_cls hl)
    have key : ∀ (Q : Handler → Pre) (E : CtlPost) (d : Bool) (acts : List Action), wp (findHandler.go f a (tableOf (q :: r))) Q E e d acts S ↔ _ := fun Q E d acts => j_goLink (x := ⟨q.1, q.2.1, q.2.2.1, q.2.2.2⟩) (t := tableOf r) hcov h0 (hW.classLinks hl) hcell hobj ⟨k0', hk0'⟩ ⟨kt', hkt'⟩
    rcases hor with ⟨rfl, rfl⟩ | ⟨hn, hr⟩
    · cases hcls.symm.trans hc
      refine ⟨_, hWn, fun Q E d acts => (key Q E d acts).trans ?_⟩
      rw [if_pos (va_asg _ _)]
    · obtain ⟨c1, t1, f1, f2, f3⟩ := hnc _ hn
      cases hcls.symm.trans f1
      cases hc.symm.trans f2
      obtain ⟨vm', hW', hq⟩ := j_search hpl hown hts hnc hcls hobj r (S.setVm (S.vm.noted f.method.cls q.2.2.2 (.cls c))) hp hr hWn hcell
      refine ⟨vm', hW', fun Q E d acts => (key Q E d acts).trans ?_⟩
      rw [if_neg (by rw [hW.alike.assignable, f3]; decide)]
      exact hq Q E d acts
theorem j_stepCatch {e : Env} {s : State} {a : Addr} {f : JFrame} {r : List Frame} {pc : Nat} {vm' : Vm} (hfind : ∀ (Q : Handler → Pre) (E : CtlPost) (d : Bool) (acts : List Action), wp (findHandler f a) Q E e d acts s ↔ Q (.found pc) d acts (s.setVm vm')) :
    (stepThrowing e s a (.java f :: r)).Is ((s.setVm vm').setFrames (.java { f with pc := pc, stack := [.ref a] } :: r)) [] := by
  simp only [stepThrowing, searchFrame, vmDo]
  generalize hr : Sem.go _ e false [] s = res
  obtain ⟨as, rfl, ha⟩ := Sem.eq_ok_of hr (a := Handler.found pc) (s' := s.setVm vm') (acts' := []) (by simp [hfind _ _ _ _])
  exact ⟨rfl, ha⟩
section JCATCH
variable {K : jK} {M : jR} {d pc : Nat} {ls : List (Nat × Value)} {st st0 : List Value} {h : jH} {Q Q' : jO → jH → Prop} {mc ms mc' ms' : Nat}
theorem j_catStep {p : Program} {l : Launch} {e : Env} {R : Room} {s : State} {m : MethodId} {args : Array Value} {below : List Frame} {meth : Method} {c : Code} {T : State} {locs : List Loc} {cells slots : Nat} (X : Stand p l e R s m args below meth c T locs cells slots) {g : JFrame} (hg : g.method = m) {own tn : String} {hs : List (Nat × Nat × Nat × Nat)} {hp : Nat} (htab : c.exceptionTable.toList = tableOf hs)
    (hown : s.vm.findClass own = some m.cls) (hts : ∀ w ∈ jt, w.before args s = true) (hnc : ∀ q ∈ jnc, va_Nc q.1 q.2 s) {a : Addr} {cell : Cell} (hcell : T.heap[a]? = some cell) (hcls : s.vm.findClass tn = some cell.cls) (hobj : cell.vm.isStatics = false) (hfd : jFd own tn g.pc hs hp) :
    ∃ vm', Stand p l e R s m args below meth c (T.setVm vm') locs cells slots ∧ ∀ tg, Steps p.tables e below ((T.setVm vm').setTop { g with pc := hp, stack := [.ref a] }) tg → Steps p.tables e below ((T.setTop g).pushFrame (.throwing a)) tg := by
  have hpl : e.platform.magicAccessors = ({} : Platform).magicAccessors := by rw [X.admits.platform]
  subst hg
  have hvmT : ((T.setTop g).pushFrame (.throwing a)).vm = T.vm := by simp [State.pushFrame, State.setFrames, State.setTop, State.modifyTopJava]
  have hhpT : ((T.setTop g).pushFrame (.throwing a)).heap = T.heap := by simp [State.pushFrame, State.setFrames, State.setTop, State.modifyTopJava]
  obtain ⟨vm', hW', hq⟩ := j_search (e := e) (a := a) hpl hown hts hnc hcls (VmData.ne_statics_of hobj) hs ((T.setTop g).pushFrame (.throwing a)) hp hfd (by rw [hvmT]; exact X.warmed) (by rw [hhpT]; exact hcell)
  refine ⟨vm', X.noted hW', fun tg htg => ?_⟩
  obtain ⟨hgo, hw⟩ := X.here.throwing a
  refine Steps.head hgo hw ?_
  have hfind : ∀ (Q : Handler → Pre) (E : CtlPost) (d : Bool) (acts : List Action), wp (findHandler g a) Q E e d acts ((T.setTop g).pushFrame (.throwing a)) ↔ Q (.found hp) d acts (((T.setTop g).pushFrame (.throwing a)).setVm vm') := fun Q E d acts => by
    rw [W.findHandler_eq (meth := meth) (code := c) (by rw [hvmT]; exact X.method') X.code, htab]
    exact hq Q E d acts
  rw [stepThread_throwing (frames_entered X.here.top _), (j_stepCatch hfind).1]
  obtain ⟨g₀, hg0⟩ := Option.isSome_iff_exists.mp X.here.top
  obtain ⟨r, hr⟩ := State.topJava?_eq_some.mp hg0
  have hr' : (T.setVm vm').frames = .java g₀ :: r := hr
  have e1 : ∀ (u : State) (F G : List Frame), ((u.setFrames F).setVm vm').setFrames G = (u.setVm vm').setFrames G := fun u F G => by
    have h1 : (u.setFrames F).setVm vm' = (u.setVm vm').setFrames F := rfl
    rw [h1, State.setFrames_setFrames]
  rw [State.setTop_of_frames _ hr'] at htg
  rw [hr, List.tail_cons, State.pushFrame, e1, State.setTop_of_frames _ hr, e1]
  exact htg
/-- behind a call in a method with handlers: it came back, or what it threw is caught -/
theorem j_catch (hcall : jCall K M d pc ls st0 st h Q' mc' ms') (kr : ∀ (v : Option Value) (h' : jH), Q' (.inl v) h' → jE K M d (pc + 3) ls (v.toList ++ st) h' Q mc ms)
    (kt : ∀ (k : Nat) (h' : jH), Q' (.inr k) h' → ∃ (X : String) (T : u_T) (hp : Nat), classes[k]? = some (X, T, 0) ∧ jFd M.1.cls X pc M.2.2.2.2 hp ∧ jE K M d hp ls [.ref (31 + h'.length)] h' Q mc ms) : jE K M d pc ls st0 h Q (mc' + 1 + mc) (ms' + 6 + ms) := by
  intro p e R s m args below meth c H locs cells slots la hC hc hs hl hw hLo T hT X
  obtain ⟨mo, h', L, B, XB, hq, hwB, hLB, hend⟩ := hcall p e R s m args below meth c H locs cells slots la hC (by omega) (by omega) hl hw hLo T hT X
  rcases hend with ⟨v, rfl, hst⟩ | ⟨k, n, rfl, n1, n2, hst⟩
  · obtain ⟨t, a1, a2⟩ := kr v h' hq p e R s m args below meth c B.heap L _ _ la hC (by simp only [j_xc]; omega) (by simp only [j_xc]; omega) hl hwB hLB B rfl XB
    refine ⟨t, hst t a1, ?_⟩
    obtain ⟨o, mo, h2, L2, b1, b2, b3, b4, b5, b6, b7, b8⟩ := a2
    exact ⟨o, mo, h2, L2, b1, b2, b3, b4, b5, b6, b7.mono (by simp only [j_xc]; omega) (by simp only [j_xc]; omega), b8⟩
  · obtain ⟨X9, TX, hp, hcl, hfd, hE⟩ := kt k h' hq
    obtain ⟨r9, g1, cell, g2, g3, g4, -⟩ := hwB.1 n _ n2
    have hK := hC.2.2.2.2.2.2.2.2.2.2.2.1
    have hXs := hC.2.2.2.2.2.2.2.2.2.2.2.2
    obtain ⟨vm', X2, hs2⟩ := j_catStep XB (g := F0 m pc la (st.map (j_v K))) rfl (hs := M.2.2.2.2) (hp := hp) hC.2.2.2.2.2.2.2.2.1 hC.2.2.2.1 hC.2.2.2.2.1 hXs.2.2.1 (a := K.2.1 + n) (cell := cell) (tn := X9) g2 (by rw [g3]; exact (hK.1 k _ hcl).2.1) (by rw [g4]; rfl) hfd
    obtain ⟨t, a1, a2⟩ := hE p e R s m args below meth c B.heap L _ _ la hC (by simp only [j_xc]; omega) (by simp only [j_xc]; omega) hl hwB hLB (B.setVm vm') rfl X2
    have e9 : ([.ref (31 + h'.length)] : List Value).map (j_v K) = [.ref (K.2.1 + n)] := by
      show ([.ref (j_adr K (31 + h'.length))] : List Value) = _
      rw [n1, show 31 + (n + 1) = 32 + n by omega, j_adr_new]
    rw [e9] at a1
    refine ⟨t, hst t (hs2 t a1), ?_⟩
    obtain ⟨o, mo, h2, L2, b1, b2, b3, b4, b5, b6, b7, b8⟩ := a2
    exact ⟨o, mo, h2, L2, b1, b2, b3, b4, b5, b6, b7.mono (by simp only [j_xc]; omega) (by simp only [j_xc]; omega), b8⟩
end JCATCH
end
section
/-! constants, switches, references that are compared, Object's constructor -/
section JMISC
variable {K : jK} {M : jR} {d pc : Nat} {ls : List (Nat × Value)} {st : List Value} {h : jH} {Q : jO → jH → Prop} {mc ms : Nat}
theorem j_ldc {idx : Nat} {v : Int32} (hd : decode M.2.1 pc = .ok (.ldc idx, 2)) (hw0 : Cond.constant M.1.cls idx v ∈ jt) (k : jE K M d (pc + 2) ls (.int v :: st) h Q mc ms) : jE K M d pc ls st h Q mc ms :=
  fun p e R s m as bl me c H lo ce sl la hC hc hs hl hw hL => lv_ldc hC.1 hC.2.1 hC.2.2.2.1 (hC.2.2.2.2.1 _ hw0) hd (k p e R s m as bl me c H lo ce sl la hC hc hs hl hw hL)
theorem j_ldcw {idx : Nat} {v : Int32} (hd : decode M.2.1 pc = .ok (.ldc_w idx, 3)) (hw0 : Cond.constant M.1.cls idx v ∈ jt) (k : jE K M d (pc + 3) ls (.int v :: st) h Q mc ms) : jE K M d pc ls st h Q mc ms :=
  fun p e R s m as bl me c H lo ce sl la hC hc hs hl hw hL => lv_ldcw hC.1 hC.2.1 hC.2.2.2.1 (hC.2.2.2.2.1 _ hw0) hd (k p e R s m as bl me c H lo ce sl la hC hc hs hl hw hL)
theorem j_ldc2 {idx : Nat} {v : Int64} (hd : decode M.2.1 pc = .ok (.ldc2_w idx, 3)) (hw0 : Cond.constantLong M.1.cls idx v ∈ jt) (k : jE K M d (pc + 3) ls (.long v :: st) h Q mc ms) : jE K M d pc ls st h Q mc ms :=
  fun p e R s m as bl me c H lo ce sl la hC hc hs hl hw hL => lv_ldc2 hC.1 hC.2.1 hC.2.2.2.1 (hC.2.2.2.2.1 _ hw0) hd (k p e R s m as bl me c H lo ce sl la hC hc hs hl hw hL)
theorem j_lcmp {x y : Int64} (hd : decode M.2.1 pc = .ok (.lcmp, 1)) (k : jE K M d (pc + 1) ls (.int (lg_cmp x y) :: st) h Q mc ms) : jE K M d pc ls (.long y :: .long x :: st) h Q mc ms :=
  fun p e R s m as bl me c H lo ce sl la hC hc hs hl hw hL => W.lcmp hC.1 hC.2.1 hd (k p e R s m as bl me c H lo ce sl la hC hc hs hl hw hL)
theorem j_switchIn {dflt lo hi : Int} {offs : Array Int} {len : Nat} {x : Int32} {off : Int} {tgt : Nat} (hd : decode M.2.1 pc = .ok (.tableswitch dflt lo hi offs, len)) (h1 : ¬ x.toInt < lo) (h2 : ¬ hi < x.toInt) (ho : offs[(x.toInt - lo).toNat]? = some off) (ht : (pc : Int) + off = (tgt : Int)) (k : jE K M d tgt ls st h Q mc ms) : jE K M d pc ls (.int x :: st) h Q mc ms :=
  fun p e R s m as bl me c H lo' ce sl la hC hc hs hl hw hL => lv_tableIn hC.1 hC.2.1 hd h1 h2 ho ht (k p e R s m as bl me c H lo' ce sl la hC hc hs hl hw hL)
theorem j_switchOut {dflt lo hi : Int} {offs : Array Int} {len : Nat} {x : Int32} {tgt : Nat} (hd : decode M.2.1 pc = .ok (.tableswitch dflt lo hi offs, len)) (h1 : x.toInt < lo ∨ hi < x.toInt) (ht : (pc : Int) + dflt = (tgt : Int)) (k : jE K M d tgt ls st h Q mc ms) : jE K M d pc ls (.int x :: st) h Q mc ms :=
  fun p e R s m as bl me c H lo' ce sl la hC hc hs hl hw hL => lv_tableOut hC.1 hC.2.1 hd h1 ht (k p e R s m as bl me c H lo' ce sl la hC hc hs hl hw hL)
theorem j_objInit {idx i : Nat} (hd : decode M.2.1 pc = .ok (.invokespecial idx, 3)) (hlink : Cond.methodLink M.1.cls idx Lib.objectInit ∈ jt) (hinst : Cond.instanceMethod Lib.objectInit ∈ jt) (hcode : Cond.code Lib.objectInit ⟨#[0xb1]⟩ 1 none ∈ jt) (hdd : 1 ≤ d) (hst : (st.map fun v => v.category).sum ≤ 8) (k : jE K M d (pc + 3) ls st h Q mc ms) : jE K M d pc ls (.ref i :: st) h Q mc ms := by
  intro p e R s m as bl me c H lo ce sl la hC hc hs hl hw hL
  have hts := hC.2.2.2.2.1
  have hfr := hC.2.2.2.2.2.2.2.2.2.1
  have hlo := hC.2.2.2.2.2.2.2.2.2.2.1
  have hroom := j_roomS (m := m) (la := la) (pc := pc) (K := K) hst
  refine W.objInit hC.1 hC.2.1 hC.2.2.2.1 (hts _ hlink) (hts _ hinst) (hts _ hcode) (g := F0 m pc la (.ref (j_adr K i) :: st.map (j_v K))) rfl (hl.1.trans hC.2.2.1.symm) rfl hd (by omega) ?_ (k p e R s m as bl me c H lo ce sl la hC hc hs hl hw hL)
  have e1 : (F0 m pc la (.ref (j_adr K i) :: st.map (j_v K))).monitorRoom = (F0 m pc la (st.map (j_v K))).monitorRoom := by first | rfl | simp [JFrame.monitorRoom, F0]
  rw [e1]
  have e2 : ((F0 m pc la (st.map (j_v K))).stack.map fun v => v.category).sum = ((st.map (j_v K)).map fun v => v.category).sum := rfl
  rw [e2] at hroom
  omega
end JMISC
end
section
/-! methods -/
def y_B_init : MethodName := ⟨"BitLoom", "<init>", "()V"⟩
abbrev b_B_init : ByteArray := prog_1_method_1_code
abbrev M_B_init : jR := (y_B_init, b_B_init, 1, (none), [])
def y_F_init : MethodName := ⟨"BitLoom$Fields", "<init>", "()V"⟩
abbrev b_F_init : ByteArray := prog_5_method_1_code
abbrev M_F_init : jR := (y_F_init, b_F_init, 1, (none), [])
def y_W_init : MethodName := ⟨"BitLoom$Words", "<init>", "()V"⟩
abbrev b_W_init : ByteArray := prog_11_method_1_code
abbrev M_W_init : jR := (y_W_init, b_W_init, 1, (none), [])
def y_T_init : MethodName := ⟨"BitLoom$Text", "<init>", "()V"⟩
abbrev b_T_init : ByteArray := prog_9_method_1_code
abbrev M_T_init : jR := (y_T_init, b_T_init, 1, (none), [])
def y_S_init : MethodName := ⟨"BitLoom$Statement", "<init>", "(LBitLoom$Fields;LBitLoom$Words;LBitLoom$Text;)V"⟩
abbrev b_S_init : ByteArray := prog_8_method_1_code
abbrev M_S_init : jR := (y_S_init, b_S_init, 4, (none), [])
def y_K_init : MethodName := ⟨"BitLoom$Tokens", "<init>", "(LBitLoom$Text;)V"⟩
abbrev b_K_init : ByteArray := prog_10_method_1_code
abbrev M_K_init : jR := (y_K_init, b_K_init, 2, (none), [])
def y_P_init : MethodName := ⟨"BitLoom$Pair", "<init>", "(LBitLoom$Fields;)V"⟩
abbrev b_P_init : ByteArray := prog_7_method_1_code
abbrev M_P_init : jR := (y_P_init, b_P_init, 2, (none), [])
def y_O_init : MethodName := ⟨"BitLoom$Operand", "<init>", "(LBitLoom$Fields;)V"⟩
abbrev b_O_init : ByteArray := prog_6_method_1_code
abbrev M_O_init : jR := (y_O_init, b_O_init, 2, (none), [])
def y_C_init : MethodName := ⟨"BitLoom$Change", "<init>", "(LBitLoom$Fields;)V"⟩
abbrev b_C_init : ByteArray := prog_4_method_1_code
abbrev M_C_init : jR := (y_C_init, b_C_init, 2, (none), [])
def y_B_search : MethodName := ⟨"BitLoom", "search", "(IIZ)I"⟩
abbrev b_B_search : ByteArray := prog_1_method_8_code
abbrev M_B_search : jR := (y_B_search, b_B_search, 5, (some .int), [])
def y_W_responding : MethodName := ⟨"BitLoom$Words", "responding", "()I"⟩
abbrev b_W_responding : ByteArray := prog_11_method_6_code
abbrev M_W_responding : jR := (y_W_responding, b_W_responding, 1, (some .int), [])
def y_W_inUse : MethodName := ⟨"BitLoom$Words", "inUse", "()I"⟩
abbrev b_W_inUse : ByteArray := prog_11_method_5_code
abbrev M_W_inUse : jR := (y_W_inUse, b_W_inUse, 1, (some .int), [])
def y_W_matching : MethodName := ⟨"BitLoom$Words", "matching", "(III)I"⟩
abbrev b_W_matching : ByteArray := prog_11_method_12_code
abbrev M_W_matching : jR := (y_W_matching, b_W_matching, 6, (some .int), [])
def y_W_holds : MethodName := ⟨"BitLoom$Words", "holds", "(II)Z"⟩
abbrev b_W_holds : ByteArray := prog_11_method_2_code
abbrev M_W_holds : jR := (y_W_holds, b_W_holds, 2, (some .boolean), [])
def y_W_respondOnly : MethodName := ⟨"BitLoom$Words", "respondOnly", "(I)V"⟩
abbrev b_W_respondOnly : ByteArray := prog_11_method_11_code
abbrev M_W_respondOnly : jR := (y_W_respondOnly, b_W_respondOnly, 2, (none), [])
def y_JInteger_bitCount : MethodName := ⟨"java/lang/Integer", "bitCount", "(I)I"⟩
abbrev b_JInteger_bitCount : ByteArray := prog_20_method_49_code
abbrev M_JInteger_bitCount : jR := (y_JInteger_bitCount, b_JInteger_bitCount, 1, (some .int), [])
def y_B_first : MethodName := ⟨"BitLoom", "first", "()I"⟩
abbrev b_B_first : ByteArray := prog_1_method_11_code
abbrev M_B_first : jR := (y_B_first, b_B_first, 2, (some .int), [])
def y_W_lowestOf : MethodName := ⟨"BitLoom$Words", "lowestOf", "(I)I"⟩
abbrev b_W_lowestOf : ByteArray := prog_11_method_3_code
abbrev M_W_lowestOf : jR := (y_W_lowestOf, b_W_lowestOf, 2, (some .int), [])
def y_B_write : MethodName := ⟨"BitLoom", "write", "(J)Z"⟩
abbrev b_B_write : ByteArray := prog_1_method_12_code
abbrev M_B_write : jR := (y_B_write, b_B_write, 3, (some .boolean), [])
def y_T_canTake : MethodName := ⟨"BitLoom$Text", "canTake", "(J)Z"⟩
abbrev b_T_canTake : ByteArray := prog_9_method_5_code
abbrev M_T_canTake : jR := (y_T_canTake, b_T_canTake, 6, (some .boolean), [])
def y_T_codeOf : MethodName := ⟨"BitLoom$Text", "codeOf", "(JI)I"⟩
abbrev b_T_codeOf : ByteArray := prog_9_method_7_code
abbrev M_T_codeOf : jR := (y_T_codeOf, b_T_codeOf, 3, (some .int), [])
def y_T_append : MethodName := ⟨"BitLoom$Text", "append", "(J)V"⟩
abbrev b_T_append : ByteArray := prog_9_method_6_code
abbrev M_T_append : jR := (y_T_append, b_T_append, 5, (none), [])
def y_B_wipe : MethodName := ⟨"BitLoom", "wipe", "()I"⟩
abbrev b_B_wipe : ByteArray := prog_1_method_13_code
abbrev M_B_wipe : jR := (y_B_wipe, b_B_wipe, 2, (some .int), [])
def y_T_length : MethodName := ⟨"BitLoom$Text", "length", "()I"⟩
abbrev b_T_length : ByteArray := prog_9_method_2_code
abbrev M_T_length : jR := (y_T_length, b_T_length, 1, (some .int), [])
def y_T_clear : MethodName := ⟨"BitLoom$Text", "clear", "()V"⟩
abbrev b_T_clear : ByteArray := prog_9_method_4_code
abbrev M_T_clear : jR := (y_T_clear, b_T_clear, 1, (none), [])
def y_B_place : MethodName := ⟨"BitLoom", "place", "()I"⟩
abbrev b_B_place : ByteArray := prog_1_method_15_code
abbrev M_B_place : jR := (y_B_place, b_B_place, 1, (some .int), [])
def y_S_wrongAt : MethodName := ⟨"BitLoom$Statement", "wrongAt", "()I"⟩
abbrev b_S_wrongAt : ByteArray := prog_8_method_2_code
abbrev M_S_wrongAt : jR := (y_S_wrongAt, b_S_wrongAt, 1, (some .int), [])
def y_B_refused : MethodName := ⟨"BitLoom", "refused", "()I"⟩
abbrev b_B_refused : ByteArray := prog_1_method_16_code
abbrev M_B_refused : jR := (y_B_refused, b_B_refused, 1, (some .int), [])
def y_B_field : MethodName := ⟨"BitLoom", "field", "(CIIZ)V"⟩
abbrev b_B_field : ByteArray := prog_1_method_2_code
abbrev M_B_field : jR := (y_B_field, b_B_field, 5, (none), [])
def y_F_isNewName : MethodName := ⟨"BitLoom$Fields", "isNewName", "(C)Z"⟩
abbrev b_F_isNewName : ByteArray := prog_5_method_3_code
abbrev M_F_isNewName : jR := (y_F_isNewName, b_F_isNewName, 2, (some .boolean), [])
def y_F_indexOf : MethodName := ⟨"BitLoom$Fields", "indexOf", "(C)I"⟩
abbrev b_F_indexOf : ByteArray := prog_5_method_6_code
abbrev M_F_indexOf : jR := (y_F_indexOf, b_F_indexOf, 3, (some .int), [])
def y_F_isOpenGround : MethodName := ⟨"BitLoom$Fields", "isOpenGround", "(II)Z"⟩
abbrev b_F_isOpenGround : ByteArray := prog_5_method_4_code
abbrev M_F_isOpenGround : jR := (y_F_isOpenGround, b_F_isOpenGround, 3, (some .boolean), [])
def y_F_ground : MethodName := ⟨"BitLoom$Fields", "ground", "(II)I"⟩
abbrev b_F_ground : ByteArray := prog_5_method_10_code
abbrev M_F_ground : jR := (y_F_ground, b_F_ground, 2, (some .int), [])
def y_F_isFull : MethodName := ⟨"BitLoom$Fields", "isFull", "()Z"⟩
abbrev b_F_isFull : ByteArray := prog_5_method_2_code
abbrev M_F_isFull : jR := (y_F_isFull, b_F_isFull, 1, (some .boolean), [])
def y_F_append : MethodName := ⟨"BitLoom$Fields", "append", "(CIIZ)V"⟩
abbrev b_F_append : ByteArray := prog_5_method_5_code
abbrev M_F_append : jR := (y_F_append, b_F_append, 5, (none), [])
def y_B_insert : MethodName := ⟨"BitLoom", "insert", "()I"⟩
abbrev b_B_insert : ByteArray := prog_1_method_3_code
abbrev M_B_insert : jR := (y_B_insert, b_B_insert, 2, (some .int), [])
def y_W_free : MethodName := ⟨"BitLoom$Words", "free", "()I"⟩
abbrev b_W_free : ByteArray := prog_11_method_4_code
abbrev M_W_free : jR := (y_W_free, b_W_free, 1, (some .int), [])
def y_W_occupy : MethodName := ⟨"BitLoom$Words", "occupy", "(I)V"⟩
abbrev b_W_occupy : ByteArray := prog_11_method_9_code
abbrev M_W_occupy : jR := (y_W_occupy, b_W_occupy, 2, (none), [])
def y_B_remove : MethodName := ⟨"BitLoom", "remove", "(I)V"⟩
abbrev b_B_remove : ByteArray := prog_1_method_4_code
abbrev M_B_remove : jR := (y_B_remove, b_B_remove, 2, (none), [])
def y_B_requireWord : MethodName := ⟨"BitLoom", "requireWord", "(I)V"⟩
abbrev b_B_requireWord : ByteArray := prog_1_method_18_code
abbrev M_B_requireWord : jR := (y_B_requireWord, b_B_requireWord, 2, (none), [])
def y_B_requireInUse : MethodName := ⟨"BitLoom", "requireInUse", "(I)V"⟩
abbrev b_B_requireInUse : ByteArray := prog_1_method_20_code
abbrev M_B_requireInUse : jR := (y_B_requireInUse, b_B_requireInUse, 2, (none), [])
def y_W_release : MethodName := ⟨"BitLoom$Words", "release", "(I)V"⟩
abbrev b_W_release : ByteArray := prog_11_method_10_code
abbrev M_W_release : jR := (y_W_release, b_W_release, 2, (none), [])
def y_B_put : MethodName := ⟨"BitLoom", "put", "(ICI)V"⟩
abbrev b_B_put : ByteArray := prog_1_method_5_code
abbrev M_B_put : jR := (y_B_put, b_B_put, 5, (none), [])
def y_B_requireField : MethodName := ⟨"BitLoom", "requireField", "(C)I"⟩
abbrev b_B_requireField : ByteArray := prog_1_method_19_code
abbrev M_B_requireField : jR := (y_B_requireField, b_B_requireField, 3, (some .int), [])
def y_F_fits : MethodName := ⟨"BitLoom$Fields", "fits", "(II)Z"⟩
abbrev b_F_fits : ByteArray := prog_5_method_7_code
abbrev M_F_fits : jR := (y_F_fits, b_F_fits, 5, (some .boolean), [])
def y_W_bitsOf : MethodName := ⟨"BitLoom$Words", "bitsOf", "(I)I"⟩
abbrev b_W_bitsOf : ByteArray := prog_11_method_7_code
abbrev M_W_bitsOf : jR := (y_W_bitsOf, b_W_bitsOf, 2, (some .int), [])
def y_F_withValue : MethodName := ⟨"BitLoom$Fields", "withValue", "(III)I"⟩
abbrev b_F_withValue : ByteArray := prog_5_method_9_code
abbrev M_F_withValue : jR := (y_F_withValue, b_F_withValue, 5, (some .int), [])
def y_W_replace : MethodName := ⟨"BitLoom$Words", "replace", "(II)V"⟩
abbrev b_W_replace : ByteArray := prog_11_method_8_code
abbrev M_W_replace : jR := (y_W_replace, b_W_replace, 3, (none), [])
def y_B_get : MethodName := ⟨"BitLoom", "get", "(IC)I"⟩
abbrev b_B_get : ByteArray := prog_1_method_6_code
abbrev M_B_get : jR := (y_B_get, b_B_get, 4, (some .int), [])
def y_F_valueIn : MethodName := ⟨"BitLoom$Fields", "valueIn", "(II)I"⟩
abbrev b_F_valueIn : ByteArray := prog_5_method_8_code
abbrev M_F_valueIn : jR := (y_F_valueIn, b_F_valueIn, 5, (some .int), [])
def y_B_bit : MethodName := ⟨"BitLoom", "bit", "(II)Z"⟩
abbrev b_B_bit : ByteArray := prog_1_method_7_code
abbrev M_B_bit : jR := (y_B_bit, b_B_bit, 3, (some .boolean), [])
def y_B_multi : MethodName := ⟨"BitLoom", "multi", "(II)V"⟩
abbrev b_B_multi : ByteArray := prog_1_method_9_code
abbrev M_B_multi : jR := (y_B_multi, b_B_multi, 3, (none), [])
def y_W_overwrite : MethodName := ⟨"BitLoom$Words", "overwrite", "(III)V"⟩
abbrev b_W_overwrite : ByteArray := prog_11_method_13_code
abbrev M_W_overwrite : jR := (y_W_overwrite, b_W_overwrite, 5, (none), [])
def y_B_responds : MethodName := ⟨"BitLoom", "responds", "(I)Z"⟩
abbrev b_B_responds : ByteArray := prog_1_method_10_code
abbrev M_B_responds : jR := (y_B_responds, b_B_responds, 2, (some .boolean), [])
def y_B_run : MethodName := ⟨"BitLoom", "run", "()I"⟩
abbrev b_B_run : ByteArray := prog_1_method_14_code
abbrev M_B_run : jR := (y_B_run, b_B_run, 3, (some .int), [])
def y_S_read : MethodName := ⟨"BitLoom$Statement", "read", "()V"⟩
abbrev b_S_read : ByteArray := prog_8_method_9_code
abbrev M_S_read : jR := (y_S_read, b_S_read, 1, (none), [])
def y_K_cut : MethodName := ⟨"BitLoom$Tokens", "cut", "()V"⟩
abbrev b_K_cut : ByteArray := prog_10_method_2_code
abbrev M_K_cut : jR := (y_K_cut, b_K_cut, 3, (none), [])
def y_T_at : MethodName := ⟨"BitLoom$Text", "at", "(I)C"⟩
abbrev b_T_at : ByteArray := prog_9_method_3_code
abbrev M_T_at : jR := (y_T_at, b_T_at, 2, (some .char), [])
def y_K_cutOne : MethodName := ⟨"BitLoom$Tokens", "cutOne", "(I)I"⟩
abbrev b_K_cutOne : ByteArray := prog_10_method_12_code
abbrev M_K_cutOne : jR := (y_K_cutOne, b_K_cutOne, 4, (some .int), [])
def y_K_isBetween : MethodName := ⟨"BitLoom$Tokens", "isBetween", "(CCC)Z"⟩
abbrev b_K_isBetween : ByteArray := prog_10_method_14_code
abbrev M_K_isBetween : jR := (y_K_isBetween, b_K_isBetween, 3, (some .boolean), [])
def y_K_endOf : MethodName := ⟨"BitLoom$Tokens", "endOf", "(ICC)I"⟩
abbrev b_K_endOf : ByteArray := prog_10_method_13_code
abbrev M_K_endOf : jR := (y_K_endOf, b_K_endOf, 5, (some .int), [])
def y_K_append : MethodName := ⟨"BitLoom$Tokens", "append", "(CII)I"⟩
abbrev b_K_append : ByteArray := prog_10_method_15_code
abbrev M_K_append : jR := (y_K_append, b_K_append, 4, (some .int), [])
def y_JString_indexOf0 : MethodName := ⟨"java/lang/String", "indexOf", "(I)I"⟩
abbrev b_JString_indexOf0 : ByteArray := prog_23_method_79_code
abbrev M_JString_indexOf0 : jR := (y_JString_indexOf0, b_JString_indexOf0, 2, (some .int), [])
def y_JString_indexOf1 : MethodName := ⟨"java/lang/String", "indexOf", "(II)I"⟩
abbrev b_JString_indexOf1 : ByteArray := prog_23_method_80_code
abbrev M_JString_indexOf1 : jR := (y_JString_indexOf1, b_JString_indexOf1, 3, (some .int), [])
def y_JString_isLatin1 : MethodName := ⟨"java/lang/String", "isLatin1", "()Z"⟩
abbrev b_JString_isLatin1 : ByteArray := prog_23_method_154_code
abbrev M_JString_isLatin1 : jR := (y_JString_isLatin1, b_JString_isLatin1, 1, (some .boolean), [])
def y_JString_length : MethodName := ⟨"java/lang/String", "length", "()I"⟩
abbrev b_JString_length : ByteArray := prog_23_method_54_code
abbrev M_JString_length : jR := (y_JString_length, b_JString_length, 1, (some .int), [])
def y_JString_coder : MethodName := ⟨"java/lang/String", "coder", "()B"⟩
abbrev b_JString_coder : ByteArray := prog_23_method_152_code
abbrev M_JString_coder : jR := (y_JString_coder, b_JString_coder, 1, (some .byte), [])
def y_JStringLatin1_indexOf : MethodName := ⟨"java/lang/StringLatin1", "indexOf", "([BIII)I"⟩
abbrev b_JStringLatin1_indexOf : ByteArray := prog_24_method_22_code
abbrev M_JStringLatin1_indexOf : jR := (y_JStringLatin1_indexOf, b_JStringLatin1_indexOf, 4, (some .int), [])
def y_JStringLatin1_canEncode : MethodName := ⟨"java/lang/StringLatin1", "canEncode", "(I)Z"⟩
abbrev b_JStringLatin1_canEncode : ByteArray := prog_24_method_4_code
abbrev M_JStringLatin1_canEncode : jR := (y_JStringLatin1_canEncode, b_JStringLatin1_canEncode, 1, (some .boolean), [])
def y_JMath_max : MethodName := ⟨"java/lang/Math", "max", "(II)I"⟩
abbrev b_JMath_max : ByteArray := prog_21_method_65_code
abbrev M_JMath_max : jR := (y_JMath_max, b_JMath_max, 2, (some .int), [])
def y_JMath_min : MethodName := ⟨"java/lang/Math", "min", "(II)I"⟩
abbrev b_JMath_min : ByteArray := prog_21_method_69_code
abbrev M_JMath_min : jR := (y_JMath_min, b_JMath_min, 2, (some .int), [])
def y_JStringLatin1_indexOfChar : MethodName := ⟨"java/lang/StringLatin1", "indexOfChar", "([BIII)I"⟩
abbrev b_JStringLatin1_indexOfChar : ByteArray := prog_24_method_23_code
abbrev M_JStringLatin1_indexOfChar : jR := (y_JStringLatin1_indexOfChar, b_JStringLatin1_indexOfChar, 6, (some .int), [])
def y_K_isWord : MethodName := ⟨"BitLoom$Tokens", "isWord", "(Ljava/lang/String;)Z"⟩
abbrev b_K_isWord : ByteArray := prog_10_method_9_code
abbrev M_K_isWord : jR := (y_K_isWord, b_K_isWord, 3, (some .boolean), [])
def y_JString_charAt : MethodName := ⟨"java/lang/String", "charAt", "(I)C"⟩
abbrev b_JString_charAt : ByteArray := prog_23_method_56_code
abbrev M_JString_charAt : jR := (y_JString_charAt, b_JString_charAt, 2, (some .char), [])
def y_JStringLatin1_charAt : MethodName := ⟨"java/lang/StringLatin1", "charAt", "([BI)C"⟩
abbrev b_JStringLatin1_charAt : ByteArray := prog_24_method_2_code
abbrev M_JStringLatin1_charAt : jR := (y_JStringLatin1_charAt, b_JStringLatin1_charAt, 2, (some .char), [])
def y_JString_checkIndex : MethodName := ⟨"java/lang/String", "checkIndex", "(II)V"⟩
abbrev b_JString_checkIndex : ByteArray := prog_23_method_155_code
abbrev M_JString_checkIndex : jR := (y_JString_checkIndex, b_JString_checkIndex, 2, (none), [])
def y_JPreconditions_checkIndex : MethodName := ⟨"jdk/internal/util/Preconditions", "checkIndex", "(IILjava/util/function/BiFunction;)I"⟩
abbrev b_JPreconditions_checkIndex : ByteArray := prog_28_method_11_code
abbrev M_JPreconditions_checkIndex : jR := (y_JPreconditions_checkIndex, b_JPreconditions_checkIndex, 3, (some .int), [])
def y_K_advance : MethodName := ⟨"BitLoom$Tokens", "advance", "()V"⟩
abbrev b_K_advance : ByteArray := prog_10_method_3_code
abbrev M_K_advance : jR := (y_K_advance, b_K_advance, 1, (none), [])
def y_S_readCondition : MethodName := ⟨"BitLoom$Statement", "readCondition", "(I)I"⟩
abbrev b_S_readCondition : ByteArray := prog_8_method_11_code
abbrev M_S_readCondition : jR := (y_S_readCondition, b_S_readCondition, 4, (some .int), [])
def y_S_readClause : MethodName := ⟨"BitLoom$Statement", "readClause", "(I)I"⟩
abbrev b_S_readClause : ByteArray := prog_8_method_12_code
abbrev M_S_readClause : jR := (y_S_readClause, b_S_readClause, 4, (some .int), [])
def y_S_readOne : MethodName := ⟨"BitLoom$Statement", "readOne", "(I)I"⟩
abbrev b_S_readOne : ByteArray := prog_8_method_13_code
abbrev M_S_readOne : jR := (y_S_readOne, b_S_readOne, 4, (some .int), [])
def y_K_isSign : MethodName := ⟨"BitLoom$Tokens", "isSign", "(C)Z"⟩
abbrev b_K_isSign : ByteArray := prog_10_method_6_code
abbrev M_K_isSign : jR := (y_K_isSign, b_K_isSign, 2, (some .boolean), [])
def y_S_readComparison : MethodName := ⟨"BitLoom$Statement", "readComparison", "()I"⟩
abbrev b_S_readComparison : ByteArray := prog_8_method_14_code
abbrev M_S_readComparison : jR := (y_S_readComparison, b_S_readComparison, 3, (some .int), [])
def y_S_readOperand : MethodName := ⟨"BitLoom$Statement", "readOperand", "(LBitLoom$Operand;)V"⟩
abbrev b_S_readOperand : ByteArray := prog_8_method_18_code
abbrev M_S_readOperand : jR := (y_S_readOperand, b_S_readOperand, 3, (none), [])
def y_K_isNumber : MethodName := ⟨"BitLoom$Tokens", "isNumber", "()Z"⟩
abbrev b_K_isNumber : ByteArray := prog_10_method_7_code
abbrev M_K_isNumber : jR := (y_K_isNumber, b_K_isNumber, 1, (some .boolean), [])
def y_K_number : MethodName := ⟨"BitLoom$Tokens", "number", "()I"⟩
abbrev b_K_number : ByteArray := prog_10_method_8_code
abbrev M_K_number : jR := (y_K_number, b_K_number, 3, (some .int), [])
def y_O_becomeNumber : MethodName := ⟨"BitLoom$Operand", "becomeNumber", "(I)V"⟩
abbrev b_O_becomeNumber : ByteArray := prog_6_method_3_code
abbrev M_O_becomeNumber : jR := (y_O_becomeNumber, b_O_becomeNumber, 2, (none), [])
def y_S_refuse : MethodName := ⟨"BitLoom$Statement", "refuse", "()V"⟩
abbrev b_S_refuse : ByteArray := prog_8_method_10_code
abbrev M_S_refuse : jR := (y_S_refuse, b_S_refuse, 1, (none), [])
def y_K_start : MethodName := ⟨"BitLoom$Tokens", "start", "()I"⟩
abbrev b_K_start : ByteArray := prog_10_method_4_code
abbrev M_K_start : jR := (y_K_start, b_K_start, 1, (some .int), [])
def y_S_readField : MethodName := ⟨"BitLoom$Statement", "readField", "()I"⟩
abbrev b_S_readField : ByteArray := prog_8_method_19_code
abbrev M_S_readField : jR := (y_S_readField, b_S_readField, 2, (some .int), [])
def y_K_isLetter : MethodName := ⟨"BitLoom$Tokens", "isLetter", "()Z"⟩
abbrev b_K_isLetter : ByteArray := prog_10_method_10_code
abbrev M_K_isLetter : jR := (y_K_isLetter, b_K_isLetter, 1, (some .boolean), [])
def y_K_letter : MethodName := ⟨"BitLoom$Tokens", "letter", "()C"⟩
abbrev b_K_letter : ByteArray := prog_10_method_11_code
abbrev M_K_letter : jR := (y_K_letter, b_K_letter, 1, (some .char), [])
def y_O_becomeField : MethodName := ⟨"BitLoom$Operand", "becomeField", "(I)V"⟩
abbrev b_O_becomeField : ByteArray := prog_6_method_2_code
abbrev M_O_becomeField : jR := (y_O_becomeField, b_O_becomeField, 2, (none), [])
def y_S_readSign : MethodName := ⟨"BitLoom$Statement", "readSign", "(CCC)C"⟩
abbrev b_S_readSign : ByteArray := prog_8_method_21_code
abbrev M_S_readSign : jR := (y_S_readSign, b_S_readSign, 5, (some .char), [])
def y_P_isTrueIn : MethodName := ⟨"BitLoom$Pair", "isTrueIn", "(I)Z"⟩
abbrev b_P_isTrueIn : ByteArray := prog_7_method_2_code
abbrev M_P_isTrueIn : jR := (y_P_isTrueIn, b_P_isTrueIn, 3, (some .boolean), [])
def y_O_valueIn : MethodName := ⟨"BitLoom$Operand", "valueIn", "(I)I"⟩
abbrev b_O_valueIn : ByteArray := prog_6_method_4_code
abbrev M_O_valueIn : jR := (y_O_valueIn, b_O_valueIn, 2, (some .int), [])
def y_JInteger_compare : MethodName := ⟨"java/lang/Integer", "compare", "(II)I"⟩
abbrev b_JInteger_compare : ByteArray := prog_20_method_40_code
abbrev M_JInteger_compare : jR := (y_JInteger_compare, b_JInteger_compare, 2, (some .int), [])
def y_S_passSign : MethodName := ⟨"BitLoom$Statement", "passSign", "(C)V"⟩
abbrev b_S_passSign : ByteArray := prog_8_method_20_code
abbrev M_S_passSign : jR := (y_S_passSign, b_S_passSign, 2, (none), [])
def y_S_readAction : MethodName := ⟨"BitLoom$Statement", "readAction", "()V"⟩
abbrev b_S_readAction : ByteArray := prog_8_method_15_code
abbrev M_S_readAction : jR := (y_S_readAction, b_S_readAction, 1, (none), [])
def y_S_readVerb : MethodName := ⟨"BitLoom$Statement", "readVerb", "()V"⟩
abbrev b_S_readVerb : ByteArray := prog_8_method_16_code
abbrev M_S_readVerb : jR := (y_S_readVerb, b_S_readVerb, 3, (none), [])
def y_A_word : MethodName := ⟨"BitLoom$Action", "word", "()Ljava/lang/String;"⟩
abbrev b_A_word : ByteArray := prog_3_method_4_code
abbrev M_A_word : jR := (y_A_word, b_A_word, 1, (some (.object "java/lang/String")), [])
def y_S_readChange : MethodName := ⟨"BitLoom$Statement", "readChange", "(LBitLoom$Change;)V"⟩
abbrev b_S_readChange : ByteArray := prog_8_method_17_code
abbrev M_S_readChange : jR := (y_S_readChange, b_S_readChange, 2, (none), [])
def y_K_isEnd : MethodName := ⟨"BitLoom$Tokens", "isEnd", "()Z"⟩
abbrev b_K_isEnd : ByteArray := prog_10_method_5_code
abbrev M_K_isEnd : jR := (y_K_isEnd, b_K_isEnd, 1, (some .boolean), [])
def y_S_lacksWord : MethodName := ⟨"BitLoom$Statement", "lacksWord", "()Z"⟩
abbrev b_S_lacksWord : ByteArray := prog_8_method_6_code
abbrev M_S_lacksWord : jR := (y_S_lacksWord, b_S_lacksWord, 1, (some .boolean), [])
def y_S_taken : MethodName := ⟨"BitLoom$Statement", "taken", "()I"⟩
abbrev b_S_taken : ByteArray := prog_8_method_3_code
abbrev M_S_taken : jR := (y_S_taken, b_S_taken, 1, (some .int), [])
def y_B_carryOut : MethodName := ⟨"BitLoom", "carryOut", "(I)I"⟩
abbrev b_B_carryOut : ByteArray := prog_1_method_21_code
abbrev M_B_carryOut : jR := (y_B_carryOut, b_B_carryOut, 3, (some .int), [])
def y_S_subject : MethodName := ⟨"BitLoom$Statement", "subject", "()I"⟩
abbrev b_S_subject : ByteArray := prog_8_method_5_code
abbrev M_S_subject : jR := (y_S_subject, b_S_subject, 1, (some .int), [])
def y_S_action : MethodName := ⟨"BitLoom$Statement", "action", "()LBitLoom$Action;"⟩
abbrev b_S_action : ByteArray := prog_8_method_4_code
abbrev M_S_action : jR := (y_S_action, b_S_action, 1, (some (.object "BitLoom$Action")), [])
def y_JEnum_ordinal : MethodName := ⟨"java/lang/Enum", "ordinal", "()I"⟩
abbrev b_JEnum_ordinal : ByteArray := prog_15_method_2_code
abbrev M_JEnum_ordinal : jR := (y_JEnum_ordinal, b_JEnum_ordinal, 1, (some .int), [])
def y_B_changeAll : MethodName := ⟨"BitLoom", "changeAll", "(I)I"⟩
abbrev b_B_changeAll : ByteArray := prog_1_method_28_code
abbrev M_B_changeAll : jR := (y_B_changeAll, b_B_changeAll, 5, (some .int), [])
def y_S_canChange : MethodName := ⟨"BitLoom$Statement", "canChange", "(I)Z"⟩
abbrev b_S_canChange : ByteArray := prog_8_method_7_code
abbrev M_S_canChange : jR := (y_S_canChange, b_S_canChange, 2, (some .boolean), [])
def y_C_fitsIn : MethodName := ⟨"BitLoom$Change", "fitsIn", "(I)Z"⟩
abbrev b_C_fitsIn : ByteArray := prog_4_method_2_code
abbrev M_C_fitsIn : jR := (y_C_fitsIn, b_C_fitsIn, 2, (some .boolean), [])
def y_P_resultIn : MethodName := ⟨"BitLoom$Pair", "resultIn", "(I)I"⟩
abbrev b_P_resultIn : ByteArray := prog_7_method_3_code
abbrev M_P_resultIn : jR := (y_P_resultIn, b_P_resultIn, 3, (some .int), [])
def y_S_changed : MethodName := ⟨"BitLoom$Statement", "changed", "(I)I"⟩
abbrev b_S_changed : ByteArray := prog_8_method_8_code
abbrev M_S_changed : jR := (y_S_changed, b_S_changed, 3, (some .int), [])
def y_C_appliedTo : MethodName := ⟨"BitLoom$Change", "appliedTo", "(II)I"⟩
abbrev b_C_appliedTo : ByteArray := prog_4_method_3_code
abbrev M_C_appliedTo : jR := (y_C_appliedTo, b_C_appliedTo, 3, (some .int), [])
def y_B_greatest : MethodName := ⟨"BitLoom", "greatest", "(II)I"⟩
abbrev b_B_greatest : ByteArray := prog_1_method_23_code
abbrev M_B_greatest : jR := (y_B_greatest, b_B_greatest, 5, (some .int), [])
def y_B_valueOf : MethodName := ⟨"BitLoom", "valueOf", "(II)I"⟩
abbrev b_B_valueOf : ByteArray := prog_1_method_22_code
abbrev M_B_valueOf : jR := (y_B_valueOf, b_B_valueOf, 3, (some .int), [])
def y_B_least : MethodName := ⟨"BitLoom", "least", "(II)I"⟩
abbrev b_B_least : ByteArray := prog_1_method_24_code
abbrev M_B_least : jR := (y_B_least, b_B_least, 5, (some .int), [])
def y_B_total : MethodName := ⟨"BitLoom", "total", "(II)I"⟩
abbrev b_B_total : ByteArray := prog_1_method_25_code
abbrev M_B_total : jR := (y_B_total, b_B_total, 5, (some .int), [])
def y_B_listAll : MethodName := ⟨"BitLoom", "listAll", "(II)I"⟩
abbrev b_B_listAll : ByteArray := prog_1_method_26_code
abbrev M_B_listAll : jR := (y_B_listAll, b_B_listAll, 4, (some .int), [])
def y_B_sortIn : MethodName := ⟨"BitLoom", "sortIn", "(II)V"⟩
abbrev b_B_sortIn : ByteArray := prog_1_method_27_code
abbrev M_B_sortIn : jR := (y_B_sortIn, b_B_sortIn, 5, (none), [])
def y_B_listed : MethodName := ⟨"BitLoom", "listed", "(I)I"⟩
abbrev b_B_listed : ByteArray := prog_1_method_17_code
abbrev M_B_listed : jR := (y_B_listed, b_B_listed, 2, (some .int), [])
def y_M_init : MethodName := ⟨"BitLoomModel", "<init>", "()V"⟩
abbrev b_M_init : ByteArray := prog_13_method_1_code
abbrev M_M_init : jR := (y_M_init, b_M_init, 1, (none), [])
def y_M_thrown : MethodName := ⟨"BitLoomModel", "thrown", "()I"⟩
abbrev b_M_thrown : ByteArray := prog_13_method_2_code
abbrev M_M_thrown : jR := (y_M_thrown, b_M_thrown, 1, (some .int), [])
def y_M_field : MethodName := ⟨"BitLoomModel", "field", "(CIIZ)V"⟩
abbrev b_M_field : ByteArray := prog_13_method_4_code
abbrev M_M_field : jR := (y_M_field, b_M_field, 7, (none), [])
def y_M_fieldOf : MethodName := ⟨"BitLoomModel", "fieldOf", "(C)I"⟩
abbrev b_M_fieldOf : ByteArray := prog_13_method_3_code
abbrev M_M_fieldOf : jR := (y_M_fieldOf, b_M_fieldOf, 4, (some .int), [])
def y_M_insert : MethodName := ⟨"BitLoomModel", "insert", "()I"⟩
abbrev b_M_insert : ByteArray := prog_13_method_9_code
abbrev M_M_insert : jR := (y_M_insert, b_M_insert, 3, (some .int), [])
def y_M_remove : MethodName := ⟨"BitLoomModel", "remove", "(I)V"⟩
abbrev b_M_remove : ByteArray := prog_13_method_10_code
abbrev M_M_remove : jR := (y_M_remove, b_M_remove, 2, (none), [])
def y_M_isWord : MethodName := ⟨"BitLoomModel", "isWord", "(I)Z"⟩
abbrev b_M_isWord : ByteArray := prog_13_method_5_code
abbrev M_M_isWord : jR := (y_M_isWord, b_M_isWord, 1, (some .boolean), [])
def y_M_put : MethodName := ⟨"BitLoomModel", "put", "(ICI)V"⟩
abbrev b_M_put : ByteArray := prog_13_method_11_code
abbrev M_M_put : jR := (y_M_put, b_M_put, 5, (none), [])
def y_M_fits : MethodName := ⟨"BitLoomModel", "fits", "(II)Z"⟩
abbrev b_M_fits : ByteArray := prog_13_method_7_code
abbrev M_M_fits : jR := (y_M_fits, b_M_fits, 4, (some .boolean), [])
def y_M_setValue : MethodName := ⟨"BitLoomModel", "setValue", "(III)V"⟩
abbrev b_M_setValue : ByteArray := prog_13_method_8_code
abbrev M_M_setValue : jR := (y_M_setValue, b_M_setValue, 5, (none), [])
def y_M_get : MethodName := ⟨"BitLoomModel", "get", "(IC)I"⟩
abbrev b_M_get : ByteArray := prog_13_method_12_code
abbrev M_M_get : jR := (y_M_get, b_M_get, 4, (some .int), [])
def y_M_valueOf : MethodName := ⟨"BitLoomModel", "valueOf", "(II)I"⟩
abbrev b_M_valueOf : ByteArray := prog_13_method_6_code
abbrev M_M_valueOf : jR := (y_M_valueOf, b_M_valueOf, 7, (some .int), [])
def y_M_bit : MethodName := ⟨"BitLoomModel", "bit", "(II)Z"⟩
abbrev b_M_bit : ByteArray := prog_13_method_13_code
abbrev M_M_bit : jR := (y_M_bit, b_M_bit, 3, (some .boolean), [])
def y_M_search : MethodName := ⟨"BitLoomModel", "search", "(IIZ)I"⟩
abbrev b_M_search : ByteArray := prog_13_method_14_code
abbrev M_M_search : jR := (y_M_search, b_M_search, 6, (some .int), [])
def y_M_multi : MethodName := ⟨"BitLoomModel", "multi", "(II)V"⟩
abbrev b_M_multi : ByteArray := prog_13_method_15_code
abbrev M_M_multi : jR := (y_M_multi, b_M_multi, 4, (none), [])
def y_M_responds : MethodName := ⟨"BitLoomModel", "responds", "(I)Z"⟩
abbrev b_M_responds : ByteArray := prog_13_method_16_code
abbrev M_M_responds : jR := (y_M_responds, b_M_responds, 2, (some .boolean), [])
def y_M_first : MethodName := ⟨"BitLoomModel", "first", "()I"⟩
abbrev b_M_first : ByteArray := prog_13_method_17_code
abbrev M_M_first : jR := (y_M_first, b_M_first, 2, (some .int), [])
def y_M_write : MethodName := ⟨"BitLoomModel", "write", "(J)Z"⟩
abbrev b_M_write : ByteArray := prog_13_method_18_code
abbrev M_M_write : jR := (y_M_write, b_M_write, 6, (some .boolean), [])
def y_M_wipe : MethodName := ⟨"BitLoomModel", "wipe", "()I"⟩
abbrev b_M_wipe : ByteArray := prog_13_method_19_code
abbrev M_M_wipe : jR := (y_M_wipe, b_M_wipe, 2, (some .int), [])
def y_M_run : MethodName := ⟨"BitLoomModel", "run", "()I"⟩
abbrev b_M_run : ByteArray := prog_13_method_54_code
abbrev M_M_run : jR := (y_M_run, b_M_run, 5, (some .int), [])
def y_M_readText : MethodName := ⟨"BitLoomModel", "readText", "()I"⟩
abbrev b_M_readText : ByteArray := prog_13_method_46_code
abbrev M_M_readText : jR := (y_M_readText, b_M_readText, 3, (some .int), [])
def y_M_scan : MethodName := ⟨"BitLoomModel", "scan", "(I)V"⟩
abbrev b_M_scan : ByteArray := prog_13_method_24_code
abbrev M_M_scan : jR := (y_M_scan, b_M_scan, 3, (none), [])
def y_M_see : MethodName := ⟨"BitLoomModel", "see", "(I)C"⟩
abbrev b_M_see : ByteArray := prog_13_method_23_code
abbrev M_M_see : jR := (y_M_see, b_M_see, 2, (some .char), [])
def y_M_isLetter : MethodName := ⟨"BitLoomModel", "isLetter", "(C)Z"⟩
abbrev b_M_isLetter : ByteArray := prog_13_method_20_code
abbrev M_M_isLetter : jR := (y_M_isLetter, b_M_isLetter, 1, (some .boolean), [])
def y_M_isDigit : MethodName := ⟨"BitLoomModel", "isDigit", "(C)Z"⟩
abbrev b_M_isDigit : ByteArray := prog_13_method_21_code
abbrev M_M_isDigit : jR := (y_M_isDigit, b_M_isDigit, 1, (some .boolean), [])
def y_M_isSign : MethodName := ⟨"BitLoomModel", "isSign", "(C)Z"⟩
abbrev b_M_isSign : ByteArray := prog_13_method_22_code
abbrev M_M_isSign : jR := (y_M_isSign, b_M_isSign, 1, (some .boolean), [])
def y_M_next : MethodName := ⟨"BitLoomModel", "next", "(I)I"⟩
abbrev b_M_next : ByteArray := prog_13_method_45_code
abbrev M_M_next : jR := (y_M_next, b_M_next, 2, (some .int), [])
def y_M_start : MethodName := ⟨"BitLoomModel", "start", "()I"⟩
abbrev b_M_start : ByteArray := prog_13_method_33_code
abbrev M_M_start : jR := (y_M_start, b_M_start, 1, (some .int), [])
def y_M_emit : MethodName := ⟨"BitLoomModel", "emit", "(II)V"⟩
abbrev b_M_emit : ByteArray := prog_13_method_28_code
abbrev M_M_emit : jR := (y_M_emit, b_M_emit, 3, (none), [])
def y_M_act : MethodName := ⟨"BitLoomModel", "act", "()I"⟩
abbrev b_M_act : ByteArray := prog_13_method_32_code
abbrev M_M_act : jR := (y_M_act, b_M_act, 1, (some .int), [])
def y_M_actionOf : MethodName := ⟨"BitLoomModel", "actionOf", "(J)I"⟩
abbrev b_M_actionOf : ByteArray := prog_13_method_27_code
abbrev M_M_actionOf : jR := (y_M_actionOf, b_M_actionOf, 2, (some .int), [])
def y_M_one : MethodName := ⟨"BitLoomModel", "one", "()I"⟩
abbrev b_M_one : ByteArray := prog_13_method_34_code
abbrev M_M_one : jR := (y_M_one, b_M_one, 1, (some .int), [])
def y_M_isIt : MethodName := ⟨"BitLoomModel", "isIt", "(C)Z"⟩
abbrev b_M_isIt : ByteArray := prog_13_method_25_code
abbrev M_M_isIt : jR := (y_M_isIt, b_M_isIt, 2, (some .boolean), [])
def y_M_push : MethodName := ⟨"BitLoomModel", "push", "(I)V"⟩
abbrev b_M_push : ByteArray := prog_13_method_30_code
abbrev M_M_push : jR := (y_M_push, b_M_push, 2, (none), [])
def y_M_operand : MethodName := ⟨"BitLoomModel", "operand", "(II)I"⟩
abbrev b_M_operand : ByteArray := prog_13_method_35_code
abbrev M_M_operand : jR := (y_M_operand, b_M_operand, 3, (some .int), [])
def y_M_wholeOne : MethodName := ⟨"BitLoomModel", "wholeOne", "()I"⟩
abbrev b_M_wholeOne : ByteArray := prog_13_method_38_code
abbrev M_M_wholeOne : jR := (y_M_wholeOne, b_M_wholeOne, 1, (some .int), [])
def y_M_denied : MethodName := ⟨"BitLoomModel", "denied", "()V"⟩
abbrev b_M_denied : ByteArray := prog_13_method_39_code
abbrev M_M_denied : jR := (y_M_denied, b_M_denied, 1, (none), [])
def y_M_upper : MethodName := ⟨"BitLoomModel", "upper", "()I"⟩
abbrev b_M_upper : ByteArray := prog_13_method_29_code
abbrev M_M_upper : jR := (y_M_upper, b_M_upper, 1, (some .int), [])
def y_M_named : MethodName := ⟨"BitLoomModel", "named", "()I"⟩
abbrev b_M_named : ByteArray := prog_13_method_26_code
abbrev M_M_named : jR := (y_M_named, b_M_named, 1, (some .int), [])
def y_M_negative : MethodName := ⟨"BitLoomModel", "negative", "(I)I"⟩
abbrev b_M_negative : ByteArray := prog_13_method_36_code
abbrev M_M_negative : jR := (y_M_negative, b_M_negative, 2, (some .int), [])
def y_M_relate : MethodName := ⟨"BitLoomModel", "relate", "()I"⟩
abbrev b_M_relate : ByteArray := prog_13_method_37_code
abbrev M_M_relate : jR := (y_M_relate, b_M_relate, 1, (some .int), [])
def y_M_afterOne : MethodName := ⟨"BitLoomModel", "afterOne", "()I"⟩
abbrev b_M_afterOne : ByteArray := prog_13_method_40_code
abbrev M_M_afterOne : jR := (y_M_afterOne, b_M_afterOne, 1, (some .int), [])
def y_M_settle : MethodName := ⟨"BitLoomModel", "settle", "(II)V"⟩
abbrev b_M_settle : ByteArray := prog_13_method_31_code
abbrev M_M_settle : jR := (y_M_settle, b_M_settle, 3, (none), [])
def y_M_pick : MethodName := ⟨"BitLoomModel", "pick", "(I)I"⟩
abbrev b_M_pick : ByteArray := prog_13_method_41_code
abbrev M_M_pick : jR := (y_M_pick, b_M_pick, 2, (some .int), [])
def y_M_part : MethodName := ⟨"BitLoomModel", "part", "(ZZII)I"⟩
abbrev b_M_part : ByteArray := prog_13_method_42_code
abbrev M_M_part : jR := (y_M_part, b_M_part, 7, (some .int), [])
def y_M_afterFirst : MethodName := ⟨"BitLoomModel", "afterFirst", "()I"⟩
abbrev b_M_afterFirst : ByteArray := prog_13_method_43_code
abbrev M_M_afterFirst : jR := (y_M_afterFirst, b_M_afterFirst, 1, (some .int), [])
def y_M_afterChange : MethodName := ⟨"BitLoomModel", "afterChange", "()I"⟩
abbrev b_M_afterChange : ByteArray := prog_13_method_44_code
abbrev M_M_afterChange : jR := (y_M_afterChange, b_M_afterChange, 1, (some .int), [])
def y_M_isTaken : MethodName := ⟨"BitLoomModel", "isTaken", "(I)Z"⟩
abbrev b_M_isTaken : ByteArray := prog_13_method_48_code
abbrev M_M_isTaken : jR := (y_M_isTaken, b_M_isTaken, 4, (some .boolean), [])
def y_M_reckon : MethodName := ⟨"BitLoomModel", "reckon", "(III)I"⟩
abbrev b_M_reckon : ByteArray := prog_13_method_47_code
abbrev M_M_reckon : jR := (y_M_reckon, b_M_reckon, 3, (some .int), [])
def y_M_changeAll : MethodName := ⟨"BitLoomModel", "changeAll", "()I"⟩
abbrev b_M_changeAll : ByteArray := prog_13_method_51_code
abbrev M_M_changeAll : jR := (y_M_changeAll, b_M_changeAll, 4, (some .int), [])
def y_M_change : MethodName := ⟨"BitLoomModel", "change", "(I)Z"⟩
abbrev b_M_change : ByteArray := prog_13_method_50_code
abbrev M_M_change : jR := (y_M_change, b_M_change, 4, (some .boolean), [])
def y_M_resultOf : MethodName := ⟨"BitLoomModel", "resultOf", "(II)I"⟩
abbrev b_M_resultOf : ByteArray := prog_13_method_49_code
abbrev M_M_resultOf : jR := (y_M_resultOf, b_M_resultOf, 5, (some .int), [])
def y_M_listAll : MethodName := ⟨"BitLoomModel", "listAll", "()I"⟩
abbrev b_M_listAll : ByteArray := prog_13_method_52_code
abbrev M_M_listAll : jR := (y_M_listAll, b_M_listAll, 3, (some .int), [])
def y_M_gather : MethodName := ⟨"BitLoomModel", "gather", "()I"⟩
abbrev b_M_gather : ByteArray := prog_13_method_53_code
abbrev M_M_gather : jR := (y_M_gather, b_M_gather, 6, (some .int), [])
def y_M_place : MethodName := ⟨"BitLoomModel", "place", "()I"⟩
abbrev b_M_place : ByteArray := prog_13_method_55_code
abbrev M_M_place : jR := (y_M_place, b_M_place, 1, (some .int), [])
def y_M_refused : MethodName := ⟨"BitLoomModel", "refused", "()I"⟩
abbrev b_M_refused : ByteArray := prog_13_method_56_code
abbrev M_M_refused : jR := (y_M_refused, b_M_refused, 1, (some .int), [])
def y_M_listed : MethodName := ⟨"BitLoomModel", "listed", "(I)I"⟩
abbrev b_M_listed : ByteArray := prog_13_method_57_code
abbrev M_M_listed : jR := (y_M_listed, b_M_listed, 2, (some .int), [])
def y_L_field : MethodName := ⟨"BitLoomLaw", "field", "(LBitLoom;CIIZ)I"⟩
abbrev b_L_field : ByteArray := method_3_code
abbrev M_L_field : jR := (y_L_field, b_L_field, 6, (some .int), [(0, 9, 12, 13), (0, 9, 16, 15)])
def y_L_insert : MethodName := ⟨"BitLoomLaw", "insert", "(LBitLoom;[J)I"⟩
abbrev b_L_insert : ByteArray := method_4_code
abbrev M_L_insert : jR := (y_L_insert, b_L_insert, 3, (some .int), [(0, 8, 11, 21)])
def y_L_remove : MethodName := ⟨"BitLoomLaw", "remove", "(LBitLoom;I)I"⟩
abbrev b_L_remove : ByteArray := method_5_code
abbrev M_L_remove : jR := (y_L_remove, b_L_remove, 3, (some .int), [(0, 5, 8, 13), (0, 5, 11, 21)])
def y_L_put : MethodName := ⟨"BitLoomLaw", "put", "(LBitLoom;ICI)I"⟩
abbrev b_L_put : ByteArray := method_6_code
abbrev M_L_put : jR := (y_L_put, b_L_put, 5, (some .int), [(0, 7, 10, 13), (0, 7, 14, 21), (0, 7, 18, 15)])
def y_L_get : MethodName := ⟨"BitLoomLaw", "get", "(LBitLoom;IC[J)I"⟩
abbrev b_L_get : ByteArray := method_7_code
abbrev M_L_get : jR := (y_L_get, b_L_get, 5, (some .int), [(0, 10, 13, 13), (0, 10, 17, 21)])
def y_L_bit : MethodName := ⟨"BitLoomLaw", "bit", "(LBitLoom;II[J)I"⟩
abbrev b_L_bit : ByteArray := method_8_code
abbrev M_L_bit : jR := (y_L_bit, b_L_bit, 5, (some .int), [(0, 17, 20, 13)])
def y_L_multi : MethodName := ⟨"BitLoomLaw", "multi", "(LBitLoom;II)I"⟩
abbrev b_L_multi : ByteArray := method_9_code
abbrev M_L_multi : jR := (y_L_multi, b_L_multi, 4, (some .int), [(0, 6, 9, 13)])
def y_L_responds : MethodName := ⟨"BitLoomLaw", "responds", "(LBitLoom;I[J)I"⟩
abbrev b_L_responds : ByteArray := method_10_code
abbrev M_L_responds : jR := (y_L_responds, b_L_responds, 4, (some .int), [(0, 16, 19, 13)])
def y_L_run : MethodName := ⟨"BitLoomLaw", "run", "(LBitLoom;[J)I"⟩
abbrev b_L_run : ByteArray := method_11_code
abbrev M_L_run : jR := (y_L_run, b_L_run, 3, (some .int), [(0, 8, 11, 13), (0, 8, 14, 21)])
def y_L_listed : MethodName := ⟨"BitLoomLaw", "listed", "(LBitLoom;I[J)I"⟩
abbrev b_L_listed : ByteArray := method_12_code
abbrev M_L_listed : jR := (y_L_listed, b_L_listed, 4, (some .int), [(0, 9, 12, 54)])
def y_L_law : MethodName := ⟨"BitLoomLaw", "law", "([I)Z"⟩
abbrev b_L_law : ByteArray := code
abbrev M_L_law : jR := (y_L_law, b_L_law, 7, (some .boolean), [])
end
section
theorem d_F_init_0 : decode b_F_init 0 = .ok (.aload_n 0, 1) := by decide +kernel
theorem d_F_init_1 : decode b_F_init 1 = .ok (.invokespecial 3, 3) := by decide +kernel
theorem d_F_init_4 : decode b_F_init 4 = .ok (.aload_n 0, 1) := by decide +kernel
theorem d_F_init_5 : decode b_F_init 5 = .ok (.bipush 6, 2) := by decide +kernel
theorem d_F_init_7 : decode b_F_init 7 = .ok (.newarray .char, 2) := by decide +kernel
theorem d_F_init_9 : decode b_F_init 9 = .ok (.putfield 9, 3) := by decide +kernel
theorem d_F_init_12 : decode b_F_init 12 = .ok (.aload_n 0, 1) := by decide +kernel
theorem d_F_init_13 : decode b_F_init 13 = .ok (.bipush 6, 2) := by decide +kernel
theorem d_F_init_15 : decode b_F_init 15 = .ok (.newarray .int, 2) := by decide +kernel
theorem d_F_init_17 : decode b_F_init 17 = .ok (.putfield 15, 3) := by decide +kernel
theorem d_F_init_20 : decode b_F_init 20 = .ok (.aload_n 0, 1) := by decide +kernel
theorem d_F_init_21 : decode b_F_init 21 = .ok (.bipush 6, 2) := by decide +kernel
theorem d_F_init_23 : decode b_F_init 23 = .ok (.newarray .int, 2) := by decide +kernel
theorem d_F_init_25 : decode b_F_init 25 = .ok (.putfield 19, 3) := by decide +kernel
theorem d_F_init_28 : decode b_F_init 28 = .ok (.aload_n 0, 1) := by decide +kernel
theorem d_F_init_29 : decode b_F_init 29 = .ok (.bipush 6, 2) := by decide +kernel
theorem d_F_init_31 : decode b_F_init 31 = .ok (.newarray .boolean, 2) := by decide +kernel
theorem d_F_init_33 : decode b_F_init 33 = .ok (.putfield 22, 3) := by decide +kernel
theorem d_F_init_36 : decode b_F_init 36 = .ok (.return_, 1) := by decide +kernel
theorem d_F_isNewName_0 : decode b_F_isNewName 0 = .ok (.iload_n 1, 1) := by decide +kernel
theorem d_F_isNewName_1 : decode b_F_isNewName 1 = .ok (.bipush 97, 2) := by decide +kernel
theorem d_F_isNewName_3 : decode b_F_isNewName 3 = .ok (.if_icmp .lt 22, 3) := by decide +kernel
theorem d_F_isNewName_6 : decode b_F_isNewName 6 = .ok (.iload_n 1, 1) := by decide +kernel
theorem d_F_isNewName_7 : decode b_F_isNewName 7 = .ok (.bipush 122, 2) := by decide +kernel
theorem d_F_isNewName_9 : decode b_F_isNewName 9 = .ok (.if_icmp .gt 16, 3) := by decide +kernel
theorem d_F_isNewName_12 : decode b_F_isNewName 12 = .ok (.aload_n 0, 1) := by decide +kernel
theorem d_F_isNewName_13 : decode b_F_isNewName 13 = .ok (.iload_n 1, 1) := by decide +kernel
theorem d_F_isNewName_14 : decode b_F_isNewName 14 = .ok (.invokevirtual 30, 3) := by decide +kernel
theorem d_F_isNewName_17 : decode b_F_isNewName 17 = .ok (.iconst (-1), 1) := by decide +kernel
theorem d_F_isNewName_18 : decode b_F_isNewName 18 = .ok (.if_icmp .ne 7, 3) := by decide +kernel
theorem d_F_isNewName_21 : decode b_F_isNewName 21 = .ok (.iconst 1, 1) := by decide +kernel
theorem d_F_isNewName_22 : decode b_F_isNewName 22 = .ok (.goto 4, 3) := by decide +kernel
theorem d_F_isNewName_25 : decode b_F_isNewName 25 = .ok (.iconst 0, 1) := by decide +kernel
theorem d_F_isNewName_26 : decode b_F_isNewName 26 = .ok (.ireturn, 1) := by decide +kernel
theorem d_F_indexOf_0 : decode b_F_indexOf 0 = .ok (.iconst 0, 1) := by decide +kernel
theorem d_F_indexOf_1 : decode b_F_indexOf 1 = .ok (.istore_n 2, 1) := by decide +kernel
theorem d_F_indexOf_2 : decode b_F_indexOf 2 = .ok (.iload_n 2, 1) := by decide +kernel
theorem d_F_indexOf_3 : decode b_F_indexOf 3 = .ok (.aload_n 0, 1) := by decide +kernel
theorem d_F_indexOf_4 : decode b_F_indexOf 4 = .ok (.getfield 26, 3) := by decide +kernel
theorem d_F_indexOf_7 : decode b_F_indexOf 7 = .ok (.if_icmp .ge 21, 3) := by decide +kernel
theorem d_F_indexOf_10 : decode b_F_indexOf 10 = .ok (.aload_n 0, 1) := by decide +kernel
theorem d_F_indexOf_11 : decode b_F_indexOf 11 = .ok (.getfield 9, 3) := by decide +kernel
theorem d_F_indexOf_14 : decode b_F_indexOf 14 = .ok (.iload_n 2, 1) := by decide +kernel
theorem d_F_indexOf_15 : decode b_F_indexOf 15 = .ok (.caload, 1) := by decide +kernel
theorem d_F_indexOf_16 : decode b_F_indexOf 16 = .ok (.iload_n 1, 1) := by decide +kernel
theorem d_F_indexOf_17 : decode b_F_indexOf 17 = .ok (.if_icmp .ne 5, 3) := by decide +kernel
theorem d_F_indexOf_20 : decode b_F_indexOf 20 = .ok (.iload_n 2, 1) := by decide +kernel
theorem d_F_indexOf_21 : decode b_F_indexOf 21 = .ok (.ireturn, 1) := by decide +kernel
theorem d_F_indexOf_22 : decode b_F_indexOf 22 = .ok (.iinc 2 1, 3) := by decide +kernel
theorem d_F_indexOf_25 : decode b_F_indexOf 25 = .ok (.goto (-23), 3) := by decide +kernel
theorem d_F_indexOf_28 : decode b_F_indexOf 28 = .ok (.iconst (-1), 1) := by decide +kernel
theorem d_F_indexOf_29 : decode b_F_indexOf 29 = .ok (.ireturn, 1) := by decide +kernel
theorem d_F_isOpenGround_0 : decode b_F_isOpenGround 0 = .ok (.iload_n 1, 1) := by decide +kernel
theorem d_F_isOpenGround_1 : decode b_F_isOpenGround 1 = .ok (.ifCond .lt 20, 3) := by decide +kernel
theorem d_F_isOpenGround_4 : decode b_F_isOpenGround 4 = .ok (.iload_n 1, 1) := by decide +kernel
theorem d_F_isOpenGround_5 : decode b_F_isOpenGround 5 = .ok (.bipush 24, 2) := by decide +kernel
theorem d_F_isOpenGround_7 : decode b_F_isOpenGround 7 = .ok (.if_icmp .ge 14, 3) := by decide +kernel
theorem d_F_isOpenGround_10 : decode b_F_isOpenGround 10 = .ok (.iload_n 2, 1) := by decide +kernel
theorem d_F_isOpenGround_11 : decode b_F_isOpenGround 11 = .ok (.iconst 1, 1) := by decide +kernel
theorem d_F_isOpenGround_12 : decode b_F_isOpenGround 12 = .ok (.if_icmp .lt 9, 3) := by decide +kernel
theorem d_F_isOpenGround_15 : decode b_F_isOpenGround 15 = .ok (.iload_n 2, 1) := by decide +kernel
theorem d_F_isOpenGround_16 : decode b_F_isOpenGround 16 = .ok (.bipush 10, 2) := by decide +kernel
theorem d_F_isOpenGround_18 : decode b_F_isOpenGround 18 = .ok (.if_icmp .le 5, 3) := by decide +kernel
theorem d_F_isOpenGround_21 : decode b_F_isOpenGround 21 = .ok (.iconst 0, 1) := by decide +kernel
theorem d_F_isOpenGround_22 : decode b_F_isOpenGround 22 = .ok (.ireturn, 1) := by decide +kernel
theorem d_F_isOpenGround_23 : decode b_F_isOpenGround 23 = .ok (.iload_n 1, 1) := by decide +kernel
theorem d_F_isOpenGround_24 : decode b_F_isOpenGround 24 = .ok (.iload_n 2, 1) := by decide +kernel
theorem d_F_isOpenGround_25 : decode b_F_isOpenGround 25 = .ok (.iadd, 1) := by decide +kernel
theorem d_F_isOpenGround_26 : decode b_F_isOpenGround 26 = .ok (.bipush 24, 2) := by decide +kernel
theorem d_F_isOpenGround_28 : decode b_F_isOpenGround 28 = .ok (.if_icmp .gt 20, 3) := by decide +kernel
theorem d_F_isOpenGround_31 : decode b_F_isOpenGround 31 = .ok (.aload_n 0, 1) := by decide +kernel
theorem d_F_isOpenGround_32 : decode b_F_isOpenGround 32 = .ok (.getfield 34, 3) := by decide +kernel
theorem d_F_isOpenGround_35 : decode b_F_isOpenGround 35 = .ok (.iload_n 1, 1) := by decide +kernel
theorem d_F_isOpenGround_36 : decode b_F_isOpenGround 36 = .ok (.iload_n 2, 1) := by decide +kernel
theorem d_F_isOpenGround_37 : decode b_F_isOpenGround 37 = .ok (.invokestatic 37, 3) := by decide +kernel
theorem d_F_isOpenGround_40 : decode b_F_isOpenGround 40 = .ok (.iand, 1) := by decide +kernel
theorem d_F_isOpenGround_41 : decode b_F_isOpenGround 41 = .ok (.ifCond .ne 7, 3) := by decide +kernel
theorem d_F_isOpenGround_44 : decode b_F_isOpenGround 44 = .ok (.iconst 1, 1) := by decide +kernel
theorem d_F_isOpenGround_45 : decode b_F_isOpenGround 45 = .ok (.goto 4, 3) := by decide +kernel
theorem d_F_isOpenGround_48 : decode b_F_isOpenGround 48 = .ok (.iconst 0, 1) := by decide +kernel
theorem d_F_isOpenGround_49 : decode b_F_isOpenGround 49 = .ok (.ireturn, 1) := by decide +kernel
theorem d_F_ground_0 : decode b_F_ground 0 = .ok (.iconst 1, 1) := by decide +kernel
theorem d_F_ground_1 : decode b_F_ground 1 = .ok (.iload_n 1, 1) := by decide +kernel
theorem d_F_ground_2 : decode b_F_ground 2 = .ok (.ishl, 1) := by decide +kernel
theorem d_F_ground_3 : decode b_F_ground 3 = .ok (.iconst 1, 1) := by decide +kernel
theorem d_F_ground_4 : decode b_F_ground 4 = .ok (.isub, 1) := by decide +kernel
theorem d_F_ground_5 : decode b_F_ground 5 = .ok (.iload_n 0, 1) := by decide +kernel
theorem d_F_ground_6 : decode b_F_ground 6 = .ok (.ishl, 1) := by decide +kernel
theorem d_F_ground_7 : decode b_F_ground 7 = .ok (.ireturn, 1) := by decide +kernel
theorem d_F_isFull_0 : decode b_F_isFull 0 = .ok (.aload_n 0, 1) := by decide +kernel
theorem d_F_isFull_1 : decode b_F_isFull 1 = .ok (.getfield 26, 3) := by decide +kernel
theorem d_F_isFull_4 : decode b_F_isFull 4 = .ok (.bipush 6, 2) := by decide +kernel
theorem d_F_isFull_6 : decode b_F_isFull 6 = .ok (.if_icmp .lt 7, 3) := by decide +kernel
theorem d_F_isFull_9 : decode b_F_isFull 9 = .ok (.iconst 1, 1) := by decide +kernel
theorem d_F_isFull_10 : decode b_F_isFull 10 = .ok (.goto 4, 3) := by decide +kernel
theorem d_F_isFull_13 : decode b_F_isFull 13 = .ok (.iconst 0, 1) := by decide +kernel
theorem d_F_isFull_14 : decode b_F_isFull 14 = .ok (.ireturn, 1) := by decide +kernel
theorem d_F_append_0 : decode b_F_append 0 = .ok (.aload_n 0, 1) := by decide +kernel
theorem d_F_append_1 : decode b_F_append 1 = .ok (.getfield 9, 3) := by decide +kernel
theorem d_F_append_4 : decode b_F_append 4 = .ok (.aload_n 0, 1) := by decide +kernel
theorem d_F_append_5 : decode b_F_append 5 = .ok (.getfield 26, 3) := by decide +kernel
theorem d_F_append_8 : decode b_F_append 8 = .ok (.iload_n 1, 1) := by decide +kernel
theorem d_F_append_9 : decode b_F_append 9 = .ok (.castore, 1) := by decide +kernel
theorem d_F_append_10 : decode b_F_append 10 = .ok (.aload_n 0, 1) := by decide +kernel
theorem d_F_append_11 : decode b_F_append 11 = .ok (.getfield 15, 3) := by decide +kernel
theorem d_F_append_14 : decode b_F_append 14 = .ok (.aload_n 0, 1) := by decide +kernel
theorem d_F_append_15 : decode b_F_append 15 = .ok (.getfield 26, 3) := by decide +kernel
theorem d_F_append_18 : decode b_F_append 18 = .ok (.iload_n 2, 1) := by decide +kernel
theorem d_F_append_19 : decode b_F_append 19 = .ok (.iastore, 1) := by decide +kernel
theorem d_F_append_20 : decode b_F_append 20 = .ok (.aload_n 0, 1) := by decide +kernel
theorem d_F_append_21 : decode b_F_append 21 = .ok (.getfield 19, 3) := by decide +kernel
theorem d_F_append_24 : decode b_F_append 24 = .ok (.aload_n 0, 1) := by decide +kernel
theorem d_F_append_25 : decode b_F_append 25 = .ok (.getfield 26, 3) := by decide +kernel
theorem d_F_append_28 : decode b_F_append 28 = .ok (.iload_n 3, 1) := by decide +kernel
theorem d_F_append_29 : decode b_F_append 29 = .ok (.iastore, 1) := by decide +kernel
theorem d_F_append_30 : decode b_F_append 30 = .ok (.aload_n 0, 1) := by decide +kernel
theorem d_F_append_31 : decode b_F_append 31 = .ok (.getfield 22, 3) := by decide +kernel
theorem d_F_append_34 : decode b_F_append 34 = .ok (.aload_n 0, 1) := by decide +kernel
theorem d_F_append_35 : decode b_F_append 35 = .ok (.getfield 26, 3) := by decide +kernel
theorem d_F_append_38 : decode b_F_append 38 = .ok (.iload 4, 2) := by decide +kernel
theorem d_F_append_40 : decode b_F_append 40 = .ok (.bastore, 1) := by decide +kernel
theorem d_F_append_41 : decode b_F_append 41 = .ok (.aload_n 0, 1) := by decide +kernel
theorem d_F_append_42 : decode b_F_append 42 = .ok (.dup, 1) := by decide +kernel
theorem d_F_append_43 : decode b_F_append 43 = .ok (.getfield 26, 3) := by decide +kernel
theorem d_F_append_46 : decode b_F_append 46 = .ok (.iconst 1, 1) := by decide +kernel
theorem d_F_append_47 : decode b_F_append 47 = .ok (.iadd, 1) := by decide +kernel
theorem d_F_append_48 : decode b_F_append 48 = .ok (.putfield 26, 3) := by decide +kernel
theorem d_F_append_51 : decode b_F_append 51 = .ok (.aload_n 0, 1) := by decide +kernel
theorem d_F_append_52 : decode b_F_append 52 = .ok (.dup, 1) := by decide +kernel
theorem d_F_append_53 : decode b_F_append 53 = .ok (.getfield 34, 3) := by decide +kernel
theorem d_F_append_56 : decode b_F_append 56 = .ok (.iload_n 2, 1) := by decide +kernel
theorem d_F_append_57 : decode b_F_append 57 = .ok (.iload_n 3, 1) := by decide +kernel
theorem d_F_append_58 : decode b_F_append 58 = .ok (.invokestatic 37, 3) := by decide +kernel
theorem d_F_append_61 : decode b_F_append 61 = .ok (.ior, 1) := by decide +kernel
theorem d_F_append_62 : decode b_F_append 62 = .ok (.putfield 34, 3) := by decide +kernel
theorem d_F_append_65 : decode b_F_append 65 = .ok (.return_, 1) := by decide +kernel
theorem d_F_fits_0 : decode b_F_fits 0 = .ok (.iconst 1, 1) := by decide +kernel
theorem d_F_fits_1 : decode b_F_fits 1 = .ok (.aload_n 0, 1) := by decide +kernel
theorem d_F_fits_2 : decode b_F_fits 2 = .ok (.getfield 19, 3) := by decide +kernel
theorem d_F_fits_5 : decode b_F_fits 5 = .ok (.iload_n 1, 1) := by decide +kernel
theorem d_F_fits_6 : decode b_F_fits 6 = .ok (.iaload, 1) := by decide +kernel
theorem d_F_fits_7 : decode b_F_fits 7 = .ok (.ishl, 1) := by decide +kernel
theorem d_F_fits_8 : decode b_F_fits 8 = .ok (.istore_n 3, 1) := by decide +kernel
theorem d_F_fits_9 : decode b_F_fits 9 = .ok (.aload_n 0, 1) := by decide +kernel
theorem d_F_fits_10 : decode b_F_fits 10 = .ok (.getfield 22, 3) := by decide +kernel
theorem d_F_fits_13 : decode b_F_fits 13 = .ok (.iload_n 1, 1) := by decide +kernel
theorem d_F_fits_14 : decode b_F_fits 14 = .ok (.baload, 1) := by decide +kernel
theorem d_F_fits_15 : decode b_F_fits 15 = .ok (.ifCond .eq 10, 3) := by decide +kernel
theorem d_F_fits_18 : decode b_F_fits 18 = .ok (.iload_n 3, 1) := by decide +kernel
theorem d_F_fits_19 : decode b_F_fits 19 = .ok (.iconst 1, 1) := by decide +kernel
theorem d_F_fits_20 : decode b_F_fits 20 = .ok (.ishr, 1) := by decide +kernel
theorem d_F_fits_21 : decode b_F_fits 21 = .ok (.ineg, 1) := by decide +kernel
theorem d_F_fits_22 : decode b_F_fits 22 = .ok (.goto 4, 3) := by decide +kernel
theorem d_F_fits_25 : decode b_F_fits 25 = .ok (.iconst 0, 1) := by decide +kernel
theorem d_F_fits_26 : decode b_F_fits 26 = .ok (.istore 4, 2) := by decide +kernel
theorem d_F_fits_28 : decode b_F_fits 28 = .ok (.iload_n 2, 1) := by decide +kernel
theorem d_F_fits_29 : decode b_F_fits 29 = .ok (.iload 4, 2) := by decide +kernel
theorem d_F_fits_31 : decode b_F_fits 31 = .ok (.if_icmp .lt 15, 3) := by decide +kernel
theorem d_F_fits_34 : decode b_F_fits 34 = .ok (.iload_n 2, 1) := by decide +kernel
theorem d_F_fits_35 : decode b_F_fits 35 = .ok (.iload 4, 2) := by decide +kernel
theorem d_F_fits_37 : decode b_F_fits 37 = .ok (.iload_n 3, 1) := by decide +kernel
theorem d_F_fits_38 : decode b_F_fits 38 = .ok (.iadd, 1) := by decide +kernel
theorem d_F_fits_39 : decode b_F_fits 39 = .ok (.if_icmp .ge 7, 3) := by decide +kernel
theorem d_F_fits_42 : decode b_F_fits 42 = .ok (.iconst 1, 1) := by decide +kernel
theorem d_F_fits_43 : decode b_F_fits 43 = .ok (.goto 4, 3) := by decide +kernel
theorem d_F_fits_46 : decode b_F_fits 46 = .ok (.iconst 0, 1) := by decide +kernel
theorem d_F_fits_47 : decode b_F_fits 47 = .ok (.ireturn, 1) := by decide +kernel
theorem d_F_withValue_0 : decode b_F_withValue 0 = .ok (.aload_n 0, 1) := by decide +kernel
theorem d_F_withValue_1 : decode b_F_withValue 1 = .ok (.getfield 15, 3) := by decide +kernel
theorem d_F_withValue_4 : decode b_F_withValue 4 = .ok (.iload_n 1, 1) := by decide +kernel
theorem d_F_withValue_5 : decode b_F_withValue 5 = .ok (.iaload, 1) := by decide +kernel
theorem d_F_withValue_6 : decode b_F_withValue 6 = .ok (.aload_n 0, 1) := by decide +kernel
theorem d_F_withValue_7 : decode b_F_withValue 7 = .ok (.getfield 19, 3) := by decide +kernel
theorem d_F_withValue_10 : decode b_F_withValue 10 = .ok (.iload_n 1, 1) := by decide +kernel
theorem d_F_withValue_11 : decode b_F_withValue 11 = .ok (.iaload, 1) := by decide +kernel
theorem d_F_withValue_12 : decode b_F_withValue 12 = .ok (.invokestatic 37, 3) := by decide +kernel
theorem d_F_withValue_15 : decode b_F_withValue 15 = .ok (.istore 4, 2) := by decide +kernel
theorem d_F_withValue_17 : decode b_F_withValue 17 = .ok (.iload_n 2, 1) := by decide +kernel
theorem d_F_withValue_18 : decode b_F_withValue 18 = .ok (.iload 4, 2) := by decide +kernel
theorem d_F_withValue_20 : decode b_F_withValue 20 = .ok (.iconst (-1), 1) := by decide +kernel
theorem d_F_withValue_21 : decode b_F_withValue 21 = .ok (.ixor, 1) := by decide +kernel
theorem d_F_withValue_22 : decode b_F_withValue 22 = .ok (.iand, 1) := by decide +kernel
theorem d_F_withValue_23 : decode b_F_withValue 23 = .ok (.iload_n 3, 1) := by decide +kernel
theorem d_F_withValue_24 : decode b_F_withValue 24 = .ok (.aload_n 0, 1) := by decide +kernel
theorem d_F_withValue_25 : decode b_F_withValue 25 = .ok (.getfield 15, 3) := by decide +kernel
theorem d_F_withValue_28 : decode b_F_withValue 28 = .ok (.iload_n 1, 1) := by decide +kernel
theorem d_F_withValue_29 : decode b_F_withValue 29 = .ok (.iaload, 1) := by decide +kernel
theorem d_F_withValue_30 : decode b_F_withValue 30 = .ok (.ishl, 1) := by decide +kernel
theorem d_F_withValue_31 : decode b_F_withValue 31 = .ok (.iload 4, 2) := by decide +kernel
theorem d_F_withValue_33 : decode b_F_withValue 33 = .ok (.iand, 1) := by decide +kernel
theorem d_F_withValue_34 : decode b_F_withValue 34 = .ok (.ior, 1) := by decide +kernel
theorem d_F_withValue_35 : decode b_F_withValue 35 = .ok (.ireturn, 1) := by decide +kernel
theorem d_F_valueIn_0 : decode b_F_valueIn 0 = .ok (.iconst 1, 1) := by decide +kernel
theorem d_F_valueIn_1 : decode b_F_valueIn 1 = .ok (.aload_n 0, 1) := by decide +kernel
theorem d_F_valueIn_2 : decode b_F_valueIn 2 = .ok (.getfield 19, 3) := by decide +kernel
theorem d_F_valueIn_5 : decode b_F_valueIn 5 = .ok (.iload_n 1, 1) := by decide +kernel
theorem d_F_valueIn_6 : decode b_F_valueIn 6 = .ok (.iaload, 1) := by decide +kernel
theorem d_F_valueIn_7 : decode b_F_valueIn 7 = .ok (.ishl, 1) := by decide +kernel
theorem d_F_valueIn_8 : decode b_F_valueIn 8 = .ok (.istore_n 3, 1) := by decide +kernel
theorem d_F_valueIn_9 : decode b_F_valueIn 9 = .ok (.iload_n 2, 1) := by decide +kernel
theorem d_F_valueIn_10 : decode b_F_valueIn 10 = .ok (.aload_n 0, 1) := by decide +kernel
theorem d_F_valueIn_11 : decode b_F_valueIn 11 = .ok (.getfield 15, 3) := by decide +kernel
theorem d_F_valueIn_14 : decode b_F_valueIn 14 = .ok (.iload_n 1, 1) := by decide +kernel
theorem d_F_valueIn_15 : decode b_F_valueIn 15 = .ok (.iaload, 1) := by decide +kernel
theorem d_F_valueIn_16 : decode b_F_valueIn 16 = .ok (.iushr, 1) := by decide +kernel
theorem d_F_valueIn_17 : decode b_F_valueIn 17 = .ok (.iload_n 3, 1) := by decide +kernel
theorem d_F_valueIn_18 : decode b_F_valueIn 18 = .ok (.iconst 1, 1) := by decide +kernel
theorem d_F_valueIn_19 : decode b_F_valueIn 19 = .ok (.isub, 1) := by decide +kernel
theorem d_F_valueIn_20 : decode b_F_valueIn 20 = .ok (.iand, 1) := by decide +kernel
theorem d_F_valueIn_21 : decode b_F_valueIn 21 = .ok (.istore 4, 2) := by decide +kernel
theorem d_F_valueIn_23 : decode b_F_valueIn 23 = .ok (.aload_n 0, 1) := by decide +kernel
theorem d_F_valueIn_24 : decode b_F_valueIn 24 = .ok (.getfield 22, 3) := by decide +kernel
theorem d_F_valueIn_27 : decode b_F_valueIn 27 = .ok (.iload_n 1, 1) := by decide +kernel
theorem d_F_valueIn_28 : decode b_F_valueIn 28 = .ok (.baload, 1) := by decide +kernel
theorem d_F_valueIn_29 : decode b_F_valueIn 29 = .ok (.ifCond .eq 18, 3) := by decide +kernel
theorem d_F_valueIn_32 : decode b_F_valueIn 32 = .ok (.iload 4, 2) := by decide +kernel
theorem d_F_valueIn_34 : decode b_F_valueIn 34 = .ok (.iload_n 3, 1) := by decide +kernel
theorem d_F_valueIn_35 : decode b_F_valueIn 35 = .ok (.iconst 1, 1) := by decide +kernel
theorem d_F_valueIn_36 : decode b_F_valueIn 36 = .ok (.ishr, 1) := by decide +kernel
theorem d_F_valueIn_37 : decode b_F_valueIn 37 = .ok (.if_icmp .lt 10, 3) := by decide +kernel
theorem d_F_valueIn_40 : decode b_F_valueIn 40 = .ok (.iload 4, 2) := by decide +kernel
theorem d_F_valueIn_42 : decode b_F_valueIn 42 = .ok (.iload_n 3, 1) := by decide +kernel
theorem d_F_valueIn_43 : decode b_F_valueIn 43 = .ok (.isub, 1) := by decide +kernel
theorem d_F_valueIn_44 : decode b_F_valueIn 44 = .ok (.goto 5, 3) := by decide +kernel
theorem d_F_valueIn_47 : decode b_F_valueIn 47 = .ok (.iload 4, 2) := by decide +kernel
theorem d_F_valueIn_49 : decode b_F_valueIn 49 = .ok (.ireturn, 1) := by decide +kernel
end
section
/-! what the words say of each field, method and call, by program -/
theorem in_B : ∀ w ∈ u_ws R_B T_B 7, w ∈ jt := by
  intro w hw
  obtain ⟨k, hk, rfl⟩ := List.mem_map.mp hw
  have hk := List.mem_range.mp hk
  have key : ∀ k, k < 7 → tables_1[([222, 224, 226, 228, 230, 232, 234] : List Nat).getD k 0]? = some (u_lay R_B T_B k) ∧ j_ok (u_lay R_B T_B k) = true := by decide +kernel
  exact j_in _ (key k hk).1 (key k hk).2
theorem in_F : ∀ w ∈ u_ws R_F T_F 6, w ∈ jt := by
  intro w hw
  obtain ⟨k, hk, rfl⟩ := List.mem_map.mp hw
  have hk := List.mem_range.mp hk
  have key : ∀ k, k < 6 → tables_1[([48, 50, 52, 54, 56, 58] : List Nat).getD k 0]? = some (u_lay R_F T_F k) ∧ j_ok (u_lay R_F T_F k) = true := by decide +kernel
  exact j_in _ (key k hk).1 (key k hk).2
theorem in_W : ∀ w ∈ u_ws R_W T_W 3, w ∈ jt := by
  intro w hw
  obtain ⟨k, hk, rfl⟩ := List.mem_map.mp hw
  have hk := List.mem_range.mp hk
  have key : ∀ k, k < 3 → tables_1[([73, 75, 77] : List Nat).getD k 0]? = some (u_lay R_W T_W k) ∧ j_ok (u_lay R_W T_W k) = true := by decide +kernel
  exact j_in _ (key k hk).1 (key k hk).2
theorem in_T : ∀ w ∈ u_ws R_T T_T 2, w ∈ jt := by
  intro w hw
  obtain ⟨k, hk, rfl⟩ := List.mem_map.mp hw
  have hk := List.mem_range.mp hk
  have key : ∀ k, k < 2 → tables_1[([88, 90] : List Nat).getD k 0]? = some (u_lay R_T T_T k) ∧ j_ok (u_lay R_T T_T k) = true := by decide +kernel
  exact j_in _ (key k hk).1 (key k hk).2
theorem in_K : ∀ w ∈ u_ws R_K T_K 6, w ∈ jt := by
  intro w hw
  obtain ⟨k, hk, rfl⟩ := List.mem_map.mp hw
  have hk := List.mem_range.mp hk
  have key : ∀ k, k < 6 → tables_1[([111, 113, 115, 117, 119, 121] : List Nat).getD k 0]? = some (u_lay R_K T_K k) ∧ j_ok (u_lay R_K T_K k) = true := by decide +kernel
  exact j_in _ (key k hk).1 (key k hk).2
theorem in_O : ∀ w ∈ u_ws R_O T_O 3, w ∈ jt := by
  intro w hw
  obtain ⟨k, hk, rfl⟩ := List.mem_map.mp hw
  have hk := List.mem_range.mp hk
  have key : ∀ k, k < 3 → tables_1[([139, 141, 143] : List Nat).getD k 0]? = some (u_lay R_O T_O k) ∧ j_ok (u_lay R_O T_O k) = true := by decide +kernel
  exact j_in _ (key k hk).1 (key k hk).2
theorem in_P : ∀ w ∈ u_ws R_P T_P 3, w ∈ jt := by
  intro w hw
  obtain ⟨k, hk, rfl⟩ := List.mem_map.mp hw
  have hk := List.mem_range.mp hk
  have key : ∀ k, k < 3 → tables_1[([152, 154, 156] : List Nat).getD k 0]? = some (u_lay R_P T_P k) ∧ j_ok (u_lay R_P T_P k) = true := by decide +kernel
  exact j_in _ (key k hk).1 (key k hk).2
theorem in_C : ∀ w ∈ u_ws R_C T_C 3, w ∈ jt := by
  intro w hw
  obtain ⟨k, hk, rfl⟩ := List.mem_map.mp hw
  have hk := List.mem_range.mp hk
  have key : ∀ k, k < 3 → tables_1[([172, 174, 176] : List Nat).getD k 0]? = some (u_lay R_C T_C k) ∧ j_ok (u_lay R_C T_C k) = true := by decide +kernel
  exact j_in _ (key k hk).1 (key k hk).2
theorem in_S : ∀ w ∈ u_ws R_S T_S 11, w ∈ jt := by
  intro w hw
  obtain ⟨k, hk, rfl⟩ := List.mem_map.mp hw
  have hk := List.mem_range.mp hk
  have key : ∀ k, k < 11 → tables_1[([192, 194, 196, 198, 200, 202, 204, 206, 208, 210, 212] : List Nat).getD k 0]? = some (u_lay R_S T_S k) ∧ j_ok (u_lay R_S T_S k) = true := by decide +kernel
  exact j_in _ (key k hk).1 (key k hk).2
theorem in_M : ∀ w ∈ u_ws R_M T_M 38, w ∈ jt := by
  intro w hw
  obtain ⟨k, hk, rfl⟩ := List.mem_map.mp hw
  have hk := List.mem_range.mp hk
  have key : ∀ k, k < 38 → tables_1[([954, 956, 958, 960, 962, 964, 966, 968, 970, 972, 974, 976, 978, 980, 982, 984, 986, 988, 990, 992, 994, 996, 998, 1000, 1002, 1004, 1006, 1008, 1010, 1012, 1014, 1016, 1018, 1020, 1022, 1024, 1026, 1028] : List Nat).getD k 0]? = some (u_lay R_M T_M k) ∧ j_ok (u_lay R_M T_M k) = true := by decide +kernel
  exact j_in _ (key k hk).1 (key k hk).2
theorem f_F_9 : jF "BitLoom$Fields" 9 1 0 (.array .char) true := ⟨R_F, T_F, 6, ty_F, rfl, by decide, in_F, rfl, Or.inl (j_in 42 (by decide +kernel) rfl), tk_F, nm_F, rfl, rfl⟩
theorem g_F_9 : ∃ C T N, classes[1]? = some (C, T, N) ∧ Cond.fieldLink "BitLoom$Fields" 9 C (T 0).2.1 (T 0).2.2.1 ∈ jt := ⟨R_F, T_F, 6, rfl, j_in 42 (by decide +kernel) rfl⟩
theorem f_F_15 : jF "BitLoom$Fields" 15 1 1 (.array .int) true := ⟨R_F, T_F, 6, ty_F, rfl, by decide, in_F, rfl, Or.inl (j_in 43 (by decide +kernel) rfl), tk_F, nm_F, rfl, rfl⟩
theorem g_F_15 : ∃ C T N, classes[1]? = some (C, T, N) ∧ Cond.fieldLink "BitLoom$Fields" 15 C (T 1).2.1 (T 1).2.2.1 ∈ jt := ⟨R_F, T_F, 6, rfl, j_in 43 (by decide +kernel) rfl⟩
theorem f_F_19 : jF "BitLoom$Fields" 19 1 2 (.array .int) true := ⟨R_F, T_F, 6, ty_F, rfl, by decide, in_F, rfl, Or.inl (j_in 44 (by decide +kernel) rfl), tk_F, nm_F, rfl, rfl⟩
theorem g_F_19 : ∃ C T N, classes[1]? = some (C, T, N) ∧ Cond.fieldLink "BitLoom$Fields" 19 C (T 2).2.1 (T 2).2.2.1 ∈ jt := ⟨R_F, T_F, 6, rfl, j_in 44 (by decide +kernel) rfl⟩
theorem f_F_22 : jF "BitLoom$Fields" 22 1 3 (.array .boolean) true := ⟨R_F, T_F, 6, ty_F, rfl, by decide, in_F, rfl, Or.inl (j_in 45 (by decide +kernel) rfl), tk_F, nm_F, rfl, rfl⟩
theorem g_F_22 : ∃ C T N, classes[1]? = some (C, T, N) ∧ Cond.fieldLink "BitLoom$Fields" 22 C (T 3).2.1 (T 3).2.2.1 ∈ jt := ⟨R_F, T_F, 6, rfl, j_in 45 (by decide +kernel) rfl⟩
theorem f_F_26 : jF "BitLoom$Fields" 26 1 4 .int false := ⟨R_F, T_F, 6, ty_F, rfl, by decide, in_F, rfl, Or.inl (j_in 46 (by decide +kernel) rfl), tk_F, nm_F, rfl, rfl⟩
theorem f_F_34 : jF "BitLoom$Fields" 34 1 5 .int false := ⟨R_F, T_F, 6, ty_F, rfl, by decide, in_F, rfl, Or.inl (j_in 47 (by decide +kernel) rfl), tk_F, nm_F, rfl, rfl⟩
theorem f_W_9 : jF "BitLoom$Words" 9 2 0 (.array .int) true := ⟨R_W, T_W, 3, ty_W, rfl, by decide, in_W, rfl, Or.inl (j_in 70 (by decide +kernel) rfl), tk_W, nm_W, rfl, rfl⟩
theorem g_W_9 : ∃ C T N, classes[2]? = some (C, T, N) ∧ Cond.fieldLink "BitLoom$Words" 9 C (T 0).2.1 (T 0).2.2.1 ∈ jt := ⟨R_W, T_W, 3, rfl, j_in 70 (by decide +kernel) rfl⟩
theorem f_W_19 : jF "BitLoom$Words" 19 2 1 .int false := ⟨R_W, T_W, 3, ty_W, rfl, by decide, in_W, rfl, Or.inl (j_in 71 (by decide +kernel) rfl), tk_W, nm_W, rfl, rfl⟩
theorem f_W_23 : jF "BitLoom$Words" 23 2 2 .int false := ⟨R_W, T_W, 3, ty_W, rfl, by decide, in_W, rfl, Or.inl (j_in 72 (by decide +kernel) rfl), tk_W, nm_W, rfl, rfl⟩
theorem f_T_9 : jF "BitLoom$Text" 9 3 0 (.array .char) true := ⟨R_T, T_T, 2, ty_T, rfl, by decide, in_T, rfl, Or.inl (j_in 86 (by decide +kernel) rfl), tk_T, nm_T, rfl, rfl⟩
theorem g_T_9 : ∃ C T N, classes[3]? = some (C, T, N) ∧ Cond.fieldLink "BitLoom$Text" 9 C (T 0).2.1 (T 0).2.2.1 ∈ jt := ⟨R_T, T_T, 2, rfl, j_in 86 (by decide +kernel) rfl⟩
theorem f_T_15 : jF "BitLoom$Text" 15 3 1 .int false := ⟨R_T, T_T, 2, ty_T, rfl, by decide, in_T, rfl, Or.inl (j_in 87 (by decide +kernel) rfl), tk_T, nm_T, rfl, rfl⟩
theorem f_K_9 : jF "BitLoom$Tokens" 9 4 0 (.object "BitLoom$Text") true := ⟨R_K, T_K, 6, ty_K, rfl, by decide, in_K, rfl, Or.inl (j_in 105 (by decide +kernel) rfl), tk_K, nm_K, rfl, rfl⟩
theorem g_K_9 : ∃ C T N, classes[4]? = some (C, T, N) ∧ Cond.fieldLink "BitLoom$Tokens" 9 C (T 0).2.1 (T 0).2.2.1 ∈ jt := ⟨R_K, T_K, 6, rfl, j_in 105 (by decide +kernel) rfl⟩
theorem f_K_15 : jF "BitLoom$Tokens" 15 4 1 (.array .char) true := ⟨R_K, T_K, 6, ty_K, rfl, by decide, in_K, rfl, Or.inl (j_in 106 (by decide +kernel) rfl), tk_K, nm_K, rfl, rfl⟩
theorem g_K_15 : ∃ C T N, classes[4]? = some (C, T, N) ∧ Cond.fieldLink "BitLoom$Tokens" 15 C (T 1).2.1 (T 1).2.2.1 ∈ jt := ⟨R_K, T_K, 6, rfl, j_in 106 (by decide +kernel) rfl⟩
theorem f_K_19 : jF "BitLoom$Tokens" 19 4 2 (.array .int) true := ⟨R_K, T_K, 6, ty_K, rfl, by decide, in_K, rfl, Or.inl (j_in 107 (by decide +kernel) rfl), tk_K, nm_K, rfl, rfl⟩
theorem g_K_19 : ∃ C T N, classes[4]? = some (C, T, N) ∧ Cond.fieldLink "BitLoom$Tokens" 19 C (T 2).2.1 (T 2).2.2.1 ∈ jt := ⟨R_K, T_K, 6, rfl, j_in 107 (by decide +kernel) rfl⟩
theorem f_K_23 : jF "BitLoom$Tokens" 23 4 3 (.array .int) true := ⟨R_K, T_K, 6, ty_K, rfl, by decide, in_K, rfl, Or.inl (j_in 108 (by decide +kernel) rfl), tk_K, nm_K, rfl, rfl⟩
theorem g_K_23 : ∃ C T N, classes[4]? = some (C, T, N) ∧ Cond.fieldLink "BitLoom$Tokens" 23 C (T 3).2.1 (T 3).2.2.1 ∈ jt := ⟨R_K, T_K, 6, rfl, j_in 108 (by decide +kernel) rfl⟩
theorem f_K_26 : jF "BitLoom$Tokens" 26 4 4 .int false := ⟨R_K, T_K, 6, ty_K, rfl, by decide, in_K, rfl, Or.inl (j_in 109 (by decide +kernel) rfl), tk_K, nm_K, rfl, rfl⟩
theorem f_K_30 : jF "BitLoom$Tokens" 30 4 5 .int false := ⟨R_K, T_K, 6, ty_K, rfl, by decide, in_K, rfl, Or.inl (j_in 110 (by decide +kernel) rfl), tk_K, nm_K, rfl, rfl⟩
theorem f_O_9 : jF "BitLoom$Operand" 9 5 0 (.object "BitLoom$Fields") true := ⟨R_O, T_O, 3, ty_O, rfl, by decide, in_O, rfl, Or.inl (j_in 136 (by decide +kernel) rfl), tk_O, nm_O, rfl, rfl⟩
theorem g_O_9 : ∃ C T N, classes[5]? = some (C, T, N) ∧ Cond.fieldLink "BitLoom$Operand" 9 C (T 0).2.1 (T 0).2.2.1 ∈ jt := ⟨R_O, T_O, 3, rfl, j_in 136 (by decide +kernel) rfl⟩
theorem f_O_15 : jF "BitLoom$Operand" 15 5 1 .int false := ⟨R_O, T_O, 3, ty_O, rfl, by decide, in_O, rfl, Or.inl (j_in 137 (by decide +kernel) rfl), tk_O, nm_O, rfl, rfl⟩
theorem f_O_19 : jF "BitLoom$Operand" 19 5 2 .int false := ⟨R_O, T_O, 3, ty_O, rfl, by decide, in_O, rfl, Or.inl (j_in 138 (by decide +kernel) rfl), tk_O, nm_O, rfl, rfl⟩
theorem f_P_12 : jF "BitLoom$Pair" 12 6 0 (.object "BitLoom$Operand") true := ⟨R_P, T_P, 3, ty_P, rfl, by decide, in_P, rfl, Or.inl (j_in 146 (by decide +kernel) rfl), tk_P, nm_P, rfl, rfl⟩
theorem g_P_12 : ∃ C T N, classes[6]? = some (C, T, N) ∧ Cond.fieldLink "BitLoom$Pair" 12 C (T 0).2.1 (T 0).2.2.1 ∈ jt := ⟨R_P, T_P, 3, rfl, j_in 146 (by decide +kernel) rfl⟩
theorem f_S_139 : jF "BitLoom$Statement" 139 6 0 (.object "BitLoom$Operand") true := ⟨R_P, T_P, 3, ty_P, rfl, by decide, in_P, rfl, Or.inr ⟨"BitLoom", j_in 147 (by decide +kernel) rfl⟩, tk_P, nm_P, rfl, rfl⟩
theorem f_P_18 : jF "BitLoom$Pair" 18 6 1 (.object "BitLoom$Operand") true := ⟨R_P, T_P, 3, ty_P, rfl, by decide, in_P, rfl, Or.inl (j_in 148 (by decide +kernel) rfl), tk_P, nm_P, rfl, rfl⟩
theorem g_P_18 : ∃ C T N, classes[6]? = some (C, T, N) ∧ Cond.fieldLink "BitLoom$Pair" 18 C (T 1).2.1 (T 1).2.2.1 ∈ jt := ⟨R_P, T_P, 3, rfl, j_in 148 (by decide +kernel) rfl⟩
theorem f_S_155 : jF "BitLoom$Statement" 155 6 1 (.object "BitLoom$Operand") true := ⟨R_P, T_P, 3, ty_P, rfl, by decide, in_P, rfl, Or.inr ⟨"BitLoom", j_in 149 (by decide +kernel) rfl⟩, tk_P, nm_P, rfl, rfl⟩
theorem f_P_21 : jF "BitLoom$Pair" 21 6 2 .char false := ⟨R_P, T_P, 3, ty_P, rfl, by decide, in_P, rfl, Or.inl (j_in 150 (by decide +kernel) rfl), tk_P, nm_P, rfl, rfl⟩
theorem f_S_151 : jF "BitLoom$Statement" 151 6 2 .char false := ⟨R_P, T_P, 3, ty_P, rfl, by decide, in_P, rfl, Or.inr ⟨"BitLoom", j_in 151 (by decide +kernel) rfl⟩, tk_P, nm_P, rfl, rfl⟩
theorem f_C_7 : jF "BitLoom$Change" 7 7 0 (.object "BitLoom$Fields") true := ⟨R_C, T_C, 3, ty_C, rfl, by decide, in_C, rfl, Or.inl (j_in 167 (by decide +kernel) rfl), tk_C, nm_C, rfl, rfl⟩
theorem g_C_7 : ∃ C T N, classes[7]? = some (C, T, N) ∧ Cond.fieldLink "BitLoom$Change" 7 C (T 0).2.1 (T 0).2.2.1 ∈ jt := ⟨R_C, T_C, 3, rfl, j_in 167 (by decide +kernel) rfl⟩
theorem f_C_18 : jF "BitLoom$Change" 18 7 1 (.object "BitLoom$Pair") true := ⟨R_C, T_C, 3, ty_C, rfl, by decide, in_C, rfl, Or.inl (j_in 168 (by decide +kernel) rfl), tk_C, nm_C, rfl, rfl⟩
theorem g_C_18 : ∃ C T N, classes[7]? = some (C, T, N) ∧ Cond.fieldLink "BitLoom$Change" 18 C (T 1).2.1 (T 1).2.2.1 ∈ jt := ⟨R_C, T_C, 3, rfl, j_in 168 (by decide +kernel) rfl⟩
theorem f_S_188 : jF "BitLoom$Statement" 188 7 1 (.object "BitLoom$Pair") true := ⟨R_C, T_C, 3, ty_C, rfl, by decide, in_C, rfl, Or.inr ⟨"BitLoom", j_in 169 (by decide +kernel) rfl⟩, tk_C, nm_C, rfl, rfl⟩
theorem f_C_22 : jF "BitLoom$Change" 22 7 2 .int false := ⟨R_C, T_C, 3, ty_C, rfl, by decide, in_C, rfl, Or.inl (j_in 170 (by decide +kernel) rfl), tk_C, nm_C, rfl, rfl⟩
theorem f_S_185 : jF "BitLoom$Statement" 185 7 2 .int false := ⟨R_C, T_C, 3, ty_C, rfl, by decide, in_C, rfl, Or.inr ⟨"BitLoom", j_in 171 (by decide +kernel) rfl⟩, tk_C, nm_C, rfl, rfl⟩
theorem f_S_9 : jF "BitLoom$Statement" 9 8 0 (.object "BitLoom$Fields") true := ⟨R_S, T_S, 11, ty_S, rfl, by decide, in_S, rfl, Or.inl (j_in 181 (by decide +kernel) rfl), tk_S, nm_S, rfl, rfl⟩
theorem g_S_9 : ∃ C T N, classes[8]? = some (C, T, N) ∧ Cond.fieldLink "BitLoom$Statement" 9 C (T 0).2.1 (T 0).2.2.1 ∈ jt := ⟨R_S, T_S, 11, rfl, j_in 181 (by decide +kernel) rfl⟩
theorem f_S_15 : jF "BitLoom$Statement" 15 8 1 (.object "BitLoom$Words") true := ⟨R_S, T_S, 11, ty_S, rfl, by decide, in_S, rfl, Or.inl (j_in 182 (by decide +kernel) rfl), tk_S, nm_S, rfl, rfl⟩
theorem g_S_15 : ∃ C T N, classes[8]? = some (C, T, N) ∧ Cond.fieldLink "BitLoom$Statement" 15 C (T 1).2.1 (T 1).2.2.1 ∈ jt := ⟨R_S, T_S, 11, rfl, j_in 182 (by decide +kernel) rfl⟩
theorem f_S_24 : jF "BitLoom$Statement" 24 8 2 (.object "BitLoom$Tokens") true := ⟨R_S, T_S, 11, ty_S, rfl, by decide, in_S, rfl, Or.inl (j_in 183 (by decide +kernel) rfl), tk_S, nm_S, rfl, rfl⟩
theorem g_S_24 : ∃ C T N, classes[8]? = some (C, T, N) ∧ Cond.fieldLink "BitLoom$Statement" 24 C (T 2).2.1 (T 2).2.2.1 ∈ jt := ⟨R_S, T_S, 11, rfl, j_in 183 (by decide +kernel) rfl⟩
theorem f_S_33 : jF "BitLoom$Statement" 33 8 3 (.object "BitLoom$Pair") true := ⟨R_S, T_S, 11, ty_S, rfl, by decide, in_S, rfl, Or.inl (j_in 184 (by decide +kernel) rfl), tk_S, nm_S, rfl, rfl⟩
theorem g_S_33 : ∃ C T N, classes[8]? = some (C, T, N) ∧ Cond.fieldLink "BitLoom$Statement" 33 C (T 3).2.1 (T 3).2.2.1 ∈ jt := ⟨R_S, T_S, 11, rfl, j_in 184 (by decide +kernel) rfl⟩
theorem f_S_40 : jF "BitLoom$Statement" 40 8 4 (.object "BitLoom$Change") true := ⟨R_S, T_S, 11, ty_S, rfl, by decide, in_S, rfl, Or.inl (j_in 185 (by decide +kernel) rfl), tk_S, nm_S, rfl, rfl⟩
theorem g_S_40 : ∃ C T N, classes[8]? = some (C, T, N) ∧ Cond.fieldLink "BitLoom$Statement" 40 C (T 4).2.1 (T 4).2.2.1 ∈ jt := ⟨R_S, T_S, 11, rfl, j_in 185 (by decide +kernel) rfl⟩
theorem f_S_44 : jF "BitLoom$Statement" 44 8 5 (.object "BitLoom$Change") true := ⟨R_S, T_S, 11, ty_S, rfl, by decide, in_S, rfl, Or.inl (j_in 186 (by decide +kernel) rfl), tk_S, nm_S, rfl, rfl⟩
theorem g_S_44 : ∃ C T N, classes[8]? = some (C, T, N) ∧ Cond.fieldLink "BitLoom$Statement" 44 C (T 5).2.1 (T 5).2.2.1 ∈ jt := ⟨R_S, T_S, 11, rfl, j_in 186 (by decide +kernel) rfl⟩
theorem f_S_76 : jF "BitLoom$Statement" 76 8 6 .boolean false := ⟨R_S, T_S, 11, ty_S, rfl, by decide, in_S, rfl, Or.inl (j_in 187 (by decide +kernel) rfl), tk_S, nm_S, rfl, rfl⟩
theorem f_S_53 : jF "BitLoom$Statement" 53 8 7 (.object "BitLoom$Action") false := ⟨R_S, T_S, 11, ty_S, rfl, by decide, in_S, rfl, Or.inl (j_in 188 (by decide +kernel) rfl), tk_S, nm_S, rfl, rfl⟩
theorem f_S_63 : jF "BitLoom$Statement" 63 8 8 .int false := ⟨R_S, T_S, 11, ty_S, rfl, by decide, in_S, rfl, Or.inl (j_in 189 (by decide +kernel) rfl), tk_S, nm_S, rfl, rfl⟩
theorem f_S_60 : jF "BitLoom$Statement" 60 8 9 .int false := ⟨R_S, T_S, 11, ty_S, rfl, by decide, in_S, rfl, Or.inl (j_in 190 (by decide +kernel) rfl), tk_S, nm_S, rfl, rfl⟩
theorem f_S_56 : jF "BitLoom$Statement" 56 8 10 .int false := ⟨R_S, T_S, 11, ty_S, rfl, by decide, in_S, rfl, Or.inl (j_in 191 (by decide +kernel) rfl), tk_S, nm_S, rfl, rfl⟩
theorem f_B_12 : jF "BitLoom" 12 0 0 (.object "BitLoom$Fields") true := ⟨R_B, T_B, 7, ty_B, rfl, by decide, in_B, rfl, Or.inl (j_in 215 (by decide +kernel) rfl), tk_B, nm_B, rfl, rfl⟩
theorem g_B_12 : ∃ C T N, classes[0]? = some (C, T, N) ∧ Cond.fieldLink "BitLoom" 12 C (T 0).2.1 (T 0).2.2.1 ∈ jt := ⟨R_B, T_B, 7, rfl, j_in 215 (by decide +kernel) rfl⟩
theorem f_B_19 : jF "BitLoom" 19 0 1 (.object "BitLoom$Words") true := ⟨R_B, T_B, 7, ty_B, rfl, by decide, in_B, rfl, Or.inl (j_in 216 (by decide +kernel) rfl), tk_B, nm_B, rfl, rfl⟩
theorem g_B_19 : ∃ C T N, classes[0]? = some (C, T, N) ∧ Cond.fieldLink "BitLoom" 19 C (T 1).2.1 (T 1).2.2.1 ∈ jt := ⟨R_B, T_B, 7, rfl, j_in 216 (by decide +kernel) rfl⟩
theorem f_B_26 : jF "BitLoom" 26 0 2 (.object "BitLoom$Text") true := ⟨R_B, T_B, 7, ty_B, rfl, by decide, in_B, rfl, Or.inl (j_in 217 (by decide +kernel) rfl), tk_B, nm_B, rfl, rfl⟩
theorem g_B_26 : ∃ C T N, classes[0]? = some (C, T, N) ∧ Cond.fieldLink "BitLoom" 26 C (T 2).2.1 (T 2).2.2.1 ∈ jt := ⟨R_B, T_B, 7, rfl, j_in 217 (by decide +kernel) rfl⟩
theorem f_B_35 : jF "BitLoom" 35 0 3 (.object "BitLoom$Statement") true := ⟨R_B, T_B, 7, ty_B, rfl, by decide, in_B, rfl, Or.inl (j_in 218 (by decide +kernel) rfl), tk_B, nm_B, rfl, rfl⟩
theorem g_B_35 : ∃ C T N, classes[0]? = some (C, T, N) ∧ Cond.fieldLink "BitLoom" 35 C (T 3).2.1 (T 3).2.2.1 ∈ jt := ⟨R_B, T_B, 7, rfl, j_in 218 (by decide +kernel) rfl⟩
theorem f_B_39 : jF "BitLoom" 39 0 4 (.array .int) true := ⟨R_B, T_B, 7, ty_B, rfl, by decide, in_B, rfl, Or.inl (j_in 219 (by decide +kernel) rfl), tk_B, nm_B, rfl, rfl⟩
theorem g_B_39 : ∃ C T N, classes[0]? = some (C, T, N) ∧ Cond.fieldLink "BitLoom" 39 C (T 4).2.1 (T 4).2.2.1 ∈ jt := ⟨R_B, T_B, 7, rfl, j_in 219 (by decide +kernel) rfl⟩
theorem f_B_169 : jF "BitLoom" 169 0 5 .int false := ⟨R_B, T_B, 7, ty_B, rfl, by decide, in_B, rfl, Or.inl (j_in 220 (by decide +kernel) rfl), tk_B, nm_B, rfl, rfl⟩
theorem f_B_165 : jF "BitLoom" 165 0 6 .int false := ⟨R_B, T_B, 7, ty_B, rfl, by decide, in_B, rfl, Or.inl (j_in 221 (by decide +kernel) rfl), tk_B, nm_B, rfl, rfl⟩
theorem f_M_73 : jF "BitLoomModel" 73 9 0 .int false := ⟨R_M, T_M, 38, ty_M, rfl, by decide, in_M, rfl, Or.inl (j_in 916 (by decide +kernel) rfl), tk_M, nm_M, rfl, rfl⟩
theorem f_M_7 : jF "BitLoomModel" 7 9 1 (.array .boolean) true := ⟨R_M, T_M, 38, ty_M, rfl, by decide, in_M, rfl, Or.inl (j_in 917 (by decide +kernel) rfl), tk_M, nm_M, rfl, rfl⟩
theorem g_M_7 : ∃ C T N, classes[9]? = some (C, T, N) ∧ Cond.fieldLink "BitLoomModel" 7 C (T 1).2.1 (T 1).2.2.1 ∈ jt := ⟨R_M, T_M, 38, rfl, j_in 917 (by decide +kernel) rfl⟩
theorem f_M_13 : jF "BitLoomModel" 13 9 2 (.array .int) true := ⟨R_M, T_M, 38, ty_M, rfl, by decide, in_M, rfl, Or.inl (j_in 918 (by decide +kernel) rfl), tk_M, nm_M, rfl, rfl⟩
theorem g_M_13 : ∃ C T N, classes[9]? = some (C, T, N) ∧ Cond.fieldLink "BitLoomModel" 13 C (T 2).2.1 (T 2).2.2.1 ∈ jt := ⟨R_M, T_M, 38, rfl, j_in 918 (by decide +kernel) rfl⟩
theorem f_M_17 : jF "BitLoomModel" 17 9 3 (.array .boolean) true := ⟨R_M, T_M, 38, ty_M, rfl, by decide, in_M, rfl, Or.inl (j_in 919 (by decide +kernel) rfl), tk_M, nm_M, rfl, rfl⟩
theorem g_M_17 : ∃ C T N, classes[9]? = some (C, T, N) ∧ Cond.fieldLink "BitLoomModel" 17 C (T 3).2.1 (T 3).2.2.1 ∈ jt := ⟨R_M, T_M, 38, rfl, j_in 919 (by decide +kernel) rfl⟩
theorem f_M_76 : jF "BitLoomModel" 76 9 4 .int false := ⟨R_M, T_M, 38, ty_M, rfl, by decide, in_M, rfl, Or.inl (j_in 920 (by decide +kernel) rfl), tk_M, nm_M, rfl, rfl⟩
theorem f_M_20 : jF "BitLoomModel" 20 9 5 (.array .char) true := ⟨R_M, T_M, 38, ty_M, rfl, by decide, in_M, rfl, Or.inl (j_in 921 (by decide +kernel) rfl), tk_M, nm_M, rfl, rfl⟩
theorem g_M_20 : ∃ C T N, classes[9]? = some (C, T, N) ∧ Cond.fieldLink "BitLoomModel" 20 C (T 5).2.1 (T 5).2.2.1 ∈ jt := ⟨R_M, T_M, 38, rfl, j_in 921 (by decide +kernel) rfl⟩
theorem f_M_24 : jF "BitLoomModel" 24 9 6 (.array .int) true := ⟨R_M, T_M, 38, ty_M, rfl, by decide, in_M, rfl, Or.inl (j_in 922 (by decide +kernel) rfl), tk_M, nm_M, rfl, rfl⟩
theorem g_M_24 : ∃ C T N, classes[9]? = some (C, T, N) ∧ Cond.fieldLink "BitLoomModel" 24 C (T 6).2.1 (T 6).2.2.1 ∈ jt := ⟨R_M, T_M, 38, rfl, j_in 922 (by decide +kernel) rfl⟩
theorem f_M_27 : jF "BitLoomModel" 27 9 7 (.array .int) true := ⟨R_M, T_M, 38, ty_M, rfl, by decide, in_M, rfl, Or.inl (j_in 923 (by decide +kernel) rfl), tk_M, nm_M, rfl, rfl⟩
theorem g_M_27 : ∃ C T N, classes[9]? = some (C, T, N) ∧ Cond.fieldLink "BitLoomModel" 27 C (T 7).2.1 (T 7).2.2.1 ∈ jt := ⟨R_M, T_M, 38, rfl, j_in 923 (by decide +kernel) rfl⟩
theorem f_M_30 : jF "BitLoomModel" 30 9 8 (.array .boolean) true := ⟨R_M, T_M, 38, ty_M, rfl, by decide, in_M, rfl, Or.inl (j_in 924 (by decide +kernel) rfl), tk_M, nm_M, rfl, rfl⟩
theorem g_M_30 : ∃ C T N, classes[9]? = some (C, T, N) ∧ Cond.fieldLink "BitLoomModel" 30 C (T 8).2.1 (T 8).2.2.1 ∈ jt := ⟨R_M, T_M, 38, rfl, j_in 924 (by decide +kernel) rfl⟩
theorem f_M_102 : jF "BitLoomModel" 102 9 9 .int false := ⟨R_M, T_M, 38, ty_M, rfl, by decide, in_M, rfl, Or.inl (j_in 925 (by decide +kernel) rfl), tk_M, nm_M, rfl, rfl⟩
theorem f_M_33 : jF "BitLoomModel" 33 9 10 (.array .char) true := ⟨R_M, T_M, 38, ty_M, rfl, by decide, in_M, rfl, Or.inl (j_in 926 (by decide +kernel) rfl), tk_M, nm_M, rfl, rfl⟩
theorem g_M_33 : ∃ C T N, classes[9]? = some (C, T, N) ∧ Cond.fieldLink "BitLoomModel" 33 C (T 10).2.1 (T 10).2.2.1 ∈ jt := ⟨R_M, T_M, 38, rfl, j_in 926 (by decide +kernel) rfl⟩
theorem f_M_36 : jF "BitLoomModel" 36 9 11 .int false := ⟨R_M, T_M, 38, ty_M, rfl, by decide, in_M, rfl, Or.inl (j_in 927 (by decide +kernel) rfl), tk_M, nm_M, rfl, rfl⟩
theorem f_M_257 : jF "BitLoomModel" 257 9 12 .int false := ⟨R_M, T_M, 38, ty_M, rfl, by decide, in_M, rfl, Or.inl (j_in 928 (by decide +kernel) rfl), tk_M, nm_M, rfl, rfl⟩
theorem f_M_260 : jF "BitLoomModel" 260 9 13 .int false := ⟨R_M, T_M, 38, ty_M, rfl, by decide, in_M, rfl, Or.inl (j_in 929 (by decide +kernel) rfl), tk_M, nm_M, rfl, rfl⟩
theorem f_M_40 : jF "BitLoomModel" 40 9 14 (.array .int) true := ⟨R_M, T_M, 38, ty_M, rfl, by decide, in_M, rfl, Or.inl (j_in 930 (by decide +kernel) rfl), tk_M, nm_M, rfl, rfl⟩
theorem g_M_40 : ∃ C T N, classes[9]? = some (C, T, N) ∧ Cond.fieldLink "BitLoomModel" 40 C (T 14).2.1 (T 14).2.2.1 ∈ jt := ⟨R_M, T_M, 38, rfl, j_in 930 (by decide +kernel) rfl⟩
theorem f_M_132 : jF "BitLoomModel" 132 9 15 .int false := ⟨R_M, T_M, 38, ty_M, rfl, by decide, in_M, rfl, Or.inl (j_in 931 (by decide +kernel) rfl), tk_M, nm_M, rfl, rfl⟩
theorem f_M_105 : jF "BitLoomModel" 105 9 16 .int false := ⟨R_M, T_M, 38, ty_M, rfl, by decide, in_M, rfl, Or.inl (j_in 932 (by decide +kernel) rfl), tk_M, nm_M, rfl, rfl⟩
theorem f_M_112 : jF "BitLoomModel" 112 9 17 .int false := ⟨R_M, T_M, 38, ty_M, rfl, by decide, in_M, rfl, Or.inl (j_in 933 (by decide +kernel) rfl), tk_M, nm_M, rfl, rfl⟩
theorem f_M_115 : jF "BitLoomModel" 115 9 18 .int false := ⟨R_M, T_M, 38, ty_M, rfl, by decide, in_M, rfl, Or.inl (j_in 934 (by decide +kernel) rfl), tk_M, nm_M, rfl, rfl⟩
theorem f_M_118 : jF "BitLoomModel" 118 9 19 .long false := ⟨R_M, T_M, 38, ty_M, rfl, by decide, in_M, rfl, Or.inl (j_in 935 (by decide +kernel) rfl), tk_M, nm_M, rfl, rfl⟩
theorem f_M_149 : jF "BitLoomModel" 149 9 20 .int false := ⟨R_M, T_M, 38, ty_M, rfl, by decide, in_M, rfl, Or.inl (j_in 936 (by decide +kernel) rfl), tk_M, nm_M, rfl, rfl⟩
theorem f_M_43 : jF "BitLoomModel" 43 9 21 (.array .int) true := ⟨R_M, T_M, 38, ty_M, rfl, by decide, in_M, rfl, Or.inl (j_in 937 (by decide +kernel) rfl), tk_M, nm_M, rfl, rfl⟩
theorem g_M_43 : ∃ C T N, classes[9]? = some (C, T, N) ∧ Cond.fieldLink "BitLoomModel" 43 C (T 21).2.1 (T 21).2.2.1 ∈ jt := ⟨R_M, T_M, 38, rfl, j_in 937 (by decide +kernel) rfl⟩
theorem f_M_46 : jF "BitLoomModel" 46 9 22 (.array .int) true := ⟨R_M, T_M, 38, ty_M, rfl, by decide, in_M, rfl, Or.inl (j_in 938 (by decide +kernel) rfl), tk_M, nm_M, rfl, rfl⟩
theorem g_M_46 : ∃ C T N, classes[9]? = some (C, T, N) ∧ Cond.fieldLink "BitLoomModel" 46 C (T 22).2.1 (T 22).2.2.1 ∈ jt := ⟨R_M, T_M, 38, rfl, j_in 938 (by decide +kernel) rfl⟩
theorem f_M_152 : jF "BitLoomModel" 152 9 23 .int false := ⟨R_M, T_M, 38, ty_M, rfl, by decide, in_M, rfl, Or.inl (j_in 939 (by decide +kernel) rfl), tk_M, nm_M, rfl, rfl⟩
theorem f_M_49 : jF "BitLoomModel" 49 9 24 (.array .int) true := ⟨R_M, T_M, 38, ty_M, rfl, by decide, in_M, rfl, Or.inl (j_in 940 (by decide +kernel) rfl), tk_M, nm_M, rfl, rfl⟩
theorem g_M_49 : ∃ C T N, classes[9]? = some (C, T, N) ∧ Cond.fieldLink "BitLoomModel" 49 C (T 24).2.1 (T 24).2.2.1 ∈ jt := ⟨R_M, T_M, 38, rfl, j_in 940 (by decide +kernel) rfl⟩
theorem f_M_178 : jF "BitLoomModel" 178 9 25 .int false := ⟨R_M, T_M, 38, ty_M, rfl, by decide, in_M, rfl, Or.inl (j_in 941 (by decide +kernel) rfl), tk_M, nm_M, rfl, rfl⟩
theorem f_M_194 : jF "BitLoomModel" 194 9 26 .int false := ⟨R_M, T_M, 38, ty_M, rfl, by decide, in_M, rfl, Or.inl (j_in 942 (by decide +kernel) rfl), tk_M, nm_M, rfl, rfl⟩
theorem f_M_167 : jF "BitLoomModel" 167 9 27 .int false := ⟨R_M, T_M, 38, ty_M, rfl, by decide, in_M, rfl, Or.inl (j_in 943 (by decide +kernel) rfl), tk_M, nm_M, rfl, rfl⟩
theorem f_M_206 : jF "BitLoomModel" 206 9 28 .int false := ⟨R_M, T_M, 38, ty_M, rfl, by decide, in_M, rfl, Or.inl (j_in 944 (by decide +kernel) rfl), tk_M, nm_M, rfl, rfl⟩
theorem f_M_203 : jF "BitLoomModel" 203 9 29 .int false := ⟨R_M, T_M, 38, ty_M, rfl, by decide, in_M, rfl, Or.inl (j_in 945 (by decide +kernel) rfl), tk_M, nm_M, rfl, rfl⟩
theorem f_M_52 : jF "BitLoomModel" 52 9 30 (.array .int) true := ⟨R_M, T_M, 38, ty_M, rfl, by decide, in_M, rfl, Or.inl (j_in 946 (by decide +kernel) rfl), tk_M, nm_M, rfl, rfl⟩
theorem g_M_52 : ∃ C T N, classes[9]? = some (C, T, N) ∧ Cond.fieldLink "BitLoomModel" 52 C (T 30).2.1 (T 30).2.2.1 ∈ jt := ⟨R_M, T_M, 38, rfl, j_in 946 (by decide +kernel) rfl⟩
theorem f_M_55 : jF "BitLoomModel" 55 9 31 (.array .int) true := ⟨R_M, T_M, 38, ty_M, rfl, by decide, in_M, rfl, Or.inl (j_in 947 (by decide +kernel) rfl), tk_M, nm_M, rfl, rfl⟩
theorem g_M_55 : ∃ C T N, classes[9]? = some (C, T, N) ∧ Cond.fieldLink "BitLoomModel" 55 C (T 31).2.1 (T 31).2.2.1 ∈ jt := ⟨R_M, T_M, 38, rfl, j_in 947 (by decide +kernel) rfl⟩
theorem f_M_58 : jF "BitLoomModel" 58 9 32 (.array .int) true := ⟨R_M, T_M, 38, ty_M, rfl, by decide, in_M, rfl, Or.inl (j_in 948 (by decide +kernel) rfl), tk_M, nm_M, rfl, rfl⟩
theorem g_M_58 : ∃ C T N, classes[9]? = some (C, T, N) ∧ Cond.fieldLink "BitLoomModel" 58 C (T 32).2.1 (T 32).2.2.1 ∈ jt := ⟨R_M, T_M, 38, rfl, j_in 948 (by decide +kernel) rfl⟩
theorem f_M_61 : jF "BitLoomModel" 61 9 33 (.array .int) true := ⟨R_M, T_M, 38, ty_M, rfl, by decide, in_M, rfl, Or.inl (j_in 949 (by decide +kernel) rfl), tk_M, nm_M, rfl, rfl⟩
theorem g_M_61 : ∃ C T N, classes[9]? = some (C, T, N) ∧ Cond.fieldLink "BitLoomModel" 61 C (T 33).2.1 (T 33).2.2.1 ∈ jt := ⟨R_M, T_M, 38, rfl, j_in 949 (by decide +kernel) rfl⟩
theorem f_M_64 : jF "BitLoomModel" 64 9 34 (.array .int) true := ⟨R_M, T_M, 38, ty_M, rfl, by decide, in_M, rfl, Or.inl (j_in 950 (by decide +kernel) rfl), tk_M, nm_M, rfl, rfl⟩
theorem g_M_64 : ∃ C T N, classes[9]? = some (C, T, N) ∧ Cond.fieldLink "BitLoomModel" 64 C (T 34).2.1 (T 34).2.2.1 ∈ jt := ⟨R_M, T_M, 38, rfl, j_in 950 (by decide +kernel) rfl⟩
theorem f_M_67 : jF "BitLoomModel" 67 9 35 (.array .int) true := ⟨R_M, T_M, 38, ty_M, rfl, by decide, in_M, rfl, Or.inl (j_in 951 (by decide +kernel) rfl), tk_M, nm_M, rfl, rfl⟩
theorem g_M_67 : ∃ C T N, classes[9]? = some (C, T, N) ∧ Cond.fieldLink "BitLoomModel" 67 C (T 35).2.1 (T 35).2.2.1 ∈ jt := ⟨R_M, T_M, 38, rfl, j_in 951 (by decide +kernel) rfl⟩
theorem f_M_244 : jF "BitLoomModel" 244 9 36 .int false := ⟨R_M, T_M, 38, ty_M, rfl, by decide, in_M, rfl, Or.inl (j_in 952 (by decide +kernel) rfl), tk_M, nm_M, rfl, rfl⟩
theorem f_M_70 : jF "BitLoomModel" 70 9 37 (.array .int) true := ⟨R_M, T_M, 38, ty_M, rfl, by decide, in_M, rfl, Or.inl (j_in 953 (by decide +kernel) rfl), tk_M, nm_M, rfl, rfl⟩
theorem g_M_70 : ∃ C T N, classes[9]? = some (C, T, N) ∧ Cond.fieldLink "BitLoomModel" 70 C (T 37).2.1 (T 37).2.2.1 ∈ jt := ⟨R_M, T_M, 38, rfl, j_in 953 (by decide +kernel) rfl⟩
theorem i_B_init : jMI M_B_init 0 := ⟨j_in 31 (by decide +kernel) rfl, j_in 32 (by decide +kernel) rfl, rfl, rfl, rfl, j_in 1 (by decide +kernel) rfl, ⟨by decide, by decide⟩, by decide +kernel⟩
theorem i_F_init : jMI M_F_init 0 := ⟨j_in 39 (by decide +kernel) rfl, j_in 40 (by decide +kernel) rfl, rfl, rfl, rfl, j_in 2 (by decide +kernel) rfl, ⟨by decide, by decide⟩, by decide +kernel⟩
theorem i_W_init : jMI M_W_init 0 := ⟨j_in 67 (by decide +kernel) rfl, j_in 68 (by decide +kernel) rfl, rfl, rfl, rfl, j_in 3 (by decide +kernel) rfl, ⟨by decide, by decide⟩, by decide +kernel⟩
theorem i_T_init : jMI M_T_init 0 := ⟨j_in 83 (by decide +kernel) rfl, j_in 84 (by decide +kernel) rfl, rfl, rfl, rfl, j_in 4 (by decide +kernel) rfl, ⟨by decide, by decide⟩, by decide +kernel⟩
theorem i_S_init : jMI M_S_init 3 := ⟨j_in 96 (by decide +kernel) rfl, j_in 97 (by decide +kernel) rfl, rfl, rfl, rfl, j_in 5 (by decide +kernel) rfl, ⟨by decide, by decide⟩, by decide +kernel⟩
theorem i_K_init : jMI M_K_init 1 := ⟨j_in 102 (by decide +kernel) rfl, j_in 103 (by decide +kernel) rfl, rfl, rfl, rfl, j_in 6 (by decide +kernel) rfl, ⟨by decide, by decide⟩, by decide +kernel⟩
theorem i_P_init : jMI M_P_init 1 := ⟨j_in 127 (by decide +kernel) rfl, j_in 128 (by decide +kernel) rfl, rfl, rfl, rfl, j_in 7 (by decide +kernel) rfl, ⟨by decide, by decide⟩, by decide +kernel⟩
theorem i_O_init : jMI M_O_init 1 := ⟨j_in 133 (by decide +kernel) rfl, j_in 134 (by decide +kernel) rfl, rfl, rfl, rfl, j_in 8 (by decide +kernel) rfl, ⟨by decide, by decide⟩, by decide +kernel⟩
theorem i_C_init : jMI M_C_init 1 := ⟨j_in 162 (by decide +kernel) rfl, j_in 163 (by decide +kernel) rfl, rfl, rfl, rfl, j_in 9 (by decide +kernel) rfl, ⟨by decide, by decide⟩, by decide +kernel⟩
theorem v_B_search : jMV M_B_search 0 3 := ⟨j_in 238 (by decide +kernel) rfl, j_in 239 (by decide +kernel) rfl, j_in 240 (by decide +kernel) rfl, j_in 1 (by decide +kernel) rfl, ⟨by decide, by decide⟩, by decide +kernel, T_B, 7, rfl⟩
theorem v_W_responding : jMV M_W_responding 2 0 := ⟨j_in 242 (by decide +kernel) rfl, j_in 243 (by decide +kernel) rfl, j_in 244 (by decide +kernel) rfl, j_in 3 (by decide +kernel) rfl, ⟨by decide, by decide⟩, by decide +kernel, T_W, 3, rfl⟩
theorem v_W_inUse : jMV M_W_inUse 2 0 := ⟨j_in 246 (by decide +kernel) rfl, j_in 247 (by decide +kernel) rfl, j_in 248 (by decide +kernel) rfl, j_in 3 (by decide +kernel) rfl, ⟨by decide, by decide⟩, by decide +kernel, T_W, 3, rfl⟩
theorem v_W_matching : jMV M_W_matching 2 3 := ⟨j_in 250 (by decide +kernel) rfl, j_in 251 (by decide +kernel) rfl, j_in 252 (by decide +kernel) rfl, j_in 3 (by decide +kernel) rfl, ⟨by decide, by decide⟩, by decide +kernel, T_W, 3, rfl⟩
theorem s_W_holds : jMS M_W_holds 2 := ⟨j_in 254 (by decide +kernel) rfl, j_in 255 (by decide +kernel) rfl, j_in 3 (by decide +kernel) rfl, ⟨by decide, by decide⟩, by decide +kernel⟩
theorem v_W_respondOnly : jMV M_W_respondOnly 2 1 := ⟨j_in 257 (by decide +kernel) rfl, j_in 258 (by decide +kernel) rfl, j_in 259 (by decide +kernel) rfl, j_in 3 (by decide +kernel) rfl, ⟨by decide, by decide⟩, by decide +kernel, T_W, 3, rfl⟩
theorem s_JInteger_bitCount : jMS M_JInteger_bitCount 1 := ⟨j_in 261 (by decide +kernel) rfl, j_in 262 (by decide +kernel) rfl, j_in 19 (by decide +kernel) rfl, ⟨by decide, by decide⟩, by decide +kernel⟩
theorem v_B_first : jMV M_B_first 0 0 := ⟨j_in 267 (by decide +kernel) rfl, j_in 268 (by decide +kernel) rfl, j_in 269 (by decide +kernel) rfl, j_in 1 (by decide +kernel) rfl, ⟨by decide, by decide⟩, by decide +kernel, T_B, 7, rfl⟩
theorem s_W_lowestOf : jMS M_W_lowestOf 1 := ⟨j_in 271 (by decide +kernel) rfl, j_in 272 (by decide +kernel) rfl, j_in 3 (by decide +kernel) rfl, ⟨by decide, by decide⟩, by decide +kernel⟩
theorem v_B_write : jMV M_B_write 0 1 := ⟨j_in 274 (by decide +kernel) rfl, j_in 275 (by decide +kernel) rfl, j_in 276 (by decide +kernel) rfl, j_in 1 (by decide +kernel) rfl, ⟨by decide, by decide⟩, by decide +kernel, T_B, 7, rfl⟩
theorem v_T_canTake : jMV M_T_canTake 3 1 := ⟨j_in 278 (by decide +kernel) rfl, j_in 279 (by decide +kernel) rfl, j_in 280 (by decide +kernel) rfl, j_in 4 (by decide +kernel) rfl, ⟨by decide, by decide⟩, by decide +kernel, T_T, 2, rfl⟩
theorem s_T_codeOf : jMS M_T_codeOf 2 := ⟨j_in 282 (by decide +kernel) rfl, j_in 283 (by decide +kernel) rfl, j_in 4 (by decide +kernel) rfl, ⟨by decide, by decide⟩, by decide +kernel⟩
theorem v_T_append : jMV M_T_append 3 1 := ⟨j_in 286 (by decide +kernel) rfl, j_in 287 (by decide +kernel) rfl, j_in 288 (by decide +kernel) rfl, j_in 4 (by decide +kernel) rfl, ⟨by decide, by decide⟩, by decide +kernel, T_T, 2, rfl⟩
theorem v_B_wipe : jMV M_B_wipe 0 0 := ⟨j_in 290 (by decide +kernel) rfl, j_in 291 (by decide +kernel) rfl, j_in 292 (by decide +kernel) rfl, j_in 1 (by decide +kernel) rfl, ⟨by decide, by decide⟩, by decide +kernel, T_B, 7, rfl⟩
theorem v_T_length : jMV M_T_length 3 0 := ⟨j_in 294 (by decide +kernel) rfl, j_in 295 (by decide +kernel) rfl, j_in 296 (by decide +kernel) rfl, j_in 4 (by decide +kernel) rfl, ⟨by decide, by decide⟩, by decide +kernel, T_T, 2, rfl⟩
theorem v_T_clear : jMV M_T_clear 3 0 := ⟨j_in 298 (by decide +kernel) rfl, j_in 299 (by decide +kernel) rfl, j_in 300 (by decide +kernel) rfl, j_in 4 (by decide +kernel) rfl, ⟨by decide, by decide⟩, by decide +kernel, T_T, 2, rfl⟩
theorem v_B_place : jMV M_B_place 0 0 := ⟨j_in 302 (by decide +kernel) rfl, j_in 303 (by decide +kernel) rfl, j_in 304 (by decide +kernel) rfl, j_in 1 (by decide +kernel) rfl, ⟨by decide, by decide⟩, by decide +kernel, T_B, 7, rfl⟩
theorem v_S_wrongAt : jMV M_S_wrongAt 8 0 := ⟨j_in 306 (by decide +kernel) rfl, j_in 307 (by decide +kernel) rfl, j_in 308 (by decide +kernel) rfl, j_in 5 (by decide +kernel) rfl, ⟨by decide, by decide⟩, by decide +kernel, T_S, 11, rfl⟩
theorem v_B_refused : jMV M_B_refused 0 0 := ⟨j_in 310 (by decide +kernel) rfl, j_in 311 (by decide +kernel) rfl, j_in 312 (by decide +kernel) rfl, j_in 1 (by decide +kernel) rfl, ⟨by decide, by decide⟩, by decide +kernel, T_B, 7, rfl⟩
theorem v_B_field : jMV M_B_field 0 4 := ⟨j_in 319 (by decide +kernel) rfl, j_in 320 (by decide +kernel) rfl, j_in 321 (by decide +kernel) rfl, j_in 1 (by decide +kernel) rfl, ⟨by decide, by decide⟩, by decide +kernel, T_B, 7, rfl⟩
theorem v_F_isNewName : jMV M_F_isNewName 1 1 := ⟨j_in 323 (by decide +kernel) rfl, j_in 324 (by decide +kernel) rfl, j_in 325 (by decide +kernel) rfl, j_in 2 (by decide +kernel) rfl, ⟨by decide, by decide⟩, by decide +kernel, T_F, 6, rfl⟩
theorem v_F_indexOf : jMV M_F_indexOf 1 1 := ⟨j_in 327 (by decide +kernel) rfl, j_in 328 (by decide +kernel) rfl, j_in 329 (by decide +kernel) rfl, j_in 2 (by decide +kernel) rfl, ⟨by decide, by decide⟩, by decide +kernel, T_F, 6, rfl⟩
theorem v_F_isOpenGround : jMV M_F_isOpenGround 1 2 := ⟨j_in 331 (by decide +kernel) rfl, j_in 332 (by decide +kernel) rfl, j_in 333 (by decide +kernel) rfl, j_in 2 (by decide +kernel) rfl, ⟨by decide, by decide⟩, by decide +kernel, T_F, 6, rfl⟩
theorem s_F_ground : jMS M_F_ground 2 := ⟨j_in 335 (by decide +kernel) rfl, j_in 336 (by decide +kernel) rfl, j_in 2 (by decide +kernel) rfl, ⟨by decide, by decide⟩, by decide +kernel⟩
theorem v_F_isFull : jMV M_F_isFull 1 0 := ⟨j_in 402 (by decide +kernel) rfl, j_in 403 (by decide +kernel) rfl, j_in 404 (by decide +kernel) rfl, j_in 2 (by decide +kernel) rfl, ⟨by decide, by decide⟩, by decide +kernel, T_F, 6, rfl⟩
theorem v_F_append : jMV M_F_append 1 4 := ⟨j_in 421 (by decide +kernel) rfl, j_in 422 (by decide +kernel) rfl, j_in 423 (by decide +kernel) rfl, j_in 2 (by decide +kernel) rfl, ⟨by decide, by decide⟩, by decide +kernel, T_F, 6, rfl⟩
theorem v_B_insert : jMV M_B_insert 0 0 := ⟨j_in 429 (by decide +kernel) rfl, j_in 430 (by decide +kernel) rfl, j_in 431 (by decide +kernel) rfl, j_in 1 (by decide +kernel) rfl, ⟨by decide, by decide⟩, by decide +kernel, T_B, 7, rfl⟩
theorem v_W_free : jMV M_W_free 2 0 := ⟨j_in 433 (by decide +kernel) rfl, j_in 434 (by decide +kernel) rfl, j_in 435 (by decide +kernel) rfl, j_in 3 (by decide +kernel) rfl, ⟨by decide, by decide⟩, by decide +kernel, T_W, 3, rfl⟩
theorem v_W_occupy : jMV M_W_occupy 2 1 := ⟨j_in 452 (by decide +kernel) rfl, j_in 453 (by decide +kernel) rfl, j_in 454 (by decide +kernel) rfl, j_in 3 (by decide +kernel) rfl, ⟨by decide, by decide⟩, by decide +kernel, T_W, 3, rfl⟩
theorem v_B_remove : jMV M_B_remove 0 1 := ⟨j_in 459 (by decide +kernel) rfl, j_in 460 (by decide +kernel) rfl, j_in 461 (by decide +kernel) rfl, j_in 1 (by decide +kernel) rfl, ⟨by decide, by decide⟩, by decide +kernel, T_B, 7, rfl⟩
theorem v_B_requireWord : jMV M_B_requireWord 0 1 := ⟨j_in 464 (by decide +kernel) rfl, j_ip (n := 7) 1 (by decide +kernel), j_in 465 (by decide +kernel) rfl, j_in 1 (by decide +kernel) rfl, ⟨by decide, by decide⟩, by decide +kernel, T_B, 7, rfl⟩
theorem v_B_requireInUse : jMV M_B_requireInUse 0 1 := ⟨j_in 468 (by decide +kernel) rfl, j_ip (n := 7) 2 (by decide +kernel), j_in 469 (by decide +kernel) rfl, j_in 1 (by decide +kernel) rfl, ⟨by decide, by decide⟩, by decide +kernel, T_B, 7, rfl⟩
theorem v_W_release : jMV M_W_release 2 1 := ⟨j_in 472 (by decide +kernel) rfl, j_in 473 (by decide +kernel) rfl, j_in 474 (by decide +kernel) rfl, j_in 3 (by decide +kernel) rfl, ⟨by decide, by decide⟩, by decide +kernel, T_W, 3, rfl⟩
theorem v_B_put : jMV M_B_put 0 3 := ⟨j_in 479 (by decide +kernel) rfl, j_in 480 (by decide +kernel) rfl, j_in 481 (by decide +kernel) rfl, j_in 1 (by decide +kernel) rfl, ⟨by decide, by decide⟩, by decide +kernel, T_B, 7, rfl⟩
theorem v_B_requireField : jMV M_B_requireField 0 1 := ⟨j_in 484 (by decide +kernel) rfl, j_ip (n := 7) 3 (by decide +kernel), j_in 485 (by decide +kernel) rfl, j_in 1 (by decide +kernel) rfl, ⟨by decide, by decide⟩, by decide +kernel, T_B, 7, rfl⟩
theorem v_F_fits : jMV M_F_fits 1 2 := ⟨j_in 488 (by decide +kernel) rfl, j_in 489 (by decide +kernel) rfl, j_in 490 (by decide +kernel) rfl, j_in 2 (by decide +kernel) rfl, ⟨by decide, by decide⟩, by decide +kernel, T_F, 6, rfl⟩
theorem v_W_bitsOf : jMV M_W_bitsOf 2 1 := ⟨j_in 492 (by decide +kernel) rfl, j_in 493 (by decide +kernel) rfl, j_in 494 (by decide +kernel) rfl, j_in 3 (by decide +kernel) rfl, ⟨by decide, by decide⟩, by decide +kernel, T_W, 3, rfl⟩
theorem v_F_withValue : jMV M_F_withValue 1 3 := ⟨j_in 496 (by decide +kernel) rfl, j_in 497 (by decide +kernel) rfl, j_in 498 (by decide +kernel) rfl, j_in 2 (by decide +kernel) rfl, ⟨by decide, by decide⟩, by decide +kernel, T_F, 6, rfl⟩
theorem v_W_replace : jMV M_W_replace 2 2 := ⟨j_in 500 (by decide +kernel) rfl, j_in 501 (by decide +kernel) rfl, j_in 502 (by decide +kernel) rfl, j_in 3 (by decide +kernel) rfl, ⟨by decide, by decide⟩, by decide +kernel, T_W, 3, rfl⟩
theorem v_B_get : jMV M_B_get 0 2 := ⟨j_in 507 (by decide +kernel) rfl, j_in 508 (by decide +kernel) rfl, j_in 509 (by decide +kernel) rfl, j_in 1 (by decide +kernel) rfl, ⟨by decide, by decide⟩, by decide +kernel, T_B, 7, rfl⟩
theorem v_F_valueIn : jMV M_F_valueIn 1 2 := ⟨j_in 511 (by decide +kernel) rfl, j_in 512 (by decide +kernel) rfl, j_in 513 (by decide +kernel) rfl, j_in 2 (by decide +kernel) rfl, ⟨by decide, by decide⟩, by decide +kernel, T_F, 6, rfl⟩
theorem v_B_bit : jMV M_B_bit 0 2 := ⟨j_in 518 (by decide +kernel) rfl, j_in 519 (by decide +kernel) rfl, j_in 520 (by decide +kernel) rfl, j_in 1 (by decide +kernel) rfl, ⟨by decide, by decide⟩, by decide +kernel, T_B, 7, rfl⟩
theorem v_B_multi : jMV M_B_multi 0 2 := ⟨j_in 525 (by decide +kernel) rfl, j_in 526 (by decide +kernel) rfl, j_in 527 (by decide +kernel) rfl, j_in 1 (by decide +kernel) rfl, ⟨by decide, by decide⟩, by decide +kernel, T_B, 7, rfl⟩
theorem v_W_overwrite : jMV M_W_overwrite 2 3 := ⟨j_in 530 (by decide +kernel) rfl, j_in 531 (by decide +kernel) rfl, j_in 532 (by decide +kernel) rfl, j_in 3 (by decide +kernel) rfl, ⟨by decide, by decide⟩, by decide +kernel, T_W, 3, rfl⟩
theorem v_B_responds : jMV M_B_responds 0 1 := ⟨j_in 537 (by decide +kernel) rfl, j_in 538 (by decide +kernel) rfl, j_in 539 (by decide +kernel) rfl, j_in 1 (by decide +kernel) rfl, ⟨by decide, by decide⟩, by decide +kernel, T_B, 7, rfl⟩
theorem v_B_run : jMV M_B_run 0 0 := ⟨j_in 544 (by decide +kernel) rfl, j_in 545 (by decide +kernel) rfl, j_in 546 (by decide +kernel) rfl, j_in 1 (by decide +kernel) rfl, ⟨by decide, by decide⟩, by decide +kernel, T_B, 7, rfl⟩
theorem v_S_read : jMV M_S_read 8 0 := ⟨j_in 548 (by decide +kernel) rfl, j_in 549 (by decide +kernel) rfl, j_in 550 (by decide +kernel) rfl, j_in 5 (by decide +kernel) rfl, ⟨by decide, by decide⟩, by decide +kernel, T_S, 11, rfl⟩
theorem v_K_cut : jMV M_K_cut 4 0 := ⟨j_in 552 (by decide +kernel) rfl, j_in 553 (by decide +kernel) rfl, j_in 554 (by decide +kernel) rfl, j_in 6 (by decide +kernel) rfl, ⟨by decide, by decide⟩, by decide +kernel, T_K, 6, rfl⟩
theorem v_T_at : jMV M_T_at 3 1 := ⟨j_in 557 (by decide +kernel) rfl, j_in 558 (by decide +kernel) rfl, j_in 559 (by decide +kernel) rfl, j_in 4 (by decide +kernel) rfl, ⟨by decide, by decide⟩, by decide +kernel, T_T, 2, rfl⟩
theorem v_K_cutOne : jMV M_K_cutOne 4 1 := ⟨j_in 562 (by decide +kernel) rfl, j_ip (n := 6) 4 (by decide +kernel), j_in 563 (by decide +kernel) rfl, j_in 6 (by decide +kernel) rfl, ⟨by decide, by decide⟩, by decide +kernel, T_K, 6, rfl⟩
theorem s_K_isBetween : jMS M_K_isBetween 3 := ⟨j_in 565 (by decide +kernel) rfl, j_in 566 (by decide +kernel) rfl, j_in 6 (by decide +kernel) rfl, ⟨by decide, by decide⟩, by decide +kernel⟩
theorem v_K_endOf : jMV M_K_endOf 4 3 := ⟨j_in 569 (by decide +kernel) rfl, j_ip (n := 6) 5 (by decide +kernel), j_in 570 (by decide +kernel) rfl, j_in 6 (by decide +kernel) rfl, ⟨by decide, by decide⟩, by decide +kernel, T_K, 6, rfl⟩
theorem v_K_append : jMV M_K_append 4 3 := ⟨j_in 573 (by decide +kernel) rfl, j_ip (n := 6) 6 (by decide +kernel), j_in 574 (by decide +kernel) rfl, j_in 6 (by decide +kernel) rfl, ⟨by decide, by decide⟩, by decide +kernel, T_K, 6, rfl⟩
theorem s_JStringLatin1_indexOf : jMS M_JStringLatin1_indexOf 4 := ⟨j_in 599 (by decide +kernel) rfl, j_in 600 (by decide +kernel) rfl, j_in 21 (by decide +kernel) rfl, ⟨by decide, by decide⟩, by decide +kernel⟩
theorem s_JStringLatin1_canEncode : jMS M_JStringLatin1_canEncode 1 := ⟨j_in 602 (by decide +kernel) rfl, j_in 603 (by decide +kernel) rfl, j_in 21 (by decide +kernel) rfl, ⟨by decide, by decide⟩, by decide +kernel⟩
theorem s_JMath_max : jMS M_JMath_max 2 := ⟨j_in 605 (by decide +kernel) rfl, j_in 606 (by decide +kernel) rfl, j_in 22 (by decide +kernel) rfl, ⟨by decide, by decide⟩, by decide +kernel⟩
theorem s_JMath_min : jMS M_JMath_min 2 := ⟨j_in 608 (by decide +kernel) rfl, j_in 609 (by decide +kernel) rfl, j_in 22 (by decide +kernel) rfl, ⟨by decide, by decide⟩, by decide +kernel⟩
theorem s_JStringLatin1_indexOfChar : jMS M_JStringLatin1_indexOfChar 4 := ⟨j_in 611 (by decide +kernel) rfl, j_in 612 (by decide +kernel) rfl, j_in 21 (by decide +kernel) rfl, ⟨by decide, by decide⟩, by decide +kernel⟩
theorem v_K_isWord : jMV M_K_isWord 4 1 := ⟨j_in 665 (by decide +kernel) rfl, j_in 666 (by decide +kernel) rfl, j_in 667 (by decide +kernel) rfl, j_in 6 (by decide +kernel) rfl, ⟨by decide, by decide⟩, by decide +kernel, T_K, 6, rfl⟩
theorem s_JStringLatin1_charAt : jMS M_JStringLatin1_charAt 2 := ⟨j_in 674 (by decide +kernel) rfl, j_in 675 (by decide +kernel) rfl, j_in 21 (by decide +kernel) rfl, ⟨by decide, by decide⟩, by decide +kernel⟩
theorem s_JString_checkIndex : jMS M_JString_checkIndex 2 := ⟨j_in 677 (by decide +kernel) rfl, j_in 678 (by decide +kernel) rfl, j_in 20 (by decide +kernel) rfl, ⟨by decide, by decide⟩, by decide +kernel⟩
theorem s_JPreconditions_checkIndex : jMS M_JPreconditions_checkIndex 3 := ⟨j_in 680 (by decide +kernel) rfl, j_in 681 (by decide +kernel) rfl, j_in 24 (by decide +kernel) rfl, ⟨by decide, by decide⟩, by decide +kernel⟩
theorem v_K_advance : jMV M_K_advance 4 0 := ⟨j_in 690 (by decide +kernel) rfl, j_in 691 (by decide +kernel) rfl, j_in 692 (by decide +kernel) rfl, j_in 6 (by decide +kernel) rfl, ⟨by decide, by decide⟩, by decide +kernel, T_K, 6, rfl⟩
theorem v_S_readCondition : jMV M_S_readCondition 8 1 := ⟨j_in 695 (by decide +kernel) rfl, j_ip (n := 11) 7 (by decide +kernel), j_in 696 (by decide +kernel) rfl, j_in 5 (by decide +kernel) rfl, ⟨by decide, by decide⟩, by decide +kernel, T_S, 11, rfl⟩
theorem v_S_readClause : jMV M_S_readClause 8 1 := ⟨j_in 699 (by decide +kernel) rfl, j_ip (n := 11) 8 (by decide +kernel), j_in 700 (by decide +kernel) rfl, j_in 5 (by decide +kernel) rfl, ⟨by decide, by decide⟩, by decide +kernel, T_S, 11, rfl⟩
theorem v_S_readOne : jMV M_S_readOne 8 1 := ⟨j_in 703 (by decide +kernel) rfl, j_ip (n := 11) 9 (by decide +kernel), j_in 704 (by decide +kernel) rfl, j_in 5 (by decide +kernel) rfl, ⟨by decide, by decide⟩, by decide +kernel, T_S, 11, rfl⟩
theorem v_K_isSign : jMV M_K_isSign 4 1 := ⟨j_in 706 (by decide +kernel) rfl, j_in 707 (by decide +kernel) rfl, j_in 708 (by decide +kernel) rfl, j_in 6 (by decide +kernel) rfl, ⟨by decide, by decide⟩, by decide +kernel, T_K, 6, rfl⟩
theorem v_S_readComparison : jMV M_S_readComparison 8 0 := ⟨j_in 711 (by decide +kernel) rfl, j_ip (n := 11) 10 (by decide +kernel), j_in 712 (by decide +kernel) rfl, j_in 5 (by decide +kernel) rfl, ⟨by decide, by decide⟩, by decide +kernel, T_S, 11, rfl⟩
theorem v_S_readOperand : jMV M_S_readOperand 8 1 := ⟨j_in 715 (by decide +kernel) rfl, j_ip (n := 11) 11 (by decide +kernel), j_in 716 (by decide +kernel) rfl, j_in 5 (by decide +kernel) rfl, ⟨by decide, by decide⟩, by decide +kernel, T_S, 11, rfl⟩
theorem v_K_isNumber : jMV M_K_isNumber 4 0 := ⟨j_in 718 (by decide +kernel) rfl, j_in 719 (by decide +kernel) rfl, j_in 720 (by decide +kernel) rfl, j_in 6 (by decide +kernel) rfl, ⟨by decide, by decide⟩, by decide +kernel, T_K, 6, rfl⟩
theorem v_K_number : jMV M_K_number 4 0 := ⟨j_in 722 (by decide +kernel) rfl, j_in 723 (by decide +kernel) rfl, j_in 724 (by decide +kernel) rfl, j_in 6 (by decide +kernel) rfl, ⟨by decide, by decide⟩, by decide +kernel, T_K, 6, rfl⟩
theorem v_O_becomeNumber : jMV M_O_becomeNumber 5 1 := ⟨j_in 726 (by decide +kernel) rfl, j_in 727 (by decide +kernel) rfl, j_in 728 (by decide +kernel) rfl, j_in 8 (by decide +kernel) rfl, ⟨by decide, by decide⟩, by decide +kernel, T_O, 3, rfl⟩
theorem v_S_refuse : jMV M_S_refuse 8 0 := ⟨j_in 731 (by decide +kernel) rfl, j_ip (n := 11) 12 (by decide +kernel), j_in 732 (by decide +kernel) rfl, j_in 5 (by decide +kernel) rfl, ⟨by decide, by decide⟩, by decide +kernel, T_S, 11, rfl⟩
theorem v_K_start : jMV M_K_start 4 0 := ⟨j_in 734 (by decide +kernel) rfl, j_in 735 (by decide +kernel) rfl, j_in 736 (by decide +kernel) rfl, j_in 6 (by decide +kernel) rfl, ⟨by decide, by decide⟩, by decide +kernel, T_K, 6, rfl⟩
theorem v_S_readField : jMV M_S_readField 8 0 := ⟨j_in 741 (by decide +kernel) rfl, j_ip (n := 11) 13 (by decide +kernel), j_in 742 (by decide +kernel) rfl, j_in 5 (by decide +kernel) rfl, ⟨by decide, by decide⟩, by decide +kernel, T_S, 11, rfl⟩
theorem v_K_isLetter : jMV M_K_isLetter 4 0 := ⟨j_in 744 (by decide +kernel) rfl, j_in 745 (by decide +kernel) rfl, j_in 746 (by decide +kernel) rfl, j_in 6 (by decide +kernel) rfl, ⟨by decide, by decide⟩, by decide +kernel, T_K, 6, rfl⟩
theorem v_K_letter : jMV M_K_letter 4 0 := ⟨j_in 748 (by decide +kernel) rfl, j_in 749 (by decide +kernel) rfl, j_in 750 (by decide +kernel) rfl, j_in 6 (by decide +kernel) rfl, ⟨by decide, by decide⟩, by decide +kernel, T_K, 6, rfl⟩
theorem v_O_becomeField : jMV M_O_becomeField 5 1 := ⟨j_in 753 (by decide +kernel) rfl, j_in 754 (by decide +kernel) rfl, j_in 755 (by decide +kernel) rfl, j_in 8 (by decide +kernel) rfl, ⟨by decide, by decide⟩, by decide +kernel, T_O, 3, rfl⟩
theorem v_S_readSign : jMV M_S_readSign 8 3 := ⟨j_in 758 (by decide +kernel) rfl, j_ip (n := 11) 14 (by decide +kernel), j_in 759 (by decide +kernel) rfl, j_in 5 (by decide +kernel) rfl, ⟨by decide, by decide⟩, by decide +kernel, T_S, 11, rfl⟩
theorem v_P_isTrueIn : jMV M_P_isTrueIn 6 1 := ⟨j_in 762 (by decide +kernel) rfl, j_in 763 (by decide +kernel) rfl, j_in 764 (by decide +kernel) rfl, j_in 7 (by decide +kernel) rfl, ⟨by decide, by decide⟩, by decide +kernel, T_P, 3, rfl⟩
theorem v_O_valueIn : jMV M_O_valueIn 5 1 := ⟨j_in 766 (by decide +kernel) rfl, j_in 767 (by decide +kernel) rfl, j_in 768 (by decide +kernel) rfl, j_in 8 (by decide +kernel) rfl, ⟨by decide, by decide⟩, by decide +kernel, T_O, 3, rfl⟩
theorem s_JInteger_compare : jMS M_JInteger_compare 2 := ⟨j_in 771 (by decide +kernel) rfl, j_in 772 (by decide +kernel) rfl, j_in 19 (by decide +kernel) rfl, ⟨by decide, by decide⟩, by decide +kernel⟩
theorem v_S_passSign : jMV M_S_passSign 8 1 := ⟨j_in 775 (by decide +kernel) rfl, j_ip (n := 11) 15 (by decide +kernel), j_in 776 (by decide +kernel) rfl, j_in 5 (by decide +kernel) rfl, ⟨by decide, by decide⟩, by decide +kernel, T_S, 11, rfl⟩
theorem v_S_readAction : jMV M_S_readAction 8 0 := ⟨j_in 779 (by decide +kernel) rfl, j_ip (n := 11) 16 (by decide +kernel), j_in 780 (by decide +kernel) rfl, j_in 5 (by decide +kernel) rfl, ⟨by decide, by decide⟩, by decide +kernel, T_S, 11, rfl⟩
theorem v_S_readVerb : jMV M_S_readVerb 8 0 := ⟨j_in 783 (by decide +kernel) rfl, j_ip (n := 11) 17 (by decide +kernel), j_in 784 (by decide +kernel) rfl, j_in 5 (by decide +kernel) rfl, ⟨by decide, by decide⟩, by decide +kernel, T_S, 11, rfl⟩
theorem v_S_readChange : jMV M_S_readChange 8 1 := ⟨j_in 795 (by decide +kernel) rfl, j_ip (n := 11) 18 (by decide +kernel), j_in 796 (by decide +kernel) rfl, j_in 5 (by decide +kernel) rfl, ⟨by decide, by decide⟩, by decide +kernel, T_S, 11, rfl⟩
theorem v_K_isEnd : jMV M_K_isEnd 4 0 := ⟨j_in 798 (by decide +kernel) rfl, j_in 799 (by decide +kernel) rfl, j_in 800 (by decide +kernel) rfl, j_in 6 (by decide +kernel) rfl, ⟨by decide, by decide⟩, by decide +kernel, T_K, 6, rfl⟩
theorem v_S_lacksWord : jMV M_S_lacksWord 8 0 := ⟨j_in 802 (by decide +kernel) rfl, j_in 803 (by decide +kernel) rfl, j_in 804 (by decide +kernel) rfl, j_in 5 (by decide +kernel) rfl, ⟨by decide, by decide⟩, by decide +kernel, T_S, 11, rfl⟩
theorem v_S_taken : jMV M_S_taken 8 0 := ⟨j_in 810 (by decide +kernel) rfl, j_in 811 (by decide +kernel) rfl, j_in 812 (by decide +kernel) rfl, j_in 5 (by decide +kernel) rfl, ⟨by decide, by decide⟩, by decide +kernel, T_S, 11, rfl⟩
theorem v_B_carryOut : jMV M_B_carryOut 0 1 := ⟨j_in 815 (by decide +kernel) rfl, j_ip (n := 7) 19 (by decide +kernel), j_in 816 (by decide +kernel) rfl, j_in 1 (by decide +kernel) rfl, ⟨by decide, by decide⟩, by decide +kernel, T_B, 7, rfl⟩
theorem v_S_subject : jMV M_S_subject 8 0 := ⟨j_in 818 (by decide +kernel) rfl, j_in 819 (by decide +kernel) rfl, j_in 820 (by decide +kernel) rfl, j_in 5 (by decide +kernel) rfl, ⟨by decide, by decide⟩, by decide +kernel, T_S, 11, rfl⟩
theorem v_S_action : jMV M_S_action 8 0 := ⟨j_in 824 (by decide +kernel) rfl, j_in 825 (by decide +kernel) rfl, j_in 826 (by decide +kernel) rfl, j_in 5 (by decide +kernel) rfl, ⟨by decide, by decide⟩, by decide +kernel, T_S, 11, rfl⟩
theorem v_B_changeAll : jMV M_B_changeAll 0 1 := ⟨j_in 835 (by decide +kernel) rfl, j_ip (n := 7) 20 (by decide +kernel), j_in 836 (by decide +kernel) rfl, j_in 1 (by decide +kernel) rfl, ⟨by decide, by decide⟩, by decide +kernel, T_B, 7, rfl⟩
theorem v_S_canChange : jMV M_S_canChange 8 1 := ⟨j_in 838 (by decide +kernel) rfl, j_in 839 (by decide +kernel) rfl, j_in 840 (by decide +kernel) rfl, j_in 5 (by decide +kernel) rfl, ⟨by decide, by decide⟩, by decide +kernel, T_S, 11, rfl⟩
theorem v_C_fitsIn : jMV M_C_fitsIn 7 1 := ⟨j_in 842 (by decide +kernel) rfl, j_in 843 (by decide +kernel) rfl, j_in 844 (by decide +kernel) rfl, j_in 9 (by decide +kernel) rfl, ⟨by decide, by decide⟩, by decide +kernel, T_C, 3, rfl⟩
theorem v_P_resultIn : jMV M_P_resultIn 6 1 := ⟨j_in 846 (by decide +kernel) rfl, j_in 847 (by decide +kernel) rfl, j_in 848 (by decide +kernel) rfl, j_in 7 (by decide +kernel) rfl, ⟨by decide, by decide⟩, by decide +kernel, T_P, 3, rfl⟩
theorem v_S_changed : jMV M_S_changed 8 1 := ⟨j_in 851 (by decide +kernel) rfl, j_in 852 (by decide +kernel) rfl, j_in 853 (by decide +kernel) rfl, j_in 5 (by decide +kernel) rfl, ⟨by decide, by decide⟩, by decide +kernel, T_S, 11, rfl⟩
theorem v_C_appliedTo : jMV M_C_appliedTo 7 2 := ⟨j_in 855 (by decide +kernel) rfl, j_in 856 (by decide +kernel) rfl, j_in 857 (by decide +kernel) rfl, j_in 9 (by decide +kernel) rfl, ⟨by decide, by decide⟩, by decide +kernel, T_C, 3, rfl⟩
theorem v_B_greatest : jMV M_B_greatest 0 2 := ⟨j_in 861 (by decide +kernel) rfl, j_ip (n := 7) 21 (by decide +kernel), j_in 862 (by decide +kernel) rfl, j_in 1 (by decide +kernel) rfl, ⟨by decide, by decide⟩, by decide +kernel, T_B, 7, rfl⟩
theorem v_B_valueOf : jMV M_B_valueOf 0 2 := ⟨j_in 865 (by decide +kernel) rfl, j_ip (n := 7) 22 (by decide +kernel), j_in 866 (by decide +kernel) rfl, j_in 1 (by decide +kernel) rfl, ⟨by decide, by decide⟩, by decide +kernel, T_B, 7, rfl⟩
theorem v_B_least : jMV M_B_least 0 2 := ⟨j_in 870 (by decide +kernel) rfl, j_ip (n := 7) 23 (by decide +kernel), j_in 871 (by decide +kernel) rfl, j_in 1 (by decide +kernel) rfl, ⟨by decide, by decide⟩, by decide +kernel, T_B, 7, rfl⟩
theorem v_B_total : jMV M_B_total 0 2 := ⟨j_in 875 (by decide +kernel) rfl, j_ip (n := 7) 24 (by decide +kernel), j_in 876 (by decide +kernel) rfl, j_in 1 (by decide +kernel) rfl, ⟨by decide, by decide⟩, by decide +kernel, T_B, 7, rfl⟩
theorem v_B_listAll : jMV M_B_listAll 0 2 := ⟨j_in 879 (by decide +kernel) rfl, j_ip (n := 7) 25 (by decide +kernel), j_in 880 (by decide +kernel) rfl, j_in 1 (by decide +kernel) rfl, ⟨by decide, by decide⟩, by decide +kernel, T_B, 7, rfl⟩
theorem v_B_sortIn : jMV M_B_sortIn 0 2 := ⟨j_in 883 (by decide +kernel) rfl, j_ip (n := 7) 26 (by decide +kernel), j_in 884 (by decide +kernel) rfl, j_in 1 (by decide +kernel) rfl, ⟨by decide, by decide⟩, by decide +kernel, T_B, 7, rfl⟩
theorem v_B_listed : jMV M_B_listed 0 1 := ⟨j_in 892 (by decide +kernel) rfl, j_in 893 (by decide +kernel) rfl, j_in 894 (by decide +kernel) rfl, j_in 1 (by decide +kernel) rfl, ⟨by decide, by decide⟩, by decide +kernel, T_B, 7, rfl⟩
theorem i_M_init : jMI M_M_init 0 := ⟨j_in 913 (by decide +kernel) rfl, j_in 914 (by decide +kernel) rfl, rfl, rfl, rfl, j_in 12 (by decide +kernel) rfl, ⟨by decide, by decide⟩, by decide +kernel⟩
theorem v_M_thrown : jMV M_M_thrown 9 0 := ⟨j_in 1032 (by decide +kernel) rfl, j_in 1033 (by decide +kernel) rfl, j_in 1034 (by decide +kernel) rfl, j_in 12 (by decide +kernel) rfl, ⟨by decide, by decide⟩, by decide +kernel, T_M, 38, rfl⟩
theorem v_M_field : jMV M_M_field 9 4 := ⟨j_in 1036 (by decide +kernel) rfl, j_in 1037 (by decide +kernel) rfl, j_in 1038 (by decide +kernel) rfl, j_in 12 (by decide +kernel) rfl, ⟨by decide, by decide⟩, by decide +kernel, T_M, 38, rfl⟩
theorem v_M_fieldOf : jMV M_M_fieldOf 9 1 := ⟨j_in 1041 (by decide +kernel) rfl, j_ip (n := 38) 27 (by decide +kernel), j_in 1042 (by decide +kernel) rfl, j_in 12 (by decide +kernel) rfl, ⟨by decide, by decide⟩, by decide +kernel, T_M, 38, rfl⟩
theorem v_M_insert : jMV M_M_insert 9 0 := ⟨j_in 1044 (by decide +kernel) rfl, j_in 1045 (by decide +kernel) rfl, j_in 1046 (by decide +kernel) rfl, j_in 12 (by decide +kernel) rfl, ⟨by decide, by decide⟩, by decide +kernel, T_M, 38, rfl⟩
theorem v_M_remove : jMV M_M_remove 9 1 := ⟨j_in 1048 (by decide +kernel) rfl, j_in 1049 (by decide +kernel) rfl, j_in 1050 (by decide +kernel) rfl, j_in 12 (by decide +kernel) rfl, ⟨by decide, by decide⟩, by decide +kernel, T_M, 38, rfl⟩
theorem s_M_isWord : jMS M_M_isWord 1 := ⟨j_in 1052 (by decide +kernel) rfl, j_in 1053 (by decide +kernel) rfl, j_in 12 (by decide +kernel) rfl, ⟨by decide, by decide⟩, by decide +kernel⟩
theorem v_M_put : jMV M_M_put 9 3 := ⟨j_in 1055 (by decide +kernel) rfl, j_in 1056 (by decide +kernel) rfl, j_in 1057 (by decide +kernel) rfl, j_in 12 (by decide +kernel) rfl, ⟨by decide, by decide⟩, by decide +kernel, T_M, 38, rfl⟩
theorem v_M_fits : jMV M_M_fits 9 2 := ⟨j_in 1060 (by decide +kernel) rfl, j_ip (n := 38) 28 (by decide +kernel), j_in 1061 (by decide +kernel) rfl, j_in 12 (by decide +kernel) rfl, ⟨by decide, by decide⟩, by decide +kernel, T_M, 38, rfl⟩
theorem v_M_setValue : jMV M_M_setValue 9 3 := ⟨j_in 1064 (by decide +kernel) rfl, j_ip (n := 38) 29 (by decide +kernel), j_in 1065 (by decide +kernel) rfl, j_in 12 (by decide +kernel) rfl, ⟨by decide, by decide⟩, by decide +kernel, T_M, 38, rfl⟩
theorem v_M_get : jMV M_M_get 9 2 := ⟨j_in 1067 (by decide +kernel) rfl, j_in 1068 (by decide +kernel) rfl, j_in 1069 (by decide +kernel) rfl, j_in 12 (by decide +kernel) rfl, ⟨by decide, by decide⟩, by decide +kernel, T_M, 38, rfl⟩
theorem v_M_valueOf : jMV M_M_valueOf 9 2 := ⟨j_in 1072 (by decide +kernel) rfl, j_ip (n := 38) 30 (by decide +kernel), j_in 1073 (by decide +kernel) rfl, j_in 12 (by decide +kernel) rfl, ⟨by decide, by decide⟩, by decide +kernel, T_M, 38, rfl⟩
theorem v_M_bit : jMV M_M_bit 9 2 := ⟨j_in 1075 (by decide +kernel) rfl, j_in 1076 (by decide +kernel) rfl, j_in 1077 (by decide +kernel) rfl, j_in 12 (by decide +kernel) rfl, ⟨by decide, by decide⟩, by decide +kernel, T_M, 38, rfl⟩
theorem v_M_search : jMV M_M_search 9 3 := ⟨j_in 1079 (by decide +kernel) rfl, j_in 1080 (by decide +kernel) rfl, j_in 1081 (by decide +kernel) rfl, j_in 12 (by decide +kernel) rfl, ⟨by decide, by decide⟩, by decide +kernel, T_M, 38, rfl⟩
theorem v_M_multi : jMV M_M_multi 9 2 := ⟨j_in 1083 (by decide +kernel) rfl, j_in 1084 (by decide +kernel) rfl, j_in 1085 (by decide +kernel) rfl, j_in 12 (by decide +kernel) rfl, ⟨by decide, by decide⟩, by decide +kernel, T_M, 38, rfl⟩
theorem v_M_responds : jMV M_M_responds 9 1 := ⟨j_in 1088 (by decide +kernel) rfl, j_in 1089 (by decide +kernel) rfl, j_in 1090 (by decide +kernel) rfl, j_in 12 (by decide +kernel) rfl, ⟨by decide, by decide⟩, by decide +kernel, T_M, 38, rfl⟩
theorem v_M_first : jMV M_M_first 9 0 := ⟨j_in 1092 (by decide +kernel) rfl, j_in 1093 (by decide +kernel) rfl, j_in 1094 (by decide +kernel) rfl, j_in 12 (by decide +kernel) rfl, ⟨by decide, by decide⟩, by decide +kernel, T_M, 38, rfl⟩
theorem v_M_write : jMV M_M_write 9 1 := ⟨j_in 1096 (by decide +kernel) rfl, j_in 1097 (by decide +kernel) rfl, j_in 1098 (by decide +kernel) rfl, j_in 12 (by decide +kernel) rfl, ⟨by decide, by decide⟩, by decide +kernel, T_M, 38, rfl⟩
theorem v_M_wipe : jMV M_M_wipe 9 0 := ⟨j_in 1101 (by decide +kernel) rfl, j_in 1102 (by decide +kernel) rfl, j_in 1103 (by decide +kernel) rfl, j_in 12 (by decide +kernel) rfl, ⟨by decide, by decide⟩, by decide +kernel, T_M, 38, rfl⟩
theorem v_M_run : jMV M_M_run 9 0 := ⟨j_in 1105 (by decide +kernel) rfl, j_in 1106 (by decide +kernel) rfl, j_in 1107 (by decide +kernel) rfl, j_in 12 (by decide +kernel) rfl, ⟨by decide, by decide⟩, by decide +kernel, T_M, 38, rfl⟩
theorem v_M_readText : jMV M_M_readText 9 0 := ⟨j_in 1110 (by decide +kernel) rfl, j_ip (n := 38) 31 (by decide +kernel), j_in 1111 (by decide +kernel) rfl, j_in 12 (by decide +kernel) rfl, ⟨by decide, by decide⟩, by decide +kernel, T_M, 38, rfl⟩
theorem v_M_scan : jMV M_M_scan 9 1 := ⟨j_in 1114 (by decide +kernel) rfl, j_ip (n := 38) 32 (by decide +kernel), j_in 1115 (by decide +kernel) rfl, j_in 12 (by decide +kernel) rfl, ⟨by decide, by decide⟩, by decide +kernel, T_M, 38, rfl⟩
theorem v_M_see : jMV M_M_see 9 1 := ⟨j_in 1118 (by decide +kernel) rfl, j_ip (n := 38) 33 (by decide +kernel), j_in 1119 (by decide +kernel) rfl, j_in 12 (by decide +kernel) rfl, ⟨by decide, by decide⟩, by decide +kernel, T_M, 38, rfl⟩
theorem s_M_isLetter : jMS M_M_isLetter 1 := ⟨j_in 1121 (by decide +kernel) rfl, j_in 1122 (by decide +kernel) rfl, j_in 12 (by decide +kernel) rfl, ⟨by decide, by decide⟩, by decide +kernel⟩
theorem s_M_isDigit : jMS M_M_isDigit 1 := ⟨j_in 1124 (by decide +kernel) rfl, j_in 1125 (by decide +kernel) rfl, j_in 12 (by decide +kernel) rfl, ⟨by decide, by decide⟩, by decide +kernel⟩
theorem s_M_isSign : jMS M_M_isSign 1 := ⟨j_in 1127 (by decide +kernel) rfl, j_in 1128 (by decide +kernel) rfl, j_in 12 (by decide +kernel) rfl, ⟨by decide, by decide⟩, by decide +kernel⟩
theorem v_M_next : jMV M_M_next 9 1 := ⟨j_in 1132 (by decide +kernel) rfl, j_ip (n := 38) 34 (by decide +kernel), j_in 1133 (by decide +kernel) rfl, j_in 12 (by decide +kernel) rfl, ⟨by decide, by decide⟩, by decide +kernel, T_M, 38, rfl⟩
theorem v_M_start : jMV M_M_start 9 0 := ⟨j_in 1136 (by decide +kernel) rfl, j_ip (n := 38) 35 (by decide +kernel), j_in 1137 (by decide +kernel) rfl, j_in 12 (by decide +kernel) rfl, ⟨by decide, by decide⟩, by decide +kernel, T_M, 38, rfl⟩
theorem v_M_emit : jMV M_M_emit 9 2 := ⟨j_in 1141 (by decide +kernel) rfl, j_ip (n := 38) 36 (by decide +kernel), j_in 1142 (by decide +kernel) rfl, j_in 12 (by decide +kernel) rfl, ⟨by decide, by decide⟩, by decide +kernel, T_M, 38, rfl⟩
theorem v_M_act : jMV M_M_act 9 0 := ⟨j_in 1145 (by decide +kernel) rfl, j_ip (n := 38) 37 (by decide +kernel), j_in 1146 (by decide +kernel) rfl, j_in 12 (by decide +kernel) rfl, ⟨by decide, by decide⟩, by decide +kernel, T_M, 38, rfl⟩
theorem s_M_actionOf : jMS M_M_actionOf 1 := ⟨j_in 1148 (by decide +kernel) rfl, j_in 1149 (by decide +kernel) rfl, j_in 12 (by decide +kernel) rfl, ⟨by decide, by decide⟩, by decide +kernel⟩
theorem v_M_one : jMV M_M_one 9 0 := ⟨j_in 1158 (by decide +kernel) rfl, j_ip (n := 38) 38 (by decide +kernel), j_in 1159 (by decide +kernel) rfl, j_in 12 (by decide +kernel) rfl, ⟨by decide, by decide⟩, by decide +kernel, T_M, 38, rfl⟩
theorem v_M_isIt : jMV M_M_isIt 9 1 := ⟨j_in 1162 (by decide +kernel) rfl, j_ip (n := 38) 39 (by decide +kernel), j_in 1163 (by decide +kernel) rfl, j_in 12 (by decide +kernel) rfl, ⟨by decide, by decide⟩, by decide +kernel, T_M, 38, rfl⟩
theorem v_M_push : jMV M_M_push 9 1 := ⟨j_in 1166 (by decide +kernel) rfl, j_ip (n := 38) 40 (by decide +kernel), j_in 1167 (by decide +kernel) rfl, j_in 12 (by decide +kernel) rfl, ⟨by decide, by decide⟩, by decide +kernel, T_M, 38, rfl⟩
theorem v_M_operand : jMV M_M_operand 9 2 := ⟨j_in 1170 (by decide +kernel) rfl, j_ip (n := 38) 41 (by decide +kernel), j_in 1171 (by decide +kernel) rfl, j_in 12 (by decide +kernel) rfl, ⟨by decide, by decide⟩, by decide +kernel, T_M, 38, rfl⟩
theorem v_M_wholeOne : jMV M_M_wholeOne 9 0 := ⟨j_in 1174 (by decide +kernel) rfl, j_ip (n := 38) 42 (by decide +kernel), j_in 1175 (by decide +kernel) rfl, j_in 12 (by decide +kernel) rfl, ⟨by decide, by decide⟩, by decide +kernel, T_M, 38, rfl⟩
theorem v_M_denied : jMV M_M_denied 9 0 := ⟨j_in 1178 (by decide +kernel) rfl, j_ip (n := 38) 43 (by decide +kernel), j_in 1179 (by decide +kernel) rfl, j_in 12 (by decide +kernel) rfl, ⟨by decide, by decide⟩, by decide +kernel, T_M, 38, rfl⟩
theorem v_M_upper : jMV M_M_upper 9 0 := ⟨j_in 1182 (by decide +kernel) rfl, j_ip (n := 38) 44 (by decide +kernel), j_in 1183 (by decide +kernel) rfl, j_in 12 (by decide +kernel) rfl, ⟨by decide, by decide⟩, by decide +kernel, T_M, 38, rfl⟩
theorem v_M_named : jMV M_M_named 9 0 := ⟨j_in 1186 (by decide +kernel) rfl, j_ip (n := 38) 45 (by decide +kernel), j_in 1187 (by decide +kernel) rfl, j_in 12 (by decide +kernel) rfl, ⟨by decide, by decide⟩, by decide +kernel, T_M, 38, rfl⟩
theorem v_M_negative : jMV M_M_negative 9 1 := ⟨j_in 1190 (by decide +kernel) rfl, j_ip (n := 38) 46 (by decide +kernel), j_in 1191 (by decide +kernel) rfl, j_in 12 (by decide +kernel) rfl, ⟨by decide, by decide⟩, by decide +kernel, T_M, 38, rfl⟩
theorem v_M_relate : jMV M_M_relate 9 0 := ⟨j_in 1194 (by decide +kernel) rfl, j_ip (n := 38) 47 (by decide +kernel), j_in 1195 (by decide +kernel) rfl, j_in 12 (by decide +kernel) rfl, ⟨by decide, by decide⟩, by decide +kernel, T_M, 38, rfl⟩
theorem v_M_afterOne : jMV M_M_afterOne 9 0 := ⟨j_in 1198 (by decide +kernel) rfl, j_ip (n := 38) 48 (by decide +kernel), j_in 1199 (by decide +kernel) rfl, j_in 12 (by decide +kernel) rfl, ⟨by decide, by decide⟩, by decide +kernel, T_M, 38, rfl⟩
theorem v_M_settle : jMV M_M_settle 9 2 := ⟨j_in 1202 (by decide +kernel) rfl, j_ip (n := 38) 49 (by decide +kernel), j_in 1203 (by decide +kernel) rfl, j_in 12 (by decide +kernel) rfl, ⟨by decide, by decide⟩, by decide +kernel, T_M, 38, rfl⟩
theorem v_M_pick : jMV M_M_pick 9 1 := ⟨j_in 1206 (by decide +kernel) rfl, j_ip (n := 38) 50 (by decide +kernel), j_in 1207 (by decide +kernel) rfl, j_in 12 (by decide +kernel) rfl, ⟨by decide, by decide⟩, by decide +kernel, T_M, 38, rfl⟩
theorem v_M_part : jMV M_M_part 9 4 := ⟨j_in 1210 (by decide +kernel) rfl, j_ip (n := 38) 51 (by decide +kernel), j_in 1211 (by decide +kernel) rfl, j_in 12 (by decide +kernel) rfl, ⟨by decide, by decide⟩, by decide +kernel, T_M, 38, rfl⟩
theorem v_M_afterFirst : jMV M_M_afterFirst 9 0 := ⟨j_in 1214 (by decide +kernel) rfl, j_ip (n := 38) 52 (by decide +kernel), j_in 1215 (by decide +kernel) rfl, j_in 12 (by decide +kernel) rfl, ⟨by decide, by decide⟩, by decide +kernel, T_M, 38, rfl⟩
theorem v_M_afterChange : jMV M_M_afterChange 9 0 := ⟨j_in 1218 (by decide +kernel) rfl, j_ip (n := 38) 53 (by decide +kernel), j_in 1219 (by decide +kernel) rfl, j_in 12 (by decide +kernel) rfl, ⟨by decide, by decide⟩, by decide +kernel, T_M, 38, rfl⟩
theorem v_M_isTaken : jMV M_M_isTaken 9 1 := ⟨j_in 1222 (by decide +kernel) rfl, j_ip (n := 38) 54 (by decide +kernel), j_in 1223 (by decide +kernel) rfl, j_in 12 (by decide +kernel) rfl, ⟨by decide, by decide⟩, by decide +kernel, T_M, 38, rfl⟩
theorem s_M_reckon : jMS M_M_reckon 3 := ⟨j_in 1225 (by decide +kernel) rfl, j_in 1226 (by decide +kernel) rfl, j_in 12 (by decide +kernel) rfl, ⟨by decide, by decide⟩, by decide +kernel⟩
theorem v_M_changeAll : jMV M_M_changeAll 9 0 := ⟨j_in 1229 (by decide +kernel) rfl, j_ip (n := 38) 55 (by decide +kernel), j_in 1230 (by decide +kernel) rfl, j_in 12 (by decide +kernel) rfl, ⟨by decide, by decide⟩, by decide +kernel, T_M, 38, rfl⟩
theorem v_M_change : jMV M_M_change 9 1 := ⟨j_in 1233 (by decide +kernel) rfl, j_ip (n := 38) 56 (by decide +kernel), j_in 1234 (by decide +kernel) rfl, j_in 12 (by decide +kernel) rfl, ⟨by decide, by decide⟩, by decide +kernel, T_M, 38, rfl⟩
theorem v_M_resultOf : jMV M_M_resultOf 9 2 := ⟨j_in 1237 (by decide +kernel) rfl, j_ip (n := 38) 57 (by decide +kernel), j_in 1238 (by decide +kernel) rfl, j_in 12 (by decide +kernel) rfl, ⟨by decide, by decide⟩, by decide +kernel, T_M, 38, rfl⟩
theorem v_M_listAll : jMV M_M_listAll 9 0 := ⟨j_in 1241 (by decide +kernel) rfl, j_ip (n := 38) 58 (by decide +kernel), j_in 1242 (by decide +kernel) rfl, j_in 12 (by decide +kernel) rfl, ⟨by decide, by decide⟩, by decide +kernel, T_M, 38, rfl⟩
theorem v_M_gather : jMV M_M_gather 9 0 := ⟨j_in 1245 (by decide +kernel) rfl, j_ip (n := 38) 59 (by decide +kernel), j_in 1246 (by decide +kernel) rfl, j_in 12 (by decide +kernel) rfl, ⟨by decide, by decide⟩, by decide +kernel, T_M, 38, rfl⟩
theorem v_M_place : jMV M_M_place 9 0 := ⟨j_in 1248 (by decide +kernel) rfl, j_in 1249 (by decide +kernel) rfl, j_in 1250 (by decide +kernel) rfl, j_in 12 (by decide +kernel) rfl, ⟨by decide, by decide⟩, by decide +kernel, T_M, 38, rfl⟩
theorem v_M_refused : jMV M_M_refused 9 0 := ⟨j_in 1252 (by decide +kernel) rfl, j_in 1253 (by decide +kernel) rfl, j_in 1254 (by decide +kernel) rfl, j_in 12 (by decide +kernel) rfl, ⟨by decide, by decide⟩, by decide +kernel, T_M, 38, rfl⟩
theorem v_M_listed : jMV M_M_listed 9 1 := ⟨j_in 1256 (by decide +kernel) rfl, j_in 1257 (by decide +kernel) rfl, j_in 1258 (by decide +kernel) rfl, j_in 12 (by decide +kernel) rfl, ⟨by decide, by decide⟩, by decide +kernel, T_M, 38, rfl⟩
theorem s_L_field : jMS M_L_field 5 := ⟨j_in 314 (by decide +kernel) rfl, j_in 315 (by decide +kernel) rfl, j_in 0 (by decide +kernel) rfl, ⟨by decide, by decide⟩, by decide +kernel⟩
theorem s_L_insert : jMS M_L_insert 2 := ⟨j_in 425 (by decide +kernel) rfl, j_in 426 (by decide +kernel) rfl, j_in 0 (by decide +kernel) rfl, ⟨by decide, by decide⟩, by decide +kernel⟩
theorem s_L_remove : jMS M_L_remove 2 := ⟨j_in 456 (by decide +kernel) rfl, j_in 457 (by decide +kernel) rfl, j_in 0 (by decide +kernel) rfl, ⟨by decide, by decide⟩, by decide +kernel⟩
theorem s_L_put : jMS M_L_put 4 := ⟨j_in 476 (by decide +kernel) rfl, j_in 477 (by decide +kernel) rfl, j_in 0 (by decide +kernel) rfl, ⟨by decide, by decide⟩, by decide +kernel⟩
theorem s_L_get : jMS M_L_get 4 := ⟨j_in 504 (by decide +kernel) rfl, j_in 505 (by decide +kernel) rfl, j_in 0 (by decide +kernel) rfl, ⟨by decide, by decide⟩, by decide +kernel⟩
theorem s_L_bit : jMS M_L_bit 4 := ⟨j_in 515 (by decide +kernel) rfl, j_in 516 (by decide +kernel) rfl, j_in 0 (by decide +kernel) rfl, ⟨by decide, by decide⟩, by decide +kernel⟩
theorem s_L_multi : jMS M_L_multi 3 := ⟨j_in 522 (by decide +kernel) rfl, j_in 523 (by decide +kernel) rfl, j_in 0 (by decide +kernel) rfl, ⟨by decide, by decide⟩, by decide +kernel⟩
theorem s_L_responds : jMS M_L_responds 3 := ⟨j_in 534 (by decide +kernel) rfl, j_in 535 (by decide +kernel) rfl, j_in 0 (by decide +kernel) rfl, ⟨by decide, by decide⟩, by decide +kernel⟩
theorem s_L_run : jMS M_L_run 2 := ⟨j_in 541 (by decide +kernel) rfl, j_in 542 (by decide +kernel) rfl, j_in 0 (by decide +kernel) rfl, ⟨by decide, by decide⟩, by decide +kernel⟩
theorem s_L_listed : jMS M_L_listed 3 := ⟨j_in 888 (by decide +kernel) rfl, j_in 889 (by decide +kernel) rfl, j_in 0 (by decide +kernel) rfl, ⟨by decide, by decide⟩, by decide +kernel⟩
theorem l_L_56 : Cond.methodLink "BitLoomLaw" 56 y_B_init ∈ jt := j_in 30 (by decide +kernel) rfl
theorem l_B_3 : Cond.methodLink "BitLoom" 3 Lib.objectInit ∈ jt := j_in 33 (by decide +kernel) rfl
theorem l_B_11 : Cond.methodLink "BitLoom" 11 y_F_init ∈ jt := j_in 38 (by decide +kernel) rfl
theorem l_F_3 : Cond.methodLink "BitLoom$Fields" 3 Lib.objectInit ∈ jt := j_in 41 (by decide +kernel) rfl
theorem l_B_18 : Cond.methodLink "BitLoom" 18 y_W_init ∈ jt := j_in 66 (by decide +kernel) rfl
theorem l_W_3 : Cond.methodLink "BitLoom$Words" 3 Lib.objectInit ∈ jt := j_in 69 (by decide +kernel) rfl
theorem l_B_25 : Cond.methodLink "BitLoom" 25 y_T_init ∈ jt := j_in 82 (by decide +kernel) rfl
theorem l_T_3 : Cond.methodLink "BitLoom$Text" 3 Lib.objectInit ∈ jt := j_in 85 (by decide +kernel) rfl
theorem l_B_32 : Cond.methodLink "BitLoom" 32 y_S_init ∈ jt := j_in 95 (by decide +kernel) rfl
theorem l_S_3 : Cond.methodLink "BitLoom$Statement" 3 Lib.objectInit ∈ jt := j_in 98 (by decide +kernel) rfl
theorem l_S_21 : Cond.methodLink "BitLoom$Statement" 21 y_K_init ∈ jt := j_in 101 (by decide +kernel) rfl
theorem l_K_3 : Cond.methodLink "BitLoom$Tokens" 3 Lib.objectInit ∈ jt := j_in 104 (by decide +kernel) rfl
theorem l_S_30 : Cond.methodLink "BitLoom$Statement" 30 y_P_init ∈ jt := j_in 126 (by decide +kernel) rfl
theorem l_P_1 : Cond.methodLink "BitLoom$Pair" 1 Lib.objectInit ∈ jt := j_in 129 (by decide +kernel) rfl
theorem l_P_9 : Cond.methodLink "BitLoom$Pair" 9 y_O_init ∈ jt := j_in 132 (by decide +kernel) rfl
theorem l_O_3 : Cond.methodLink "BitLoom$Operand" 3 Lib.objectInit ∈ jt := j_in 135 (by decide +kernel) rfl
theorem l_S_39 : Cond.methodLink "BitLoom$Statement" 39 y_C_init ∈ jt := j_in 161 (by decide +kernel) rfl
theorem l_C_1 : Cond.methodLink "BitLoom$Change" 1 Lib.objectInit ∈ jt := j_in 164 (by decide +kernel) rfl
theorem l_C_15 : Cond.methodLink "BitLoom$Change" 15 y_P_init ∈ jt := j_in 166 (by decide +kernel) rfl
theorem l_L_89 : Cond.methodLink "BitLoomLaw" 89 y_B_search ∈ jt := j_in 237 (by decide +kernel) rfl
theorem l_B_111 : Cond.methodLink "BitLoom" 111 y_W_responding ∈ jt := j_in 241 (by decide +kernel) rfl
theorem l_B_114 : Cond.methodLink "BitLoom" 114 y_W_inUse ∈ jt := j_in 245 (by decide +kernel) rfl
theorem l_B_117 : Cond.methodLink "BitLoom" 117 y_W_matching ∈ jt := j_in 249 (by decide +kernel) rfl
theorem l_W_15 : Cond.methodLink "BitLoom$Words" 15 y_W_holds ∈ jt := j_in 253 (by decide +kernel) rfl
theorem l_B_120 : Cond.methodLink "BitLoom" 120 y_W_respondOnly ∈ jt := j_in 256 (by decide +kernel) rfl
theorem l_B_123 : Cond.methodLink "BitLoom" 123 y_JInteger_bitCount ∈ jt := j_in 260 (by decide +kernel) rfl
theorem l_L_102 : Cond.methodLink "BitLoomLaw" 102 y_B_first ∈ jt := j_in 266 (by decide +kernel) rfl
theorem l_B_69 : Cond.methodLink "BitLoom" 69 y_W_lowestOf ∈ jt := j_in 270 (by decide +kernel) rfl
theorem l_L_108 : Cond.methodLink "BitLoomLaw" 108 y_B_write ∈ jt := j_in 273 (by decide +kernel) rfl
theorem l_B_136 : Cond.methodLink "BitLoom" 136 y_T_canTake ∈ jt := j_in 277 (by decide +kernel) rfl
theorem l_T_19 : Cond.methodLink "BitLoom$Text" 19 y_T_codeOf ∈ jt := j_in 281 (by decide +kernel) rfl
theorem l_B_140 : Cond.methodLink "BitLoom" 140 y_T_append ∈ jt := j_in 285 (by decide +kernel) rfl
theorem l_L_113 : Cond.methodLink "BitLoomLaw" 113 y_B_wipe ∈ jt := j_in 289 (by decide +kernel) rfl
theorem l_B_143 : Cond.methodLink "BitLoom" 143 y_T_length ∈ jt := j_in 293 (by decide +kernel) rfl
theorem l_B_146 : Cond.methodLink "BitLoom" 146 y_T_clear ∈ jt := j_in 297 (by decide +kernel) rfl
theorem l_L_120 : Cond.methodLink "BitLoomLaw" 120 y_B_place ∈ jt := j_in 301 (by decide +kernel) rfl
theorem l_B_162 : Cond.methodLink "BitLoom" 162 y_S_wrongAt ∈ jt := j_in 305 (by decide +kernel) rfl
theorem l_L_124 : Cond.methodLink "BitLoomLaw" 124 y_B_refused ∈ jt := j_in 309 (by decide +kernel) rfl
theorem l_L_60 : Cond.methodLink "BitLoomLaw" 60 y_L_field ∈ jt := j_in 313 (by decide +kernel) rfl
theorem l_L_7 : Cond.methodLink "BitLoomLaw" 7 y_B_field ∈ jt := j_in 318 (by decide +kernel) rfl
theorem l_B_43 : Cond.methodLink "BitLoom" 43 y_F_isNewName ∈ jt := j_in 322 (by decide +kernel) rfl
theorem l_F_30 : Cond.methodLink "BitLoom$Fields" 30 y_F_indexOf ∈ jt := j_in 326 (by decide +kernel) rfl
theorem l_B_47 : Cond.methodLink "BitLoom" 47 y_F_isOpenGround ∈ jt := j_in 330 (by decide +kernel) rfl
theorem l_F_37 : Cond.methodLink "BitLoom$Fields" 37 y_F_ground ∈ jt := j_in 334 (by decide +kernel) rfl
theorem l_JThrowable_1 : Cond.methodLink "java/lang/Throwable" 1 Lib.objectInit ∈ jt := j_in 362 (by decide +kernel) rfl
theorem l_B_54 : Cond.methodLink "BitLoom" 54 y_F_isFull ∈ jt := j_in 401 (by decide +kernel) rfl
theorem l_B_61 : Cond.methodLink "BitLoom" 61 y_F_append ∈ jt := j_in 420 (by decide +kernel) rfl
theorem l_L_69 : Cond.methodLink "BitLoomLaw" 69 y_L_insert ∈ jt := j_in 424 (by decide +kernel) rfl
theorem l_L_17 : Cond.methodLink "BitLoomLaw" 17 y_B_insert ∈ jt := j_in 428 (by decide +kernel) rfl
theorem l_B_65 : Cond.methodLink "BitLoom" 65 y_W_free ∈ jt := j_in 432 (by decide +kernel) rfl
theorem l_B_76 : Cond.methodLink "BitLoom" 76 y_W_occupy ∈ jt := j_in 451 (by decide +kernel) rfl
theorem l_L_73 : Cond.methodLink "BitLoomLaw" 73 y_L_remove ∈ jt := j_in 455 (by decide +kernel) rfl
theorem l_L_23 : Cond.methodLink "BitLoomLaw" 23 y_B_remove ∈ jt := j_in 458 (by decide +kernel) rfl
theorem l_B_80 : Cond.methodLink "BitLoom" 80 y_B_requireWord ∈ jt := j_in 462 (by decide +kernel) rfl
theorem l_B_83 : Cond.methodLink "BitLoom" 83 y_B_requireInUse ∈ jt := j_in 466 (by decide +kernel) rfl
theorem l_B_133 : Cond.methodLink "BitLoom" 133 y_W_holds ∈ jt := j_in 470 (by decide +kernel) rfl
theorem l_B_86 : Cond.methodLink "BitLoom" 86 y_W_release ∈ jt := j_in 471 (by decide +kernel) rfl
theorem l_L_77 : Cond.methodLink "BitLoomLaw" 77 y_L_put ∈ jt := j_in 475 (by decide +kernel) rfl
theorem l_L_27 : Cond.methodLink "BitLoomLaw" 27 y_B_put ∈ jt := j_in 478 (by decide +kernel) rfl
theorem l_B_89 : Cond.methodLink "BitLoom" 89 y_B_requireField ∈ jt := j_in 482 (by decide +kernel) rfl
theorem l_B_175 : Cond.methodLink "BitLoom" 175 y_F_indexOf ∈ jt := j_in 486 (by decide +kernel) rfl
theorem l_B_93 : Cond.methodLink "BitLoom" 93 y_F_fits ∈ jt := j_in 487 (by decide +kernel) rfl
theorem l_B_96 : Cond.methodLink "BitLoom" 96 y_W_bitsOf ∈ jt := j_in 491 (by decide +kernel) rfl
theorem l_B_99 : Cond.methodLink "BitLoom" 99 y_F_withValue ∈ jt := j_in 495 (by decide +kernel) rfl
theorem l_B_103 : Cond.methodLink "BitLoom" 103 y_W_replace ∈ jt := j_in 499 (by decide +kernel) rfl
theorem l_L_81 : Cond.methodLink "BitLoomLaw" 81 y_L_get ∈ jt := j_in 503 (by decide +kernel) rfl
theorem l_L_31 : Cond.methodLink "BitLoomLaw" 31 y_B_get ∈ jt := j_in 506 (by decide +kernel) rfl
theorem l_B_107 : Cond.methodLink "BitLoom" 107 y_F_valueIn ∈ jt := j_in 510 (by decide +kernel) rfl
theorem l_L_85 : Cond.methodLink "BitLoomLaw" 85 y_L_bit ∈ jt := j_in 514 (by decide +kernel) rfl
theorem l_L_35 : Cond.methodLink "BitLoomLaw" 35 y_B_bit ∈ jt := j_in 517 (by decide +kernel) rfl
theorem l_L_94 : Cond.methodLink "BitLoomLaw" 94 y_L_multi ∈ jt := j_in 521 (by decide +kernel) rfl
theorem l_L_39 : Cond.methodLink "BitLoomLaw" 39 y_B_multi ∈ jt := j_in 524 (by decide +kernel) rfl
theorem l_B_129 : Cond.methodLink "BitLoom" 129 y_W_overwrite ∈ jt := j_in 529 (by decide +kernel) rfl
theorem l_L_98 : Cond.methodLink "BitLoomLaw" 98 y_L_responds ∈ jt := j_in 533 (by decide +kernel) rfl
theorem l_L_43 : Cond.methodLink "BitLoomLaw" 43 y_B_responds ∈ jt := j_in 536 (by decide +kernel) rfl
theorem l_L_117 : Cond.methodLink "BitLoomLaw" 117 y_L_run ∈ jt := j_in 540 (by decide +kernel) rfl
theorem l_L_47 : Cond.methodLink "BitLoomLaw" 47 y_B_run ∈ jt := j_in 543 (by decide +kernel) rfl
theorem l_B_149 : Cond.methodLink "BitLoom" 149 y_S_read ∈ jt := j_in 547 (by decide +kernel) rfl
theorem l_S_84 : Cond.methodLink "BitLoom$Statement" 84 y_K_cut ∈ jt := j_in 551 (by decide +kernel) rfl
theorem l_K_33 : Cond.methodLink "BitLoom$Tokens" 33 y_T_length ∈ jt := j_in 555 (by decide +kernel) rfl
theorem l_K_39 : Cond.methodLink "BitLoom$Tokens" 39 y_T_at ∈ jt := j_in 556 (by decide +kernel) rfl
theorem l_K_42 : Cond.methodLink "BitLoom$Tokens" 42 y_K_cutOne ∈ jt := j_in 560 (by decide +kernel) rfl
theorem l_K_56 : Cond.methodLink "BitLoom$Tokens" 56 y_K_isBetween ∈ jt := j_in 564 (by decide +kernel) rfl
theorem l_K_60 : Cond.methodLink "BitLoom$Tokens" 60 y_K_endOf ∈ jt := j_in 567 (by decide +kernel) rfl
theorem l_K_46 : Cond.methodLink "BitLoom$Tokens" 46 y_K_append ∈ jt := j_in 571 (by decide +kernel) rfl
theorem l_K_66 : Cond.methodLink "BitLoom$Tokens" 66 y_JString_indexOf0 ∈ jt := j_in 576 (by decide +kernel) rfl
theorem l_JString_633 : Cond.methodLink "java/lang/String" 633 y_JString_indexOf1 ∈ jt := j_in 580 (by decide +kernel) rfl
theorem l_JString_492 : Cond.methodLink "java/lang/String" 492 y_JString_isLatin1 ∈ jt := j_in 584 (by decide +kernel) rfl
theorem l_JString_505 : Cond.methodLink "java/lang/String" 505 y_JString_length ∈ jt := j_in 590 (by decide +kernel) rfl
theorem l_JString_335 : Cond.methodLink "java/lang/String" 335 y_JString_coder ∈ jt := j_in 594 (by decide +kernel) rfl
theorem l_JString_637 : Cond.methodLink "java/lang/String" 637 y_JStringLatin1_indexOf ∈ jt := j_in 598 (by decide +kernel) rfl
theorem l_JStringLatin1_88 : Cond.methodLink "java/lang/StringLatin1" 88 y_JStringLatin1_canEncode ∈ jt := j_in 601 (by decide +kernel) rfl
theorem l_JStringLatin1_92 : Cond.methodLink "java/lang/StringLatin1" 92 y_JMath_max ∈ jt := j_in 604 (by decide +kernel) rfl
theorem l_JStringLatin1_38 : Cond.methodLink "java/lang/StringLatin1" 38 y_JMath_min ∈ jt := j_in 607 (by decide +kernel) rfl
theorem l_JStringLatin1_95 : Cond.methodLink "java/lang/StringLatin1" 95 y_JStringLatin1_indexOfChar ∈ jt := j_in 610 (by decide +kernel) rfl
theorem l_JStringUTF16_224 : Cond.methodLink "java/lang/StringUTF16" 224 y_JMath_max ∈ jt := j_in 616 (by decide +kernel) rfl
theorem l_JStringUTF16_183 : Cond.methodLink "java/lang/StringUTF16" 183 y_JMath_min ∈ jt := j_in 617 (by decide +kernel) rfl
theorem l_S_87 : Cond.methodLink "BitLoom$Statement" 87 y_W_inUse ∈ jt := j_in 662 (by decide +kernel) rfl
theorem l_S_95 : Cond.methodLink "BitLoom$Statement" 95 y_K_isWord ∈ jt := j_in 664 (by decide +kernel) rfl
theorem l_K_50 : Cond.methodLink "BitLoom$Tokens" 50 y_JString_length ∈ jt := j_in 668 (by decide +kernel) rfl
theorem l_K_53 : Cond.methodLink "BitLoom$Tokens" 53 y_JString_charAt ∈ jt := j_in 669 (by decide +kernel) rfl
theorem l_JString_495 : Cond.methodLink "java/lang/String" 495 y_JStringLatin1_charAt ∈ jt := j_in 673 (by decide +kernel) rfl
theorem l_JStringLatin1_9 : Cond.methodLink "java/lang/StringLatin1" 9 y_JString_checkIndex ∈ jt := j_in 676 (by decide +kernel) rfl
theorem l_JString_1059 : Cond.methodLink "java/lang/String" 1059 y_JPreconditions_checkIndex ∈ jt := j_in 679 (by decide +kernel) rfl
theorem l_JStringUTF16_414 : Cond.methodLink "java/lang/StringUTF16" 414 y_JString_checkIndex ∈ jt := j_in 688 (by decide +kernel) rfl
theorem l_S_99 : Cond.methodLink "BitLoom$Statement" 99 y_K_advance ∈ jt := j_in 689 (by decide +kernel) rfl
theorem l_S_102 : Cond.methodLink "BitLoom$Statement" 102 y_S_readCondition ∈ jt := j_in 693 (by decide +kernel) rfl
theorem l_S_122 : Cond.methodLink "BitLoom$Statement" 122 y_S_readClause ∈ jt := j_in 697 (by decide +kernel) rfl
theorem l_S_129 : Cond.methodLink "BitLoom$Statement" 129 y_S_readOne ∈ jt := j_in 701 (by decide +kernel) rfl
theorem l_S_125 : Cond.methodLink "BitLoom$Statement" 125 y_K_isSign ∈ jt := j_in 705 (by decide +kernel) rfl
theorem l_S_132 : Cond.methodLink "BitLoom$Statement" 132 y_S_readComparison ∈ jt := j_in 709 (by decide +kernel) rfl
theorem l_S_143 : Cond.methodLink "BitLoom$Statement" 143 y_S_readOperand ∈ jt := j_in 713 (by decide +kernel) rfl
theorem l_S_191 : Cond.methodLink "BitLoom$Statement" 191 y_K_isNumber ∈ jt := j_in 717 (by decide +kernel) rfl
theorem l_S_194 : Cond.methodLink "BitLoom$Statement" 194 y_K_number ∈ jt := j_in 721 (by decide +kernel) rfl
theorem l_S_197 : Cond.methodLink "BitLoom$Statement" 197 y_O_becomeNumber ∈ jt := j_in 725 (by decide +kernel) rfl
theorem l_S_113 : Cond.methodLink "BitLoom$Statement" 113 y_S_refuse ∈ jt := j_in 729 (by decide +kernel) rfl
theorem l_S_116 : Cond.methodLink "BitLoom$Statement" 116 y_K_start ∈ jt := j_in 733 (by decide +kernel) rfl
theorem l_S_174 : Cond.methodLink "BitLoom$Statement" 174 y_S_readField ∈ jt := j_in 739 (by decide +kernel) rfl
theorem l_S_206 : Cond.methodLink "BitLoom$Statement" 206 y_K_isLetter ∈ jt := j_in 743 (by decide +kernel) rfl
theorem l_S_209 : Cond.methodLink "BitLoom$Statement" 209 y_K_letter ∈ jt := j_in 747 (by decide +kernel) rfl
theorem l_S_213 : Cond.methodLink "BitLoom$Statement" 213 y_F_indexOf ∈ jt := j_in 751 (by decide +kernel) rfl
theorem l_S_203 : Cond.methodLink "BitLoom$Statement" 203 y_O_becomeField ∈ jt := j_in 752 (by decide +kernel) rfl
theorem l_S_147 : Cond.methodLink "BitLoom$Statement" 147 y_S_readSign ∈ jt := j_in 756 (by decide +kernel) rfl
theorem l_S_158 : Cond.methodLink "BitLoom$Statement" 158 y_W_bitsOf ∈ jt := j_in 760 (by decide +kernel) rfl
theorem l_S_161 : Cond.methodLink "BitLoom$Statement" 161 y_P_isTrueIn ∈ jt := j_in 761 (by decide +kernel) rfl
theorem l_P_25 : Cond.methodLink "BitLoom$Pair" 25 y_O_valueIn ∈ jt := j_in 765 (by decide +kernel) rfl
theorem l_O_22 : Cond.methodLink "BitLoom$Operand" 22 y_F_valueIn ∈ jt := j_in 769 (by decide +kernel) rfl
theorem l_P_29 : Cond.methodLink "BitLoom$Pair" 29 y_JInteger_compare ∈ jt := j_in 770 (by decide +kernel) rfl
theorem l_S_135 : Cond.methodLink "BitLoom$Statement" 135 y_S_passSign ∈ jt := j_in 773 (by decide +kernel) rfl
theorem l_S_106 : Cond.methodLink "BitLoom$Statement" 106 y_S_readAction ∈ jt := j_in 777 (by decide +kernel) rfl
theorem l_S_164 : Cond.methodLink "BitLoom$Statement" 164 y_S_readVerb ∈ jt := j_in 781 (by decide +kernel) rfl
theorem l_S_181 : Cond.methodLink "BitLoom$Statement" 181 y_A_word ∈ jt := j_in 787 (by decide +kernel) rfl
theorem l_S_170 : Cond.methodLink "BitLoom$Statement" 170 y_S_readChange ∈ jt := j_in 793 (by decide +kernel) rfl
theorem l_S_109 : Cond.methodLink "BitLoom$Statement" 109 y_K_isEnd ∈ jt := j_in 797 (by decide +kernel) rfl
theorem l_B_152 : Cond.methodLink "BitLoom" 152 y_S_lacksWord ∈ jt := j_in 801 (by decide +kernel) rfl
theorem l_B_155 : Cond.methodLink "BitLoom" 155 y_S_taken ∈ jt := j_in 809 (by decide +kernel) rfl
theorem l_B_158 : Cond.methodLink "BitLoom" 158 y_B_carryOut ∈ jt := j_in 813 (by decide +kernel) rfl
theorem l_B_178 : Cond.methodLink "BitLoom" 178 y_S_subject ∈ jt := j_in 817 (by decide +kernel) rfl
theorem l_B_186 : Cond.methodLink "BitLoom" 186 y_S_action ∈ jt := j_in 823 (by decide +kernel) rfl
theorem l_B_195 : Cond.methodLink "BitLoom" 195 y_B_changeAll ∈ jt := j_in 833 (by decide +kernel) rfl
theorem l_B_224 : Cond.methodLink "BitLoom" 224 y_S_canChange ∈ jt := j_in 837 (by decide +kernel) rfl
theorem l_S_72 : Cond.methodLink "BitLoom$Statement" 72 y_C_fitsIn ∈ jt := j_in 841 (by decide +kernel) rfl
theorem l_C_26 : Cond.methodLink "BitLoom$Change" 26 y_P_resultIn ∈ jt := j_in 845 (by decide +kernel) rfl
theorem l_C_30 : Cond.methodLink "BitLoom$Change" 30 y_F_fits ∈ jt := j_in 849 (by decide +kernel) rfl
theorem l_B_228 : Cond.methodLink "BitLoom" 228 y_S_changed ∈ jt := j_in 850 (by decide +kernel) rfl
theorem l_S_80 : Cond.methodLink "BitLoom$Statement" 80 y_C_appliedTo ∈ jt := j_in 854 (by decide +kernel) rfl
theorem l_C_36 : Cond.methodLink "BitLoom$Change" 36 y_F_withValue ∈ jt := j_in 858 (by decide +kernel) rfl
theorem l_B_198 : Cond.methodLink "BitLoom" 198 y_B_greatest ∈ jt := j_in 859 (by decide +kernel) rfl
theorem l_B_210 : Cond.methodLink "BitLoom" 210 y_B_valueOf ∈ jt := j_in 863 (by decide +kernel) rfl
theorem l_B_213 : Cond.methodLink "BitLoom" 213 y_JMath_max ∈ jt := j_in 867 (by decide +kernel) rfl
theorem l_B_201 : Cond.methodLink "BitLoom" 201 y_B_least ∈ jt := j_in 868 (by decide +kernel) rfl
theorem l_B_218 : Cond.methodLink "BitLoom" 218 y_JMath_min ∈ jt := j_in 872 (by decide +kernel) rfl
theorem l_B_204 : Cond.methodLink "BitLoom" 204 y_B_total ∈ jt := j_in 873 (by decide +kernel) rfl
theorem l_B_207 : Cond.methodLink "BitLoom" 207 y_B_listAll ∈ jt := j_in 877 (by decide +kernel) rfl
theorem l_B_221 : Cond.methodLink "BitLoom" 221 y_B_sortIn ∈ jt := j_in 881 (by decide +kernel) rfl
theorem l_L_128 : Cond.methodLink "BitLoomLaw" 128 y_L_listed ∈ jt := j_in 887 (by decide +kernel) rfl
theorem l_L_50 : Cond.methodLink "BitLoomLaw" 50 y_B_listed ∈ jt := j_in 891 (by decide +kernel) rfl
theorem l_L_59 : Cond.methodLink "BitLoomLaw" 59 y_M_init ∈ jt := j_in 912 (by decide +kernel) rfl
theorem l_M_1 : Cond.methodLink "BitLoomModel" 1 Lib.objectInit ∈ jt := j_in 915 (by decide +kernel) rfl
theorem l_L_66 : Cond.methodLink "BitLoomLaw" 66 y_M_thrown ∈ jt := j_in 1031 (by decide +kernel) rfl
theorem l_L_65 : Cond.methodLink "BitLoomLaw" 65 y_M_field ∈ jt := j_in 1035 (by decide +kernel) rfl
theorem l_M_79 : Cond.methodLink "BitLoomModel" 79 y_M_fieldOf ∈ jt := j_in 1039 (by decide +kernel) rfl
theorem l_L_72 : Cond.methodLink "BitLoomLaw" 72 y_M_insert ∈ jt := j_in 1043 (by decide +kernel) rfl
theorem l_L_76 : Cond.methodLink "BitLoomLaw" 76 y_M_remove ∈ jt := j_in 1047 (by decide +kernel) rfl
theorem l_M_83 : Cond.methodLink "BitLoomModel" 83 y_M_isWord ∈ jt := j_in 1051 (by decide +kernel) rfl
theorem l_L_80 : Cond.methodLink "BitLoomLaw" 80 y_M_put ∈ jt := j_in 1054 (by decide +kernel) rfl
theorem l_M_87 : Cond.methodLink "BitLoomModel" 87 y_M_fits ∈ jt := j_in 1058 (by decide +kernel) rfl
theorem l_M_91 : Cond.methodLink "BitLoomModel" 91 y_M_setValue ∈ jt := j_in 1062 (by decide +kernel) rfl
theorem l_L_84 : Cond.methodLink "BitLoomLaw" 84 y_M_get ∈ jt := j_in 1066 (by decide +kernel) rfl
theorem l_M_95 : Cond.methodLink "BitLoomModel" 95 y_M_valueOf ∈ jt := j_in 1070 (by decide +kernel) rfl
theorem l_L_88 : Cond.methodLink "BitLoomLaw" 88 y_M_bit ∈ jt := j_in 1074 (by decide +kernel) rfl
theorem l_L_93 : Cond.methodLink "BitLoomLaw" 93 y_M_search ∈ jt := j_in 1078 (by decide +kernel) rfl
theorem l_L_97 : Cond.methodLink "BitLoomLaw" 97 y_M_multi ∈ jt := j_in 1082 (by decide +kernel) rfl
theorem l_L_101 : Cond.methodLink "BitLoomLaw" 101 y_M_responds ∈ jt := j_in 1087 (by decide +kernel) rfl
theorem l_L_105 : Cond.methodLink "BitLoomLaw" 105 y_M_first ∈ jt := j_in 1091 (by decide +kernel) rfl
theorem l_L_112 : Cond.methodLink "BitLoomLaw" 112 y_M_write ∈ jt := j_in 1095 (by decide +kernel) rfl
theorem l_L_116 : Cond.methodLink "BitLoomLaw" 116 y_M_wipe ∈ jt := j_in 1100 (by decide +kernel) rfl
theorem l_L_119 : Cond.methodLink "BitLoomLaw" 119 y_M_run ∈ jt := j_in 1104 (by decide +kernel) rfl
theorem l_M_263 : Cond.methodLink "BitLoomModel" 263 y_M_readText ∈ jt := j_in 1108 (by decide +kernel) rfl
theorem l_M_238 : Cond.methodLink "BitLoomModel" 238 y_M_scan ∈ jt := j_in 1112 (by decide +kernel) rfl
theorem l_M_108 : Cond.methodLink "BitLoomModel" 108 y_M_see ∈ jt := j_in 1116 (by decide +kernel) rfl
theorem l_M_122 : Cond.methodLink "BitLoomModel" 122 y_M_isLetter ∈ jt := j_in 1120 (by decide +kernel) rfl
theorem l_M_126 : Cond.methodLink "BitLoomModel" 126 y_M_isDigit ∈ jt := j_in 1123 (by decide +kernel) rfl
theorem l_M_129 : Cond.methodLink "BitLoomModel" 129 y_M_isSign ∈ jt := j_in 1126 (by decide +kernel) rfl
theorem l_M_241 : Cond.methodLink "BitLoomModel" 241 y_M_next ∈ jt := j_in 1130 (by decide +kernel) rfl
theorem l_M_212 : Cond.methodLink "BitLoomModel" 212 y_M_start ∈ jt := j_in 1134 (by decide +kernel) rfl
theorem l_M_159 : Cond.methodLink "BitLoomModel" 159 y_M_emit ∈ jt := j_in 1139 (by decide +kernel) rfl
theorem l_M_172 : Cond.methodLink "BitLoomModel" 172 y_M_act ∈ jt := j_in 1143 (by decide +kernel) rfl
theorem l_M_163 : Cond.methodLink "BitLoomModel" 163 y_M_actionOf ∈ jt := j_in 1147 (by decide +kernel) rfl
theorem l_M_215 : Cond.methodLink "BitLoomModel" 215 y_M_one ∈ jt := j_in 1156 (by decide +kernel) rfl
theorem l_M_175 : Cond.methodLink "BitLoomModel" 175 y_M_isIt ∈ jt := j_in 1160 (by decide +kernel) rfl
theorem l_M_181 : Cond.methodLink "BitLoomModel" 181 y_M_push ∈ jt := j_in 1164 (by decide +kernel) rfl
theorem l_M_185 : Cond.methodLink "BitLoomModel" 185 y_M_operand ∈ jt := j_in 1168 (by decide +kernel) rfl
theorem l_M_188 : Cond.methodLink "BitLoomModel" 188 y_M_wholeOne ∈ jt := j_in 1172 (by decide +kernel) rfl
theorem l_M_197 : Cond.methodLink "BitLoomModel" 197 y_M_denied ∈ jt := j_in 1176 (by decide +kernel) rfl
theorem l_M_155 : Cond.methodLink "BitLoomModel" 155 y_M_upper ∈ jt := j_in 1180 (by decide +kernel) rfl
theorem l_M_191 : Cond.methodLink "BitLoomModel" 191 y_M_named ∈ jt := j_in 1184 (by decide +kernel) rfl
theorem l_M_218 : Cond.methodLink "BitLoomModel" 218 y_M_negative ∈ jt := j_in 1188 (by decide +kernel) rfl
theorem l_M_222 : Cond.methodLink "BitLoomModel" 222 y_M_relate ∈ jt := j_in 1192 (by decide +kernel) rfl
theorem l_M_225 : Cond.methodLink "BitLoomModel" 225 y_M_afterOne ∈ jt := j_in 1196 (by decide +kernel) rfl
theorem l_M_200 : Cond.methodLink "BitLoomModel" 200 y_M_settle ∈ jt := j_in 1200 (by decide +kernel) rfl
theorem l_M_228 : Cond.methodLink "BitLoomModel" 228 y_M_pick ∈ jt := j_in 1204 (by decide +kernel) rfl
theorem l_M_231 : Cond.methodLink "BitLoomModel" 231 y_M_part ∈ jt := j_in 1208 (by decide +kernel) rfl
theorem l_M_235 : Cond.methodLink "BitLoomModel" 235 y_M_afterFirst ∈ jt := j_in 1212 (by decide +kernel) rfl
theorem l_M_209 : Cond.methodLink "BitLoomModel" 209 y_M_afterChange ∈ jt := j_in 1216 (by decide +kernel) rfl
theorem l_M_266 : Cond.methodLink "BitLoomModel" 266 y_M_isTaken ∈ jt := j_in 1220 (by decide +kernel) rfl
theorem l_M_247 : Cond.methodLink "BitLoomModel" 247 y_M_reckon ∈ jt := j_in 1224 (by decide +kernel) rfl
theorem l_M_269 : Cond.methodLink "BitLoomModel" 269 y_M_changeAll ∈ jt := j_in 1227 (by decide +kernel) rfl
theorem l_M_254 : Cond.methodLink "BitLoomModel" 254 y_M_change ∈ jt := j_in 1231 (by decide +kernel) rfl
theorem l_M_251 : Cond.methodLink "BitLoomModel" 251 y_M_resultOf ∈ jt := j_in 1235 (by decide +kernel) rfl
theorem l_M_272 : Cond.methodLink "BitLoomModel" 272 y_M_listAll ∈ jt := j_in 1239 (by decide +kernel) rfl
theorem l_M_275 : Cond.methodLink "BitLoomModel" 275 y_M_gather ∈ jt := j_in 1243 (by decide +kernel) rfl
theorem l_L_123 : Cond.methodLink "BitLoomLaw" 123 y_M_place ∈ jt := j_in 1247 (by decide +kernel) rfl
theorem l_L_127 : Cond.methodLink "BitLoomLaw" 127 y_M_refused ∈ jt := j_in 1251 (by decide +kernel) rfl
theorem l_L_130 : Cond.methodLink "BitLoomLaw" 130 y_M_listed ∈ jt := j_in 1255 (by decide +kernel) rfl
theorem o_inst : Cond.instanceMethod Lib.objectInit ∈ jt := j_in 34 (by decide +kernel) rfl
theorem o_code : Cond.code Lib.objectInit ⟨#[0xb1]⟩ 1 none ∈ jt := j_in 35 (by decide +kernel) rfl
theorem n_L_8 : jN "BitLoomLaw" 8 0 7 [.null, .null, .null, .null, .null, .int 0, .int 0] := ⟨R_B, T_B, ty_B, rfl, in_B, tk_B, j_in 28 (by decide +kernel) rfl, j_in 29 (by decide +kernel) rfl, j_in 1 (by decide +kernel) rfl, by decide +kernel⟩
theorem n_B_9 : jN "BitLoom" 9 1 6 [.null, .null, .null, .null, .int 0, .int 0] := ⟨R_F, T_F, ty_F, rfl, in_F, tk_F, j_in 36 (by decide +kernel) rfl, j_in 37 (by decide +kernel) rfl, j_in 2 (by decide +kernel) rfl, by decide +kernel⟩
theorem n_B_16 : jN "BitLoom" 16 2 3 [.null, .int 0, .int 0] := ⟨R_W, T_W, ty_W, rfl, in_W, tk_W, j_in 64 (by decide +kernel) rfl, j_in 65 (by decide +kernel) rfl, j_in 3 (by decide +kernel) rfl, by decide +kernel⟩
theorem n_B_23 : jN "BitLoom" 23 3 2 [.null, .int 0] := ⟨R_T, T_T, ty_T, rfl, in_T, tk_T, j_in 80 (by decide +kernel) rfl, j_in 81 (by decide +kernel) rfl, j_in 4 (by decide +kernel) rfl, by decide +kernel⟩
theorem n_B_30 : jN "BitLoom" 30 8 11 [.null, .null, .null, .null, .null, .null, .int 0, .null, .int 0, .int 0, .int 0] := ⟨R_S, T_S, ty_S, rfl, in_S, tk_S, j_in 93 (by decide +kernel) rfl, j_in 94 (by decide +kernel) rfl, j_in 5 (by decide +kernel) rfl, by decide +kernel⟩
theorem n_S_19 : jN "BitLoom$Statement" 19 4 6 [.null, .null, .null, .null, .int 0, .int 0] := ⟨R_K, T_K, ty_K, rfl, in_K, tk_K, j_in 99 (by decide +kernel) rfl, j_in 100 (by decide +kernel) rfl, j_in 6 (by decide +kernel) rfl, by decide +kernel⟩
theorem n_S_28 : jN "BitLoom$Statement" 28 6 3 [.null, .null, .int 0] := ⟨R_P, T_P, ty_P, rfl, in_P, tk_P, j_in 124 (by decide +kernel) rfl, j_in 125 (by decide +kernel) rfl, j_in 7 (by decide +kernel) rfl, by decide +kernel⟩
theorem n_P_7 : jN "BitLoom$Pair" 7 5 3 [.null, .int 0, .int 0] := ⟨R_O, T_O, ty_O, rfl, in_O, tk_O, j_in 130 (by decide +kernel) rfl, j_in 131 (by decide +kernel) rfl, j_in 8 (by decide +kernel) rfl, by decide +kernel⟩
theorem n_S_37 : jN "BitLoom$Statement" 37 7 3 [.null, .null, .int 0] := ⟨R_C, T_C, ty_C, rfl, in_C, tk_C, j_in 159 (by decide +kernel) rfl, j_in 160 (by decide +kernel) rfl, j_in 9 (by decide +kernel) rfl, by decide +kernel⟩
theorem n_C_13 : jN "BitLoom$Change" 13 6 3 [.null, .null, .int 0] := ⟨R_P, T_P, ty_P, rfl, in_P, tk_P, j_in 165 (by decide +kernel) rfl, j_in 125 (by decide +kernel) rfl, j_in 7 (by decide +kernel) rfl, by decide +kernel⟩
theorem k_L_13 : Cond.classLink "BitLoomLaw" 13 "java/lang/IllegalArgumentException" ∈ jt := j_in 316 (by decide +kernel) rfl
theorem k_L_15 : Cond.classLink "BitLoomLaw" 15 "java/lang/IllegalStateException" ∈ jt := j_in 317 (by decide +kernel) rfl
theorem x_B_51 : jXT "BitLoom" 51 53 10 "java/lang/IllegalArgumentException" := ⟨⟨T_XA, rfl⟩, by decide +kernel, j_in 337 (by decide +kernel) rfl, j_in 338 (by decide +kernel) rfl, j_in 16 (by decide +kernel) rfl, by decide +kernel⟩
theorem k_B_51 : Cond.classLink "BitLoom" 51 "java/lang/IllegalArgumentException" ∈ jt := j_in 337 (by decide +kernel) rfl
theorem x_B_58 : jXT "BitLoom" 58 60 12 "java/lang/IllegalStateException" := ⟨⟨T_XS, rfl⟩, by decide +kernel, j_in 405 (by decide +kernel) rfl, j_in 406 (by decide +kernel) rfl, j_in 17 (by decide +kernel) rfl, by decide +kernel⟩
theorem k_B_58 : Cond.classLink "BitLoom" 58 "java/lang/IllegalStateException" ∈ jt := j_in 405 (by decide +kernel) rfl
theorem k_L_21 : Cond.classLink "BitLoomLaw" 21 "java/util/NoSuchElementException" ∈ jt := j_in 427 (by decide +kernel) rfl
theorem x_B_73 : jXT "BitLoom" 73 75 11 "java/util/NoSuchElementException" := ⟨⟨T_XN, rfl⟩, by decide +kernel, j_in 436 (by decide +kernel) rfl, j_in 437 (by decide +kernel) rfl, j_in 18 (by decide +kernel) rfl, by decide +kernel⟩
theorem k_B_73 : Cond.classLink "BitLoom" 73 "java/util/NoSuchElementException" ∈ jt := j_in 436 (by decide +kernel) rfl
theorem x_S_119 : jXT "BitLoom$Statement" 119 121 10 "java/lang/IllegalArgumentException" := ⟨⟨T_XA, rfl⟩, by decide +kernel, j_in 737 (by decide +kernel) rfl, j_in 338 (by decide +kernel) rfl, j_in 16 (by decide +kernel) rfl, by decide +kernel⟩
theorem k_S_119 : Cond.classLink "BitLoom$Statement" 119 "java/lang/IllegalArgumentException" ∈ jt := j_in 737 (by decide +kernel) rfl
theorem k_L_54 : Cond.classLink "BitLoomLaw" 54 "java/lang/IndexOutOfBoundsException" ∈ jt := j_in 890 (by decide +kernel) rfl
theorem x_B_172 : jXT "BitLoom" 172 174 13 "java/lang/IndexOutOfBoundsException" := ⟨⟨T_XI, rfl⟩, by decide +kernel, j_in 895 (by decide +kernel) rfl, j_in 896 (by decide +kernel) rfl, j_in 27 (by decide +kernel) rfl, by decide +kernel⟩
theorem k_B_172 : Cond.classLink "BitLoom" 172 "java/lang/IndexOutOfBoundsException" ∈ jt := j_in 895 (by decide +kernel) rfl
theorem n_L_57 : jN "BitLoomLaw" 57 9 38 [.int 0, .null, .null, .null, .int 0, .null, .null, .null, .null, .int 0, .null, .int 0, .int 0, .int 0, .null, .int 0, .int 0, .int 0, .int 0, .long 0, .int 0, .null, .null, .int 0, .null, .int 0, .int 0, .int 0, .int 0, .int 0, .null, .null, .null, .null, .null, .null, .int 0, .null] := ⟨R_M, T_M, ty_M, rfl, in_M, tk_M, j_in 910 (by decide +kernel) rfl, j_in 911 (by decide +kernel) rfl, j_in 12 (by decide +kernel) rfl, by decide +kernel⟩
theorem a_char : Cond.arrayClass .char ∈ jt := j_in 61 (by decide +kernel) rfl
theorem a_int : Cond.arrayClass .int ∈ jt := j_in 62 (by decide +kernel) rfl
theorem a_boolean : Cond.arrayClass .boolean ∈ jt := j_in 63 (by decide +kernel) rfl
theorem c_JInteger_265 : Cond.constant "java/lang/Integer" 265 (1431655765) ∈ jt := j_in 263 (by decide +kernel) rfl
theorem c_JInteger_266 : Cond.constant "java/lang/Integer" 266 (858993459) ∈ jt := j_in 264 (by decide +kernel) rfl
theorem c_JInteger_267 : Cond.constant "java/lang/Integer" 267 (252645135) ∈ jt := j_in 265 (by decide +kernel) rfl
theorem c_T_23 : Cond.constantLong "BitLoom$Text" 23 (255) ∈ jt := j_in 284 (by decide +kernel) rfl
theorem c_B_128 : Cond.constant "BitLoom" 128 (16777215) ∈ jt := j_in 528 (by decide +kernel) rfl
theorem c_JStringUTF16_227 : Cond.constant "java/lang/StringUTF16" 227 (65536) ∈ jt := j_in 618 (by decide +kernel) rfl
theorem c_JCharacter_110 : Cond.constant "java/lang/Character" 110 (55232) ∈ jt := j_in 657 (by decide +kernel) rfl
theorem c_JCharacter_76 : Cond.constant "java/lang/Character" 76 (56320) ∈ jt := j_in 661 (by decide +kernel) rfl
theorem c_B_161 : Cond.constant "BitLoom" 161 (-16777216) ∈ jt := j_in 885 (by decide +kernel) rfl
theorem c_M_99 : Cond.constant "BitLoomModel" 99 (16777215) ∈ jt := j_in 1086 (by decide +kernel) rfl
theorem c_M_100 : Cond.constantLong "BitLoomModel" 100 (255) ∈ jt := j_in 1099 (by decide +kernel) rfl
theorem c_M_135 : Cond.constantLong "BitLoomModel" 135 (-1) ∈ jt := j_in 1129 (by decide +kernel) rfl
theorem c_M_170 : Cond.constantLong "BitLoomModel" 170 (512852587109) ∈ jt := j_in 1138 (by decide +kernel) rfl
theorem c_M_137 : Cond.constantLong "BitLoomModel" 137 (7562612) ∈ jt := j_in 1150 (by decide +kernel) rfl
theorem c_M_139 : Cond.constantLong "BitLoomModel" 139 (7168376) ∈ jt := j_in 1151 (by decide +kernel) rfl
theorem c_M_141 : Cond.constantLong "BitLoomModel" 141 (7170414) ∈ jt := j_in 1152 (by decide +kernel) rfl
theorem c_M_143 : Cond.constantLong "BitLoomModel" 143 (7566701) ∈ jt := j_in 1153 (by decide +kernel) rfl
theorem c_M_145 : Cond.constantLong "BitLoomModel" 145 (1818850164) ∈ jt := j_in 1154 (by decide +kernel) rfl
theorem c_M_147 : Cond.constantLong "BitLoomModel" 147 (427071729268) ∈ jt := j_in 1155 (by decide +kernel) rfl
theorem c_L_106 : Cond.constantLong "BitLoomLaw" 106 (4294967295) ∈ jt := j_in 1259 (by decide +kernel) rfl
theorem a_long : Cond.arrayClass .long ∈ jt := j_in 1260 (by decide +kernel) rfl
end
section
theorem d_B_init_0 : decode b_B_init 0 = .ok (.aload_n 0, 1) := by decide +kernel
theorem d_B_init_1 : decode b_B_init 1 = .ok (.invokespecial 3, 3) := by decide +kernel
theorem d_B_init_4 : decode b_B_init 4 = .ok (.aload_n 0, 1) := by decide +kernel
theorem d_B_init_5 : decode b_B_init 5 = .ok (.new 9, 3) := by decide +kernel
theorem d_B_init_8 : decode b_B_init 8 = .ok (.dup, 1) := by decide +kernel
theorem d_B_init_9 : decode b_B_init 9 = .ok (.invokespecial 11, 3) := by decide +kernel
theorem d_B_init_12 : decode b_B_init 12 = .ok (.putfield 12, 3) := by decide +kernel
theorem d_B_init_15 : decode b_B_init 15 = .ok (.aload_n 0, 1) := by decide +kernel
theorem d_B_init_16 : decode b_B_init 16 = .ok (.new 16, 3) := by decide +kernel
theorem d_B_init_19 : decode b_B_init 19 = .ok (.dup, 1) := by decide +kernel
theorem d_B_init_20 : decode b_B_init 20 = .ok (.invokespecial 18, 3) := by decide +kernel
theorem d_B_init_23 : decode b_B_init 23 = .ok (.putfield 19, 3) := by decide +kernel
theorem d_B_init_26 : decode b_B_init 26 = .ok (.aload_n 0, 1) := by decide +kernel
theorem d_B_init_27 : decode b_B_init 27 = .ok (.new 23, 3) := by decide +kernel
theorem d_B_init_30 : decode b_B_init 30 = .ok (.dup, 1) := by decide +kernel
theorem d_B_init_31 : decode b_B_init 31 = .ok (.invokespecial 25, 3) := by decide +kernel
theorem d_B_init_34 : decode b_B_init 34 = .ok (.putfield 26, 3) := by decide +kernel
theorem d_B_init_37 : decode b_B_init 37 = .ok (.aload_n 0, 1) := by decide +kernel
theorem d_B_init_38 : decode b_B_init 38 = .ok (.new 30, 3) := by decide +kernel
theorem d_B_init_41 : decode b_B_init 41 = .ok (.dup, 1) := by decide +kernel
theorem d_B_init_42 : decode b_B_init 42 = .ok (.aload_n 0, 1) := by decide +kernel
theorem d_B_init_43 : decode b_B_init 43 = .ok (.getfield 12, 3) := by decide +kernel
theorem d_B_init_46 : decode b_B_init 46 = .ok (.aload_n 0, 1) := by decide +kernel
theorem d_B_init_47 : decode b_B_init 47 = .ok (.getfield 19, 3) := by decide +kernel
theorem d_B_init_50 : decode b_B_init 50 = .ok (.aload_n 0, 1) := by decide +kernel
theorem d_B_init_51 : decode b_B_init 51 = .ok (.getfield 26, 3) := by decide +kernel
theorem d_B_init_54 : decode b_B_init 54 = .ok (.invokespecial 32, 3) := by decide +kernel
theorem d_B_init_57 : decode b_B_init 57 = .ok (.putfield 35, 3) := by decide +kernel
theorem d_B_init_60 : decode b_B_init 60 = .ok (.aload_n 0, 1) := by decide +kernel
theorem d_B_init_61 : decode b_B_init 61 = .ok (.bipush 32, 2) := by decide +kernel
theorem d_B_init_63 : decode b_B_init 63 = .ok (.newarray .int, 2) := by decide +kernel
theorem d_B_init_65 : decode b_B_init 65 = .ok (.putfield 39, 3) := by decide +kernel
theorem d_B_init_68 : decode b_B_init 68 = .ok (.return_, 1) := by decide +kernel
theorem d_W_init_0 : decode b_W_init 0 = .ok (.aload_n 0, 1) := by decide +kernel
theorem d_W_init_1 : decode b_W_init 1 = .ok (.invokespecial 3, 3) := by decide +kernel
theorem d_W_init_4 : decode b_W_init 4 = .ok (.aload_n 0, 1) := by decide +kernel
theorem d_W_init_5 : decode b_W_init 5 = .ok (.bipush 32, 2) := by decide +kernel
theorem d_W_init_7 : decode b_W_init 7 = .ok (.newarray .int, 2) := by decide +kernel
theorem d_W_init_9 : decode b_W_init 9 = .ok (.putfield 9, 3) := by decide +kernel
theorem d_W_init_12 : decode b_W_init 12 = .ok (.return_, 1) := by decide +kernel
theorem d_T_init_0 : decode b_T_init 0 = .ok (.aload_n 0, 1) := by decide +kernel
theorem d_T_init_1 : decode b_T_init 1 = .ok (.invokespecial 3, 3) := by decide +kernel
theorem d_T_init_4 : decode b_T_init 4 = .ok (.aload_n 0, 1) := by decide +kernel
theorem d_T_init_5 : decode b_T_init 5 = .ok (.bipush 100, 2) := by decide +kernel
theorem d_T_init_7 : decode b_T_init 7 = .ok (.newarray .char, 2) := by decide +kernel
theorem d_T_init_9 : decode b_T_init 9 = .ok (.putfield 9, 3) := by decide +kernel
theorem d_T_init_12 : decode b_T_init 12 = .ok (.return_, 1) := by decide +kernel
theorem d_B_search_0 : decode b_B_search 0 = .ok (.iload_n 3, 1) := by decide +kernel
theorem d_B_search_1 : decode b_B_search 1 = .ok (.ifCond .eq 13, 3) := by decide +kernel
theorem d_B_search_4 : decode b_B_search 4 = .ok (.aload_n 0, 1) := by decide +kernel
theorem d_B_search_5 : decode b_B_search 5 = .ok (.getfield 19, 3) := by decide +kernel
theorem d_B_search_8 : decode b_B_search 8 = .ok (.invokevirtual 111, 3) := by decide +kernel
theorem d_B_search_11 : decode b_B_search 11 = .ok (.goto 10, 3) := by decide +kernel
theorem d_B_search_14 : decode b_B_search 14 = .ok (.aload_n 0, 1) := by decide +kernel
theorem d_B_search_15 : decode b_B_search 15 = .ok (.getfield 19, 3) := by decide +kernel
theorem d_B_search_18 : decode b_B_search 18 = .ok (.invokevirtual 114, 3) := by decide +kernel
theorem d_B_search_21 : decode b_B_search 21 = .ok (.istore 4, 2) := by decide +kernel
theorem d_B_search_23 : decode b_B_search 23 = .ok (.aload_n 0, 1) := by decide +kernel
theorem d_B_search_24 : decode b_B_search 24 = .ok (.getfield 19, 3) := by decide +kernel
theorem d_B_search_27 : decode b_B_search 27 = .ok (.aload_n 0, 1) := by decide +kernel
theorem d_B_search_28 : decode b_B_search 28 = .ok (.getfield 19, 3) := by decide +kernel
theorem d_B_search_31 : decode b_B_search 31 = .ok (.iload 4, 2) := by decide +kernel
theorem d_B_search_33 : decode b_B_search 33 = .ok (.iload_n 1, 1) := by decide +kernel
theorem d_B_search_34 : decode b_B_search 34 = .ok (.iload_n 2, 1) := by decide +kernel
theorem d_B_search_35 : decode b_B_search 35 = .ok (.invokevirtual 117, 3) := by decide +kernel
theorem d_B_search_38 : decode b_B_search 38 = .ok (.invokevirtual 120, 3) := by decide +kernel
theorem d_B_search_41 : decode b_B_search 41 = .ok (.aload_n 0, 1) := by decide +kernel
theorem d_B_search_42 : decode b_B_search 42 = .ok (.getfield 19, 3) := by decide +kernel
theorem d_B_search_45 : decode b_B_search 45 = .ok (.invokevirtual 111, 3) := by decide +kernel
theorem d_B_search_48 : decode b_B_search 48 = .ok (.invokestatic 123, 3) := by decide +kernel
theorem d_B_search_51 : decode b_B_search 51 = .ok (.ireturn, 1) := by decide +kernel
theorem d_W_responding_0 : decode b_W_responding 0 = .ok (.aload_n 0, 1) := by decide +kernel
theorem d_W_responding_1 : decode b_W_responding 1 = .ok (.getfield 23, 3) := by decide +kernel
theorem d_W_responding_4 : decode b_W_responding 4 = .ok (.ireturn, 1) := by decide +kernel
theorem d_W_inUse_0 : decode b_W_inUse 0 = .ok (.aload_n 0, 1) := by decide +kernel
theorem d_W_inUse_1 : decode b_W_inUse 1 = .ok (.getfield 19, 3) := by decide +kernel
theorem d_W_inUse_4 : decode b_W_inUse 4 = .ok (.ireturn, 1) := by decide +kernel
theorem d_W_matching_0 : decode b_W_matching 0 = .ok (.iconst 0, 1) := by decide +kernel
theorem d_W_matching_1 : decode b_W_matching 1 = .ok (.istore 4, 2) := by decide +kernel
theorem d_W_matching_3 : decode b_W_matching 3 = .ok (.iconst 0, 1) := by decide +kernel
theorem d_W_matching_4 : decode b_W_matching 4 = .ok (.istore 5, 2) := by decide +kernel
theorem d_W_matching_6 : decode b_W_matching 6 = .ok (.iload 5, 2) := by decide +kernel
theorem d_W_matching_8 : decode b_W_matching 8 = .ok (.bipush 32, 2) := by decide +kernel
theorem d_W_matching_10 : decode b_W_matching 10 = .ok (.if_icmp .ge 41, 3) := by decide +kernel
theorem d_W_matching_13 : decode b_W_matching 13 = .ok (.iload_n 1, 1) := by decide +kernel
theorem d_W_matching_14 : decode b_W_matching 14 = .ok (.iload 5, 2) := by decide +kernel
theorem d_W_matching_16 : decode b_W_matching 16 = .ok (.invokestatic 15, 3) := by decide +kernel
theorem d_W_matching_19 : decode b_W_matching 19 = .ok (.ifCond .eq 26, 3) := by decide +kernel
theorem d_W_matching_22 : decode b_W_matching 22 = .ok (.aload_n 0, 1) := by decide +kernel
theorem d_W_matching_23 : decode b_W_matching 23 = .ok (.getfield 9, 3) := by decide +kernel
theorem d_W_matching_26 : decode b_W_matching 26 = .ok (.iload 5, 2) := by decide +kernel
theorem d_W_matching_28 : decode b_W_matching 28 = .ok (.iaload, 1) := by decide +kernel
theorem d_W_matching_29 : decode b_W_matching 29 = .ok (.iload_n 3, 1) := by decide +kernel
theorem d_W_matching_30 : decode b_W_matching 30 = .ok (.ixor, 1) := by decide +kernel
theorem d_W_matching_31 : decode b_W_matching 31 = .ok (.iload_n 2, 1) := by decide +kernel
theorem d_W_matching_32 : decode b_W_matching 32 = .ok (.iand, 1) := by decide +kernel
theorem d_W_matching_33 : decode b_W_matching 33 = .ok (.ifCond .ne 12, 3) := by decide +kernel
theorem d_W_matching_36 : decode b_W_matching 36 = .ok (.iload 4, 2) := by decide +kernel
theorem d_W_matching_38 : decode b_W_matching 38 = .ok (.iconst 1, 1) := by decide +kernel
theorem d_W_matching_39 : decode b_W_matching 39 = .ok (.iload 5, 2) := by decide +kernel
theorem d_W_matching_41 : decode b_W_matching 41 = .ok (.ishl, 1) := by decide +kernel
theorem d_W_matching_42 : decode b_W_matching 42 = .ok (.ior, 1) := by decide +kernel
theorem d_W_matching_43 : decode b_W_matching 43 = .ok (.istore 4, 2) := by decide +kernel
theorem d_W_matching_45 : decode b_W_matching 45 = .ok (.iinc 5 1, 3) := by decide +kernel
theorem d_W_matching_48 : decode b_W_matching 48 = .ok (.goto (-42), 3) := by decide +kernel
theorem d_W_matching_51 : decode b_W_matching 51 = .ok (.iload 4, 2) := by decide +kernel
theorem d_W_matching_53 : decode b_W_matching 53 = .ok (.ireturn, 1) := by decide +kernel
theorem d_W_holds_0 : decode b_W_holds 0 = .ok (.iload_n 0, 1) := by decide +kernel
theorem d_W_holds_1 : decode b_W_holds 1 = .ok (.iload_n 1, 1) := by decide +kernel
theorem d_W_holds_2 : decode b_W_holds 2 = .ok (.iushr, 1) := by decide +kernel
theorem d_W_holds_3 : decode b_W_holds 3 = .ok (.iconst 1, 1) := by decide +kernel
theorem d_W_holds_4 : decode b_W_holds 4 = .ok (.iand, 1) := by decide +kernel
theorem d_W_holds_5 : decode b_W_holds 5 = .ok (.iconst 1, 1) := by decide +kernel
theorem d_W_holds_6 : decode b_W_holds 6 = .ok (.if_icmp .ne 7, 3) := by decide +kernel
theorem d_W_holds_9 : decode b_W_holds 9 = .ok (.iconst 1, 1) := by decide +kernel
theorem d_W_holds_10 : decode b_W_holds 10 = .ok (.goto 4, 3) := by decide +kernel
theorem d_W_holds_13 : decode b_W_holds 13 = .ok (.iconst 0, 1) := by decide +kernel
theorem d_W_holds_14 : decode b_W_holds 14 = .ok (.ireturn, 1) := by decide +kernel
theorem d_W_respondOnly_0 : decode b_W_respondOnly 0 = .ok (.aload_n 0, 1) := by decide +kernel
theorem d_W_respondOnly_1 : decode b_W_respondOnly 1 = .ok (.iload_n 1, 1) := by decide +kernel
theorem d_W_respondOnly_2 : decode b_W_respondOnly 2 = .ok (.putfield 23, 3) := by decide +kernel
theorem d_W_respondOnly_5 : decode b_W_respondOnly 5 = .ok (.return_, 1) := by decide +kernel
theorem d_B_first_0 : decode b_B_first 0 = .ok (.aload_n 0, 1) := by decide +kernel
theorem d_B_first_1 : decode b_B_first 1 = .ok (.getfield 19, 3) := by decide +kernel
theorem d_B_first_4 : decode b_B_first 4 = .ok (.invokevirtual 111, 3) := by decide +kernel
theorem d_B_first_7 : decode b_B_first 7 = .ok (.invokestatic 69, 3) := by decide +kernel
theorem d_B_first_10 : decode b_B_first 10 = .ok (.istore_n 1, 1) := by decide +kernel
theorem d_B_first_11 : decode b_B_first 11 = .ok (.iload_n 1, 1) := by decide +kernel
theorem d_B_first_12 : decode b_B_first 12 = .ok (.iconst (-1), 1) := by decide +kernel
theorem d_B_first_13 : decode b_B_first 13 = .ok (.if_icmp .eq 23, 3) := by decide +kernel
theorem d_B_first_16 : decode b_B_first 16 = .ok (.aload_n 0, 1) := by decide +kernel
theorem d_B_first_17 : decode b_B_first 17 = .ok (.getfield 19, 3) := by decide +kernel
theorem d_B_first_20 : decode b_B_first 20 = .ok (.aload_n 0, 1) := by decide +kernel
theorem d_B_first_21 : decode b_B_first 21 = .ok (.getfield 19, 3) := by decide +kernel
theorem d_B_first_24 : decode b_B_first 24 = .ok (.invokevirtual 111, 3) := by decide +kernel
theorem d_B_first_27 : decode b_B_first 27 = .ok (.iconst 1, 1) := by decide +kernel
theorem d_B_first_28 : decode b_B_first 28 = .ok (.iload_n 1, 1) := by decide +kernel
theorem d_B_first_29 : decode b_B_first 29 = .ok (.ishl, 1) := by decide +kernel
theorem d_B_first_30 : decode b_B_first 30 = .ok (.iconst (-1), 1) := by decide +kernel
theorem d_B_first_31 : decode b_B_first 31 = .ok (.ixor, 1) := by decide +kernel
theorem d_B_first_32 : decode b_B_first 32 = .ok (.iand, 1) := by decide +kernel
theorem d_B_first_33 : decode b_B_first 33 = .ok (.invokevirtual 120, 3) := by decide +kernel
theorem d_B_first_36 : decode b_B_first 36 = .ok (.iload_n 1, 1) := by decide +kernel
theorem d_B_first_37 : decode b_B_first 37 = .ok (.ireturn, 1) := by decide +kernel
theorem d_W_lowestOf_0 : decode b_W_lowestOf 0 = .ok (.iconst 0, 1) := by decide +kernel
theorem d_W_lowestOf_1 : decode b_W_lowestOf 1 = .ok (.istore_n 1, 1) := by decide +kernel
theorem d_W_lowestOf_2 : decode b_W_lowestOf 2 = .ok (.iload_n 1, 1) := by decide +kernel
theorem d_W_lowestOf_3 : decode b_W_lowestOf 3 = .ok (.bipush 32, 2) := by decide +kernel
theorem d_W_lowestOf_5 : decode b_W_lowestOf 5 = .ok (.if_icmp .ge 19, 3) := by decide +kernel
theorem d_W_lowestOf_8 : decode b_W_lowestOf 8 = .ok (.iload_n 0, 1) := by decide +kernel
theorem d_W_lowestOf_9 : decode b_W_lowestOf 9 = .ok (.iload_n 1, 1) := by decide +kernel
theorem d_W_lowestOf_10 : decode b_W_lowestOf 10 = .ok (.invokestatic 15, 3) := by decide +kernel
theorem d_W_lowestOf_13 : decode b_W_lowestOf 13 = .ok (.ifCond .eq 5, 3) := by decide +kernel
theorem d_W_lowestOf_16 : decode b_W_lowestOf 16 = .ok (.iload_n 1, 1) := by decide +kernel
theorem d_W_lowestOf_17 : decode b_W_lowestOf 17 = .ok (.ireturn, 1) := by decide +kernel
theorem d_W_lowestOf_18 : decode b_W_lowestOf 18 = .ok (.iinc 1 1, 3) := by decide +kernel
theorem d_W_lowestOf_21 : decode b_W_lowestOf 21 = .ok (.goto (-19), 3) := by decide +kernel
theorem d_W_lowestOf_24 : decode b_W_lowestOf 24 = .ok (.iconst (-1), 1) := by decide +kernel
theorem d_W_lowestOf_25 : decode b_W_lowestOf 25 = .ok (.ireturn, 1) := by decide +kernel
theorem d_B_write_0 : decode b_B_write 0 = .ok (.aload_n 0, 1) := by decide +kernel
theorem d_B_write_1 : decode b_B_write 1 = .ok (.getfield 26, 3) := by decide +kernel
theorem d_B_write_4 : decode b_B_write 4 = .ok (.lload_n 1, 1) := by decide +kernel
theorem d_B_write_5 : decode b_B_write 5 = .ok (.invokevirtual 136, 3) := by decide +kernel
theorem d_B_write_8 : decode b_B_write 8 = .ok (.ifCond .ne 5, 3) := by decide +kernel
theorem d_B_write_11 : decode b_B_write 11 = .ok (.iconst 0, 1) := by decide +kernel
theorem d_B_write_12 : decode b_B_write 12 = .ok (.ireturn, 1) := by decide +kernel
theorem d_B_write_13 : decode b_B_write 13 = .ok (.aload_n 0, 1) := by decide +kernel
theorem d_B_write_14 : decode b_B_write 14 = .ok (.getfield 26, 3) := by decide +kernel
theorem d_B_write_17 : decode b_B_write 17 = .ok (.lload_n 1, 1) := by decide +kernel
theorem d_B_write_18 : decode b_B_write 18 = .ok (.invokevirtual 140, 3) := by decide +kernel
theorem d_B_write_21 : decode b_B_write 21 = .ok (.iconst 1, 1) := by decide +kernel
theorem d_B_write_22 : decode b_B_write 22 = .ok (.ireturn, 1) := by decide +kernel
theorem d_T_canTake_0 : decode b_T_canTake 0 = .ok (.iconst 0, 1) := by decide +kernel
theorem d_T_canTake_1 : decode b_T_canTake 1 = .ok (.istore_n 3, 1) := by decide +kernel
theorem d_T_canTake_2 : decode b_T_canTake 2 = .ok (.iconst 0, 1) := by decide +kernel
theorem d_T_canTake_3 : decode b_T_canTake 3 = .ok (.istore 4, 2) := by decide +kernel
theorem d_T_canTake_5 : decode b_T_canTake 5 = .ok (.iload 4, 2) := by decide +kernel
theorem d_T_canTake_7 : decode b_T_canTake 7 = .ok (.bipush 8, 2) := by decide +kernel
theorem d_T_canTake_9 : decode b_T_canTake 9 = .ok (.if_icmp .ge 41, 3) := by decide +kernel
theorem d_T_canTake_12 : decode b_T_canTake 12 = .ok (.lload_n 1, 1) := by decide +kernel
theorem d_T_canTake_13 : decode b_T_canTake 13 = .ok (.iload 4, 2) := by decide +kernel
theorem d_T_canTake_15 : decode b_T_canTake 15 = .ok (.invokestatic 19, 3) := by decide +kernel
theorem d_T_canTake_18 : decode b_T_canTake 18 = .ok (.istore 5, 2) := by decide +kernel
theorem d_T_canTake_20 : decode b_T_canTake 20 = .ok (.iload 5, 2) := by decide +kernel
theorem d_T_canTake_22 : decode b_T_canTake 22 = .ok (.ifCond .eq 22, 3) := by decide +kernel
theorem d_T_canTake_25 : decode b_T_canTake 25 = .ok (.iload 5, 2) := by decide +kernel
theorem d_T_canTake_27 : decode b_T_canTake 27 = .ok (.bipush 32, 2) := by decide +kernel
theorem d_T_canTake_29 : decode b_T_canTake 29 = .ok (.if_icmp .lt 10, 3) := by decide +kernel
theorem d_T_canTake_32 : decode b_T_canTake 32 = .ok (.iload 5, 2) := by decide +kernel
theorem d_T_canTake_34 : decode b_T_canTake 34 = .ok (.bipush 126, 2) := by decide +kernel
theorem d_T_canTake_36 : decode b_T_canTake 36 = .ok (.if_icmp .le 5, 3) := by decide +kernel
theorem d_T_canTake_39 : decode b_T_canTake 39 = .ok (.iconst 0, 1) := by decide +kernel
theorem d_T_canTake_40 : decode b_T_canTake 40 = .ok (.ireturn, 1) := by decide +kernel
theorem d_T_canTake_41 : decode b_T_canTake 41 = .ok (.iinc 3 1, 3) := by decide +kernel
theorem d_T_canTake_44 : decode b_T_canTake 44 = .ok (.iinc 4 1, 3) := by decide +kernel
theorem d_T_canTake_47 : decode b_T_canTake 47 = .ok (.goto (-42), 3) := by decide +kernel
theorem d_T_canTake_50 : decode b_T_canTake 50 = .ok (.aload_n 0, 1) := by decide +kernel
theorem d_T_canTake_51 : decode b_T_canTake 51 = .ok (.getfield 15, 3) := by decide +kernel
theorem d_T_canTake_54 : decode b_T_canTake 54 = .ok (.iload_n 3, 1) := by decide +kernel
theorem d_T_canTake_55 : decode b_T_canTake 55 = .ok (.iadd, 1) := by decide +kernel
theorem d_T_canTake_56 : decode b_T_canTake 56 = .ok (.bipush 100, 2) := by decide +kernel
theorem d_T_canTake_58 : decode b_T_canTake 58 = .ok (.if_icmp .gt 7, 3) := by decide +kernel
theorem d_T_canTake_61 : decode b_T_canTake 61 = .ok (.iconst 1, 1) := by decide +kernel
theorem d_T_canTake_62 : decode b_T_canTake 62 = .ok (.goto 4, 3) := by decide +kernel
theorem d_T_canTake_65 : decode b_T_canTake 65 = .ok (.iconst 0, 1) := by decide +kernel
theorem d_T_canTake_66 : decode b_T_canTake 66 = .ok (.ireturn, 1) := by decide +kernel
theorem d_T_codeOf_0 : decode b_T_codeOf 0 = .ok (.lload_n 0, 1) := by decide +kernel
theorem d_T_codeOf_1 : decode b_T_codeOf 1 = .ok (.bipush 8, 2) := by decide +kernel
theorem d_T_codeOf_3 : decode b_T_codeOf 3 = .ok (.iload_n 2, 1) := by decide +kernel
theorem d_T_codeOf_4 : decode b_T_codeOf 4 = .ok (.imul, 1) := by decide +kernel
theorem d_T_codeOf_5 : decode b_T_codeOf 5 = .ok (.lushr, 1) := by decide +kernel
theorem d_T_codeOf_6 : decode b_T_codeOf 6 = .ok (.ldc2_w 23, 3) := by decide +kernel
theorem d_T_codeOf_9 : decode b_T_codeOf 9 = .ok (.land, 1) := by decide +kernel
theorem d_T_codeOf_10 : decode b_T_codeOf 10 = .ok (.l2i, 1) := by decide +kernel
theorem d_T_codeOf_11 : decode b_T_codeOf 11 = .ok (.ireturn, 1) := by decide +kernel
theorem d_T_append_0 : decode b_T_append 0 = .ok (.iconst 0, 1) := by decide +kernel
theorem d_T_append_1 : decode b_T_append 1 = .ok (.istore_n 3, 1) := by decide +kernel
theorem d_T_append_2 : decode b_T_append 2 = .ok (.iload_n 3, 1) := by decide +kernel
theorem d_T_append_3 : decode b_T_append 3 = .ok (.bipush 8, 2) := by decide +kernel
theorem d_T_append_5 : decode b_T_append 5 = .ok (.if_icmp .ge 52, 3) := by decide +kernel
theorem d_T_append_8 : decode b_T_append 8 = .ok (.lload_n 1, 1) := by decide +kernel
theorem d_T_append_9 : decode b_T_append 9 = .ok (.iload_n 3, 1) := by decide +kernel
theorem d_T_append_10 : decode b_T_append 10 = .ok (.invokestatic 19, 3) := by decide +kernel
theorem d_T_append_13 : decode b_T_append 13 = .ok (.istore 4, 2) := by decide +kernel
theorem d_T_append_15 : decode b_T_append 15 = .ok (.iload 4, 2) := by decide +kernel
theorem d_T_append_17 : decode b_T_append 17 = .ok (.ifCond .eq 34, 3) := by decide +kernel
theorem d_T_append_20 : decode b_T_append 20 = .ok (.aload_n 0, 1) := by decide +kernel
theorem d_T_append_21 : decode b_T_append 21 = .ok (.getfield 15, 3) := by decide +kernel
theorem d_T_append_24 : decode b_T_append 24 = .ok (.bipush 100, 2) := by decide +kernel
theorem d_T_append_26 : decode b_T_append 26 = .ok (.if_icmp .ge 25, 3) := by decide +kernel
theorem d_T_append_29 : decode b_T_append 29 = .ok (.aload_n 0, 1) := by decide +kernel
theorem d_T_append_30 : decode b_T_append 30 = .ok (.getfield 9, 3) := by decide +kernel
theorem d_T_append_33 : decode b_T_append 33 = .ok (.aload_n 0, 1) := by decide +kernel
theorem d_T_append_34 : decode b_T_append 34 = .ok (.getfield 15, 3) := by decide +kernel
theorem d_T_append_37 : decode b_T_append 37 = .ok (.iload 4, 2) := by decide +kernel
theorem d_T_append_39 : decode b_T_append 39 = .ok (.i2c, 1) := by decide +kernel
theorem d_T_append_40 : decode b_T_append 40 = .ok (.castore, 1) := by decide +kernel
theorem d_T_append_41 : decode b_T_append 41 = .ok (.aload_n 0, 1) := by decide +kernel
theorem d_T_append_42 : decode b_T_append 42 = .ok (.dup, 1) := by decide +kernel
theorem d_T_append_43 : decode b_T_append 43 = .ok (.getfield 15, 3) := by decide +kernel
theorem d_T_append_46 : decode b_T_append 46 = .ok (.iconst 1, 1) := by decide +kernel
theorem d_T_append_47 : decode b_T_append 47 = .ok (.iadd, 1) := by decide +kernel
theorem d_T_append_48 : decode b_T_append 48 = .ok (.putfield 15, 3) := by decide +kernel
theorem d_T_append_51 : decode b_T_append 51 = .ok (.iinc 3 1, 3) := by decide +kernel
theorem d_T_append_54 : decode b_T_append 54 = .ok (.goto (-52), 3) := by decide +kernel
theorem d_T_append_57 : decode b_T_append 57 = .ok (.return_, 1) := by decide +kernel
theorem d_B_wipe_0 : decode b_B_wipe 0 = .ok (.aload_n 0, 1) := by decide +kernel
theorem d_B_wipe_1 : decode b_B_wipe 1 = .ok (.getfield 26, 3) := by decide +kernel
theorem d_B_wipe_4 : decode b_B_wipe 4 = .ok (.invokevirtual 143, 3) := by decide +kernel
theorem d_B_wipe_7 : decode b_B_wipe 7 = .ok (.istore_n 1, 1) := by decide +kernel
theorem d_B_wipe_8 : decode b_B_wipe 8 = .ok (.aload_n 0, 1) := by decide +kernel
theorem d_B_wipe_9 : decode b_B_wipe 9 = .ok (.getfield 26, 3) := by decide +kernel
theorem d_B_wipe_12 : decode b_B_wipe 12 = .ok (.invokevirtual 146, 3) := by decide +kernel
theorem d_B_wipe_15 : decode b_B_wipe 15 = .ok (.iload_n 1, 1) := by decide +kernel
theorem d_B_wipe_16 : decode b_B_wipe 16 = .ok (.ireturn, 1) := by decide +kernel
theorem d_T_length_0 : decode b_T_length 0 = .ok (.aload_n 0, 1) := by decide +kernel
theorem d_T_length_1 : decode b_T_length 1 = .ok (.getfield 15, 3) := by decide +kernel
theorem d_T_length_4 : decode b_T_length 4 = .ok (.ireturn, 1) := by decide +kernel
theorem d_T_clear_0 : decode b_T_clear 0 = .ok (.aload_n 0, 1) := by decide +kernel
theorem d_T_clear_1 : decode b_T_clear 1 = .ok (.iconst 0, 1) := by decide +kernel
theorem d_T_clear_2 : decode b_T_clear 2 = .ok (.putfield 15, 3) := by decide +kernel
theorem d_T_clear_5 : decode b_T_clear 5 = .ok (.return_, 1) := by decide +kernel
theorem d_B_place_0 : decode b_B_place 0 = .ok (.aload_n 0, 1) := by decide +kernel
theorem d_B_place_1 : decode b_B_place 1 = .ok (.getfield 35, 3) := by decide +kernel
theorem d_B_place_4 : decode b_B_place 4 = .ok (.invokevirtual 162, 3) := by decide +kernel
theorem d_B_place_7 : decode b_B_place 7 = .ok (.ireturn, 1) := by decide +kernel
theorem d_B_refused_0 : decode b_B_refused 0 = .ok (.aload_n 0, 1) := by decide +kernel
theorem d_B_refused_1 : decode b_B_refused 1 = .ok (.getfield 165, 3) := by decide +kernel
theorem d_B_refused_4 : decode b_B_refused 4 = .ok (.ireturn, 1) := by decide +kernel
theorem d_B_field_0 : decode b_B_field 0 = .ok (.aload_n 0, 1) := by decide +kernel
theorem d_B_field_1 : decode b_B_field 1 = .ok (.getfield 12, 3) := by decide +kernel
theorem d_B_field_4 : decode b_B_field 4 = .ok (.iload_n 1, 1) := by decide +kernel
theorem d_B_field_5 : decode b_B_field 5 = .ok (.invokevirtual 43, 3) := by decide +kernel
theorem d_B_field_8 : decode b_B_field 8 = .ok (.ifCond .eq 15, 3) := by decide +kernel
theorem d_B_field_11 : decode b_B_field 11 = .ok (.aload_n 0, 1) := by decide +kernel
theorem d_B_field_12 : decode b_B_field 12 = .ok (.getfield 12, 3) := by decide +kernel
theorem d_B_field_15 : decode b_B_field 15 = .ok (.iload_n 2, 1) := by decide +kernel
theorem d_B_field_16 : decode b_B_field 16 = .ok (.iload_n 3, 1) := by decide +kernel
theorem d_B_field_17 : decode b_B_field 17 = .ok (.invokevirtual 47, 3) := by decide +kernel
theorem d_B_field_20 : decode b_B_field 20 = .ok (.ifCond .ne 11, 3) := by decide +kernel
theorem d_B_field_23 : decode b_B_field 23 = .ok (.new 51, 3) := by decide +kernel
theorem d_B_field_26 : decode b_B_field 26 = .ok (.dup, 1) := by decide +kernel
theorem d_B_field_27 : decode b_B_field 27 = .ok (.invokespecial 53, 3) := by decide +kernel
theorem d_B_field_30 : decode b_B_field 30 = .ok (.athrow, 1) := by decide +kernel
theorem d_B_field_31 : decode b_B_field 31 = .ok (.aload_n 0, 1) := by decide +kernel
theorem d_B_field_32 : decode b_B_field 32 = .ok (.getfield 12, 3) := by decide +kernel
theorem d_B_field_35 : decode b_B_field 35 = .ok (.invokevirtual 54, 3) := by decide +kernel
theorem d_B_field_38 : decode b_B_field 38 = .ok (.ifCond .eq 11, 3) := by decide +kernel
theorem d_B_field_41 : decode b_B_field 41 = .ok (.new 58, 3) := by decide +kernel
theorem d_B_field_44 : decode b_B_field 44 = .ok (.dup, 1) := by decide +kernel
theorem d_B_field_45 : decode b_B_field 45 = .ok (.invokespecial 60, 3) := by decide +kernel
theorem d_B_field_48 : decode b_B_field 48 = .ok (.athrow, 1) := by decide +kernel
theorem d_B_field_49 : decode b_B_field 49 = .ok (.aload_n 0, 1) := by decide +kernel
theorem d_B_field_50 : decode b_B_field 50 = .ok (.getfield 12, 3) := by decide +kernel
theorem d_B_field_53 : decode b_B_field 53 = .ok (.iload_n 1, 1) := by decide +kernel
theorem d_B_field_54 : decode b_B_field 54 = .ok (.iload_n 2, 1) := by decide +kernel
theorem d_B_field_55 : decode b_B_field 55 = .ok (.iload_n 3, 1) := by decide +kernel
theorem d_B_field_56 : decode b_B_field 56 = .ok (.iload 4, 2) := by decide +kernel
theorem d_B_field_58 : decode b_B_field 58 = .ok (.invokevirtual 61, 3) := by decide +kernel
theorem d_B_field_61 : decode b_B_field 61 = .ok (.return_, 1) := by decide +kernel
theorem d_B_insert_0 : decode b_B_insert 0 = .ok (.aload_n 0, 1) := by decide +kernel
theorem d_B_insert_1 : decode b_B_insert 1 = .ok (.getfield 19, 3) := by decide +kernel
theorem d_B_insert_4 : decode b_B_insert 4 = .ok (.invokevirtual 65, 3) := by decide +kernel
theorem d_B_insert_7 : decode b_B_insert 7 = .ok (.invokestatic 69, 3) := by decide +kernel
theorem d_B_insert_10 : decode b_B_insert 10 = .ok (.istore_n 1, 1) := by decide +kernel
theorem d_B_insert_11 : decode b_B_insert 11 = .ok (.iload_n 1, 1) := by decide +kernel
theorem d_B_insert_12 : decode b_B_insert 12 = .ok (.iconst (-1), 1) := by decide +kernel
theorem d_B_insert_13 : decode b_B_insert 13 = .ok (.if_icmp .ne 11, 3) := by decide +kernel
theorem d_B_insert_16 : decode b_B_insert 16 = .ok (.new 73, 3) := by decide +kernel
theorem d_B_insert_19 : decode b_B_insert 19 = .ok (.dup, 1) := by decide +kernel
theorem d_B_insert_20 : decode b_B_insert 20 = .ok (.invokespecial 75, 3) := by decide +kernel
theorem d_B_insert_23 : decode b_B_insert 23 = .ok (.athrow, 1) := by decide +kernel
theorem d_B_insert_24 : decode b_B_insert 24 = .ok (.aload_n 0, 1) := by decide +kernel
theorem d_B_insert_25 : decode b_B_insert 25 = .ok (.getfield 19, 3) := by decide +kernel
theorem d_B_insert_28 : decode b_B_insert 28 = .ok (.iload_n 1, 1) := by decide +kernel
theorem d_B_insert_29 : decode b_B_insert 29 = .ok (.invokevirtual 76, 3) := by decide +kernel
theorem d_B_insert_32 : decode b_B_insert 32 = .ok (.iload_n 1, 1) := by decide +kernel
theorem d_B_insert_33 : decode b_B_insert 33 = .ok (.ireturn, 1) := by decide +kernel
theorem d_W_free_0 : decode b_W_free 0 = .ok (.aload_n 0, 1) := by decide +kernel
theorem d_W_free_1 : decode b_W_free 1 = .ok (.getfield 19, 3) := by decide +kernel
theorem d_W_free_4 : decode b_W_free 4 = .ok (.iconst (-1), 1) := by decide +kernel
theorem d_W_free_5 : decode b_W_free 5 = .ok (.ixor, 1) := by decide +kernel
theorem d_W_free_6 : decode b_W_free 6 = .ok (.ireturn, 1) := by decide +kernel
theorem d_W_occupy_0 : decode b_W_occupy 0 = .ok (.aload_n 0, 1) := by decide +kernel
theorem d_W_occupy_1 : decode b_W_occupy 1 = .ok (.dup, 1) := by decide +kernel
theorem d_W_occupy_2 : decode b_W_occupy 2 = .ok (.getfield 19, 3) := by decide +kernel
theorem d_W_occupy_5 : decode b_W_occupy 5 = .ok (.iconst 1, 1) := by decide +kernel
theorem d_W_occupy_6 : decode b_W_occupy 6 = .ok (.iload_n 1, 1) := by decide +kernel
theorem d_W_occupy_7 : decode b_W_occupy 7 = .ok (.ishl, 1) := by decide +kernel
theorem d_W_occupy_8 : decode b_W_occupy 8 = .ok (.ior, 1) := by decide +kernel
theorem d_W_occupy_9 : decode b_W_occupy 9 = .ok (.putfield 19, 3) := by decide +kernel
theorem d_W_occupy_12 : decode b_W_occupy 12 = .ok (.return_, 1) := by decide +kernel
theorem d_B_remove_0 : decode b_B_remove 0 = .ok (.aload_n 0, 1) := by decide +kernel
theorem d_B_remove_1 : decode b_B_remove 1 = .ok (.iload_n 1, 1) := by decide +kernel
theorem d_B_remove_2 : decode b_B_remove 2 = .ok (.invokevirtual 80, 3) := by decide +kernel
theorem d_B_remove_5 : decode b_B_remove 5 = .ok (.aload_n 0, 1) := by decide +kernel
theorem d_B_remove_6 : decode b_B_remove 6 = .ok (.iload_n 1, 1) := by decide +kernel
theorem d_B_remove_7 : decode b_B_remove 7 = .ok (.invokevirtual 83, 3) := by decide +kernel
theorem d_B_remove_10 : decode b_B_remove 10 = .ok (.aload_n 0, 1) := by decide +kernel
theorem d_B_remove_11 : decode b_B_remove 11 = .ok (.getfield 19, 3) := by decide +kernel
theorem d_B_remove_14 : decode b_B_remove 14 = .ok (.iload_n 1, 1) := by decide +kernel
theorem d_B_remove_15 : decode b_B_remove 15 = .ok (.invokevirtual 86, 3) := by decide +kernel
theorem d_B_remove_18 : decode b_B_remove 18 = .ok (.return_, 1) := by decide +kernel
theorem d_B_requireWord_0 : decode b_B_requireWord 0 = .ok (.iload_n 1, 1) := by decide +kernel
theorem d_B_requireWord_1 : decode b_B_requireWord 1 = .ok (.ifCond .lt 9, 3) := by decide +kernel
theorem d_B_requireWord_4 : decode b_B_requireWord 4 = .ok (.iload_n 1, 1) := by decide +kernel
theorem d_B_requireWord_5 : decode b_B_requireWord 5 = .ok (.bipush 32, 2) := by decide +kernel
theorem d_B_requireWord_7 : decode b_B_requireWord 7 = .ok (.if_icmp .lt 11, 3) := by decide +kernel
theorem d_B_requireWord_10 : decode b_B_requireWord 10 = .ok (.new 51, 3) := by decide +kernel
theorem d_B_requireWord_13 : decode b_B_requireWord 13 = .ok (.dup, 1) := by decide +kernel
theorem d_B_requireWord_14 : decode b_B_requireWord 14 = .ok (.invokespecial 53, 3) := by decide +kernel
theorem d_B_requireWord_17 : decode b_B_requireWord 17 = .ok (.athrow, 1) := by decide +kernel
theorem d_B_requireWord_18 : decode b_B_requireWord 18 = .ok (.return_, 1) := by decide +kernel
theorem d_B_requireInUse_0 : decode b_B_requireInUse 0 = .ok (.aload_n 0, 1) := by decide +kernel
theorem d_B_requireInUse_1 : decode b_B_requireInUse 1 = .ok (.getfield 19, 3) := by decide +kernel
theorem d_B_requireInUse_4 : decode b_B_requireInUse 4 = .ok (.invokevirtual 114, 3) := by decide +kernel
theorem d_B_requireInUse_7 : decode b_B_requireInUse 7 = .ok (.iload_n 1, 1) := by decide +kernel
theorem d_B_requireInUse_8 : decode b_B_requireInUse 8 = .ok (.invokestatic 133, 3) := by decide +kernel
theorem d_B_requireInUse_11 : decode b_B_requireInUse 11 = .ok (.ifCond .ne 11, 3) := by decide +kernel
theorem d_B_requireInUse_14 : decode b_B_requireInUse 14 = .ok (.new 73, 3) := by decide +kernel
theorem d_B_requireInUse_17 : decode b_B_requireInUse 17 = .ok (.dup, 1) := by decide +kernel
theorem d_B_requireInUse_18 : decode b_B_requireInUse 18 = .ok (.invokespecial 75, 3) := by decide +kernel
theorem d_B_requireInUse_21 : decode b_B_requireInUse 21 = .ok (.athrow, 1) := by decide +kernel
theorem d_B_requireInUse_22 : decode b_B_requireInUse 22 = .ok (.return_, 1) := by decide +kernel
theorem d_W_release_0 : decode b_W_release 0 = .ok (.aload_n 0, 1) := by decide +kernel
theorem d_W_release_1 : decode b_W_release 1 = .ok (.dup, 1) := by decide +kernel
theorem d_W_release_2 : decode b_W_release 2 = .ok (.getfield 19, 3) := by decide +kernel
theorem d_W_release_5 : decode b_W_release 5 = .ok (.iconst 1, 1) := by decide +kernel
theorem d_W_release_6 : decode b_W_release 6 = .ok (.iload_n 1, 1) := by decide +kernel
theorem d_W_release_7 : decode b_W_release 7 = .ok (.ishl, 1) := by decide +kernel
theorem d_W_release_8 : decode b_W_release 8 = .ok (.iconst (-1), 1) := by decide +kernel
theorem d_W_release_9 : decode b_W_release 9 = .ok (.ixor, 1) := by decide +kernel
theorem d_W_release_10 : decode b_W_release 10 = .ok (.iand, 1) := by decide +kernel
theorem d_W_release_11 : decode b_W_release 11 = .ok (.putfield 19, 3) := by decide +kernel
theorem d_W_release_14 : decode b_W_release 14 = .ok (.aload_n 0, 1) := by decide +kernel
theorem d_W_release_15 : decode b_W_release 15 = .ok (.dup, 1) := by decide +kernel
theorem d_W_release_16 : decode b_W_release 16 = .ok (.getfield 23, 3) := by decide +kernel
theorem d_W_release_19 : decode b_W_release 19 = .ok (.iconst 1, 1) := by decide +kernel
theorem d_W_release_20 : decode b_W_release 20 = .ok (.iload_n 1, 1) := by decide +kernel
theorem d_W_release_21 : decode b_W_release 21 = .ok (.ishl, 1) := by decide +kernel
theorem d_W_release_22 : decode b_W_release 22 = .ok (.iconst (-1), 1) := by decide +kernel
theorem d_W_release_23 : decode b_W_release 23 = .ok (.ixor, 1) := by decide +kernel
theorem d_W_release_24 : decode b_W_release 24 = .ok (.iand, 1) := by decide +kernel
theorem d_W_release_25 : decode b_W_release 25 = .ok (.putfield 23, 3) := by decide +kernel
theorem d_W_release_28 : decode b_W_release 28 = .ok (.aload_n 0, 1) := by decide +kernel
theorem d_W_release_29 : decode b_W_release 29 = .ok (.getfield 9, 3) := by decide +kernel
theorem d_W_release_32 : decode b_W_release 32 = .ok (.iload_n 1, 1) := by decide +kernel
theorem d_W_release_33 : decode b_W_release 33 = .ok (.iconst 0, 1) := by decide +kernel
theorem d_W_release_34 : decode b_W_release 34 = .ok (.iastore, 1) := by decide +kernel
theorem d_W_release_35 : decode b_W_release 35 = .ok (.return_, 1) := by decide +kernel
theorem d_B_put_0 : decode b_B_put 0 = .ok (.aload_n 0, 1) := by decide +kernel
theorem d_B_put_1 : decode b_B_put 1 = .ok (.iload_n 1, 1) := by decide +kernel
theorem d_B_put_2 : decode b_B_put 2 = .ok (.invokevirtual 80, 3) := by decide +kernel
theorem d_B_put_5 : decode b_B_put 5 = .ok (.aload_n 0, 1) := by decide +kernel
theorem d_B_put_6 : decode b_B_put 6 = .ok (.iload_n 2, 1) := by decide +kernel
theorem d_B_put_7 : decode b_B_put 7 = .ok (.invokevirtual 89, 3) := by decide +kernel
theorem d_B_put_10 : decode b_B_put 10 = .ok (.istore 4, 2) := by decide +kernel
theorem d_B_put_12 : decode b_B_put 12 = .ok (.aload_n 0, 1) := by decide +kernel
theorem d_B_put_13 : decode b_B_put 13 = .ok (.iload_n 1, 1) := by decide +kernel
theorem d_B_put_14 : decode b_B_put 14 = .ok (.invokevirtual 83, 3) := by decide +kernel
theorem d_B_put_17 : decode b_B_put 17 = .ok (.aload_n 0, 1) := by decide +kernel
theorem d_B_put_18 : decode b_B_put 18 = .ok (.getfield 12, 3) := by decide +kernel
theorem d_B_put_21 : decode b_B_put 21 = .ok (.iload 4, 2) := by decide +kernel
theorem d_B_put_23 : decode b_B_put 23 = .ok (.iload_n 3, 1) := by decide +kernel
theorem d_B_put_24 : decode b_B_put 24 = .ok (.invokevirtual 93, 3) := by decide +kernel
theorem d_B_put_27 : decode b_B_put 27 = .ok (.ifCond .ne 11, 3) := by decide +kernel
theorem d_B_put_30 : decode b_B_put 30 = .ok (.new 58, 3) := by decide +kernel
theorem d_B_put_33 : decode b_B_put 33 = .ok (.dup, 1) := by decide +kernel
theorem d_B_put_34 : decode b_B_put 34 = .ok (.invokespecial 60, 3) := by decide +kernel
theorem d_B_put_37 : decode b_B_put 37 = .ok (.athrow, 1) := by decide +kernel
theorem d_B_put_38 : decode b_B_put 38 = .ok (.aload_n 0, 1) := by decide +kernel
theorem d_B_put_39 : decode b_B_put 39 = .ok (.getfield 19, 3) := by decide +kernel
theorem d_B_put_42 : decode b_B_put 42 = .ok (.iload_n 1, 1) := by decide +kernel
theorem d_B_put_43 : decode b_B_put 43 = .ok (.aload_n 0, 1) := by decide +kernel
theorem d_B_put_44 : decode b_B_put 44 = .ok (.getfield 12, 3) := by decide +kernel
theorem d_B_put_47 : decode b_B_put 47 = .ok (.iload 4, 2) := by decide +kernel
theorem d_B_put_49 : decode b_B_put 49 = .ok (.aload_n 0, 1) := by decide +kernel
theorem d_B_put_50 : decode b_B_put 50 = .ok (.getfield 19, 3) := by decide +kernel
theorem d_B_put_53 : decode b_B_put 53 = .ok (.iload_n 1, 1) := by decide +kernel
theorem d_B_put_54 : decode b_B_put 54 = .ok (.invokevirtual 96, 3) := by decide +kernel
theorem d_B_put_57 : decode b_B_put 57 = .ok (.iload_n 3, 1) := by decide +kernel
theorem d_B_put_58 : decode b_B_put 58 = .ok (.invokevirtual 99, 3) := by decide +kernel
theorem d_B_put_61 : decode b_B_put 61 = .ok (.invokevirtual 103, 3) := by decide +kernel
theorem d_B_put_64 : decode b_B_put 64 = .ok (.return_, 1) := by decide +kernel
theorem d_B_requireField_0 : decode b_B_requireField 0 = .ok (.aload_n 0, 1) := by decide +kernel
theorem d_B_requireField_1 : decode b_B_requireField 1 = .ok (.getfield 12, 3) := by decide +kernel
theorem d_B_requireField_4 : decode b_B_requireField 4 = .ok (.iload_n 1, 1) := by decide +kernel
theorem d_B_requireField_5 : decode b_B_requireField 5 = .ok (.invokevirtual 175, 3) := by decide +kernel
theorem d_B_requireField_8 : decode b_B_requireField 8 = .ok (.istore_n 2, 1) := by decide +kernel
theorem d_B_requireField_9 : decode b_B_requireField 9 = .ok (.iload_n 2, 1) := by decide +kernel
theorem d_B_requireField_10 : decode b_B_requireField 10 = .ok (.iconst (-1), 1) := by decide +kernel
theorem d_B_requireField_11 : decode b_B_requireField 11 = .ok (.if_icmp .ne 11, 3) := by decide +kernel
theorem d_B_requireField_14 : decode b_B_requireField 14 = .ok (.new 51, 3) := by decide +kernel
theorem d_B_requireField_17 : decode b_B_requireField 17 = .ok (.dup, 1) := by decide +kernel
theorem d_B_requireField_18 : decode b_B_requireField 18 = .ok (.invokespecial 53, 3) := by decide +kernel
theorem d_B_requireField_21 : decode b_B_requireField 21 = .ok (.athrow, 1) := by decide +kernel
theorem d_B_requireField_22 : decode b_B_requireField 22 = .ok (.iload_n 2, 1) := by decide +kernel
theorem d_B_requireField_23 : decode b_B_requireField 23 = .ok (.ireturn, 1) := by decide +kernel
theorem d_W_bitsOf_0 : decode b_W_bitsOf 0 = .ok (.aload_n 0, 1) := by decide +kernel
theorem d_W_bitsOf_1 : decode b_W_bitsOf 1 = .ok (.getfield 9, 3) := by decide +kernel
theorem d_W_bitsOf_4 : decode b_W_bitsOf 4 = .ok (.iload_n 1, 1) := by decide +kernel
theorem d_W_bitsOf_5 : decode b_W_bitsOf 5 = .ok (.iaload, 1) := by decide +kernel
theorem d_W_bitsOf_6 : decode b_W_bitsOf 6 = .ok (.ireturn, 1) := by decide +kernel
theorem d_W_replace_0 : decode b_W_replace 0 = .ok (.aload_n 0, 1) := by decide +kernel
theorem d_W_replace_1 : decode b_W_replace 1 = .ok (.getfield 9, 3) := by decide +kernel
theorem d_W_replace_4 : decode b_W_replace 4 = .ok (.iload_n 1, 1) := by decide +kernel
theorem d_W_replace_5 : decode b_W_replace 5 = .ok (.iload_n 2, 1) := by decide +kernel
theorem d_W_replace_6 : decode b_W_replace 6 = .ok (.iastore, 1) := by decide +kernel
theorem d_W_replace_7 : decode b_W_replace 7 = .ok (.return_, 1) := by decide +kernel
theorem d_B_get_0 : decode b_B_get 0 = .ok (.aload_n 0, 1) := by decide +kernel
theorem d_B_get_1 : decode b_B_get 1 = .ok (.iload_n 1, 1) := by decide +kernel
theorem d_B_get_2 : decode b_B_get 2 = .ok (.invokevirtual 80, 3) := by decide +kernel
theorem d_B_get_5 : decode b_B_get 5 = .ok (.aload_n 0, 1) := by decide +kernel
theorem d_B_get_6 : decode b_B_get 6 = .ok (.iload_n 2, 1) := by decide +kernel
theorem d_B_get_7 : decode b_B_get 7 = .ok (.invokevirtual 89, 3) := by decide +kernel
theorem d_B_get_10 : decode b_B_get 10 = .ok (.istore_n 3, 1) := by decide +kernel
theorem d_B_get_11 : decode b_B_get 11 = .ok (.aload_n 0, 1) := by decide +kernel
theorem d_B_get_12 : decode b_B_get 12 = .ok (.iload_n 1, 1) := by decide +kernel
theorem d_B_get_13 : decode b_B_get 13 = .ok (.invokevirtual 83, 3) := by decide +kernel
theorem d_B_get_16 : decode b_B_get 16 = .ok (.aload_n 0, 1) := by decide +kernel
theorem d_B_get_17 : decode b_B_get 17 = .ok (.getfield 12, 3) := by decide +kernel
theorem d_B_get_20 : decode b_B_get 20 = .ok (.iload_n 3, 1) := by decide +kernel
theorem d_B_get_21 : decode b_B_get 21 = .ok (.aload_n 0, 1) := by decide +kernel
theorem d_B_get_22 : decode b_B_get 22 = .ok (.getfield 19, 3) := by decide +kernel
theorem d_B_get_25 : decode b_B_get 25 = .ok (.iload_n 1, 1) := by decide +kernel
theorem d_B_get_26 : decode b_B_get 26 = .ok (.invokevirtual 96, 3) := by decide +kernel
theorem d_B_get_29 : decode b_B_get 29 = .ok (.invokevirtual 107, 3) := by decide +kernel
theorem d_B_get_32 : decode b_B_get 32 = .ok (.ireturn, 1) := by decide +kernel
theorem d_B_bit_0 : decode b_B_bit 0 = .ok (.aload_n 0, 1) := by decide +kernel
theorem d_B_bit_1 : decode b_B_bit 1 = .ok (.iload_n 1, 1) := by decide +kernel
theorem d_B_bit_2 : decode b_B_bit 2 = .ok (.invokevirtual 80, 3) := by decide +kernel
theorem d_B_bit_5 : decode b_B_bit 5 = .ok (.iload_n 2, 1) := by decide +kernel
theorem d_B_bit_6 : decode b_B_bit 6 = .ok (.ifCond .lt 9, 3) := by decide +kernel
theorem d_B_bit_9 : decode b_B_bit 9 = .ok (.iload_n 2, 1) := by decide +kernel
theorem d_B_bit_10 : decode b_B_bit 10 = .ok (.bipush 32, 2) := by decide +kernel
theorem d_B_bit_12 : decode b_B_bit 12 = .ok (.if_icmp .lt 11, 3) := by decide +kernel
theorem d_B_bit_15 : decode b_B_bit 15 = .ok (.new 51, 3) := by decide +kernel
theorem d_B_bit_18 : decode b_B_bit 18 = .ok (.dup, 1) := by decide +kernel
theorem d_B_bit_19 : decode b_B_bit 19 = .ok (.invokespecial 53, 3) := by decide +kernel
theorem d_B_bit_22 : decode b_B_bit 22 = .ok (.athrow, 1) := by decide +kernel
theorem d_B_bit_23 : decode b_B_bit 23 = .ok (.aload_n 0, 1) := by decide +kernel
theorem d_B_bit_24 : decode b_B_bit 24 = .ok (.getfield 19, 3) := by decide +kernel
theorem d_B_bit_27 : decode b_B_bit 27 = .ok (.iload_n 1, 1) := by decide +kernel
theorem d_B_bit_28 : decode b_B_bit 28 = .ok (.invokevirtual 96, 3) := by decide +kernel
theorem d_B_bit_31 : decode b_B_bit 31 = .ok (.iload_n 2, 1) := by decide +kernel
theorem d_B_bit_32 : decode b_B_bit 32 = .ok (.iushr, 1) := by decide +kernel
theorem d_B_bit_33 : decode b_B_bit 33 = .ok (.iconst 1, 1) := by decide +kernel
theorem d_B_bit_34 : decode b_B_bit 34 = .ok (.iand, 1) := by decide +kernel
theorem d_B_bit_35 : decode b_B_bit 35 = .ok (.iconst 1, 1) := by decide +kernel
theorem d_B_bit_36 : decode b_B_bit 36 = .ok (.if_icmp .ne 7, 3) := by decide +kernel
theorem d_B_bit_39 : decode b_B_bit 39 = .ok (.iconst 1, 1) := by decide +kernel
theorem d_B_bit_40 : decode b_B_bit 40 = .ok (.goto 4, 3) := by decide +kernel
theorem d_B_bit_43 : decode b_B_bit 43 = .ok (.iconst 0, 1) := by decide +kernel
theorem d_B_bit_44 : decode b_B_bit 44 = .ok (.ireturn, 1) := by decide +kernel
theorem d_B_multi_0 : decode b_B_multi 0 = .ok (.iload_n 1, 1) := by decide +kernel
theorem d_B_multi_1 : decode b_B_multi 1 = .ok (.ldc 128, 2) := by decide +kernel
theorem d_B_multi_3 : decode b_B_multi 3 = .ok (.iand, 1) := by decide +kernel
theorem d_B_multi_4 : decode b_B_multi 4 = .ok (.ifCond .eq 11, 3) := by decide +kernel
theorem d_B_multi_7 : decode b_B_multi 7 = .ok (.new 51, 3) := by decide +kernel
theorem d_B_multi_10 : decode b_B_multi 10 = .ok (.dup, 1) := by decide +kernel
theorem d_B_multi_11 : decode b_B_multi 11 = .ok (.invokespecial 53, 3) := by decide +kernel
theorem d_B_multi_14 : decode b_B_multi 14 = .ok (.athrow, 1) := by decide +kernel
theorem d_B_multi_15 : decode b_B_multi 15 = .ok (.aload_n 0, 1) := by decide +kernel
theorem d_B_multi_16 : decode b_B_multi 16 = .ok (.getfield 19, 3) := by decide +kernel
theorem d_B_multi_19 : decode b_B_multi 19 = .ok (.aload_n 0, 1) := by decide +kernel
theorem d_B_multi_20 : decode b_B_multi 20 = .ok (.getfield 19, 3) := by decide +kernel
theorem d_B_multi_23 : decode b_B_multi 23 = .ok (.invokevirtual 111, 3) := by decide +kernel
theorem d_B_multi_26 : decode b_B_multi 26 = .ok (.iload_n 1, 1) := by decide +kernel
theorem d_B_multi_27 : decode b_B_multi 27 = .ok (.iload_n 2, 1) := by decide +kernel
theorem d_B_multi_28 : decode b_B_multi 28 = .ok (.invokevirtual 129, 3) := by decide +kernel
theorem d_B_multi_31 : decode b_B_multi 31 = .ok (.return_, 1) := by decide +kernel
theorem d_W_overwrite_0 : decode b_W_overwrite 0 = .ok (.iconst 0, 1) := by decide +kernel
theorem d_W_overwrite_1 : decode b_W_overwrite 1 = .ok (.istore 4, 2) := by decide +kernel
theorem d_W_overwrite_3 : decode b_W_overwrite 3 = .ok (.iload 4, 2) := by decide +kernel
theorem d_W_overwrite_5 : decode b_W_overwrite 5 = .ok (.bipush 32, 2) := by decide +kernel
theorem d_W_overwrite_7 : decode b_W_overwrite 7 = .ok (.if_icmp .ge 40, 3) := by decide +kernel
theorem d_W_overwrite_10 : decode b_W_overwrite 10 = .ok (.iload_n 1, 1) := by decide +kernel
theorem d_W_overwrite_11 : decode b_W_overwrite 11 = .ok (.iload 4, 2) := by decide +kernel
theorem d_W_overwrite_13 : decode b_W_overwrite 13 = .ok (.invokestatic 15, 3) := by decide +kernel
theorem d_W_overwrite_16 : decode b_W_overwrite 16 = .ok (.ifCond .eq 25, 3) := by decide +kernel
theorem d_W_overwrite_19 : decode b_W_overwrite 19 = .ok (.aload_n 0, 1) := by decide +kernel
theorem d_W_overwrite_20 : decode b_W_overwrite 20 = .ok (.getfield 9, 3) := by decide +kernel
theorem d_W_overwrite_23 : decode b_W_overwrite 23 = .ok (.iload 4, 2) := by decide +kernel
theorem d_W_overwrite_25 : decode b_W_overwrite 25 = .ok (.aload_n 0, 1) := by decide +kernel
theorem d_W_overwrite_26 : decode b_W_overwrite 26 = .ok (.getfield 9, 3) := by decide +kernel
theorem d_W_overwrite_29 : decode b_W_overwrite 29 = .ok (.iload 4, 2) := by decide +kernel
theorem d_W_overwrite_31 : decode b_W_overwrite 31 = .ok (.iaload, 1) := by decide +kernel
theorem d_W_overwrite_32 : decode b_W_overwrite 32 = .ok (.iload_n 2, 1) := by decide +kernel
theorem d_W_overwrite_33 : decode b_W_overwrite 33 = .ok (.iconst (-1), 1) := by decide +kernel
theorem d_W_overwrite_34 : decode b_W_overwrite 34 = .ok (.ixor, 1) := by decide +kernel
theorem d_W_overwrite_35 : decode b_W_overwrite 35 = .ok (.iand, 1) := by decide +kernel
theorem d_W_overwrite_36 : decode b_W_overwrite 36 = .ok (.iload_n 3, 1) := by decide +kernel
theorem d_W_overwrite_37 : decode b_W_overwrite 37 = .ok (.iload_n 2, 1) := by decide +kernel
theorem d_W_overwrite_38 : decode b_W_overwrite 38 = .ok (.iand, 1) := by decide +kernel
theorem d_W_overwrite_39 : decode b_W_overwrite 39 = .ok (.ior, 1) := by decide +kernel
theorem d_W_overwrite_40 : decode b_W_overwrite 40 = .ok (.iastore, 1) := by decide +kernel
theorem d_W_overwrite_41 : decode b_W_overwrite 41 = .ok (.iinc 4 1, 3) := by decide +kernel
theorem d_W_overwrite_44 : decode b_W_overwrite 44 = .ok (.goto (-41), 3) := by decide +kernel
theorem d_W_overwrite_47 : decode b_W_overwrite 47 = .ok (.return_, 1) := by decide +kernel
theorem d_B_responds_0 : decode b_B_responds 0 = .ok (.aload_n 0, 1) := by decide +kernel
theorem d_B_responds_1 : decode b_B_responds 1 = .ok (.iload_n 1, 1) := by decide +kernel
theorem d_B_responds_2 : decode b_B_responds 2 = .ok (.invokevirtual 80, 3) := by decide +kernel
theorem d_B_responds_5 : decode b_B_responds 5 = .ok (.aload_n 0, 1) := by decide +kernel
theorem d_B_responds_6 : decode b_B_responds 6 = .ok (.getfield 19, 3) := by decide +kernel
theorem d_B_responds_9 : decode b_B_responds 9 = .ok (.invokevirtual 111, 3) := by decide +kernel
theorem d_B_responds_12 : decode b_B_responds 12 = .ok (.iload_n 1, 1) := by decide +kernel
theorem d_B_responds_13 : decode b_B_responds 13 = .ok (.invokestatic 133, 3) := by decide +kernel
theorem d_B_responds_16 : decode b_B_responds 16 = .ok (.ireturn, 1) := by decide +kernel
theorem d_B_run_0 : decode b_B_run 0 = .ok (.aload_n 0, 1) := by decide +kernel
theorem d_B_run_1 : decode b_B_run 1 = .ok (.getfield 35, 3) := by decide +kernel
theorem d_B_run_4 : decode b_B_run 4 = .ok (.invokevirtual 149, 3) := by decide +kernel
theorem d_B_run_7 : decode b_B_run 7 = .ok (.aload_n 0, 1) := by decide +kernel
theorem d_B_run_8 : decode b_B_run 8 = .ok (.getfield 35, 3) := by decide +kernel
theorem d_B_run_11 : decode b_B_run 11 = .ok (.invokevirtual 152, 3) := by decide +kernel
theorem d_B_run_14 : decode b_B_run 14 = .ok (.ifCond .eq 11, 3) := by decide +kernel
theorem d_B_run_17 : decode b_B_run 17 = .ok (.new 73, 3) := by decide +kernel
theorem d_B_run_20 : decode b_B_run 20 = .ok (.dup, 1) := by decide +kernel
theorem d_B_run_21 : decode b_B_run 21 = .ok (.invokespecial 75, 3) := by decide +kernel
theorem d_B_run_24 : decode b_B_run 24 = .ok (.athrow, 1) := by decide +kernel
theorem d_B_run_25 : decode b_B_run 25 = .ok (.aload_n 0, 1) := by decide +kernel
theorem d_B_run_26 : decode b_B_run 26 = .ok (.getfield 35, 3) := by decide +kernel
theorem d_B_run_29 : decode b_B_run 29 = .ok (.invokevirtual 155, 3) := by decide +kernel
theorem d_B_run_32 : decode b_B_run 32 = .ok (.istore_n 1, 1) := by decide +kernel
theorem d_B_run_33 : decode b_B_run 33 = .ok (.aload_n 0, 1) := by decide +kernel
theorem d_B_run_34 : decode b_B_run 34 = .ok (.iload_n 1, 1) := by decide +kernel
theorem d_B_run_35 : decode b_B_run 35 = .ok (.invokevirtual 158, 3) := by decide +kernel
theorem d_B_run_38 : decode b_B_run 38 = .ok (.istore_n 2, 1) := by decide +kernel
theorem d_B_run_39 : decode b_B_run 39 = .ok (.aload_n 0, 1) := by decide +kernel
theorem d_B_run_40 : decode b_B_run 40 = .ok (.getfield 19, 3) := by decide +kernel
theorem d_B_run_43 : decode b_B_run 43 = .ok (.iload_n 1, 1) := by decide +kernel
theorem d_B_run_44 : decode b_B_run 44 = .ok (.invokevirtual 120, 3) := by decide +kernel
theorem d_B_run_47 : decode b_B_run 47 = .ok (.aload_n 0, 1) := by decide +kernel
theorem d_B_run_48 : decode b_B_run 48 = .ok (.getfield 19, 3) := by decide +kernel
theorem d_B_run_51 : decode b_B_run 51 = .ok (.iconst (-1), 1) := by decide +kernel
theorem d_B_run_52 : decode b_B_run 52 = .ok (.ldc 161, 2) := by decide +kernel
theorem d_B_run_54 : decode b_B_run 54 = .ok (.iconst 0, 1) := by decide +kernel
theorem d_B_run_55 : decode b_B_run 55 = .ok (.invokevirtual 129, 3) := by decide +kernel
theorem d_B_run_58 : decode b_B_run 58 = .ok (.aload_n 0, 1) := by decide +kernel
theorem d_B_run_59 : decode b_B_run 59 = .ok (.getfield 26, 3) := by decide +kernel
theorem d_B_run_62 : decode b_B_run 62 = .ok (.invokevirtual 146, 3) := by decide +kernel
theorem d_B_run_65 : decode b_B_run 65 = .ok (.iload_n 2, 1) := by decide +kernel
theorem d_B_run_66 : decode b_B_run 66 = .ok (.ireturn, 1) := by decide +kernel
theorem d_T_at_0 : decode b_T_at 0 = .ok (.iload_n 1, 1) := by decide +kernel
theorem d_T_at_1 : decode b_T_at 1 = .ok (.ifCond .lt 20, 3) := by decide +kernel
theorem d_T_at_4 : decode b_T_at 4 = .ok (.iload_n 1, 1) := by decide +kernel
theorem d_T_at_5 : decode b_T_at 5 = .ok (.aload_n 0, 1) := by decide +kernel
theorem d_T_at_6 : decode b_T_at 6 = .ok (.getfield 15, 3) := by decide +kernel
theorem d_T_at_9 : decode b_T_at 9 = .ok (.if_icmp .ge 12, 3) := by decide +kernel
theorem d_T_at_12 : decode b_T_at 12 = .ok (.aload_n 0, 1) := by decide +kernel
theorem d_T_at_13 : decode b_T_at 13 = .ok (.getfield 9, 3) := by decide +kernel
theorem d_T_at_16 : decode b_T_at 16 = .ok (.iload_n 1, 1) := by decide +kernel
theorem d_T_at_17 : decode b_T_at 17 = .ok (.caload, 1) := by decide +kernel
theorem d_T_at_18 : decode b_T_at 18 = .ok (.goto 4, 3) := by decide +kernel
theorem d_T_at_21 : decode b_T_at 21 = .ok (.iconst 0, 1) := by decide +kernel
theorem d_T_at_22 : decode b_T_at 22 = .ok (.ireturn, 1) := by decide +kernel
theorem d_B_carryOut_0 : decode b_B_carryOut 0 = .ok (.aload_n 0, 1) := by decide +kernel
theorem d_B_carryOut_1 : decode b_B_carryOut 1 = .ok (.getfield 35, 3) := by decide +kernel
theorem d_B_carryOut_4 : decode b_B_carryOut 4 = .ok (.invokevirtual 178, 3) := by decide +kernel
theorem d_B_carryOut_7 : decode b_B_carryOut 7 = .ok (.istore_n 2, 1) := by decide +kernel
theorem d_B_carryOut_8 : decode b_B_carryOut 8 = .ok (.aload_n 0, 1) := by decide +kernel
theorem d_B_carryOut_9 : decode b_B_carryOut 9 = .ok (.iconst 0, 1) := by decide +kernel
theorem d_B_carryOut_10 : decode b_B_carryOut 10 = .ok (.putfield 165, 3) := by decide +kernel
theorem d_B_carryOut_13 : decode b_B_carryOut 13 = .ok (.getstatic 181, 3) := by decide +kernel
theorem d_B_carryOut_16 : decode b_B_carryOut 16 = .ok (.aload_n 0, 1) := by decide +kernel
theorem d_B_carryOut_17 : decode b_B_carryOut 17 = .ok (.getfield 35, 3) := by decide +kernel
theorem d_B_carryOut_20 : decode b_B_carryOut 20 = .ok (.invokevirtual 186, 3) := by decide +kernel
theorem d_B_carryOut_23 : decode b_B_carryOut 23 = .ok (.invokevirtual 190, 3) := by decide +kernel
theorem d_B_carryOut_26 : decode b_B_carryOut 26 = .ok (.iaload, 1) := by decide +kernel
theorem d_B_carryOut_27 : decode b_B_carryOut 27 = .ok (.tableswitch 67 1 5 #[33, 39, 46, 53, 60], 33) := by decide +kernel
theorem d_B_carryOut_60 : decode b_B_carryOut 60 = .ok (.aload_n 0, 1) := by decide +kernel
theorem d_B_carryOut_61 : decode b_B_carryOut 61 = .ok (.iload_n 1, 1) := by decide +kernel
theorem d_B_carryOut_62 : decode b_B_carryOut 62 = .ok (.invokevirtual 195, 3) := by decide +kernel
theorem d_B_carryOut_65 : decode b_B_carryOut 65 = .ok (.ireturn, 1) := by decide +kernel
theorem d_B_carryOut_66 : decode b_B_carryOut 66 = .ok (.aload_n 0, 1) := by decide +kernel
theorem d_B_carryOut_67 : decode b_B_carryOut 67 = .ok (.iload_n 2, 1) := by decide +kernel
theorem d_B_carryOut_68 : decode b_B_carryOut 68 = .ok (.iload_n 1, 1) := by decide +kernel
theorem d_B_carryOut_69 : decode b_B_carryOut 69 = .ok (.invokevirtual 198, 3) := by decide +kernel
theorem d_B_carryOut_72 : decode b_B_carryOut 72 = .ok (.ireturn, 1) := by decide +kernel
theorem d_B_carryOut_73 : decode b_B_carryOut 73 = .ok (.aload_n 0, 1) := by decide +kernel
theorem d_B_carryOut_74 : decode b_B_carryOut 74 = .ok (.iload_n 2, 1) := by decide +kernel
theorem d_B_carryOut_75 : decode b_B_carryOut 75 = .ok (.iload_n 1, 1) := by decide +kernel
theorem d_B_carryOut_76 : decode b_B_carryOut 76 = .ok (.invokevirtual 201, 3) := by decide +kernel
theorem d_B_carryOut_79 : decode b_B_carryOut 79 = .ok (.ireturn, 1) := by decide +kernel
theorem d_B_carryOut_80 : decode b_B_carryOut 80 = .ok (.aload_n 0, 1) := by decide +kernel
theorem d_B_carryOut_81 : decode b_B_carryOut 81 = .ok (.iload_n 2, 1) := by decide +kernel
theorem d_B_carryOut_82 : decode b_B_carryOut 82 = .ok (.iload_n 1, 1) := by decide +kernel
theorem d_B_carryOut_83 : decode b_B_carryOut 83 = .ok (.invokevirtual 204, 3) := by decide +kernel
theorem d_B_carryOut_86 : decode b_B_carryOut 86 = .ok (.ireturn, 1) := by decide +kernel
theorem d_B_carryOut_87 : decode b_B_carryOut 87 = .ok (.aload_n 0, 1) := by decide +kernel
theorem d_B_carryOut_88 : decode b_B_carryOut 88 = .ok (.iload_n 2, 1) := by decide +kernel
theorem d_B_carryOut_89 : decode b_B_carryOut 89 = .ok (.iload_n 1, 1) := by decide +kernel
theorem d_B_carryOut_90 : decode b_B_carryOut 90 = .ok (.invokevirtual 207, 3) := by decide +kernel
theorem d_B_carryOut_93 : decode b_B_carryOut 93 = .ok (.ireturn, 1) := by decide +kernel
theorem d_B_carryOut_94 : decode b_B_carryOut 94 = .ok (.iload_n 1, 1) := by decide +kernel
theorem d_B_carryOut_95 : decode b_B_carryOut 95 = .ok (.invokestatic 123, 3) := by decide +kernel
theorem d_B_carryOut_98 : decode b_B_carryOut 98 = .ok (.ireturn, 1) := by decide +kernel
theorem d_B_changeAll_0 : decode b_B_changeAll 0 = .ok (.iconst 0, 1) := by decide +kernel
theorem d_B_changeAll_1 : decode b_B_changeAll 1 = .ok (.istore_n 2, 1) := by decide +kernel
theorem d_B_changeAll_2 : decode b_B_changeAll 2 = .ok (.iconst 0, 1) := by decide +kernel
theorem d_B_changeAll_3 : decode b_B_changeAll 3 = .ok (.istore_n 3, 1) := by decide +kernel
theorem d_B_changeAll_4 : decode b_B_changeAll 4 = .ok (.iload_n 3, 1) := by decide +kernel
theorem d_B_changeAll_5 : decode b_B_changeAll 5 = .ok (.bipush 32, 2) := by decide +kernel
theorem d_B_changeAll_7 : decode b_B_changeAll 7 = .ok (.if_icmp .ge 72, 3) := by decide +kernel
theorem d_B_changeAll_10 : decode b_B_changeAll 10 = .ok (.iload_n 1, 1) := by decide +kernel
theorem d_B_changeAll_11 : decode b_B_changeAll 11 = .ok (.iload_n 3, 1) := by decide +kernel
theorem d_B_changeAll_12 : decode b_B_changeAll 12 = .ok (.invokestatic 133, 3) := by decide +kernel
theorem d_B_changeAll_15 : decode b_B_changeAll 15 = .ok (.ifCond .eq 58, 3) := by decide +kernel
theorem d_B_changeAll_18 : decode b_B_changeAll 18 = .ok (.aload_n 0, 1) := by decide +kernel
theorem d_B_changeAll_19 : decode b_B_changeAll 19 = .ok (.getfield 19, 3) := by decide +kernel
theorem d_B_changeAll_22 : decode b_B_changeAll 22 = .ok (.iload_n 3, 1) := by decide +kernel
theorem d_B_changeAll_23 : decode b_B_changeAll 23 = .ok (.invokevirtual 96, 3) := by decide +kernel
theorem d_B_changeAll_26 : decode b_B_changeAll 26 = .ok (.istore 4, 2) := by decide +kernel
theorem d_B_changeAll_28 : decode b_B_changeAll 28 = .ok (.aload_n 0, 1) := by decide +kernel
theorem d_B_changeAll_29 : decode b_B_changeAll 29 = .ok (.getfield 35, 3) := by decide +kernel
theorem d_B_changeAll_32 : decode b_B_changeAll 32 = .ok (.iload 4, 2) := by decide +kernel
theorem d_B_changeAll_34 : decode b_B_changeAll 34 = .ok (.invokevirtual 224, 3) := by decide +kernel
theorem d_B_changeAll_37 : decode b_B_changeAll 37 = .ok (.ifCond .eq 26, 3) := by decide +kernel
theorem d_B_changeAll_40 : decode b_B_changeAll 40 = .ok (.aload_n 0, 1) := by decide +kernel
theorem d_B_changeAll_41 : decode b_B_changeAll 41 = .ok (.getfield 19, 3) := by decide +kernel
theorem d_B_changeAll_44 : decode b_B_changeAll 44 = .ok (.iload_n 3, 1) := by decide +kernel
theorem d_B_changeAll_45 : decode b_B_changeAll 45 = .ok (.aload_n 0, 1) := by decide +kernel
theorem d_B_changeAll_46 : decode b_B_changeAll 46 = .ok (.getfield 35, 3) := by decide +kernel
theorem d_B_changeAll_49 : decode b_B_changeAll 49 = .ok (.iload 4, 2) := by decide +kernel
theorem d_B_changeAll_51 : decode b_B_changeAll 51 = .ok (.invokevirtual 228, 3) := by decide +kernel
theorem d_B_changeAll_54 : decode b_B_changeAll 54 = .ok (.invokevirtual 103, 3) := by decide +kernel
theorem d_B_changeAll_57 : decode b_B_changeAll 57 = .ok (.iinc 2 1, 3) := by decide +kernel
theorem d_B_changeAll_60 : decode b_B_changeAll 60 = .ok (.goto 13, 3) := by decide +kernel
theorem d_B_changeAll_63 : decode b_B_changeAll 63 = .ok (.aload_n 0, 1) := by decide +kernel
theorem d_B_changeAll_64 : decode b_B_changeAll 64 = .ok (.dup, 1) := by decide +kernel
theorem d_B_changeAll_65 : decode b_B_changeAll 65 = .ok (.getfield 165, 3) := by decide +kernel
theorem d_B_changeAll_68 : decode b_B_changeAll 68 = .ok (.iconst 1, 1) := by decide +kernel
theorem d_B_changeAll_69 : decode b_B_changeAll 69 = .ok (.iadd, 1) := by decide +kernel
theorem d_B_changeAll_70 : decode b_B_changeAll 70 = .ok (.putfield 165, 3) := by decide +kernel
theorem d_B_changeAll_73 : decode b_B_changeAll 73 = .ok (.iinc 3 1, 3) := by decide +kernel
theorem d_B_changeAll_76 : decode b_B_changeAll 76 = .ok (.goto (-72), 3) := by decide +kernel
theorem d_B_changeAll_79 : decode b_B_changeAll 79 = .ok (.iload_n 2, 1) := by decide +kernel
theorem d_B_changeAll_80 : decode b_B_changeAll 80 = .ok (.ireturn, 1) := by decide +kernel
theorem d_B_greatest_0 : decode b_B_greatest 0 = .ok (.sipush (-512), 3) := by decide +kernel
theorem d_B_greatest_3 : decode b_B_greatest 3 = .ok (.istore_n 3, 1) := by decide +kernel
theorem d_B_greatest_4 : decode b_B_greatest 4 = .ok (.iconst 0, 1) := by decide +kernel
theorem d_B_greatest_5 : decode b_B_greatest 5 = .ok (.istore 4, 2) := by decide +kernel
theorem d_B_greatest_7 : decode b_B_greatest 7 = .ok (.iload 4, 2) := by decide +kernel
theorem d_B_greatest_9 : decode b_B_greatest 9 = .ok (.bipush 32, 2) := by decide +kernel
theorem d_B_greatest_11 : decode b_B_greatest 11 = .ok (.if_icmp .ge 30, 3) := by decide +kernel
theorem d_B_greatest_14 : decode b_B_greatest 14 = .ok (.iload_n 2, 1) := by decide +kernel
theorem d_B_greatest_15 : decode b_B_greatest 15 = .ok (.iload 4, 2) := by decide +kernel
theorem d_B_greatest_17 : decode b_B_greatest 17 = .ok (.invokestatic 133, 3) := by decide +kernel
theorem d_B_greatest_20 : decode b_B_greatest 20 = .ok (.ifCond .eq 15, 3) := by decide +kernel
theorem d_B_greatest_23 : decode b_B_greatest 23 = .ok (.iload_n 3, 1) := by decide +kernel
theorem d_B_greatest_24 : decode b_B_greatest 24 = .ok (.aload_n 0, 1) := by decide +kernel
theorem d_B_greatest_25 : decode b_B_greatest 25 = .ok (.iload_n 1, 1) := by decide +kernel
theorem d_B_greatest_26 : decode b_B_greatest 26 = .ok (.iload 4, 2) := by decide +kernel
theorem d_B_greatest_28 : decode b_B_greatest 28 = .ok (.invokevirtual 210, 3) := by decide +kernel
theorem d_B_greatest_31 : decode b_B_greatest 31 = .ok (.invokestatic 213, 3) := by decide +kernel
theorem d_B_greatest_34 : decode b_B_greatest 34 = .ok (.istore_n 3, 1) := by decide +kernel
theorem d_B_greatest_35 : decode b_B_greatest 35 = .ok (.iinc 4 1, 3) := by decide +kernel
theorem d_B_greatest_38 : decode b_B_greatest 38 = .ok (.goto (-31), 3) := by decide +kernel
theorem d_B_greatest_41 : decode b_B_greatest 41 = .ok (.iload_n 3, 1) := by decide +kernel
theorem d_B_greatest_42 : decode b_B_greatest 42 = .ok (.ireturn, 1) := by decide +kernel
theorem d_B_valueOf_0 : decode b_B_valueOf 0 = .ok (.aload_n 0, 1) := by decide +kernel
theorem d_B_valueOf_1 : decode b_B_valueOf 1 = .ok (.getfield 12, 3) := by decide +kernel
theorem d_B_valueOf_4 : decode b_B_valueOf 4 = .ok (.iload_n 1, 1) := by decide +kernel
theorem d_B_valueOf_5 : decode b_B_valueOf 5 = .ok (.aload_n 0, 1) := by decide +kernel
theorem d_B_valueOf_6 : decode b_B_valueOf 6 = .ok (.getfield 19, 3) := by decide +kernel
theorem d_B_valueOf_9 : decode b_B_valueOf 9 = .ok (.iload_n 2, 1) := by decide +kernel
theorem d_B_valueOf_10 : decode b_B_valueOf 10 = .ok (.invokevirtual 96, 3) := by decide +kernel
theorem d_B_valueOf_13 : decode b_B_valueOf 13 = .ok (.invokevirtual 107, 3) := by decide +kernel
theorem d_B_valueOf_16 : decode b_B_valueOf 16 = .ok (.ireturn, 1) := by decide +kernel
theorem d_B_least_0 : decode b_B_least 0 = .ok (.sipush 1023, 3) := by decide +kernel
theorem d_B_least_3 : decode b_B_least 3 = .ok (.istore_n 3, 1) := by decide +kernel
theorem d_B_least_4 : decode b_B_least 4 = .ok (.iconst 0, 1) := by decide +kernel
theorem d_B_least_5 : decode b_B_least 5 = .ok (.istore 4, 2) := by decide +kernel
theorem d_B_least_7 : decode b_B_least 7 = .ok (.iload 4, 2) := by decide +kernel
theorem d_B_least_9 : decode b_B_least 9 = .ok (.bipush 32, 2) := by decide +kernel
theorem d_B_least_11 : decode b_B_least 11 = .ok (.if_icmp .ge 30, 3) := by decide +kernel
theorem d_B_least_14 : decode b_B_least 14 = .ok (.iload_n 2, 1) := by decide +kernel
theorem d_B_least_15 : decode b_B_least 15 = .ok (.iload 4, 2) := by decide +kernel
theorem d_B_least_17 : decode b_B_least 17 = .ok (.invokestatic 133, 3) := by decide +kernel
theorem d_B_least_20 : decode b_B_least 20 = .ok (.ifCond .eq 15, 3) := by decide +kernel
theorem d_B_least_23 : decode b_B_least 23 = .ok (.iload_n 3, 1) := by decide +kernel
theorem d_B_least_24 : decode b_B_least 24 = .ok (.aload_n 0, 1) := by decide +kernel
theorem d_B_least_25 : decode b_B_least 25 = .ok (.iload_n 1, 1) := by decide +kernel
theorem d_B_least_26 : decode b_B_least 26 = .ok (.iload 4, 2) := by decide +kernel
theorem d_B_least_28 : decode b_B_least 28 = .ok (.invokevirtual 210, 3) := by decide +kernel
theorem d_B_least_31 : decode b_B_least 31 = .ok (.invokestatic 218, 3) := by decide +kernel
theorem d_B_least_34 : decode b_B_least 34 = .ok (.istore_n 3, 1) := by decide +kernel
theorem d_B_least_35 : decode b_B_least 35 = .ok (.iinc 4 1, 3) := by decide +kernel
theorem d_B_least_38 : decode b_B_least 38 = .ok (.goto (-31), 3) := by decide +kernel
theorem d_B_least_41 : decode b_B_least 41 = .ok (.iload_n 3, 1) := by decide +kernel
theorem d_B_least_42 : decode b_B_least 42 = .ok (.ireturn, 1) := by decide +kernel
theorem d_B_total_0 : decode b_B_total 0 = .ok (.iconst 0, 1) := by decide +kernel
theorem d_B_total_1 : decode b_B_total 1 = .ok (.istore_n 3, 1) := by decide +kernel
theorem d_B_total_2 : decode b_B_total 2 = .ok (.iconst 0, 1) := by decide +kernel
theorem d_B_total_3 : decode b_B_total 3 = .ok (.istore 4, 2) := by decide +kernel
theorem d_B_total_5 : decode b_B_total 5 = .ok (.iload 4, 2) := by decide +kernel
theorem d_B_total_7 : decode b_B_total 7 = .ok (.bipush 32, 2) := by decide +kernel
theorem d_B_total_9 : decode b_B_total 9 = .ok (.if_icmp .ge 28, 3) := by decide +kernel
theorem d_B_total_12 : decode b_B_total 12 = .ok (.iload_n 2, 1) := by decide +kernel
theorem d_B_total_13 : decode b_B_total 13 = .ok (.iload 4, 2) := by decide +kernel
theorem d_B_total_15 : decode b_B_total 15 = .ok (.invokestatic 133, 3) := by decide +kernel
theorem d_B_total_18 : decode b_B_total 18 = .ok (.ifCond .eq 13, 3) := by decide +kernel
theorem d_B_total_21 : decode b_B_total 21 = .ok (.iload_n 3, 1) := by decide +kernel
theorem d_B_total_22 : decode b_B_total 22 = .ok (.aload_n 0, 1) := by decide +kernel
theorem d_B_total_23 : decode b_B_total 23 = .ok (.iload_n 1, 1) := by decide +kernel
theorem d_B_total_24 : decode b_B_total 24 = .ok (.iload 4, 2) := by decide +kernel
theorem d_B_total_26 : decode b_B_total 26 = .ok (.invokevirtual 210, 3) := by decide +kernel
theorem d_B_total_29 : decode b_B_total 29 = .ok (.iadd, 1) := by decide +kernel
theorem d_B_total_30 : decode b_B_total 30 = .ok (.istore_n 3, 1) := by decide +kernel
theorem d_B_total_31 : decode b_B_total 31 = .ok (.iinc 4 1, 3) := by decide +kernel
theorem d_B_total_34 : decode b_B_total 34 = .ok (.goto (-29), 3) := by decide +kernel
theorem d_B_total_37 : decode b_B_total 37 = .ok (.iload_n 3, 1) := by decide +kernel
theorem d_B_total_38 : decode b_B_total 38 = .ok (.ireturn, 1) := by decide +kernel
theorem d_B_listAll_0 : decode b_B_listAll 0 = .ok (.aload_n 0, 1) := by decide +kernel
theorem d_B_listAll_1 : decode b_B_listAll 1 = .ok (.iconst 0, 1) := by decide +kernel
theorem d_B_listAll_2 : decode b_B_listAll 2 = .ok (.putfield 169, 3) := by decide +kernel
theorem d_B_listAll_5 : decode b_B_listAll 5 = .ok (.iconst 0, 1) := by decide +kernel
theorem d_B_listAll_6 : decode b_B_listAll 6 = .ok (.istore_n 3, 1) := by decide +kernel
theorem d_B_listAll_7 : decode b_B_listAll 7 = .ok (.iload_n 3, 1) := by decide +kernel
theorem d_B_listAll_8 : decode b_B_listAll 8 = .ok (.bipush 32, 2) := by decide +kernel
theorem d_B_listAll_10 : decode b_B_listAll 10 = .ok (.if_icmp .ge 23, 3) := by decide +kernel
theorem d_B_listAll_13 : decode b_B_listAll 13 = .ok (.iload_n 2, 1) := by decide +kernel
theorem d_B_listAll_14 : decode b_B_listAll 14 = .ok (.iload_n 3, 1) := by decide +kernel
theorem d_B_listAll_15 : decode b_B_listAll 15 = .ok (.invokestatic 133, 3) := by decide +kernel
theorem d_B_listAll_18 : decode b_B_listAll 18 = .ok (.ifCond .eq 9, 3) := by decide +kernel
theorem d_B_listAll_21 : decode b_B_listAll 21 = .ok (.aload_n 0, 1) := by decide +kernel
theorem d_B_listAll_22 : decode b_B_listAll 22 = .ok (.iload_n 3, 1) := by decide +kernel
theorem d_B_listAll_23 : decode b_B_listAll 23 = .ok (.iload_n 1, 1) := by decide +kernel
theorem d_B_listAll_24 : decode b_B_listAll 24 = .ok (.invokevirtual 221, 3) := by decide +kernel
theorem d_B_listAll_27 : decode b_B_listAll 27 = .ok (.iinc 3 1, 3) := by decide +kernel
theorem d_B_listAll_30 : decode b_B_listAll 30 = .ok (.goto (-23), 3) := by decide +kernel
theorem d_B_listAll_33 : decode b_B_listAll 33 = .ok (.aload_n 0, 1) := by decide +kernel
theorem d_B_listAll_34 : decode b_B_listAll 34 = .ok (.getfield 169, 3) := by decide +kernel
theorem d_B_listAll_37 : decode b_B_listAll 37 = .ok (.ireturn, 1) := by decide +kernel
theorem d_B_sortIn_0 : decode b_B_sortIn 0 = .ok (.aload_n 0, 1) := by decide +kernel
theorem d_B_sortIn_1 : decode b_B_sortIn 1 = .ok (.iload_n 2, 1) := by decide +kernel
theorem d_B_sortIn_2 : decode b_B_sortIn 2 = .ok (.iload_n 1, 1) := by decide +kernel
theorem d_B_sortIn_3 : decode b_B_sortIn 3 = .ok (.invokevirtual 210, 3) := by decide +kernel
theorem d_B_sortIn_6 : decode b_B_sortIn 6 = .ok (.istore_n 3, 1) := by decide +kernel
theorem d_B_sortIn_7 : decode b_B_sortIn 7 = .ok (.aload_n 0, 1) := by decide +kernel
theorem d_B_sortIn_8 : decode b_B_sortIn 8 = .ok (.getfield 169, 3) := by decide +kernel
theorem d_B_sortIn_11 : decode b_B_sortIn 11 = .ok (.istore 4, 2) := by decide +kernel
theorem d_B_sortIn_13 : decode b_B_sortIn 13 = .ok (.iload 4, 2) := by decide +kernel
theorem d_B_sortIn_15 : decode b_B_sortIn 15 = .ok (.ifCond .le 43, 3) := by decide +kernel
theorem d_B_sortIn_18 : decode b_B_sortIn 18 = .ok (.aload_n 0, 1) := by decide +kernel
theorem d_B_sortIn_19 : decode b_B_sortIn 19 = .ok (.iload_n 2, 1) := by decide +kernel
theorem d_B_sortIn_20 : decode b_B_sortIn 20 = .ok (.aload_n 0, 1) := by decide +kernel
theorem d_B_sortIn_21 : decode b_B_sortIn 21 = .ok (.getfield 39, 3) := by decide +kernel
theorem d_B_sortIn_24 : decode b_B_sortIn 24 = .ok (.iload 4, 2) := by decide +kernel
theorem d_B_sortIn_26 : decode b_B_sortIn 26 = .ok (.iconst 1, 1) := by decide +kernel
theorem d_B_sortIn_27 : decode b_B_sortIn 27 = .ok (.isub, 1) := by decide +kernel
theorem d_B_sortIn_28 : decode b_B_sortIn 28 = .ok (.iaload, 1) := by decide +kernel
theorem d_B_sortIn_29 : decode b_B_sortIn 29 = .ok (.invokevirtual 210, 3) := by decide +kernel
theorem d_B_sortIn_32 : decode b_B_sortIn 32 = .ok (.iload_n 3, 1) := by decide +kernel
theorem d_B_sortIn_33 : decode b_B_sortIn 33 = .ok (.if_icmp .le 25, 3) := by decide +kernel
theorem d_B_sortIn_36 : decode b_B_sortIn 36 = .ok (.aload_n 0, 1) := by decide +kernel
theorem d_B_sortIn_37 : decode b_B_sortIn 37 = .ok (.getfield 39, 3) := by decide +kernel
theorem d_B_sortIn_40 : decode b_B_sortIn 40 = .ok (.iload 4, 2) := by decide +kernel
theorem d_B_sortIn_42 : decode b_B_sortIn 42 = .ok (.aload_n 0, 1) := by decide +kernel
theorem d_B_sortIn_43 : decode b_B_sortIn 43 = .ok (.getfield 39, 3) := by decide +kernel
theorem d_B_sortIn_46 : decode b_B_sortIn 46 = .ok (.iload 4, 2) := by decide +kernel
theorem d_B_sortIn_48 : decode b_B_sortIn 48 = .ok (.iconst 1, 1) := by decide +kernel
theorem d_B_sortIn_49 : decode b_B_sortIn 49 = .ok (.isub, 1) := by decide +kernel
theorem d_B_sortIn_50 : decode b_B_sortIn 50 = .ok (.iaload, 1) := by decide +kernel
theorem d_B_sortIn_51 : decode b_B_sortIn 51 = .ok (.iastore, 1) := by decide +kernel
theorem d_B_sortIn_52 : decode b_B_sortIn 52 = .ok (.iinc 4 (-1), 3) := by decide +kernel
theorem d_B_sortIn_55 : decode b_B_sortIn 55 = .ok (.goto (-42), 3) := by decide +kernel
theorem d_B_sortIn_58 : decode b_B_sortIn 58 = .ok (.aload_n 0, 1) := by decide +kernel
theorem d_B_sortIn_59 : decode b_B_sortIn 59 = .ok (.getfield 39, 3) := by decide +kernel
theorem d_B_sortIn_62 : decode b_B_sortIn 62 = .ok (.iload 4, 2) := by decide +kernel
theorem d_B_sortIn_64 : decode b_B_sortIn 64 = .ok (.iload_n 1, 1) := by decide +kernel
theorem d_B_sortIn_65 : decode b_B_sortIn 65 = .ok (.iastore, 1) := by decide +kernel
theorem d_B_sortIn_66 : decode b_B_sortIn 66 = .ok (.aload_n 0, 1) := by decide +kernel
theorem d_B_sortIn_67 : decode b_B_sortIn 67 = .ok (.dup, 1) := by decide +kernel
theorem d_B_sortIn_68 : decode b_B_sortIn 68 = .ok (.getfield 169, 3) := by decide +kernel
theorem d_B_sortIn_71 : decode b_B_sortIn 71 = .ok (.iconst 1, 1) := by decide +kernel
theorem d_B_sortIn_72 : decode b_B_sortIn 72 = .ok (.iadd, 1) := by decide +kernel
theorem d_B_sortIn_73 : decode b_B_sortIn 73 = .ok (.putfield 169, 3) := by decide +kernel
theorem d_B_sortIn_76 : decode b_B_sortIn 76 = .ok (.return_, 1) := by decide +kernel
theorem d_B_listed_0 : decode b_B_listed 0 = .ok (.iload_n 1, 1) := by decide +kernel
theorem d_B_listed_1 : decode b_B_listed 1 = .ok (.ifCond .lt 11, 3) := by decide +kernel
theorem d_B_listed_4 : decode b_B_listed 4 = .ok (.iload_n 1, 1) := by decide +kernel
theorem d_B_listed_5 : decode b_B_listed 5 = .ok (.aload_n 0, 1) := by decide +kernel
theorem d_B_listed_6 : decode b_B_listed 6 = .ok (.getfield 169, 3) := by decide +kernel
theorem d_B_listed_9 : decode b_B_listed 9 = .ok (.if_icmp .lt 11, 3) := by decide +kernel
theorem d_B_listed_12 : decode b_B_listed 12 = .ok (.new 172, 3) := by decide +kernel
theorem d_B_listed_15 : decode b_B_listed 15 = .ok (.dup, 1) := by decide +kernel
theorem d_B_listed_16 : decode b_B_listed 16 = .ok (.invokespecial 174, 3) := by decide +kernel
theorem d_B_listed_19 : decode b_B_listed 19 = .ok (.athrow, 1) := by decide +kernel
theorem d_B_listed_20 : decode b_B_listed 20 = .ok (.aload_n 0, 1) := by decide +kernel
theorem d_B_listed_21 : decode b_B_listed 21 = .ok (.getfield 39, 3) := by decide +kernel
theorem d_B_listed_24 : decode b_B_listed 24 = .ok (.iload_n 1, 1) := by decide +kernel
theorem d_B_listed_25 : decode b_B_listed 25 = .ok (.iaload, 1) := by decide +kernel
theorem d_B_listed_26 : decode b_B_listed 26 = .ok (.ireturn, 1) := by decide +kernel
end
section
theorem d_S_init_0 : decode b_S_init 0 = .ok (.aload_n 0, 1) := by decide +kernel
theorem d_S_init_1 : decode b_S_init 1 = .ok (.invokespecial 3, 3) := by decide +kernel
theorem d_S_init_4 : decode b_S_init 4 = .ok (.aload_n 0, 1) := by decide +kernel
theorem d_S_init_5 : decode b_S_init 5 = .ok (.aload_n 1, 1) := by decide +kernel
theorem d_S_init_6 : decode b_S_init 6 = .ok (.putfield 9, 3) := by decide +kernel
theorem d_S_init_9 : decode b_S_init 9 = .ok (.aload_n 0, 1) := by decide +kernel
theorem d_S_init_10 : decode b_S_init 10 = .ok (.aload_n 2, 1) := by decide +kernel
theorem d_S_init_11 : decode b_S_init 11 = .ok (.putfield 15, 3) := by decide +kernel
theorem d_S_init_14 : decode b_S_init 14 = .ok (.aload_n 0, 1) := by decide +kernel
theorem d_S_init_15 : decode b_S_init 15 = .ok (.new 19, 3) := by decide +kernel
theorem d_S_init_18 : decode b_S_init 18 = .ok (.dup, 1) := by decide +kernel
theorem d_S_init_19 : decode b_S_init 19 = .ok (.aload_n 3, 1) := by decide +kernel
theorem d_S_init_20 : decode b_S_init 20 = .ok (.invokespecial 21, 3) := by decide +kernel
theorem d_S_init_23 : decode b_S_init 23 = .ok (.putfield 24, 3) := by decide +kernel
theorem d_S_init_26 : decode b_S_init 26 = .ok (.aload_n 0, 1) := by decide +kernel
theorem d_S_init_27 : decode b_S_init 27 = .ok (.new 28, 3) := by decide +kernel
theorem d_S_init_30 : decode b_S_init 30 = .ok (.dup, 1) := by decide +kernel
theorem d_S_init_31 : decode b_S_init 31 = .ok (.aload_n 1, 1) := by decide +kernel
theorem d_S_init_32 : decode b_S_init 32 = .ok (.invokespecial 30, 3) := by decide +kernel
theorem d_S_init_35 : decode b_S_init 35 = .ok (.putfield 33, 3) := by decide +kernel
theorem d_S_init_38 : decode b_S_init 38 = .ok (.aload_n 0, 1) := by decide +kernel
theorem d_S_init_39 : decode b_S_init 39 = .ok (.new 37, 3) := by decide +kernel
theorem d_S_init_42 : decode b_S_init 42 = .ok (.dup, 1) := by decide +kernel
theorem d_S_init_43 : decode b_S_init 43 = .ok (.aload_n 1, 1) := by decide +kernel
theorem d_S_init_44 : decode b_S_init 44 = .ok (.invokespecial 39, 3) := by decide +kernel
theorem d_S_init_47 : decode b_S_init 47 = .ok (.putfield 40, 3) := by decide +kernel
theorem d_S_init_50 : decode b_S_init 50 = .ok (.aload_n 0, 1) := by decide +kernel
theorem d_S_init_51 : decode b_S_init 51 = .ok (.new 37, 3) := by decide +kernel
theorem d_S_init_54 : decode b_S_init 54 = .ok (.dup, 1) := by decide +kernel
theorem d_S_init_55 : decode b_S_init 55 = .ok (.aload_n 1, 1) := by decide +kernel
theorem d_S_init_56 : decode b_S_init 56 = .ok (.invokespecial 39, 3) := by decide +kernel
theorem d_S_init_59 : decode b_S_init 59 = .ok (.putfield 44, 3) := by decide +kernel
theorem d_S_init_62 : decode b_S_init 62 = .ok (.aload_n 0, 1) := by decide +kernel
theorem d_S_init_63 : decode b_S_init 63 = .ok (.getstatic 47, 3) := by decide +kernel
theorem d_S_init_66 : decode b_S_init 66 = .ok (.putfield 53, 3) := by decide +kernel
theorem d_S_init_69 : decode b_S_init 69 = .ok (.aload_n 0, 1) := by decide +kernel
theorem d_S_init_70 : decode b_S_init 70 = .ok (.iconst (-1), 1) := by decide +kernel
theorem d_S_init_71 : decode b_S_init 71 = .ok (.putfield 56, 3) := by decide +kernel
theorem d_S_init_74 : decode b_S_init 74 = .ok (.return_, 1) := by decide +kernel
theorem d_K_init_0 : decode b_K_init 0 = .ok (.aload_n 0, 1) := by decide +kernel
theorem d_K_init_1 : decode b_K_init 1 = .ok (.invokespecial 3, 3) := by decide +kernel
theorem d_K_init_4 : decode b_K_init 4 = .ok (.aload_n 0, 1) := by decide +kernel
theorem d_K_init_5 : decode b_K_init 5 = .ok (.aload_n 1, 1) := by decide +kernel
theorem d_K_init_6 : decode b_K_init 6 = .ok (.putfield 9, 3) := by decide +kernel
theorem d_K_init_9 : decode b_K_init 9 = .ok (.aload_n 0, 1) := by decide +kernel
theorem d_K_init_10 : decode b_K_init 10 = .ok (.bipush 101, 2) := by decide +kernel
theorem d_K_init_12 : decode b_K_init 12 = .ok (.newarray .char, 2) := by decide +kernel
theorem d_K_init_14 : decode b_K_init 14 = .ok (.putfield 15, 3) := by decide +kernel
theorem d_K_init_17 : decode b_K_init 17 = .ok (.aload_n 0, 1) := by decide +kernel
theorem d_K_init_18 : decode b_K_init 18 = .ok (.bipush 101, 2) := by decide +kernel
theorem d_K_init_20 : decode b_K_init 20 = .ok (.newarray .int, 2) := by decide +kernel
theorem d_K_init_22 : decode b_K_init 22 = .ok (.putfield 19, 3) := by decide +kernel
theorem d_K_init_25 : decode b_K_init 25 = .ok (.aload_n 0, 1) := by decide +kernel
theorem d_K_init_26 : decode b_K_init 26 = .ok (.bipush 101, 2) := by decide +kernel
theorem d_K_init_28 : decode b_K_init 28 = .ok (.newarray .int, 2) := by decide +kernel
theorem d_K_init_30 : decode b_K_init 30 = .ok (.putfield 23, 3) := by decide +kernel
theorem d_K_init_33 : decode b_K_init 33 = .ok (.return_, 1) := by decide +kernel
theorem d_P_init_0 : decode b_P_init 0 = .ok (.aload_n 0, 1) := by decide +kernel
theorem d_P_init_1 : decode b_P_init 1 = .ok (.invokespecial 1, 3) := by decide +kernel
theorem d_P_init_4 : decode b_P_init 4 = .ok (.aload_n 0, 1) := by decide +kernel
theorem d_P_init_5 : decode b_P_init 5 = .ok (.new 7, 3) := by decide +kernel
theorem d_P_init_8 : decode b_P_init 8 = .ok (.dup, 1) := by decide +kernel
theorem d_P_init_9 : decode b_P_init 9 = .ok (.aload_n 1, 1) := by decide +kernel
theorem d_P_init_10 : decode b_P_init 10 = .ok (.invokespecial 9, 3) := by decide +kernel
theorem d_P_init_13 : decode b_P_init 13 = .ok (.putfield 12, 3) := by decide +kernel
theorem d_P_init_16 : decode b_P_init 16 = .ok (.aload_n 0, 1) := by decide +kernel
theorem d_P_init_17 : decode b_P_init 17 = .ok (.new 7, 3) := by decide +kernel
theorem d_P_init_20 : decode b_P_init 20 = .ok (.dup, 1) := by decide +kernel
theorem d_P_init_21 : decode b_P_init 21 = .ok (.aload_n 1, 1) := by decide +kernel
theorem d_P_init_22 : decode b_P_init 22 = .ok (.invokespecial 9, 3) := by decide +kernel
theorem d_P_init_25 : decode b_P_init 25 = .ok (.putfield 18, 3) := by decide +kernel
theorem d_P_init_28 : decode b_P_init 28 = .ok (.aload_n 0, 1) := by decide +kernel
theorem d_P_init_29 : decode b_P_init 29 = .ok (.bipush 32, 2) := by decide +kernel
theorem d_P_init_31 : decode b_P_init 31 = .ok (.putfield 21, 3) := by decide +kernel
theorem d_P_init_34 : decode b_P_init 34 = .ok (.return_, 1) := by decide +kernel
theorem d_O_init_0 : decode b_O_init 0 = .ok (.aload_n 0, 1) := by decide +kernel
theorem d_O_init_1 : decode b_O_init 1 = .ok (.invokespecial 3, 3) := by decide +kernel
theorem d_O_init_4 : decode b_O_init 4 = .ok (.aload_n 0, 1) := by decide +kernel
theorem d_O_init_5 : decode b_O_init 5 = .ok (.aload_n 1, 1) := by decide +kernel
theorem d_O_init_6 : decode b_O_init 6 = .ok (.putfield 9, 3) := by decide +kernel
theorem d_O_init_9 : decode b_O_init 9 = .ok (.aload_n 0, 1) := by decide +kernel
theorem d_O_init_10 : decode b_O_init 10 = .ok (.iconst (-1), 1) := by decide +kernel
theorem d_O_init_11 : decode b_O_init 11 = .ok (.putfield 15, 3) := by decide +kernel
theorem d_O_init_14 : decode b_O_init 14 = .ok (.return_, 1) := by decide +kernel
theorem d_C_init_0 : decode b_C_init 0 = .ok (.aload_n 0, 1) := by decide +kernel
theorem d_C_init_1 : decode b_C_init 1 = .ok (.invokespecial 1, 3) := by decide +kernel
theorem d_C_init_4 : decode b_C_init 4 = .ok (.aload_n 0, 1) := by decide +kernel
theorem d_C_init_5 : decode b_C_init 5 = .ok (.aload_n 1, 1) := by decide +kernel
theorem d_C_init_6 : decode b_C_init 6 = .ok (.putfield 7, 3) := by decide +kernel
theorem d_C_init_9 : decode b_C_init 9 = .ok (.aload_n 0, 1) := by decide +kernel
theorem d_C_init_10 : decode b_C_init 10 = .ok (.new 13, 3) := by decide +kernel
theorem d_C_init_13 : decode b_C_init 13 = .ok (.dup, 1) := by decide +kernel
theorem d_C_init_14 : decode b_C_init 14 = .ok (.aload_n 1, 1) := by decide +kernel
theorem d_C_init_15 : decode b_C_init 15 = .ok (.invokespecial 15, 3) := by decide +kernel
theorem d_C_init_18 : decode b_C_init 18 = .ok (.putfield 18, 3) := by decide +kernel
theorem d_C_init_21 : decode b_C_init 21 = .ok (.return_, 1) := by decide +kernel
theorem d_S_wrongAt_0 : decode b_S_wrongAt 0 = .ok (.aload_n 0, 1) := by decide +kernel
theorem d_S_wrongAt_1 : decode b_S_wrongAt 1 = .ok (.getfield 56, 3) := by decide +kernel
theorem d_S_wrongAt_4 : decode b_S_wrongAt 4 = .ok (.ireturn, 1) := by decide +kernel
theorem d_S_read_0 : decode b_S_read 0 = .ok (.aload_n 0, 1) := by decide +kernel
theorem d_S_read_1 : decode b_S_read 1 = .ok (.iconst (-1), 1) := by decide +kernel
theorem d_S_read_2 : decode b_S_read 2 = .ok (.putfield 56, 3) := by decide +kernel
theorem d_S_read_5 : decode b_S_read 5 = .ok (.aload_n 0, 1) := by decide +kernel
theorem d_S_read_6 : decode b_S_read 6 = .ok (.getfield 24, 3) := by decide +kernel
theorem d_S_read_9 : decode b_S_read 9 = .ok (.invokevirtual 84, 3) := by decide +kernel
theorem d_S_read_12 : decode b_S_read 12 = .ok (.aload_n 0, 1) := by decide +kernel
theorem d_S_read_13 : decode b_S_read 13 = .ok (.aload_n 0, 1) := by decide +kernel
theorem d_S_read_14 : decode b_S_read 14 = .ok (.getfield 15, 3) := by decide +kernel
theorem d_S_read_17 : decode b_S_read 17 = .ok (.invokevirtual 87, 3) := by decide +kernel
theorem d_S_read_20 : decode b_S_read 20 = .ok (.putfield 60, 3) := by decide +kernel
theorem d_S_read_23 : decode b_S_read 23 = .ok (.aload_n 0, 1) := by decide +kernel
theorem d_S_read_24 : decode b_S_read 24 = .ok (.getfield 24, 3) := by decide +kernel
theorem d_S_read_27 : decode b_S_read 27 = .ok (.ldc 93, 2) := by decide +kernel
theorem d_S_read_29 : decode b_S_read 29 = .ok (.invokevirtual 95, 3) := by decide +kernel
theorem d_S_read_32 : decode b_S_read 32 = .ok (.ifCond .eq 24, 3) := by decide +kernel
theorem d_S_read_35 : decode b_S_read 35 = .ok (.aload_n 0, 1) := by decide +kernel
theorem d_S_read_36 : decode b_S_read 36 = .ok (.getfield 24, 3) := by decide +kernel
theorem d_S_read_39 : decode b_S_read 39 = .ok (.invokevirtual 99, 3) := by decide +kernel
theorem d_S_read_42 : decode b_S_read 42 = .ok (.aload_n 0, 1) := by decide +kernel
theorem d_S_read_43 : decode b_S_read 43 = .ok (.dup, 1) := by decide +kernel
theorem d_S_read_44 : decode b_S_read 44 = .ok (.getfield 60, 3) := by decide +kernel
theorem d_S_read_47 : decode b_S_read 47 = .ok (.aload_n 0, 1) := by decide +kernel
theorem d_S_read_48 : decode b_S_read 48 = .ok (.iconst 0, 1) := by decide +kernel
theorem d_S_read_49 : decode b_S_read 49 = .ok (.invokevirtual 102, 3) := by decide +kernel
theorem d_S_read_52 : decode b_S_read 52 = .ok (.iand, 1) := by decide +kernel
theorem d_S_read_53 : decode b_S_read 53 = .ok (.putfield 60, 3) := by decide +kernel
theorem d_S_read_56 : decode b_S_read 56 = .ok (.aload_n 0, 1) := by decide +kernel
theorem d_S_read_57 : decode b_S_read 57 = .ok (.invokevirtual 106, 3) := by decide +kernel
theorem d_S_read_60 : decode b_S_read 60 = .ok (.aload_n 0, 1) := by decide +kernel
theorem d_S_read_61 : decode b_S_read 61 = .ok (.getfield 24, 3) := by decide +kernel
theorem d_S_read_64 : decode b_S_read 64 = .ok (.invokevirtual 109, 3) := by decide +kernel
theorem d_S_read_67 : decode b_S_read 67 = .ok (.ifCond .ne 7, 3) := by decide +kernel
theorem d_S_read_70 : decode b_S_read 70 = .ok (.aload_n 0, 1) := by decide +kernel
theorem d_S_read_71 : decode b_S_read 71 = .ok (.invokevirtual 113, 3) := by decide +kernel
theorem d_S_read_74 : decode b_S_read 74 = .ok (.return_, 1) := by decide +kernel
theorem d_K_cut_0 : decode b_K_cut 0 = .ok (.aload_n 0, 1) := by decide +kernel
theorem d_K_cut_1 : decode b_K_cut 1 = .ok (.iconst 0, 1) := by decide +kernel
theorem d_K_cut_2 : decode b_K_cut 2 = .ok (.putfield 26, 3) := by decide +kernel
theorem d_K_cut_5 : decode b_K_cut 5 = .ok (.aload_n 0, 1) := by decide +kernel
theorem d_K_cut_6 : decode b_K_cut 6 = .ok (.iconst 0, 1) := by decide +kernel
theorem d_K_cut_7 : decode b_K_cut 7 = .ok (.putfield 30, 3) := by decide +kernel
theorem d_K_cut_10 : decode b_K_cut 10 = .ok (.iconst 0, 1) := by decide +kernel
theorem d_K_cut_11 : decode b_K_cut 11 = .ok (.istore_n 1, 1) := by decide +kernel
theorem d_K_cut_12 : decode b_K_cut 12 = .ok (.iconst 0, 1) := by decide +kernel
theorem d_K_cut_13 : decode b_K_cut 13 = .ok (.istore_n 2, 1) := by decide +kernel
theorem d_K_cut_14 : decode b_K_cut 14 = .ok (.iload_n 2, 1) := by decide +kernel
theorem d_K_cut_15 : decode b_K_cut 15 = .ok (.bipush 100, 2) := by decide +kernel
theorem d_K_cut_17 : decode b_K_cut 17 = .ok (.if_icmp .ge 45, 3) := by decide +kernel
theorem d_K_cut_20 : decode b_K_cut 20 = .ok (.iload_n 1, 1) := by decide +kernel
theorem d_K_cut_21 : decode b_K_cut 21 = .ok (.aload_n 0, 1) := by decide +kernel
theorem d_K_cut_22 : decode b_K_cut 22 = .ok (.getfield 9, 3) := by decide +kernel
theorem d_K_cut_25 : decode b_K_cut 25 = .ok (.invokevirtual 33, 3) := by decide +kernel
theorem d_K_cut_28 : decode b_K_cut 28 = .ok (.if_icmp .ge 34, 3) := by decide +kernel
theorem d_K_cut_31 : decode b_K_cut 31 = .ok (.aload_n 0, 1) := by decide +kernel
theorem d_K_cut_32 : decode b_K_cut 32 = .ok (.getfield 9, 3) := by decide +kernel
theorem d_K_cut_35 : decode b_K_cut 35 = .ok (.iload_n 1, 1) := by decide +kernel
theorem d_K_cut_36 : decode b_K_cut 36 = .ok (.invokevirtual 39, 3) := by decide +kernel
theorem d_K_cut_39 : decode b_K_cut 39 = .ok (.bipush 32, 2) := by decide +kernel
theorem d_K_cut_41 : decode b_K_cut 41 = .ok (.if_icmp .ne 9, 3) := by decide +kernel
theorem d_K_cut_44 : decode b_K_cut 44 = .ok (.iload_n 1, 1) := by decide +kernel
theorem d_K_cut_45 : decode b_K_cut 45 = .ok (.iconst 1, 1) := by decide +kernel
theorem d_K_cut_46 : decode b_K_cut 46 = .ok (.iadd, 1) := by decide +kernel
theorem d_K_cut_47 : decode b_K_cut 47 = .ok (.goto 8, 3) := by decide +kernel
theorem d_K_cut_50 : decode b_K_cut 50 = .ok (.aload_n 0, 1) := by decide +kernel
theorem d_K_cut_51 : decode b_K_cut 51 = .ok (.iload_n 1, 1) := by decide +kernel
theorem d_K_cut_52 : decode b_K_cut 52 = .ok (.invokevirtual 42, 3) := by decide +kernel
theorem d_K_cut_55 : decode b_K_cut 55 = .ok (.istore_n 1, 1) := by decide +kernel
theorem d_K_cut_56 : decode b_K_cut 56 = .ok (.iinc 2 1, 3) := by decide +kernel
theorem d_K_cut_59 : decode b_K_cut 59 = .ok (.goto (-45), 3) := by decide +kernel
theorem d_K_cut_62 : decode b_K_cut 62 = .ok (.aload_n 0, 1) := by decide +kernel
theorem d_K_cut_63 : decode b_K_cut 63 = .ok (.bipush 46, 2) := by decide +kernel
theorem d_K_cut_65 : decode b_K_cut 65 = .ok (.aload_n 0, 1) := by decide +kernel
theorem d_K_cut_66 : decode b_K_cut 66 = .ok (.getfield 9, 3) := by decide +kernel
theorem d_K_cut_69 : decode b_K_cut 69 = .ok (.invokevirtual 33, 3) := by decide +kernel
theorem d_K_cut_72 : decode b_K_cut 72 = .ok (.aload_n 0, 1) := by decide +kernel
theorem d_K_cut_73 : decode b_K_cut 73 = .ok (.getfield 9, 3) := by decide +kernel
theorem d_K_cut_76 : decode b_K_cut 76 = .ok (.invokevirtual 33, 3) := by decide +kernel
theorem d_K_cut_79 : decode b_K_cut 79 = .ok (.invokevirtual 46, 3) := by decide +kernel
theorem d_K_cut_82 : decode b_K_cut 82 = .ok (.pop, 1) := by decide +kernel
theorem d_K_cut_83 : decode b_K_cut 83 = .ok (.return_, 1) := by decide +kernel
theorem d_K_cutOne_0 : decode b_K_cutOne 0 = .ok (.aload_n 0, 1) := by decide +kernel
theorem d_K_cutOne_1 : decode b_K_cutOne 1 = .ok (.getfield 9, 3) := by decide +kernel
theorem d_K_cutOne_4 : decode b_K_cutOne 4 = .ok (.iload_n 1, 1) := by decide +kernel
theorem d_K_cutOne_5 : decode b_K_cutOne 5 = .ok (.invokevirtual 39, 3) := by decide +kernel
theorem d_K_cutOne_8 : decode b_K_cutOne 8 = .ok (.istore_n 2, 1) := by decide +kernel
theorem d_K_cutOne_9 : decode b_K_cutOne 9 = .ok (.bipush 97, 2) := by decide +kernel
theorem d_K_cutOne_11 : decode b_K_cutOne 11 = .ok (.iload_n 2, 1) := by decide +kernel
theorem d_K_cutOne_12 : decode b_K_cutOne 12 = .ok (.bipush 122, 2) := by decide +kernel
theorem d_K_cutOne_14 : decode b_K_cutOne 14 = .ok (.invokestatic 56, 3) := by decide +kernel
theorem d_K_cutOne_17 : decode b_K_cutOne 17 = .ok (.ifCond .eq 20, 3) := by decide +kernel
theorem d_K_cutOne_20 : decode b_K_cutOne 20 = .ok (.aload_n 0, 1) := by decide +kernel
theorem d_K_cutOne_21 : decode b_K_cutOne 21 = .ok (.bipush 97, 2) := by decide +kernel
theorem d_K_cutOne_23 : decode b_K_cutOne 23 = .ok (.iload_n 1, 1) := by decide +kernel
theorem d_K_cutOne_24 : decode b_K_cutOne 24 = .ok (.aload_n 0, 1) := by decide +kernel
theorem d_K_cutOne_25 : decode b_K_cutOne 25 = .ok (.iload_n 1, 1) := by decide +kernel
theorem d_K_cutOne_26 : decode b_K_cutOne 26 = .ok (.bipush 97, 2) := by decide +kernel
theorem d_K_cutOne_28 : decode b_K_cutOne 28 = .ok (.bipush 122, 2) := by decide +kernel
theorem d_K_cutOne_30 : decode b_K_cutOne 30 = .ok (.invokevirtual 60, 3) := by decide +kernel
theorem d_K_cutOne_33 : decode b_K_cutOne 33 = .ok (.invokevirtual 46, 3) := by decide +kernel
theorem d_K_cutOne_36 : decode b_K_cutOne 36 = .ok (.ireturn, 1) := by decide +kernel
theorem d_K_cutOne_37 : decode b_K_cutOne 37 = .ok (.bipush 48, 2) := by decide +kernel
theorem d_K_cutOne_39 : decode b_K_cutOne 39 = .ok (.iload_n 2, 1) := by decide +kernel
theorem d_K_cutOne_40 : decode b_K_cutOne 40 = .ok (.bipush 57, 2) := by decide +kernel
theorem d_K_cutOne_42 : decode b_K_cutOne 42 = .ok (.invokestatic 56, 3) := by decide +kernel
theorem d_K_cutOne_45 : decode b_K_cutOne 45 = .ok (.ifCond .eq 34, 3) := by decide +kernel
theorem d_K_cutOne_48 : decode b_K_cutOne 48 = .ok (.aload_n 0, 1) := by decide +kernel
theorem d_K_cutOne_49 : decode b_K_cutOne 49 = .ok (.iload_n 1, 1) := by decide +kernel
theorem d_K_cutOne_50 : decode b_K_cutOne 50 = .ok (.bipush 48, 2) := by decide +kernel
theorem d_K_cutOne_52 : decode b_K_cutOne 52 = .ok (.bipush 57, 2) := by decide +kernel
theorem d_K_cutOne_54 : decode b_K_cutOne 54 = .ok (.invokevirtual 60, 3) := by decide +kernel
theorem d_K_cutOne_57 : decode b_K_cutOne 57 = .ok (.istore_n 3, 1) := by decide +kernel
theorem d_K_cutOne_58 : decode b_K_cutOne 58 = .ok (.aload_n 0, 1) := by decide +kernel
theorem d_K_cutOne_59 : decode b_K_cutOne 59 = .ok (.iload_n 3, 1) := by decide +kernel
theorem d_K_cutOne_60 : decode b_K_cutOne 60 = .ok (.iload_n 1, 1) := by decide +kernel
theorem d_K_cutOne_61 : decode b_K_cutOne 61 = .ok (.isub, 1) := by decide +kernel
theorem d_K_cutOne_62 : decode b_K_cutOne 62 = .ok (.iconst 3, 1) := by decide +kernel
theorem d_K_cutOne_63 : decode b_K_cutOne 63 = .ok (.if_icmp .gt 8, 3) := by decide +kernel
theorem d_K_cutOne_66 : decode b_K_cutOne 66 = .ok (.bipush 48, 2) := by decide +kernel
theorem d_K_cutOne_68 : decode b_K_cutOne 68 = .ok (.goto 5, 3) := by decide +kernel
theorem d_K_cutOne_71 : decode b_K_cutOne 71 = .ok (.bipush 63, 2) := by decide +kernel
theorem d_K_cutOne_73 : decode b_K_cutOne 73 = .ok (.iload_n 1, 1) := by decide +kernel
theorem d_K_cutOne_74 : decode b_K_cutOne 74 = .ok (.iload_n 3, 1) := by decide +kernel
theorem d_K_cutOne_75 : decode b_K_cutOne 75 = .ok (.invokevirtual 46, 3) := by decide +kernel
theorem d_K_cutOne_78 : decode b_K_cutOne 78 = .ok (.ireturn, 1) := by decide +kernel
theorem d_K_cutOne_79 : decode b_K_cutOne 79 = .ok (.aload_n 0, 1) := by decide +kernel
theorem d_K_cutOne_80 : decode b_K_cutOne 80 = .ok (.ldc 64, 2) := by decide +kernel
theorem d_K_cutOne_82 : decode b_K_cutOne 82 = .ok (.iload_n 2, 1) := by decide +kernel
theorem d_K_cutOne_83 : decode b_K_cutOne 83 = .ok (.invokevirtual 66, 3) := by decide +kernel
theorem d_K_cutOne_86 : decode b_K_cutOne 86 = .ok (.ifCond .lt 7, 3) := by decide +kernel
theorem d_K_cutOne_89 : decode b_K_cutOne 89 = .ok (.iload_n 2, 1) := by decide +kernel
theorem d_K_cutOne_90 : decode b_K_cutOne 90 = .ok (.goto 5, 3) := by decide +kernel
theorem d_K_cutOne_93 : decode b_K_cutOne 93 = .ok (.bipush 63, 2) := by decide +kernel
theorem d_K_cutOne_95 : decode b_K_cutOne 95 = .ok (.iload_n 1, 1) := by decide +kernel
theorem d_K_cutOne_96 : decode b_K_cutOne 96 = .ok (.iload_n 1, 1) := by decide +kernel
theorem d_K_cutOne_97 : decode b_K_cutOne 97 = .ok (.iconst 1, 1) := by decide +kernel
theorem d_K_cutOne_98 : decode b_K_cutOne 98 = .ok (.iadd, 1) := by decide +kernel
theorem d_K_cutOne_99 : decode b_K_cutOne 99 = .ok (.invokevirtual 46, 3) := by decide +kernel
theorem d_K_cutOne_102 : decode b_K_cutOne 102 = .ok (.ireturn, 1) := by decide +kernel
theorem d_K_isBetween_0 : decode b_K_isBetween 0 = .ok (.iload_n 0, 1) := by decide +kernel
theorem d_K_isBetween_1 : decode b_K_isBetween 1 = .ok (.iload_n 1, 1) := by decide +kernel
theorem d_K_isBetween_2 : decode b_K_isBetween 2 = .ok (.if_icmp .gt 12, 3) := by decide +kernel
theorem d_K_isBetween_5 : decode b_K_isBetween 5 = .ok (.iload_n 1, 1) := by decide +kernel
theorem d_K_isBetween_6 : decode b_K_isBetween 6 = .ok (.iload_n 2, 1) := by decide +kernel
theorem d_K_isBetween_7 : decode b_K_isBetween 7 = .ok (.if_icmp .gt 7, 3) := by decide +kernel
theorem d_K_isBetween_10 : decode b_K_isBetween 10 = .ok (.iconst 1, 1) := by decide +kernel
theorem d_K_isBetween_11 : decode b_K_isBetween 11 = .ok (.goto 4, 3) := by decide +kernel
theorem d_K_isBetween_14 : decode b_K_isBetween 14 = .ok (.iconst 0, 1) := by decide +kernel
theorem d_K_isBetween_15 : decode b_K_isBetween 15 = .ok (.ireturn, 1) := by decide +kernel
theorem d_K_endOf_0 : decode b_K_endOf 0 = .ok (.iload_n 1, 1) := by decide +kernel
theorem d_K_endOf_1 : decode b_K_endOf 1 = .ok (.istore 4, 2) := by decide +kernel
theorem d_K_endOf_3 : decode b_K_endOf 3 = .ok (.iload 4, 2) := by decide +kernel
theorem d_K_endOf_5 : decode b_K_endOf 5 = .ok (.aload_n 0, 1) := by decide +kernel
theorem d_K_endOf_6 : decode b_K_endOf 6 = .ok (.getfield 9, 3) := by decide +kernel
theorem d_K_endOf_9 : decode b_K_endOf 9 = .ok (.invokevirtual 33, 3) := by decide +kernel
theorem d_K_endOf_12 : decode b_K_endOf 12 = .ok (.if_icmp .ge 26, 3) := by decide +kernel
theorem d_K_endOf_15 : decode b_K_endOf 15 = .ok (.iload_n 2, 1) := by decide +kernel
theorem d_K_endOf_16 : decode b_K_endOf 16 = .ok (.aload_n 0, 1) := by decide +kernel
theorem d_K_endOf_17 : decode b_K_endOf 17 = .ok (.getfield 9, 3) := by decide +kernel
theorem d_K_endOf_20 : decode b_K_endOf 20 = .ok (.iload 4, 2) := by decide +kernel
theorem d_K_endOf_22 : decode b_K_endOf 22 = .ok (.invokevirtual 39, 3) := by decide +kernel
theorem d_K_endOf_25 : decode b_K_endOf 25 = .ok (.iload_n 3, 1) := by decide +kernel
theorem d_K_endOf_26 : decode b_K_endOf 26 = .ok (.invokestatic 56, 3) := by decide +kernel
theorem d_K_endOf_29 : decode b_K_endOf 29 = .ok (.ifCond .eq 9, 3) := by decide +kernel
theorem d_K_endOf_32 : decode b_K_endOf 32 = .ok (.iinc 4 1, 3) := by decide +kernel
theorem d_K_endOf_35 : decode b_K_endOf 35 = .ok (.goto (-32), 3) := by decide +kernel
theorem d_K_endOf_38 : decode b_K_endOf 38 = .ok (.iload 4, 2) := by decide +kernel
theorem d_K_endOf_40 : decode b_K_endOf 40 = .ok (.ireturn, 1) := by decide +kernel
theorem d_K_append_0 : decode b_K_append 0 = .ok (.aload_n 0, 1) := by decide +kernel
theorem d_K_append_1 : decode b_K_append 1 = .ok (.getfield 26, 3) := by decide +kernel
theorem d_K_append_4 : decode b_K_append 4 = .ok (.bipush 101, 2) := by decide +kernel
theorem d_K_append_6 : decode b_K_append 6 = .ok (.if_icmp .ge 43, 3) := by decide +kernel
theorem d_K_append_9 : decode b_K_append 9 = .ok (.aload_n 0, 1) := by decide +kernel
theorem d_K_append_10 : decode b_K_append 10 = .ok (.getfield 15, 3) := by decide +kernel
theorem d_K_append_13 : decode b_K_append 13 = .ok (.aload_n 0, 1) := by decide +kernel
theorem d_K_append_14 : decode b_K_append 14 = .ok (.getfield 26, 3) := by decide +kernel
theorem d_K_append_17 : decode b_K_append 17 = .ok (.iload_n 1, 1) := by decide +kernel
theorem d_K_append_18 : decode b_K_append 18 = .ok (.castore, 1) := by decide +kernel
theorem d_K_append_19 : decode b_K_append 19 = .ok (.aload_n 0, 1) := by decide +kernel
theorem d_K_append_20 : decode b_K_append 20 = .ok (.getfield 19, 3) := by decide +kernel
theorem d_K_append_23 : decode b_K_append 23 = .ok (.aload_n 0, 1) := by decide +kernel
theorem d_K_append_24 : decode b_K_append 24 = .ok (.getfield 26, 3) := by decide +kernel
theorem d_K_append_27 : decode b_K_append 27 = .ok (.iload_n 2, 1) := by decide +kernel
theorem d_K_append_28 : decode b_K_append 28 = .ok (.iastore, 1) := by decide +kernel
theorem d_K_append_29 : decode b_K_append 29 = .ok (.aload_n 0, 1) := by decide +kernel
theorem d_K_append_30 : decode b_K_append 30 = .ok (.getfield 23, 3) := by decide +kernel
theorem d_K_append_33 : decode b_K_append 33 = .ok (.aload_n 0, 1) := by decide +kernel
theorem d_K_append_34 : decode b_K_append 34 = .ok (.getfield 26, 3) := by decide +kernel
theorem d_K_append_37 : decode b_K_append 37 = .ok (.iload_n 3, 1) := by decide +kernel
theorem d_K_append_38 : decode b_K_append 38 = .ok (.iastore, 1) := by decide +kernel
theorem d_K_append_39 : decode b_K_append 39 = .ok (.aload_n 0, 1) := by decide +kernel
theorem d_K_append_40 : decode b_K_append 40 = .ok (.dup, 1) := by decide +kernel
theorem d_K_append_41 : decode b_K_append 41 = .ok (.getfield 26, 3) := by decide +kernel
theorem d_K_append_44 : decode b_K_append 44 = .ok (.iconst 1, 1) := by decide +kernel
theorem d_K_append_45 : decode b_K_append 45 = .ok (.iadd, 1) := by decide +kernel
theorem d_K_append_46 : decode b_K_append 46 = .ok (.putfield 26, 3) := by decide +kernel
theorem d_K_append_49 : decode b_K_append 49 = .ok (.iload_n 3, 1) := by decide +kernel
theorem d_K_append_50 : decode b_K_append 50 = .ok (.ireturn, 1) := by decide +kernel
theorem d_K_isWord_0 : decode b_K_isWord 0 = .ok (.aload_n 0, 1) := by decide +kernel
theorem d_K_isWord_1 : decode b_K_isWord 1 = .ok (.getfield 15, 3) := by decide +kernel
theorem d_K_isWord_4 : decode b_K_isWord 4 = .ok (.aload_n 0, 1) := by decide +kernel
theorem d_K_isWord_5 : decode b_K_isWord 5 = .ok (.getfield 30, 3) := by decide +kernel
theorem d_K_isWord_8 : decode b_K_isWord 8 = .ok (.caload, 1) := by decide +kernel
theorem d_K_isWord_9 : decode b_K_isWord 9 = .ok (.bipush 97, 2) := by decide +kernel
theorem d_K_isWord_11 : decode b_K_isWord 11 = .ok (.if_icmp .ne 29, 3) := by decide +kernel
theorem d_K_isWord_14 : decode b_K_isWord 14 = .ok (.aload_n 0, 1) := by decide +kernel
theorem d_K_isWord_15 : decode b_K_isWord 15 = .ok (.getfield 23, 3) := by decide +kernel
theorem d_K_isWord_18 : decode b_K_isWord 18 = .ok (.aload_n 0, 1) := by decide +kernel
theorem d_K_isWord_19 : decode b_K_isWord 19 = .ok (.getfield 30, 3) := by decide +kernel
theorem d_K_isWord_22 : decode b_K_isWord 22 = .ok (.iaload, 1) := by decide +kernel
theorem d_K_isWord_23 : decode b_K_isWord 23 = .ok (.aload_n 0, 1) := by decide +kernel
theorem d_K_isWord_24 : decode b_K_isWord 24 = .ok (.getfield 19, 3) := by decide +kernel
theorem d_K_isWord_27 : decode b_K_isWord 27 = .ok (.aload_n 0, 1) := by decide +kernel
theorem d_K_isWord_28 : decode b_K_isWord 28 = .ok (.getfield 30, 3) := by decide +kernel
theorem d_K_isWord_31 : decode b_K_isWord 31 = .ok (.iaload, 1) := by decide +kernel
theorem d_K_isWord_32 : decode b_K_isWord 32 = .ok (.isub, 1) := by decide +kernel
theorem d_K_isWord_33 : decode b_K_isWord 33 = .ok (.aload_n 1, 1) := by decide +kernel
theorem d_K_isWord_34 : decode b_K_isWord 34 = .ok (.invokevirtual 50, 3) := by decide +kernel
theorem d_K_isWord_37 : decode b_K_isWord 37 = .ok (.if_icmp .eq 5, 3) := by decide +kernel
theorem d_K_isWord_40 : decode b_K_isWord 40 = .ok (.iconst 0, 1) := by decide +kernel
theorem d_K_isWord_41 : decode b_K_isWord 41 = .ok (.ireturn, 1) := by decide +kernel
theorem d_K_isWord_42 : decode b_K_isWord 42 = .ok (.iconst 0, 1) := by decide +kernel
theorem d_K_isWord_43 : decode b_K_isWord 43 = .ok (.istore_n 2, 1) := by decide +kernel
theorem d_K_isWord_44 : decode b_K_isWord 44 = .ok (.iload_n 2, 1) := by decide +kernel
theorem d_K_isWord_45 : decode b_K_isWord 45 = .ok (.aload_n 1, 1) := by decide +kernel
theorem d_K_isWord_46 : decode b_K_isWord 46 = .ok (.invokevirtual 50, 3) := by decide +kernel
theorem d_K_isWord_49 : decode b_K_isWord 49 = .ok (.if_icmp .ge 37, 3) := by decide +kernel
theorem d_K_isWord_52 : decode b_K_isWord 52 = .ok (.aload_n 0, 1) := by decide +kernel
theorem d_K_isWord_53 : decode b_K_isWord 53 = .ok (.getfield 9, 3) := by decide +kernel
theorem d_K_isWord_56 : decode b_K_isWord 56 = .ok (.aload_n 0, 1) := by decide +kernel
theorem d_K_isWord_57 : decode b_K_isWord 57 = .ok (.getfield 19, 3) := by decide +kernel
theorem d_K_isWord_60 : decode b_K_isWord 60 = .ok (.aload_n 0, 1) := by decide +kernel
theorem d_K_isWord_61 : decode b_K_isWord 61 = .ok (.getfield 30, 3) := by decide +kernel
theorem d_K_isWord_64 : decode b_K_isWord 64 = .ok (.iaload, 1) := by decide +kernel
theorem d_K_isWord_65 : decode b_K_isWord 65 = .ok (.iload_n 2, 1) := by decide +kernel
theorem d_K_isWord_66 : decode b_K_isWord 66 = .ok (.iadd, 1) := by decide +kernel
theorem d_K_isWord_67 : decode b_K_isWord 67 = .ok (.invokevirtual 39, 3) := by decide +kernel
theorem d_K_isWord_70 : decode b_K_isWord 70 = .ok (.aload_n 1, 1) := by decide +kernel
theorem d_K_isWord_71 : decode b_K_isWord 71 = .ok (.iload_n 2, 1) := by decide +kernel
theorem d_K_isWord_72 : decode b_K_isWord 72 = .ok (.invokevirtual 53, 3) := by decide +kernel
theorem d_K_isWord_75 : decode b_K_isWord 75 = .ok (.if_icmp .eq 5, 3) := by decide +kernel
theorem d_K_isWord_78 : decode b_K_isWord 78 = .ok (.iconst 0, 1) := by decide +kernel
theorem d_K_isWord_79 : decode b_K_isWord 79 = .ok (.ireturn, 1) := by decide +kernel
theorem d_K_isWord_80 : decode b_K_isWord 80 = .ok (.iinc 2 1, 3) := by decide +kernel
theorem d_K_isWord_83 : decode b_K_isWord 83 = .ok (.goto (-39), 3) := by decide +kernel
theorem d_K_isWord_86 : decode b_K_isWord 86 = .ok (.iconst 1, 1) := by decide +kernel
theorem d_K_isWord_87 : decode b_K_isWord 87 = .ok (.ireturn, 1) := by decide +kernel
theorem d_K_advance_0 : decode b_K_advance 0 = .ok (.aload_n 0, 1) := by decide +kernel
theorem d_K_advance_1 : decode b_K_advance 1 = .ok (.getfield 30, 3) := by decide +kernel
theorem d_K_advance_4 : decode b_K_advance 4 = .ok (.aload_n 0, 1) := by decide +kernel
theorem d_K_advance_5 : decode b_K_advance 5 = .ok (.getfield 26, 3) := by decide +kernel
theorem d_K_advance_8 : decode b_K_advance 8 = .ok (.iconst 1, 1) := by decide +kernel
theorem d_K_advance_9 : decode b_K_advance 9 = .ok (.isub, 1) := by decide +kernel
theorem d_K_advance_10 : decode b_K_advance 10 = .ok (.if_icmp .ge 13, 3) := by decide +kernel
theorem d_K_advance_13 : decode b_K_advance 13 = .ok (.aload_n 0, 1) := by decide +kernel
theorem d_K_advance_14 : decode b_K_advance 14 = .ok (.dup, 1) := by decide +kernel
theorem d_K_advance_15 : decode b_K_advance 15 = .ok (.getfield 30, 3) := by decide +kernel
theorem d_K_advance_18 : decode b_K_advance 18 = .ok (.iconst 1, 1) := by decide +kernel
theorem d_K_advance_19 : decode b_K_advance 19 = .ok (.iadd, 1) := by decide +kernel
theorem d_K_advance_20 : decode b_K_advance 20 = .ok (.putfield 30, 3) := by decide +kernel
theorem d_K_advance_23 : decode b_K_advance 23 = .ok (.return_, 1) := by decide +kernel
theorem d_S_readCondition_0 : decode b_S_readCondition 0 = .ok (.aload_n 0, 1) := by decide +kernel
theorem d_S_readCondition_1 : decode b_S_readCondition 1 = .ok (.iload_n 1, 1) := by decide +kernel
theorem d_S_readCondition_2 : decode b_S_readCondition 2 = .ok (.invokevirtual 122, 3) := by decide +kernel
theorem d_S_readCondition_5 : decode b_S_readCondition 5 = .ok (.istore_n 2, 1) := by decide +kernel
theorem d_S_readCondition_6 : decode b_S_readCondition 6 = .ok (.iconst 0, 1) := by decide +kernel
theorem d_S_readCondition_7 : decode b_S_readCondition 7 = .ok (.istore_n 3, 1) := by decide +kernel
theorem d_S_readCondition_8 : decode b_S_readCondition 8 = .ok (.iload_n 3, 1) := by decide +kernel
theorem d_S_readCondition_9 : decode b_S_readCondition 9 = .ok (.bipush 100, 2) := by decide +kernel
theorem d_S_readCondition_11 : decode b_S_readCondition 11 = .ok (.if_icmp .ge 36, 3) := by decide +kernel
theorem d_S_readCondition_14 : decode b_S_readCondition 14 = .ok (.aload_n 0, 1) := by decide +kernel
theorem d_S_readCondition_15 : decode b_S_readCondition 15 = .ok (.getfield 24, 3) := by decide +kernel
theorem d_S_readCondition_18 : decode b_S_readCondition 18 = .ok (.bipush 124, 2) := by decide +kernel
theorem d_S_readCondition_20 : decode b_S_readCondition 20 = .ok (.invokevirtual 125, 3) := by decide +kernel
theorem d_S_readCondition_23 : decode b_S_readCondition 23 = .ok (.ifCond .eq 24, 3) := by decide +kernel
theorem d_S_readCondition_26 : decode b_S_readCondition 26 = .ok (.aload_n 0, 1) := by decide +kernel
theorem d_S_readCondition_27 : decode b_S_readCondition 27 = .ok (.getfield 24, 3) := by decide +kernel
theorem d_S_readCondition_30 : decode b_S_readCondition 30 = .ok (.invokevirtual 99, 3) := by decide +kernel
theorem d_S_readCondition_33 : decode b_S_readCondition 33 = .ok (.iload_n 2, 1) := by decide +kernel
theorem d_S_readCondition_34 : decode b_S_readCondition 34 = .ok (.aload_n 0, 1) := by decide +kernel
theorem d_S_readCondition_35 : decode b_S_readCondition 35 = .ok (.iload_n 1, 1) := by decide +kernel
theorem d_S_readCondition_36 : decode b_S_readCondition 36 = .ok (.invokevirtual 122, 3) := by decide +kernel
theorem d_S_readCondition_39 : decode b_S_readCondition 39 = .ok (.ior, 1) := by decide +kernel
theorem d_S_readCondition_40 : decode b_S_readCondition 40 = .ok (.istore_n 2, 1) := by decide +kernel
theorem d_S_readCondition_41 : decode b_S_readCondition 41 = .ok (.iinc 3 1, 3) := by decide +kernel
theorem d_S_readCondition_44 : decode b_S_readCondition 44 = .ok (.goto (-36), 3) := by decide +kernel
theorem d_S_readCondition_47 : decode b_S_readCondition 47 = .ok (.iload_n 2, 1) := by decide +kernel
theorem d_S_readCondition_48 : decode b_S_readCondition 48 = .ok (.ireturn, 1) := by decide +kernel
theorem d_S_readClause_0 : decode b_S_readClause 0 = .ok (.aload_n 0, 1) := by decide +kernel
theorem d_S_readClause_1 : decode b_S_readClause 1 = .ok (.iload_n 1, 1) := by decide +kernel
theorem d_S_readClause_2 : decode b_S_readClause 2 = .ok (.invokevirtual 129, 3) := by decide +kernel
theorem d_S_readClause_5 : decode b_S_readClause 5 = .ok (.istore_n 2, 1) := by decide +kernel
theorem d_S_readClause_6 : decode b_S_readClause 6 = .ok (.iconst 0, 1) := by decide +kernel
theorem d_S_readClause_7 : decode b_S_readClause 7 = .ok (.istore_n 3, 1) := by decide +kernel
theorem d_S_readClause_8 : decode b_S_readClause 8 = .ok (.iload_n 3, 1) := by decide +kernel
theorem d_S_readClause_9 : decode b_S_readClause 9 = .ok (.bipush 100, 2) := by decide +kernel
theorem d_S_readClause_11 : decode b_S_readClause 11 = .ok (.if_icmp .ge 36, 3) := by decide +kernel
theorem d_S_readClause_14 : decode b_S_readClause 14 = .ok (.aload_n 0, 1) := by decide +kernel
theorem d_S_readClause_15 : decode b_S_readClause 15 = .ok (.getfield 24, 3) := by decide +kernel
theorem d_S_readClause_18 : decode b_S_readClause 18 = .ok (.bipush 38, 2) := by decide +kernel
theorem d_S_readClause_20 : decode b_S_readClause 20 = .ok (.invokevirtual 125, 3) := by decide +kernel
theorem d_S_readClause_23 : decode b_S_readClause 23 = .ok (.ifCond .eq 24, 3) := by decide +kernel
theorem d_S_readClause_26 : decode b_S_readClause 26 = .ok (.aload_n 0, 1) := by decide +kernel
theorem d_S_readClause_27 : decode b_S_readClause 27 = .ok (.getfield 24, 3) := by decide +kernel
theorem d_S_readClause_30 : decode b_S_readClause 30 = .ok (.invokevirtual 99, 3) := by decide +kernel
theorem d_S_readClause_33 : decode b_S_readClause 33 = .ok (.iload_n 2, 1) := by decide +kernel
theorem d_S_readClause_34 : decode b_S_readClause 34 = .ok (.aload_n 0, 1) := by decide +kernel
theorem d_S_readClause_35 : decode b_S_readClause 35 = .ok (.iload_n 1, 1) := by decide +kernel
theorem d_S_readClause_36 : decode b_S_readClause 36 = .ok (.invokevirtual 129, 3) := by decide +kernel
theorem d_S_readClause_39 : decode b_S_readClause 39 = .ok (.iand, 1) := by decide +kernel
theorem d_S_readClause_40 : decode b_S_readClause 40 = .ok (.istore_n 2, 1) := by decide +kernel
theorem d_S_readClause_41 : decode b_S_readClause 41 = .ok (.iinc 3 1, 3) := by decide +kernel
theorem d_S_readClause_44 : decode b_S_readClause 44 = .ok (.goto (-36), 3) := by decide +kernel
theorem d_S_readClause_47 : decode b_S_readClause 47 = .ok (.iload_n 2, 1) := by decide +kernel
theorem d_S_readClause_48 : decode b_S_readClause 48 = .ok (.ireturn, 1) := by decide +kernel
theorem d_S_readOne_0 : decode b_S_readOne 0 = .ok (.aload_n 0, 1) := by decide +kernel
theorem d_S_readOne_1 : decode b_S_readOne 1 = .ok (.getfield 24, 3) := by decide +kernel
theorem d_S_readOne_4 : decode b_S_readOne 4 = .ok (.bipush 33, 2) := by decide +kernel
theorem d_S_readOne_6 : decode b_S_readOne 6 = .ok (.invokevirtual 125, 3) := by decide +kernel
theorem d_S_readOne_9 : decode b_S_readOne 9 = .ok (.istore_n 2, 1) := by decide +kernel
theorem d_S_readOne_10 : decode b_S_readOne 10 = .ok (.iload_n 2, 1) := by decide +kernel
theorem d_S_readOne_11 : decode b_S_readOne 11 = .ok (.ifCond .ne 20, 3) := by decide +kernel
theorem d_S_readOne_14 : decode b_S_readOne 14 = .ok (.aload_n 0, 1) := by decide +kernel
theorem d_S_readOne_15 : decode b_S_readOne 15 = .ok (.getfield 24, 3) := by decide +kernel
theorem d_S_readOne_18 : decode b_S_readOne 18 = .ok (.bipush 40, 2) := by decide +kernel
theorem d_S_readOne_20 : decode b_S_readOne 20 = .ok (.invokevirtual 125, 3) := by decide +kernel
theorem d_S_readOne_23 : decode b_S_readOne 23 = .ok (.ifCond .ne 8, 3) := by decide +kernel
theorem d_S_readOne_26 : decode b_S_readOne 26 = .ok (.aload_n 0, 1) := by decide +kernel
theorem d_S_readOne_27 : decode b_S_readOne 27 = .ok (.invokevirtual 132, 3) := by decide +kernel
theorem d_S_readOne_30 : decode b_S_readOne 30 = .ok (.ireturn, 1) := by decide +kernel
theorem d_S_readOne_31 : decode b_S_readOne 31 = .ok (.iload_n 1, 1) := by decide +kernel
theorem d_S_readOne_32 : decode b_S_readOne 32 = .ok (.bipush 8, 2) := by decide +kernel
theorem d_S_readOne_34 : decode b_S_readOne 34 = .ok (.if_icmp .lt 7, 3) := by decide +kernel
theorem d_S_readOne_37 : decode b_S_readOne 37 = .ok (.aload_n 0, 1) := by decide +kernel
theorem d_S_readOne_38 : decode b_S_readOne 38 = .ok (.invokevirtual 113, 3) := by decide +kernel
theorem d_S_readOne_41 : decode b_S_readOne 41 = .ok (.aload_n 0, 1) := by decide +kernel
theorem d_S_readOne_42 : decode b_S_readOne 42 = .ok (.getfield 24, 3) := by decide +kernel
theorem d_S_readOne_45 : decode b_S_readOne 45 = .ok (.invokevirtual 99, 3) := by decide +kernel
theorem d_S_readOne_48 : decode b_S_readOne 48 = .ok (.iload_n 2, 1) := by decide +kernel
theorem d_S_readOne_49 : decode b_S_readOne 49 = .ok (.ifCond .eq 13, 3) := by decide +kernel
theorem d_S_readOne_52 : decode b_S_readOne 52 = .ok (.aload_n 0, 1) := by decide +kernel
theorem d_S_readOne_53 : decode b_S_readOne 53 = .ok (.iload_n 1, 1) := by decide +kernel
theorem d_S_readOne_54 : decode b_S_readOne 54 = .ok (.iconst 1, 1) := by decide +kernel
theorem d_S_readOne_55 : decode b_S_readOne 55 = .ok (.iadd, 1) := by decide +kernel
theorem d_S_readOne_56 : decode b_S_readOne 56 = .ok (.invokevirtual 129, 3) := by decide +kernel
theorem d_S_readOne_59 : decode b_S_readOne 59 = .ok (.iconst (-1), 1) := by decide +kernel
theorem d_S_readOne_60 : decode b_S_readOne 60 = .ok (.ixor, 1) := by decide +kernel
theorem d_S_readOne_61 : decode b_S_readOne 61 = .ok (.ireturn, 1) := by decide +kernel
theorem d_S_readOne_62 : decode b_S_readOne 62 = .ok (.aload_n 0, 1) := by decide +kernel
theorem d_S_readOne_63 : decode b_S_readOne 63 = .ok (.iload_n 1, 1) := by decide +kernel
theorem d_S_readOne_64 : decode b_S_readOne 64 = .ok (.iconst 1, 1) := by decide +kernel
theorem d_S_readOne_65 : decode b_S_readOne 65 = .ok (.iadd, 1) := by decide +kernel
theorem d_S_readOne_66 : decode b_S_readOne 66 = .ok (.invokevirtual 102, 3) := by decide +kernel
theorem d_S_readOne_69 : decode b_S_readOne 69 = .ok (.istore_n 3, 1) := by decide +kernel
theorem d_S_readOne_70 : decode b_S_readOne 70 = .ok (.aload_n 0, 1) := by decide +kernel
theorem d_S_readOne_71 : decode b_S_readOne 71 = .ok (.bipush 41, 2) := by decide +kernel
theorem d_S_readOne_73 : decode b_S_readOne 73 = .ok (.invokevirtual 135, 3) := by decide +kernel
theorem d_S_readOne_76 : decode b_S_readOne 76 = .ok (.iload_n 3, 1) := by decide +kernel
theorem d_S_readOne_77 : decode b_S_readOne 77 = .ok (.ireturn, 1) := by decide +kernel
theorem d_K_isSign_0 : decode b_K_isSign 0 = .ok (.aload_n 0, 1) := by decide +kernel
theorem d_K_isSign_1 : decode b_K_isSign 1 = .ok (.getfield 15, 3) := by decide +kernel
theorem d_K_isSign_4 : decode b_K_isSign 4 = .ok (.aload_n 0, 1) := by decide +kernel
theorem d_K_isSign_5 : decode b_K_isSign 5 = .ok (.getfield 30, 3) := by decide +kernel
theorem d_K_isSign_8 : decode b_K_isSign 8 = .ok (.caload, 1) := by decide +kernel
theorem d_K_isSign_9 : decode b_K_isSign 9 = .ok (.iload_n 1, 1) := by decide +kernel
theorem d_K_isSign_10 : decode b_K_isSign 10 = .ok (.if_icmp .ne 7, 3) := by decide +kernel
theorem d_K_isSign_13 : decode b_K_isSign 13 = .ok (.iconst 1, 1) := by decide +kernel
theorem d_K_isSign_14 : decode b_K_isSign 14 = .ok (.goto 4, 3) := by decide +kernel
theorem d_K_isSign_17 : decode b_K_isSign 17 = .ok (.iconst 0, 1) := by decide +kernel
theorem d_K_isSign_18 : decode b_K_isSign 18 = .ok (.ireturn, 1) := by decide +kernel
theorem d_S_readComparison_0 : decode b_S_readComparison 0 = .ok (.aload_n 0, 1) := by decide +kernel
theorem d_S_readComparison_1 : decode b_S_readComparison 1 = .ok (.aload_n 0, 1) := by decide +kernel
theorem d_S_readComparison_2 : decode b_S_readComparison 2 = .ok (.getfield 33, 3) := by decide +kernel
theorem d_S_readComparison_5 : decode b_S_readComparison 5 = .ok (.getfield 139, 3) := by decide +kernel
theorem d_S_readComparison_8 : decode b_S_readComparison 8 = .ok (.invokevirtual 143, 3) := by decide +kernel
theorem d_S_readComparison_11 : decode b_S_readComparison 11 = .ok (.aload_n 0, 1) := by decide +kernel
theorem d_S_readComparison_12 : decode b_S_readComparison 12 = .ok (.getfield 33, 3) := by decide +kernel
theorem d_S_readComparison_15 : decode b_S_readComparison 15 = .ok (.aload_n 0, 1) := by decide +kernel
theorem d_S_readComparison_16 : decode b_S_readComparison 16 = .ok (.bipush 60, 2) := by decide +kernel
theorem d_S_readComparison_18 : decode b_S_readComparison 18 = .ok (.bipush 61, 2) := by decide +kernel
theorem d_S_readComparison_20 : decode b_S_readComparison 20 = .ok (.bipush 62, 2) := by decide +kernel
theorem d_S_readComparison_22 : decode b_S_readComparison 22 = .ok (.invokevirtual 147, 3) := by decide +kernel
theorem d_S_readComparison_25 : decode b_S_readComparison 25 = .ok (.putfield 151, 3) := by decide +kernel
theorem d_S_readComparison_28 : decode b_S_readComparison 28 = .ok (.aload_n 0, 1) := by decide +kernel
theorem d_S_readComparison_29 : decode b_S_readComparison 29 = .ok (.getfield 33, 3) := by decide +kernel
theorem d_S_readComparison_32 : decode b_S_readComparison 32 = .ok (.getfield 151, 3) := by decide +kernel
theorem d_S_readComparison_35 : decode b_S_readComparison 35 = .ok (.bipush 32, 2) := by decide +kernel
theorem d_S_readComparison_37 : decode b_S_readComparison 37 = .ok (.if_icmp .ne 7, 3) := by decide +kernel
theorem d_S_readComparison_40 : decode b_S_readComparison 40 = .ok (.aload_n 0, 1) := by decide +kernel
theorem d_S_readComparison_41 : decode b_S_readComparison 41 = .ok (.invokevirtual 113, 3) := by decide +kernel
theorem d_S_readComparison_44 : decode b_S_readComparison 44 = .ok (.aload_n 0, 1) := by decide +kernel
theorem d_S_readComparison_45 : decode b_S_readComparison 45 = .ok (.aload_n 0, 1) := by decide +kernel
theorem d_S_readComparison_46 : decode b_S_readComparison 46 = .ok (.getfield 33, 3) := by decide +kernel
theorem d_S_readComparison_49 : decode b_S_readComparison 49 = .ok (.getfield 155, 3) := by decide +kernel
theorem d_S_readComparison_52 : decode b_S_readComparison 52 = .ok (.invokevirtual 143, 3) := by decide +kernel
theorem d_S_readComparison_55 : decode b_S_readComparison 55 = .ok (.iconst 0, 1) := by decide +kernel
theorem d_S_readComparison_56 : decode b_S_readComparison 56 = .ok (.istore_n 1, 1) := by decide +kernel
theorem d_S_readComparison_57 : decode b_S_readComparison 57 = .ok (.iconst 0, 1) := by decide +kernel
theorem d_S_readComparison_58 : decode b_S_readComparison 58 = .ok (.istore_n 2, 1) := by decide +kernel
theorem d_S_readComparison_59 : decode b_S_readComparison 59 = .ok (.iload_n 2, 1) := by decide +kernel
theorem d_S_readComparison_60 : decode b_S_readComparison 60 = .ok (.bipush 32, 2) := by decide +kernel
theorem d_S_readComparison_62 : decode b_S_readComparison 62 = .ok (.if_icmp .ge 33, 3) := by decide +kernel
theorem d_S_readComparison_65 : decode b_S_readComparison 65 = .ok (.aload_n 0, 1) := by decide +kernel
theorem d_S_readComparison_66 : decode b_S_readComparison 66 = .ok (.getfield 33, 3) := by decide +kernel
theorem d_S_readComparison_69 : decode b_S_readComparison 69 = .ok (.aload_n 0, 1) := by decide +kernel
theorem d_S_readComparison_70 : decode b_S_readComparison 70 = .ok (.getfield 15, 3) := by decide +kernel
theorem d_S_readComparison_73 : decode b_S_readComparison 73 = .ok (.iload_n 2, 1) := by decide +kernel
theorem d_S_readComparison_74 : decode b_S_readComparison 74 = .ok (.invokevirtual 158, 3) := by decide +kernel
theorem d_S_readComparison_77 : decode b_S_readComparison 77 = .ok (.invokevirtual 161, 3) := by decide +kernel
theorem d_S_readComparison_80 : decode b_S_readComparison 80 = .ok (.ifCond .eq 9, 3) := by decide +kernel
theorem d_S_readComparison_83 : decode b_S_readComparison 83 = .ok (.iload_n 1, 1) := by decide +kernel
theorem d_S_readComparison_84 : decode b_S_readComparison 84 = .ok (.iconst 1, 1) := by decide +kernel
theorem d_S_readComparison_85 : decode b_S_readComparison 85 = .ok (.iload_n 2, 1) := by decide +kernel
theorem d_S_readComparison_86 : decode b_S_readComparison 86 = .ok (.ishl, 1) := by decide +kernel
theorem d_S_readComparison_87 : decode b_S_readComparison 87 = .ok (.ior, 1) := by decide +kernel
theorem d_S_readComparison_88 : decode b_S_readComparison 88 = .ok (.istore_n 1, 1) := by decide +kernel
theorem d_S_readComparison_89 : decode b_S_readComparison 89 = .ok (.iinc 2 1, 3) := by decide +kernel
theorem d_S_readComparison_92 : decode b_S_readComparison 92 = .ok (.goto (-33), 3) := by decide +kernel
theorem d_S_readComparison_95 : decode b_S_readComparison 95 = .ok (.iload_n 1, 1) := by decide +kernel
theorem d_S_readComparison_96 : decode b_S_readComparison 96 = .ok (.ireturn, 1) := by decide +kernel
theorem d_S_readOperand_0 : decode b_S_readOperand 0 = .ok (.aload_n 0, 1) := by decide +kernel
theorem d_S_readOperand_1 : decode b_S_readOperand 1 = .ok (.getfield 24, 3) := by decide +kernel
theorem d_S_readOperand_4 : decode b_S_readOperand 4 = .ok (.bipush 45, 2) := by decide +kernel
theorem d_S_readOperand_6 : decode b_S_readOperand 6 = .ok (.invokevirtual 125, 3) := by decide +kernel
theorem d_S_readOperand_9 : decode b_S_readOperand 9 = .ok (.istore_n 2, 1) := by decide +kernel
theorem d_S_readOperand_10 : decode b_S_readOperand 10 = .ok (.iload_n 2, 1) := by decide +kernel
theorem d_S_readOperand_11 : decode b_S_readOperand 11 = .ok (.ifCond .eq 10, 3) := by decide +kernel
theorem d_S_readOperand_14 : decode b_S_readOperand 14 = .ok (.aload_n 0, 1) := by decide +kernel
theorem d_S_readOperand_15 : decode b_S_readOperand 15 = .ok (.getfield 24, 3) := by decide +kernel
theorem d_S_readOperand_18 : decode b_S_readOperand 18 = .ok (.invokevirtual 99, 3) := by decide +kernel
theorem d_S_readOperand_21 : decode b_S_readOperand 21 = .ok (.aload_n 0, 1) := by decide +kernel
theorem d_S_readOperand_22 : decode b_S_readOperand 22 = .ok (.getfield 24, 3) := by decide +kernel
theorem d_S_readOperand_25 : decode b_S_readOperand 25 = .ok (.invokevirtual 191, 3) := by decide +kernel
theorem d_S_readOperand_28 : decode b_S_readOperand 28 = .ok (.ifCond .eq 39, 3) := by decide +kernel
theorem d_S_readOperand_31 : decode b_S_readOperand 31 = .ok (.aload_n 1, 1) := by decide +kernel
theorem d_S_readOperand_32 : decode b_S_readOperand 32 = .ok (.iload_n 2, 1) := by decide +kernel
theorem d_S_readOperand_33 : decode b_S_readOperand 33 = .ok (.ifCond .eq 14, 3) := by decide +kernel
theorem d_S_readOperand_36 : decode b_S_readOperand 36 = .ok (.aload_n 0, 1) := by decide +kernel
theorem d_S_readOperand_37 : decode b_S_readOperand 37 = .ok (.getfield 24, 3) := by decide +kernel
theorem d_S_readOperand_40 : decode b_S_readOperand 40 = .ok (.invokevirtual 194, 3) := by decide +kernel
theorem d_S_readOperand_43 : decode b_S_readOperand 43 = .ok (.ineg, 1) := by decide +kernel
theorem d_S_readOperand_44 : decode b_S_readOperand 44 = .ok (.goto 10, 3) := by decide +kernel
theorem d_S_readOperand_47 : decode b_S_readOperand 47 = .ok (.aload_n 0, 1) := by decide +kernel
theorem d_S_readOperand_48 : decode b_S_readOperand 48 = .ok (.getfield 24, 3) := by decide +kernel
theorem d_S_readOperand_51 : decode b_S_readOperand 51 = .ok (.invokevirtual 194, 3) := by decide +kernel
theorem d_S_readOperand_54 : decode b_S_readOperand 54 = .ok (.invokevirtual 197, 3) := by decide +kernel
theorem d_S_readOperand_57 : decode b_S_readOperand 57 = .ok (.aload_n 0, 1) := by decide +kernel
theorem d_S_readOperand_58 : decode b_S_readOperand 58 = .ok (.getfield 24, 3) := by decide +kernel
theorem d_S_readOperand_61 : decode b_S_readOperand 61 = .ok (.invokevirtual 99, 3) := by decide +kernel
theorem d_S_readOperand_64 : decode b_S_readOperand 64 = .ok (.goto 22, 3) := by decide +kernel
theorem d_S_readOperand_67 : decode b_S_readOperand 67 = .ok (.iload_n 2, 1) := by decide +kernel
theorem d_S_readOperand_68 : decode b_S_readOperand 68 = .ok (.ifCond .eq 10, 3) := by decide +kernel
theorem d_S_readOperand_71 : decode b_S_readOperand 71 = .ok (.aload_n 0, 1) := by decide +kernel
theorem d_S_readOperand_72 : decode b_S_readOperand 72 = .ok (.invokevirtual 113, 3) := by decide +kernel
theorem d_S_readOperand_75 : decode b_S_readOperand 75 = .ok (.goto 11, 3) := by decide +kernel
theorem d_S_readOperand_78 : decode b_S_readOperand 78 = .ok (.aload_n 1, 1) := by decide +kernel
theorem d_S_readOperand_79 : decode b_S_readOperand 79 = .ok (.aload_n 0, 1) := by decide +kernel
theorem d_S_readOperand_80 : decode b_S_readOperand 80 = .ok (.invokevirtual 174, 3) := by decide +kernel
theorem d_S_readOperand_83 : decode b_S_readOperand 83 = .ok (.invokevirtual 203, 3) := by decide +kernel
theorem d_S_readOperand_86 : decode b_S_readOperand 86 = .ok (.return_, 1) := by decide +kernel
theorem d_K_isNumber_0 : decode b_K_isNumber 0 = .ok (.aload_n 0, 1) := by decide +kernel
theorem d_K_isNumber_1 : decode b_K_isNumber 1 = .ok (.getfield 15, 3) := by decide +kernel
theorem d_K_isNumber_4 : decode b_K_isNumber 4 = .ok (.aload_n 0, 1) := by decide +kernel
theorem d_K_isNumber_5 : decode b_K_isNumber 5 = .ok (.getfield 30, 3) := by decide +kernel
theorem d_K_isNumber_8 : decode b_K_isNumber 8 = .ok (.caload, 1) := by decide +kernel
theorem d_K_isNumber_9 : decode b_K_isNumber 9 = .ok (.bipush 48, 2) := by decide +kernel
theorem d_K_isNumber_11 : decode b_K_isNumber 11 = .ok (.if_icmp .ne 7, 3) := by decide +kernel
theorem d_K_isNumber_14 : decode b_K_isNumber 14 = .ok (.iconst 1, 1) := by decide +kernel
theorem d_K_isNumber_15 : decode b_K_isNumber 15 = .ok (.goto 4, 3) := by decide +kernel
theorem d_K_isNumber_18 : decode b_K_isNumber 18 = .ok (.iconst 0, 1) := by decide +kernel
theorem d_K_isNumber_19 : decode b_K_isNumber 19 = .ok (.ireturn, 1) := by decide +kernel
theorem d_K_number_0 : decode b_K_number 0 = .ok (.iconst 0, 1) := by decide +kernel
theorem d_K_number_1 : decode b_K_number 1 = .ok (.istore_n 1, 1) := by decide +kernel
theorem d_K_number_2 : decode b_K_number 2 = .ok (.aload_n 0, 1) := by decide +kernel
theorem d_K_number_3 : decode b_K_number 3 = .ok (.getfield 19, 3) := by decide +kernel
theorem d_K_number_6 : decode b_K_number 6 = .ok (.aload_n 0, 1) := by decide +kernel
theorem d_K_number_7 : decode b_K_number 7 = .ok (.getfield 30, 3) := by decide +kernel
theorem d_K_number_10 : decode b_K_number 10 = .ok (.iaload, 1) := by decide +kernel
theorem d_K_number_11 : decode b_K_number 11 = .ok (.istore_n 2, 1) := by decide +kernel
theorem d_K_number_12 : decode b_K_number 12 = .ok (.iload_n 2, 1) := by decide +kernel
theorem d_K_number_13 : decode b_K_number 13 = .ok (.aload_n 0, 1) := by decide +kernel
theorem d_K_number_14 : decode b_K_number 14 = .ok (.getfield 23, 3) := by decide +kernel
theorem d_K_number_17 : decode b_K_number 17 = .ok (.aload_n 0, 1) := by decide +kernel
theorem d_K_number_18 : decode b_K_number 18 = .ok (.getfield 30, 3) := by decide +kernel
theorem d_K_number_21 : decode b_K_number 21 = .ok (.iaload, 1) := by decide +kernel
theorem d_K_number_22 : decode b_K_number 22 = .ok (.if_icmp .ge 26, 3) := by decide +kernel
theorem d_K_number_25 : decode b_K_number 25 = .ok (.bipush 10, 2) := by decide +kernel
theorem d_K_number_27 : decode b_K_number 27 = .ok (.iload_n 1, 1) := by decide +kernel
theorem d_K_number_28 : decode b_K_number 28 = .ok (.imul, 1) := by decide +kernel
theorem d_K_number_29 : decode b_K_number 29 = .ok (.aload_n 0, 1) := by decide +kernel
theorem d_K_number_30 : decode b_K_number 30 = .ok (.getfield 9, 3) := by decide +kernel
theorem d_K_number_33 : decode b_K_number 33 = .ok (.iload_n 2, 1) := by decide +kernel
theorem d_K_number_34 : decode b_K_number 34 = .ok (.invokevirtual 39, 3) := by decide +kernel
theorem d_K_number_37 : decode b_K_number 37 = .ok (.bipush 48, 2) := by decide +kernel
theorem d_K_number_39 : decode b_K_number 39 = .ok (.isub, 1) := by decide +kernel
theorem d_K_number_40 : decode b_K_number 40 = .ok (.iadd, 1) := by decide +kernel
theorem d_K_number_41 : decode b_K_number 41 = .ok (.istore_n 1, 1) := by decide +kernel
theorem d_K_number_42 : decode b_K_number 42 = .ok (.iinc 2 1, 3) := by decide +kernel
theorem d_K_number_45 : decode b_K_number 45 = .ok (.goto (-33), 3) := by decide +kernel
theorem d_K_number_48 : decode b_K_number 48 = .ok (.iload_n 1, 1) := by decide +kernel
theorem d_K_number_49 : decode b_K_number 49 = .ok (.ireturn, 1) := by decide +kernel
theorem d_O_becomeNumber_0 : decode b_O_becomeNumber 0 = .ok (.aload_n 0, 1) := by decide +kernel
theorem d_O_becomeNumber_1 : decode b_O_becomeNumber 1 = .ok (.iconst (-1), 1) := by decide +kernel
theorem d_O_becomeNumber_2 : decode b_O_becomeNumber 2 = .ok (.putfield 15, 3) := by decide +kernel
theorem d_O_becomeNumber_5 : decode b_O_becomeNumber 5 = .ok (.aload_n 0, 1) := by decide +kernel
theorem d_O_becomeNumber_6 : decode b_O_becomeNumber 6 = .ok (.iload_n 1, 1) := by decide +kernel
theorem d_O_becomeNumber_7 : decode b_O_becomeNumber 7 = .ok (.putfield 19, 3) := by decide +kernel
theorem d_O_becomeNumber_10 : decode b_O_becomeNumber 10 = .ok (.return_, 1) := by decide +kernel
theorem d_S_refuse_0 : decode b_S_refuse 0 = .ok (.aload_n 0, 1) := by decide +kernel
theorem d_S_refuse_1 : decode b_S_refuse 1 = .ok (.aload_n 0, 1) := by decide +kernel
theorem d_S_refuse_2 : decode b_S_refuse 2 = .ok (.getfield 24, 3) := by decide +kernel
theorem d_S_refuse_5 : decode b_S_refuse 5 = .ok (.invokevirtual 116, 3) := by decide +kernel
theorem d_S_refuse_8 : decode b_S_refuse 8 = .ok (.putfield 56, 3) := by decide +kernel
theorem d_S_refuse_11 : decode b_S_refuse 11 = .ok (.new 119, 3) := by decide +kernel
theorem d_S_refuse_14 : decode b_S_refuse 14 = .ok (.dup, 1) := by decide +kernel
theorem d_S_refuse_15 : decode b_S_refuse 15 = .ok (.invokespecial 121, 3) := by decide +kernel
theorem d_S_refuse_18 : decode b_S_refuse 18 = .ok (.athrow, 1) := by decide +kernel
theorem d_K_start_0 : decode b_K_start 0 = .ok (.aload_n 0, 1) := by decide +kernel
theorem d_K_start_1 : decode b_K_start 1 = .ok (.getfield 19, 3) := by decide +kernel
theorem d_K_start_4 : decode b_K_start 4 = .ok (.aload_n 0, 1) := by decide +kernel
theorem d_K_start_5 : decode b_K_start 5 = .ok (.getfield 30, 3) := by decide +kernel
theorem d_K_start_8 : decode b_K_start 8 = .ok (.iaload, 1) := by decide +kernel
theorem d_K_start_9 : decode b_K_start 9 = .ok (.ireturn, 1) := by decide +kernel
theorem d_S_readField_0 : decode b_S_readField 0 = .ok (.aload_n 0, 1) := by decide +kernel
theorem d_S_readField_1 : decode b_S_readField 1 = .ok (.getfield 24, 3) := by decide +kernel
theorem d_S_readField_4 : decode b_S_readField 4 = .ok (.invokevirtual 206, 3) := by decide +kernel
theorem d_S_readField_7 : decode b_S_readField 7 = .ok (.ifCond .eq 20, 3) := by decide +kernel
theorem d_S_readField_10 : decode b_S_readField 10 = .ok (.aload_n 0, 1) := by decide +kernel
theorem d_S_readField_11 : decode b_S_readField 11 = .ok (.getfield 9, 3) := by decide +kernel
theorem d_S_readField_14 : decode b_S_readField 14 = .ok (.aload_n 0, 1) := by decide +kernel
theorem d_S_readField_15 : decode b_S_readField 15 = .ok (.getfield 24, 3) := by decide +kernel
theorem d_S_readField_18 : decode b_S_readField 18 = .ok (.invokevirtual 209, 3) := by decide +kernel
theorem d_S_readField_21 : decode b_S_readField 21 = .ok (.invokevirtual 213, 3) := by decide +kernel
theorem d_S_readField_24 : decode b_S_readField 24 = .ok (.goto 4, 3) := by decide +kernel
theorem d_S_readField_27 : decode b_S_readField 27 = .ok (.iconst (-1), 1) := by decide +kernel
theorem d_S_readField_28 : decode b_S_readField 28 = .ok (.istore_n 1, 1) := by decide +kernel
theorem d_S_readField_29 : decode b_S_readField 29 = .ok (.iload_n 1, 1) := by decide +kernel
theorem d_S_readField_30 : decode b_S_readField 30 = .ok (.iconst (-1), 1) := by decide +kernel
theorem d_S_readField_31 : decode b_S_readField 31 = .ok (.if_icmp .ne 7, 3) := by decide +kernel
theorem d_S_readField_34 : decode b_S_readField 34 = .ok (.aload_n 0, 1) := by decide +kernel
theorem d_S_readField_35 : decode b_S_readField 35 = .ok (.invokevirtual 113, 3) := by decide +kernel
theorem d_S_readField_38 : decode b_S_readField 38 = .ok (.aload_n 0, 1) := by decide +kernel
theorem d_S_readField_39 : decode b_S_readField 39 = .ok (.getfield 24, 3) := by decide +kernel
theorem d_S_readField_42 : decode b_S_readField 42 = .ok (.invokevirtual 99, 3) := by decide +kernel
theorem d_S_readField_45 : decode b_S_readField 45 = .ok (.iload_n 1, 1) := by decide +kernel
theorem d_S_readField_46 : decode b_S_readField 46 = .ok (.ireturn, 1) := by decide +kernel
theorem d_K_isLetter_0 : decode b_K_isLetter 0 = .ok (.aload_n 0, 1) := by decide +kernel
theorem d_K_isLetter_1 : decode b_K_isLetter 1 = .ok (.getfield 15, 3) := by decide +kernel
theorem d_K_isLetter_4 : decode b_K_isLetter 4 = .ok (.aload_n 0, 1) := by decide +kernel
theorem d_K_isLetter_5 : decode b_K_isLetter 5 = .ok (.getfield 30, 3) := by decide +kernel
theorem d_K_isLetter_8 : decode b_K_isLetter 8 = .ok (.caload, 1) := by decide +kernel
theorem d_K_isLetter_9 : decode b_K_isLetter 9 = .ok (.bipush 97, 2) := by decide +kernel
theorem d_K_isLetter_11 : decode b_K_isLetter 11 = .ok (.if_icmp .ne 30, 3) := by decide +kernel
theorem d_K_isLetter_14 : decode b_K_isLetter 14 = .ok (.aload_n 0, 1) := by decide +kernel
theorem d_K_isLetter_15 : decode b_K_isLetter 15 = .ok (.getfield 23, 3) := by decide +kernel
theorem d_K_isLetter_18 : decode b_K_isLetter 18 = .ok (.aload_n 0, 1) := by decide +kernel
theorem d_K_isLetter_19 : decode b_K_isLetter 19 = .ok (.getfield 30, 3) := by decide +kernel
theorem d_K_isLetter_22 : decode b_K_isLetter 22 = .ok (.iaload, 1) := by decide +kernel
theorem d_K_isLetter_23 : decode b_K_isLetter 23 = .ok (.aload_n 0, 1) := by decide +kernel
theorem d_K_isLetter_24 : decode b_K_isLetter 24 = .ok (.getfield 19, 3) := by decide +kernel
theorem d_K_isLetter_27 : decode b_K_isLetter 27 = .ok (.aload_n 0, 1) := by decide +kernel
theorem d_K_isLetter_28 : decode b_K_isLetter 28 = .ok (.getfield 30, 3) := by decide +kernel
theorem d_K_isLetter_31 : decode b_K_isLetter 31 = .ok (.iaload, 1) := by decide +kernel
theorem d_K_isLetter_32 : decode b_K_isLetter 32 = .ok (.isub, 1) := by decide +kernel
theorem d_K_isLetter_33 : decode b_K_isLetter 33 = .ok (.iconst 1, 1) := by decide +kernel
theorem d_K_isLetter_34 : decode b_K_isLetter 34 = .ok (.if_icmp .ne 7, 3) := by decide +kernel
theorem d_K_isLetter_37 : decode b_K_isLetter 37 = .ok (.iconst 1, 1) := by decide +kernel
theorem d_K_isLetter_38 : decode b_K_isLetter 38 = .ok (.goto 4, 3) := by decide +kernel
theorem d_K_isLetter_41 : decode b_K_isLetter 41 = .ok (.iconst 0, 1) := by decide +kernel
theorem d_K_isLetter_42 : decode b_K_isLetter 42 = .ok (.ireturn, 1) := by decide +kernel
theorem d_K_letter_0 : decode b_K_letter 0 = .ok (.aload_n 0, 1) := by decide +kernel
theorem d_K_letter_1 : decode b_K_letter 1 = .ok (.getfield 9, 3) := by decide +kernel
theorem d_K_letter_4 : decode b_K_letter 4 = .ok (.aload_n 0, 1) := by decide +kernel
theorem d_K_letter_5 : decode b_K_letter 5 = .ok (.getfield 19, 3) := by decide +kernel
theorem d_K_letter_8 : decode b_K_letter 8 = .ok (.aload_n 0, 1) := by decide +kernel
theorem d_K_letter_9 : decode b_K_letter 9 = .ok (.getfield 30, 3) := by decide +kernel
theorem d_K_letter_12 : decode b_K_letter 12 = .ok (.iaload, 1) := by decide +kernel
theorem d_K_letter_13 : decode b_K_letter 13 = .ok (.invokevirtual 39, 3) := by decide +kernel
theorem d_K_letter_16 : decode b_K_letter 16 = .ok (.ireturn, 1) := by decide +kernel
theorem d_O_becomeField_0 : decode b_O_becomeField 0 = .ok (.aload_n 0, 1) := by decide +kernel
theorem d_O_becomeField_1 : decode b_O_becomeField 1 = .ok (.iload_n 1, 1) := by decide +kernel
theorem d_O_becomeField_2 : decode b_O_becomeField 2 = .ok (.putfield 15, 3) := by decide +kernel
theorem d_O_becomeField_5 : decode b_O_becomeField 5 = .ok (.return_, 1) := by decide +kernel
theorem d_S_readSign_0 : decode b_S_readSign 0 = .ok (.bipush 32, 2) := by decide +kernel
theorem d_S_readSign_2 : decode b_S_readSign 2 = .ok (.istore 4, 2) := by decide +kernel
theorem d_S_readSign_4 : decode b_S_readSign 4 = .ok (.aload_n 0, 1) := by decide +kernel
theorem d_S_readSign_5 : decode b_S_readSign 5 = .ok (.getfield 24, 3) := by decide +kernel
theorem d_S_readSign_8 : decode b_S_readSign 8 = .ok (.iload_n 1, 1) := by decide +kernel
theorem d_S_readSign_9 : decode b_S_readSign 9 = .ok (.invokevirtual 125, 3) := by decide +kernel
theorem d_S_readSign_12 : decode b_S_readSign 12 = .ok (.ifCond .eq 9, 3) := by decide +kernel
theorem d_S_readSign_15 : decode b_S_readSign 15 = .ok (.iload_n 1, 1) := by decide +kernel
theorem d_S_readSign_16 : decode b_S_readSign 16 = .ok (.istore 4, 2) := by decide +kernel
theorem d_S_readSign_18 : decode b_S_readSign 18 = .ok (.goto 34, 3) := by decide +kernel
theorem d_S_readSign_21 : decode b_S_readSign 21 = .ok (.aload_n 0, 1) := by decide +kernel
theorem d_S_readSign_22 : decode b_S_readSign 22 = .ok (.getfield 24, 3) := by decide +kernel
theorem d_S_readSign_25 : decode b_S_readSign 25 = .ok (.iload_n 2, 1) := by decide +kernel
theorem d_S_readSign_26 : decode b_S_readSign 26 = .ok (.invokevirtual 125, 3) := by decide +kernel
theorem d_S_readSign_29 : decode b_S_readSign 29 = .ok (.ifCond .eq 9, 3) := by decide +kernel
theorem d_S_readSign_32 : decode b_S_readSign 32 = .ok (.iload_n 2, 1) := by decide +kernel
theorem d_S_readSign_33 : decode b_S_readSign 33 = .ok (.istore 4, 2) := by decide +kernel
theorem d_S_readSign_35 : decode b_S_readSign 35 = .ok (.goto 17, 3) := by decide +kernel
theorem d_S_readSign_38 : decode b_S_readSign 38 = .ok (.aload_n 0, 1) := by decide +kernel
theorem d_S_readSign_39 : decode b_S_readSign 39 = .ok (.getfield 24, 3) := by decide +kernel
theorem d_S_readSign_42 : decode b_S_readSign 42 = .ok (.iload_n 3, 1) := by decide +kernel
theorem d_S_readSign_43 : decode b_S_readSign 43 = .ok (.invokevirtual 125, 3) := by decide +kernel
theorem d_S_readSign_46 : decode b_S_readSign 46 = .ok (.ifCond .eq 6, 3) := by decide +kernel
theorem d_S_readSign_49 : decode b_S_readSign 49 = .ok (.iload_n 3, 1) := by decide +kernel
theorem d_S_readSign_50 : decode b_S_readSign 50 = .ok (.istore 4, 2) := by decide +kernel
theorem d_S_readSign_52 : decode b_S_readSign 52 = .ok (.iload 4, 2) := by decide +kernel
theorem d_S_readSign_54 : decode b_S_readSign 54 = .ok (.bipush 32, 2) := by decide +kernel
theorem d_S_readSign_56 : decode b_S_readSign 56 = .ok (.if_icmp .eq 10, 3) := by decide +kernel
theorem d_S_readSign_59 : decode b_S_readSign 59 = .ok (.aload_n 0, 1) := by decide +kernel
theorem d_S_readSign_60 : decode b_S_readSign 60 = .ok (.getfield 24, 3) := by decide +kernel
theorem d_S_readSign_63 : decode b_S_readSign 63 = .ok (.invokevirtual 99, 3) := by decide +kernel
theorem d_S_readSign_66 : decode b_S_readSign 66 = .ok (.iload 4, 2) := by decide +kernel
theorem d_S_readSign_68 : decode b_S_readSign 68 = .ok (.ireturn, 1) := by decide +kernel
theorem d_P_isTrueIn_0 : decode b_P_isTrueIn 0 = .ok (.aload_n 0, 1) := by decide +kernel
theorem d_P_isTrueIn_1 : decode b_P_isTrueIn 1 = .ok (.getfield 12, 3) := by decide +kernel
theorem d_P_isTrueIn_4 : decode b_P_isTrueIn 4 = .ok (.iload_n 1, 1) := by decide +kernel
theorem d_P_isTrueIn_5 : decode b_P_isTrueIn 5 = .ok (.invokevirtual 25, 3) := by decide +kernel
theorem d_P_isTrueIn_8 : decode b_P_isTrueIn 8 = .ok (.aload_n 0, 1) := by decide +kernel
theorem d_P_isTrueIn_9 : decode b_P_isTrueIn 9 = .ok (.getfield 18, 3) := by decide +kernel
theorem d_P_isTrueIn_12 : decode b_P_isTrueIn 12 = .ok (.iload_n 1, 1) := by decide +kernel
theorem d_P_isTrueIn_13 : decode b_P_isTrueIn 13 = .ok (.invokevirtual 25, 3) := by decide +kernel
theorem d_P_isTrueIn_16 : decode b_P_isTrueIn 16 = .ok (.invokestatic 29, 3) := by decide +kernel
theorem d_P_isTrueIn_19 : decode b_P_isTrueIn 19 = .ok (.istore_n 2, 1) := by decide +kernel
theorem d_P_isTrueIn_20 : decode b_P_isTrueIn 20 = .ok (.aload_n 0, 1) := by decide +kernel
theorem d_P_isTrueIn_21 : decode b_P_isTrueIn 21 = .ok (.getfield 21, 3) := by decide +kernel
theorem d_P_isTrueIn_24 : decode b_P_isTrueIn 24 = .ok (.bipush 60, 2) := by decide +kernel
theorem d_P_isTrueIn_26 : decode b_P_isTrueIn 26 = .ok (.if_icmp .ne 13, 3) := by decide +kernel
theorem d_P_isTrueIn_29 : decode b_P_isTrueIn 29 = .ok (.iload_n 2, 1) := by decide +kernel
theorem d_P_isTrueIn_30 : decode b_P_isTrueIn 30 = .ok (.ifCond .ge 7, 3) := by decide +kernel
theorem d_P_isTrueIn_33 : decode b_P_isTrueIn 33 = .ok (.iconst 1, 1) := by decide +kernel
theorem d_P_isTrueIn_34 : decode b_P_isTrueIn 34 = .ok (.goto 4, 3) := by decide +kernel
theorem d_P_isTrueIn_37 : decode b_P_isTrueIn 37 = .ok (.iconst 0, 1) := by decide +kernel
theorem d_P_isTrueIn_38 : decode b_P_isTrueIn 38 = .ok (.ireturn, 1) := by decide +kernel
theorem d_P_isTrueIn_39 : decode b_P_isTrueIn 39 = .ok (.aload_n 0, 1) := by decide +kernel
theorem d_P_isTrueIn_40 : decode b_P_isTrueIn 40 = .ok (.getfield 21, 3) := by decide +kernel
theorem d_P_isTrueIn_43 : decode b_P_isTrueIn 43 = .ok (.bipush 62, 2) := by decide +kernel
theorem d_P_isTrueIn_45 : decode b_P_isTrueIn 45 = .ok (.if_icmp .ne 15, 3) := by decide +kernel
theorem d_P_isTrueIn_48 : decode b_P_isTrueIn 48 = .ok (.iload_n 2, 1) := by decide +kernel
theorem d_P_isTrueIn_49 : decode b_P_isTrueIn 49 = .ok (.ifCond .le 7, 3) := by decide +kernel
theorem d_P_isTrueIn_52 : decode b_P_isTrueIn 52 = .ok (.iconst 1, 1) := by decide +kernel
theorem d_P_isTrueIn_53 : decode b_P_isTrueIn 53 = .ok (.goto 16, 3) := by decide +kernel
theorem d_P_isTrueIn_56 : decode b_P_isTrueIn 56 = .ok (.iconst 0, 1) := by decide +kernel
theorem d_P_isTrueIn_57 : decode b_P_isTrueIn 57 = .ok (.goto 12, 3) := by decide +kernel
theorem d_P_isTrueIn_60 : decode b_P_isTrueIn 60 = .ok (.iload_n 2, 1) := by decide +kernel
theorem d_P_isTrueIn_61 : decode b_P_isTrueIn 61 = .ok (.ifCond .ne 7, 3) := by decide +kernel
theorem d_P_isTrueIn_64 : decode b_P_isTrueIn 64 = .ok (.iconst 1, 1) := by decide +kernel
theorem d_P_isTrueIn_65 : decode b_P_isTrueIn 65 = .ok (.goto 4, 3) := by decide +kernel
theorem d_P_isTrueIn_68 : decode b_P_isTrueIn 68 = .ok (.iconst 0, 1) := by decide +kernel
theorem d_P_isTrueIn_69 : decode b_P_isTrueIn 69 = .ok (.ireturn, 1) := by decide +kernel
theorem d_O_valueIn_0 : decode b_O_valueIn 0 = .ok (.aload_n 0, 1) := by decide +kernel
theorem d_O_valueIn_1 : decode b_O_valueIn 1 = .ok (.getfield 15, 3) := by decide +kernel
theorem d_O_valueIn_4 : decode b_O_valueIn 4 = .ok (.iconst (-1), 1) := by decide +kernel
theorem d_O_valueIn_5 : decode b_O_valueIn 5 = .ok (.if_icmp .ne 10, 3) := by decide +kernel
theorem d_O_valueIn_8 : decode b_O_valueIn 8 = .ok (.aload_n 0, 1) := by decide +kernel
theorem d_O_valueIn_9 : decode b_O_valueIn 9 = .ok (.getfield 19, 3) := by decide +kernel
theorem d_O_valueIn_12 : decode b_O_valueIn 12 = .ok (.goto 15, 3) := by decide +kernel
theorem d_O_valueIn_15 : decode b_O_valueIn 15 = .ok (.aload_n 0, 1) := by decide +kernel
theorem d_O_valueIn_16 : decode b_O_valueIn 16 = .ok (.getfield 9, 3) := by decide +kernel
theorem d_O_valueIn_19 : decode b_O_valueIn 19 = .ok (.aload_n 0, 1) := by decide +kernel
theorem d_O_valueIn_20 : decode b_O_valueIn 20 = .ok (.getfield 15, 3) := by decide +kernel
theorem d_O_valueIn_23 : decode b_O_valueIn 23 = .ok (.iload_n 1, 1) := by decide +kernel
theorem d_O_valueIn_24 : decode b_O_valueIn 24 = .ok (.invokevirtual 22, 3) := by decide +kernel
theorem d_O_valueIn_27 : decode b_O_valueIn 27 = .ok (.ireturn, 1) := by decide +kernel
theorem d_S_passSign_0 : decode b_S_passSign 0 = .ok (.aload_n 0, 1) := by decide +kernel
theorem d_S_passSign_1 : decode b_S_passSign 1 = .ok (.getfield 24, 3) := by decide +kernel
theorem d_S_passSign_4 : decode b_S_passSign 4 = .ok (.iload_n 1, 1) := by decide +kernel
theorem d_S_passSign_5 : decode b_S_passSign 5 = .ok (.invokevirtual 125, 3) := by decide +kernel
theorem d_S_passSign_8 : decode b_S_passSign 8 = .ok (.ifCond .ne 7, 3) := by decide +kernel
theorem d_S_passSign_11 : decode b_S_passSign 11 = .ok (.aload_n 0, 1) := by decide +kernel
theorem d_S_passSign_12 : decode b_S_passSign 12 = .ok (.invokevirtual 113, 3) := by decide +kernel
theorem d_S_passSign_15 : decode b_S_passSign 15 = .ok (.aload_n 0, 1) := by decide +kernel
theorem d_S_passSign_16 : decode b_S_passSign 16 = .ok (.getfield 24, 3) := by decide +kernel
theorem d_S_passSign_19 : decode b_S_passSign 19 = .ok (.invokevirtual 99, 3) := by decide +kernel
theorem d_S_passSign_22 : decode b_S_passSign 22 = .ok (.return_, 1) := by decide +kernel
theorem d_S_readAction_0 : decode b_S_readAction 0 = .ok (.aload_n 0, 1) := by decide +kernel
theorem d_S_readAction_1 : decode b_S_readAction 1 = .ok (.invokevirtual 164, 3) := by decide +kernel
theorem d_S_readAction_4 : decode b_S_readAction 4 = .ok (.aload_n 0, 1) := by decide +kernel
theorem d_S_readAction_5 : decode b_S_readAction 5 = .ok (.getfield 53, 3) := by decide +kernel
theorem d_S_readAction_8 : decode b_S_readAction 8 = .ok (.getstatic 167, 3) := by decide +kernel
theorem d_S_readAction_11 : decode b_S_readAction 11 = .ok (.if_acmp .ne 49, 3) := by decide +kernel
theorem d_S_readAction_14 : decode b_S_readAction 14 = .ok (.aload_n 0, 1) := by decide +kernel
theorem d_S_readAction_15 : decode b_S_readAction 15 = .ok (.aload_n 0, 1) := by decide +kernel
theorem d_S_readAction_16 : decode b_S_readAction 16 = .ok (.getfield 40, 3) := by decide +kernel
theorem d_S_readAction_19 : decode b_S_readAction 19 = .ok (.invokevirtual 170, 3) := by decide +kernel
theorem d_S_readAction_22 : decode b_S_readAction 22 = .ok (.aload_n 0, 1) := by decide +kernel
theorem d_S_readAction_23 : decode b_S_readAction 23 = .ok (.aload_n 0, 1) := by decide +kernel
theorem d_S_readAction_24 : decode b_S_readAction 24 = .ok (.getfield 24, 3) := by decide +kernel
theorem d_S_readAction_27 : decode b_S_readAction 27 = .ok (.bipush 44, 2) := by decide +kernel
theorem d_S_readAction_29 : decode b_S_readAction 29 = .ok (.invokevirtual 125, 3) := by decide +kernel
theorem d_S_readAction_32 : decode b_S_readAction 32 = .ok (.putfield 76, 3) := by decide +kernel
theorem d_S_readAction_35 : decode b_S_readAction 35 = .ok (.aload_n 0, 1) := by decide +kernel
theorem d_S_readAction_36 : decode b_S_readAction 36 = .ok (.getfield 76, 3) := by decide +kernel
theorem d_S_readAction_39 : decode b_S_readAction 39 = .ok (.ifCond .eq 39, 3) := by decide +kernel
theorem d_S_readAction_42 : decode b_S_readAction 42 = .ok (.aload_n 0, 1) := by decide +kernel
theorem d_S_readAction_43 : decode b_S_readAction 43 = .ok (.getfield 24, 3) := by decide +kernel
theorem d_S_readAction_46 : decode b_S_readAction 46 = .ok (.invokevirtual 99, 3) := by decide +kernel
theorem d_S_readAction_49 : decode b_S_readAction 49 = .ok (.aload_n 0, 1) := by decide +kernel
theorem d_S_readAction_50 : decode b_S_readAction 50 = .ok (.aload_n 0, 1) := by decide +kernel
theorem d_S_readAction_51 : decode b_S_readAction 51 = .ok (.getfield 44, 3) := by decide +kernel
theorem d_S_readAction_54 : decode b_S_readAction 54 = .ok (.invokevirtual 170, 3) := by decide +kernel
theorem d_S_readAction_57 : decode b_S_readAction 57 = .ok (.goto 21, 3) := by decide +kernel
theorem d_S_readAction_60 : decode b_S_readAction 60 = .ok (.aload_n 0, 1) := by decide +kernel
theorem d_S_readAction_61 : decode b_S_readAction 61 = .ok (.getfield 53, 3) := by decide +kernel
theorem d_S_readAction_64 : decode b_S_readAction 64 = .ok (.getstatic 47, 3) := by decide +kernel
theorem d_S_readAction_67 : decode b_S_readAction 67 = .ok (.if_acmp .eq 11, 3) := by decide +kernel
theorem d_S_readAction_70 : decode b_S_readAction 70 = .ok (.aload_n 0, 1) := by decide +kernel
theorem d_S_readAction_71 : decode b_S_readAction 71 = .ok (.aload_n 0, 1) := by decide +kernel
theorem d_S_readAction_72 : decode b_S_readAction 72 = .ok (.invokevirtual 174, 3) := by decide +kernel
theorem d_S_readAction_75 : decode b_S_readAction 75 = .ok (.putfield 63, 3) := by decide +kernel
theorem d_S_readAction_78 : decode b_S_readAction 78 = .ok (.return_, 1) := by decide +kernel
theorem d_S_readVerb_0 : decode b_S_readVerb 0 = .ok (.iconst (-1), 1) := by decide +kernel
theorem d_S_readVerb_1 : decode b_S_readVerb 1 = .ok (.istore_n 1, 1) := by decide +kernel
theorem d_S_readVerb_2 : decode b_S_readVerb 2 = .ok (.iconst 0, 1) := by decide +kernel
theorem d_S_readVerb_3 : decode b_S_readVerb 3 = .ok (.istore_n 2, 1) := by decide +kernel
theorem d_S_readVerb_4 : decode b_S_readVerb 4 = .ok (.iload_n 2, 1) := by decide +kernel
theorem d_S_readVerb_5 : decode b_S_readVerb 5 = .ok (.getstatic 177, 3) := by decide +kernel
theorem d_S_readVerb_8 : decode b_S_readVerb 8 = .ok (.arraylength, 1) := by decide +kernel
theorem d_S_readVerb_9 : decode b_S_readVerb 9 = .ok (.if_icmp .ge 29, 3) := by decide +kernel
theorem d_S_readVerb_12 : decode b_S_readVerb 12 = .ok (.aload_n 0, 1) := by decide +kernel
theorem d_S_readVerb_13 : decode b_S_readVerb 13 = .ok (.getfield 24, 3) := by decide +kernel
theorem d_S_readVerb_16 : decode b_S_readVerb 16 = .ok (.getstatic 177, 3) := by decide +kernel
theorem d_S_readVerb_19 : decode b_S_readVerb 19 = .ok (.iload_n 2, 1) := by decide +kernel
theorem d_S_readVerb_20 : decode b_S_readVerb 20 = .ok (.aaload, 1) := by decide +kernel
theorem d_S_readVerb_21 : decode b_S_readVerb 21 = .ok (.invokevirtual 181, 3) := by decide +kernel
theorem d_S_readVerb_24 : decode b_S_readVerb 24 = .ok (.invokevirtual 95, 3) := by decide +kernel
theorem d_S_readVerb_27 : decode b_S_readVerb 27 = .ok (.ifCond .eq 5, 3) := by decide +kernel
theorem d_S_readVerb_30 : decode b_S_readVerb 30 = .ok (.iload_n 2, 1) := by decide +kernel
theorem d_S_readVerb_31 : decode b_S_readVerb 31 = .ok (.istore_n 1, 1) := by decide +kernel
theorem d_S_readVerb_32 : decode b_S_readVerb 32 = .ok (.iinc 2 1, 3) := by decide +kernel
theorem d_S_readVerb_35 : decode b_S_readVerb 35 = .ok (.goto (-31), 3) := by decide +kernel
theorem d_S_readVerb_38 : decode b_S_readVerb 38 = .ok (.iload_n 1, 1) := by decide +kernel
theorem d_S_readVerb_39 : decode b_S_readVerb 39 = .ok (.iconst (-1), 1) := by decide +kernel
theorem d_S_readVerb_40 : decode b_S_readVerb 40 = .ok (.if_icmp .ne 10, 3) := by decide +kernel
theorem d_S_readVerb_43 : decode b_S_readVerb 43 = .ok (.aload_n 0, 1) := by decide +kernel
theorem d_S_readVerb_44 : decode b_S_readVerb 44 = .ok (.invokevirtual 113, 3) := by decide +kernel
theorem d_S_readVerb_47 : decode b_S_readVerb 47 = .ok (.goto 12, 3) := by decide +kernel
theorem d_S_readVerb_50 : decode b_S_readVerb 50 = .ok (.aload_n 0, 1) := by decide +kernel
theorem d_S_readVerb_51 : decode b_S_readVerb 51 = .ok (.getstatic 177, 3) := by decide +kernel
theorem d_S_readVerb_54 : decode b_S_readVerb 54 = .ok (.iload_n 1, 1) := by decide +kernel
theorem d_S_readVerb_55 : decode b_S_readVerb 55 = .ok (.aaload, 1) := by decide +kernel
theorem d_S_readVerb_56 : decode b_S_readVerb 56 = .ok (.putfield 53, 3) := by decide +kernel
theorem d_S_readVerb_59 : decode b_S_readVerb 59 = .ok (.aload_n 0, 1) := by decide +kernel
theorem d_S_readVerb_60 : decode b_S_readVerb 60 = .ok (.getfield 24, 3) := by decide +kernel
theorem d_S_readVerb_63 : decode b_S_readVerb 63 = .ok (.invokevirtual 99, 3) := by decide +kernel
theorem d_S_readVerb_66 : decode b_S_readVerb 66 = .ok (.return_, 1) := by decide +kernel
theorem d_A_word_0 : decode b_A_word 0 = .ok (.aload_n 0, 1) := by decide +kernel
theorem d_A_word_1 : decode b_A_word 1 = .ok (.getfield 41, 3) := by decide +kernel
theorem d_A_word_4 : decode b_A_word 4 = .ok (.areturn, 1) := by decide +kernel
theorem d_S_readChange_0 : decode b_S_readChange 0 = .ok (.aload_n 1, 1) := by decide +kernel
theorem d_S_readChange_1 : decode b_S_readChange 1 = .ok (.aload_n 0, 1) := by decide +kernel
theorem d_S_readChange_2 : decode b_S_readChange 2 = .ok (.invokevirtual 174, 3) := by decide +kernel
theorem d_S_readChange_5 : decode b_S_readChange 5 = .ok (.putfield 185, 3) := by decide +kernel
theorem d_S_readChange_8 : decode b_S_readChange 8 = .ok (.aload_n 0, 1) := by decide +kernel
theorem d_S_readChange_9 : decode b_S_readChange 9 = .ok (.bipush 61, 2) := by decide +kernel
theorem d_S_readChange_11 : decode b_S_readChange 11 = .ok (.invokevirtual 135, 3) := by decide +kernel
theorem d_S_readChange_14 : decode b_S_readChange 14 = .ok (.aload_n 0, 1) := by decide +kernel
theorem d_S_readChange_15 : decode b_S_readChange 15 = .ok (.aload_n 1, 1) := by decide +kernel
theorem d_S_readChange_16 : decode b_S_readChange 16 = .ok (.getfield 188, 3) := by decide +kernel
theorem d_S_readChange_19 : decode b_S_readChange 19 = .ok (.getfield 139, 3) := by decide +kernel
theorem d_S_readChange_22 : decode b_S_readChange 22 = .ok (.invokevirtual 143, 3) := by decide +kernel
theorem d_S_readChange_25 : decode b_S_readChange 25 = .ok (.aload_n 1, 1) := by decide +kernel
theorem d_S_readChange_26 : decode b_S_readChange 26 = .ok (.getfield 188, 3) := by decide +kernel
theorem d_S_readChange_29 : decode b_S_readChange 29 = .ok (.aload_n 0, 1) := by decide +kernel
theorem d_S_readChange_30 : decode b_S_readChange 30 = .ok (.bipush 43, 2) := by decide +kernel
theorem d_S_readChange_32 : decode b_S_readChange 32 = .ok (.bipush 45, 2) := by decide +kernel
theorem d_S_readChange_34 : decode b_S_readChange 34 = .ok (.bipush 42, 2) := by decide +kernel
theorem d_S_readChange_36 : decode b_S_readChange 36 = .ok (.invokevirtual 147, 3) := by decide +kernel
theorem d_S_readChange_39 : decode b_S_readChange 39 = .ok (.putfield 151, 3) := by decide +kernel
theorem d_S_readChange_42 : decode b_S_readChange 42 = .ok (.aload_n 1, 1) := by decide +kernel
theorem d_S_readChange_43 : decode b_S_readChange 43 = .ok (.getfield 188, 3) := by decide +kernel
theorem d_S_readChange_46 : decode b_S_readChange 46 = .ok (.getfield 151, 3) := by decide +kernel
theorem d_S_readChange_49 : decode b_S_readChange 49 = .ok (.bipush 32, 2) := by decide +kernel
theorem d_S_readChange_51 : decode b_S_readChange 51 = .ok (.if_icmp .eq 14, 3) := by decide +kernel
theorem d_S_readChange_54 : decode b_S_readChange 54 = .ok (.aload_n 0, 1) := by decide +kernel
theorem d_S_readChange_55 : decode b_S_readChange 55 = .ok (.aload_n 1, 1) := by decide +kernel
theorem d_S_readChange_56 : decode b_S_readChange 56 = .ok (.getfield 188, 3) := by decide +kernel
theorem d_S_readChange_59 : decode b_S_readChange 59 = .ok (.getfield 155, 3) := by decide +kernel
theorem d_S_readChange_62 : decode b_S_readChange 62 = .ok (.invokevirtual 143, 3) := by decide +kernel
theorem d_S_readChange_65 : decode b_S_readChange 65 = .ok (.return_, 1) := by decide +kernel
theorem d_K_isEnd_0 : decode b_K_isEnd 0 = .ok (.aload_n 0, 1) := by decide +kernel
theorem d_K_isEnd_1 : decode b_K_isEnd 1 = .ok (.getfield 15, 3) := by decide +kernel
theorem d_K_isEnd_4 : decode b_K_isEnd 4 = .ok (.aload_n 0, 1) := by decide +kernel
theorem d_K_isEnd_5 : decode b_K_isEnd 5 = .ok (.getfield 30, 3) := by decide +kernel
theorem d_K_isEnd_8 : decode b_K_isEnd 8 = .ok (.caload, 1) := by decide +kernel
theorem d_K_isEnd_9 : decode b_K_isEnd 9 = .ok (.bipush 46, 2) := by decide +kernel
theorem d_K_isEnd_11 : decode b_K_isEnd 11 = .ok (.if_icmp .ne 7, 3) := by decide +kernel
theorem d_K_isEnd_14 : decode b_K_isEnd 14 = .ok (.iconst 1, 1) := by decide +kernel
theorem d_K_isEnd_15 : decode b_K_isEnd 15 = .ok (.goto 4, 3) := by decide +kernel
theorem d_K_isEnd_18 : decode b_K_isEnd 18 = .ok (.iconst 0, 1) := by decide +kernel
theorem d_K_isEnd_19 : decode b_K_isEnd 19 = .ok (.ireturn, 1) := by decide +kernel
theorem d_S_lacksWord_0 : decode b_S_lacksWord 0 = .ok (.aload_n 0, 1) := by decide +kernel
theorem d_S_lacksWord_1 : decode b_S_lacksWord 1 = .ok (.getfield 60, 3) := by decide +kernel
theorem d_S_lacksWord_4 : decode b_S_lacksWord 4 = .ok (.ifCond .ne 27, 3) := by decide +kernel
theorem d_S_lacksWord_7 : decode b_S_lacksWord 7 = .ok (.aload_n 0, 1) := by decide +kernel
theorem d_S_lacksWord_8 : decode b_S_lacksWord 8 = .ok (.getfield 53, 3) := by decide +kernel
theorem d_S_lacksWord_11 : decode b_S_lacksWord 11 = .ok (.getstatic 66, 3) := by decide +kernel
theorem d_S_lacksWord_14 : decode b_S_lacksWord 14 = .ok (.if_acmp .eq 13, 3) := by decide +kernel
theorem d_S_lacksWord_17 : decode b_S_lacksWord 17 = .ok (.aload_n 0, 1) := by decide +kernel
theorem d_S_lacksWord_18 : decode b_S_lacksWord 18 = .ok (.getfield 53, 3) := by decide +kernel
theorem d_S_lacksWord_21 : decode b_S_lacksWord 21 = .ok (.getstatic 69, 3) := by decide +kernel
theorem d_S_lacksWord_24 : decode b_S_lacksWord 24 = .ok (.if_acmp .ne 7, 3) := by decide +kernel
theorem d_S_lacksWord_27 : decode b_S_lacksWord 27 = .ok (.iconst 1, 1) := by decide +kernel
theorem d_S_lacksWord_28 : decode b_S_lacksWord 28 = .ok (.goto 4, 3) := by decide +kernel
theorem d_S_lacksWord_31 : decode b_S_lacksWord 31 = .ok (.iconst 0, 1) := by decide +kernel
theorem d_S_lacksWord_32 : decode b_S_lacksWord 32 = .ok (.ireturn, 1) := by decide +kernel
theorem d_S_taken_0 : decode b_S_taken 0 = .ok (.aload_n 0, 1) := by decide +kernel
theorem d_S_taken_1 : decode b_S_taken 1 = .ok (.getfield 60, 3) := by decide +kernel
theorem d_S_taken_4 : decode b_S_taken 4 = .ok (.ireturn, 1) := by decide +kernel
theorem d_S_subject_0 : decode b_S_subject 0 = .ok (.aload_n 0, 1) := by decide +kernel
theorem d_S_subject_1 : decode b_S_subject 1 = .ok (.getfield 63, 3) := by decide +kernel
theorem d_S_subject_4 : decode b_S_subject 4 = .ok (.ireturn, 1) := by decide +kernel
theorem d_S_action_0 : decode b_S_action 0 = .ok (.aload_n 0, 1) := by decide +kernel
theorem d_S_action_1 : decode b_S_action 1 = .ok (.getfield 53, 3) := by decide +kernel
theorem d_S_action_4 : decode b_S_action 4 = .ok (.areturn, 1) := by decide +kernel
theorem d_S_canChange_0 : decode b_S_canChange 0 = .ok (.aload_n 0, 1) := by decide +kernel
theorem d_S_canChange_1 : decode b_S_canChange 1 = .ok (.getfield 40, 3) := by decide +kernel
theorem d_S_canChange_4 : decode b_S_canChange 4 = .ok (.iload_n 1, 1) := by decide +kernel
theorem d_S_canChange_5 : decode b_S_canChange 5 = .ok (.invokevirtual 72, 3) := by decide +kernel
theorem d_S_canChange_8 : decode b_S_canChange 8 = .ok (.ifCond .eq 25, 3) := by decide +kernel
theorem d_S_canChange_11 : decode b_S_canChange 11 = .ok (.aload_n 0, 1) := by decide +kernel
theorem d_S_canChange_12 : decode b_S_canChange 12 = .ok (.getfield 76, 3) := by decide +kernel
theorem d_S_canChange_15 : decode b_S_canChange 15 = .ok (.ifCond .eq 14, 3) := by decide +kernel
theorem d_S_canChange_18 : decode b_S_canChange 18 = .ok (.aload_n 0, 1) := by decide +kernel
theorem d_S_canChange_19 : decode b_S_canChange 19 = .ok (.getfield 44, 3) := by decide +kernel
theorem d_S_canChange_22 : decode b_S_canChange 22 = .ok (.iload_n 1, 1) := by decide +kernel
theorem d_S_canChange_23 : decode b_S_canChange 23 = .ok (.invokevirtual 72, 3) := by decide +kernel
theorem d_S_canChange_26 : decode b_S_canChange 26 = .ok (.ifCond .eq 7, 3) := by decide +kernel
theorem d_S_canChange_29 : decode b_S_canChange 29 = .ok (.iconst 1, 1) := by decide +kernel
theorem d_S_canChange_30 : decode b_S_canChange 30 = .ok (.goto 4, 3) := by decide +kernel
theorem d_S_canChange_33 : decode b_S_canChange 33 = .ok (.iconst 0, 1) := by decide +kernel
theorem d_S_canChange_34 : decode b_S_canChange 34 = .ok (.ireturn, 1) := by decide +kernel
theorem d_C_fitsIn_0 : decode b_C_fitsIn 0 = .ok (.aload_n 0, 1) := by decide +kernel
theorem d_C_fitsIn_1 : decode b_C_fitsIn 1 = .ok (.getfield 7, 3) := by decide +kernel
theorem d_C_fitsIn_4 : decode b_C_fitsIn 4 = .ok (.aload_n 0, 1) := by decide +kernel
theorem d_C_fitsIn_5 : decode b_C_fitsIn 5 = .ok (.getfield 22, 3) := by decide +kernel
theorem d_C_fitsIn_8 : decode b_C_fitsIn 8 = .ok (.aload_n 0, 1) := by decide +kernel
theorem d_C_fitsIn_9 : decode b_C_fitsIn 9 = .ok (.getfield 18, 3) := by decide +kernel
theorem d_C_fitsIn_12 : decode b_C_fitsIn 12 = .ok (.iload_n 1, 1) := by decide +kernel
theorem d_C_fitsIn_13 : decode b_C_fitsIn 13 = .ok (.invokevirtual 26, 3) := by decide +kernel
theorem d_C_fitsIn_16 : decode b_C_fitsIn 16 = .ok (.invokevirtual 30, 3) := by decide +kernel
theorem d_C_fitsIn_19 : decode b_C_fitsIn 19 = .ok (.ireturn, 1) := by decide +kernel
theorem d_P_resultIn_0 : decode b_P_resultIn 0 = .ok (.aload_n 0, 1) := by decide +kernel
theorem d_P_resultIn_1 : decode b_P_resultIn 1 = .ok (.getfield 12, 3) := by decide +kernel
theorem d_P_resultIn_4 : decode b_P_resultIn 4 = .ok (.iload_n 1, 1) := by decide +kernel
theorem d_P_resultIn_5 : decode b_P_resultIn 5 = .ok (.invokevirtual 25, 3) := by decide +kernel
theorem d_P_resultIn_8 : decode b_P_resultIn 8 = .ok (.istore_n 2, 1) := by decide +kernel
theorem d_P_resultIn_9 : decode b_P_resultIn 9 = .ok (.aload_n 0, 1) := by decide +kernel
theorem d_P_resultIn_10 : decode b_P_resultIn 10 = .ok (.getfield 21, 3) := by decide +kernel
theorem d_P_resultIn_13 : decode b_P_resultIn 13 = .ok (.bipush 43, 2) := by decide +kernel
theorem d_P_resultIn_15 : decode b_P_resultIn 15 = .ok (.if_icmp .ne 14, 3) := by decide +kernel
theorem d_P_resultIn_18 : decode b_P_resultIn 18 = .ok (.iload_n 2, 1) := by decide +kernel
theorem d_P_resultIn_19 : decode b_P_resultIn 19 = .ok (.aload_n 0, 1) := by decide +kernel
theorem d_P_resultIn_20 : decode b_P_resultIn 20 = .ok (.getfield 18, 3) := by decide +kernel
theorem d_P_resultIn_23 : decode b_P_resultIn 23 = .ok (.iload_n 1, 1) := by decide +kernel
theorem d_P_resultIn_24 : decode b_P_resultIn 24 = .ok (.invokevirtual 25, 3) := by decide +kernel
theorem d_P_resultIn_27 : decode b_P_resultIn 27 = .ok (.iadd, 1) := by decide +kernel
theorem d_P_resultIn_28 : decode b_P_resultIn 28 = .ok (.ireturn, 1) := by decide +kernel
theorem d_P_resultIn_29 : decode b_P_resultIn 29 = .ok (.aload_n 0, 1) := by decide +kernel
theorem d_P_resultIn_30 : decode b_P_resultIn 30 = .ok (.getfield 21, 3) := by decide +kernel
theorem d_P_resultIn_33 : decode b_P_resultIn 33 = .ok (.bipush 45, 2) := by decide +kernel
theorem d_P_resultIn_35 : decode b_P_resultIn 35 = .ok (.if_icmp .ne 14, 3) := by decide +kernel
theorem d_P_resultIn_38 : decode b_P_resultIn 38 = .ok (.iload_n 2, 1) := by decide +kernel
theorem d_P_resultIn_39 : decode b_P_resultIn 39 = .ok (.aload_n 0, 1) := by decide +kernel
theorem d_P_resultIn_40 : decode b_P_resultIn 40 = .ok (.getfield 18, 3) := by decide +kernel
theorem d_P_resultIn_43 : decode b_P_resultIn 43 = .ok (.iload_n 1, 1) := by decide +kernel
theorem d_P_resultIn_44 : decode b_P_resultIn 44 = .ok (.invokevirtual 25, 3) := by decide +kernel
theorem d_P_resultIn_47 : decode b_P_resultIn 47 = .ok (.isub, 1) := by decide +kernel
theorem d_P_resultIn_48 : decode b_P_resultIn 48 = .ok (.ireturn, 1) := by decide +kernel
theorem d_P_resultIn_49 : decode b_P_resultIn 49 = .ok (.aload_n 0, 1) := by decide +kernel
theorem d_P_resultIn_50 : decode b_P_resultIn 50 = .ok (.getfield 21, 3) := by decide +kernel
theorem d_P_resultIn_53 : decode b_P_resultIn 53 = .ok (.bipush 42, 2) := by decide +kernel
theorem d_P_resultIn_55 : decode b_P_resultIn 55 = .ok (.if_icmp .ne 16, 3) := by decide +kernel
theorem d_P_resultIn_58 : decode b_P_resultIn 58 = .ok (.iload_n 2, 1) := by decide +kernel
theorem d_P_resultIn_59 : decode b_P_resultIn 59 = .ok (.aload_n 0, 1) := by decide +kernel
theorem d_P_resultIn_60 : decode b_P_resultIn 60 = .ok (.getfield 18, 3) := by decide +kernel
theorem d_P_resultIn_63 : decode b_P_resultIn 63 = .ok (.iload_n 1, 1) := by decide +kernel
theorem d_P_resultIn_64 : decode b_P_resultIn 64 = .ok (.invokevirtual 25, 3) := by decide +kernel
theorem d_P_resultIn_67 : decode b_P_resultIn 67 = .ok (.imul, 1) := by decide +kernel
theorem d_P_resultIn_68 : decode b_P_resultIn 68 = .ok (.goto 4, 3) := by decide +kernel
theorem d_P_resultIn_71 : decode b_P_resultIn 71 = .ok (.iload_n 2, 1) := by decide +kernel
theorem d_P_resultIn_72 : decode b_P_resultIn 72 = .ok (.ireturn, 1) := by decide +kernel
theorem d_S_changed_0 : decode b_S_changed 0 = .ok (.aload_n 0, 1) := by decide +kernel
theorem d_S_changed_1 : decode b_S_changed 1 = .ok (.getfield 40, 3) := by decide +kernel
theorem d_S_changed_4 : decode b_S_changed 4 = .ok (.iload_n 1, 1) := by decide +kernel
theorem d_S_changed_5 : decode b_S_changed 5 = .ok (.iload_n 1, 1) := by decide +kernel
theorem d_S_changed_6 : decode b_S_changed 6 = .ok (.invokevirtual 80, 3) := by decide +kernel
theorem d_S_changed_9 : decode b_S_changed 9 = .ok (.istore_n 2, 1) := by decide +kernel
theorem d_S_changed_10 : decode b_S_changed 10 = .ok (.aload_n 0, 1) := by decide +kernel
theorem d_S_changed_11 : decode b_S_changed 11 = .ok (.getfield 76, 3) := by decide +kernel
theorem d_S_changed_14 : decode b_S_changed 14 = .ok (.ifCond .eq 15, 3) := by decide +kernel
theorem d_S_changed_17 : decode b_S_changed 17 = .ok (.aload_n 0, 1) := by decide +kernel
theorem d_S_changed_18 : decode b_S_changed 18 = .ok (.getfield 44, 3) := by decide +kernel
theorem d_S_changed_21 : decode b_S_changed 21 = .ok (.iload_n 2, 1) := by decide +kernel
theorem d_S_changed_22 : decode b_S_changed 22 = .ok (.iload_n 1, 1) := by decide +kernel
theorem d_S_changed_23 : decode b_S_changed 23 = .ok (.invokevirtual 80, 3) := by decide +kernel
theorem d_S_changed_26 : decode b_S_changed 26 = .ok (.goto 4, 3) := by decide +kernel
theorem d_S_changed_29 : decode b_S_changed 29 = .ok (.iload_n 2, 1) := by decide +kernel
theorem d_S_changed_30 : decode b_S_changed 30 = .ok (.ireturn, 1) := by decide +kernel
theorem d_C_appliedTo_0 : decode b_C_appliedTo 0 = .ok (.aload_n 0, 1) := by decide +kernel
theorem d_C_appliedTo_1 : decode b_C_appliedTo 1 = .ok (.getfield 7, 3) := by decide +kernel
theorem d_C_appliedTo_4 : decode b_C_appliedTo 4 = .ok (.aload_n 0, 1) := by decide +kernel
theorem d_C_appliedTo_5 : decode b_C_appliedTo 5 = .ok (.getfield 22, 3) := by decide +kernel
theorem d_C_appliedTo_8 : decode b_C_appliedTo 8 = .ok (.iload_n 1, 1) := by decide +kernel
theorem d_C_appliedTo_9 : decode b_C_appliedTo 9 = .ok (.aload_n 0, 1) := by decide +kernel
theorem d_C_appliedTo_10 : decode b_C_appliedTo 10 = .ok (.getfield 18, 3) := by decide +kernel
theorem d_C_appliedTo_13 : decode b_C_appliedTo 13 = .ok (.iload_n 2, 1) := by decide +kernel
theorem d_C_appliedTo_14 : decode b_C_appliedTo 14 = .ok (.invokevirtual 26, 3) := by decide +kernel
theorem d_C_appliedTo_17 : decode b_C_appliedTo 17 = .ok (.invokevirtual 36, 3) := by decide +kernel
theorem d_C_appliedTo_20 : decode b_C_appliedTo 20 = .ok (.ireturn, 1) := by decide +kernel
end
section
theorem d_M_init_0 : decode b_M_init 0 = .ok (.aload_n 0, 1) := by decide +kernel
theorem d_M_init_1 : decode b_M_init 1 = .ok (.invokespecial 1, 3) := by decide +kernel
theorem d_M_init_4 : decode b_M_init 4 = .ok (.aload_n 0, 1) := by decide +kernel
theorem d_M_init_5 : decode b_M_init 5 = .ok (.bipush 32, 2) := by decide +kernel
theorem d_M_init_7 : decode b_M_init 7 = .ok (.newarray .boolean, 2) := by decide +kernel
theorem d_M_init_9 : decode b_M_init 9 = .ok (.putfield 7, 3) := by decide +kernel
theorem d_M_init_12 : decode b_M_init 12 = .ok (.aload_n 0, 1) := by decide +kernel
theorem d_M_init_13 : decode b_M_init 13 = .ok (.bipush 32, 2) := by decide +kernel
theorem d_M_init_15 : decode b_M_init 15 = .ok (.newarray .int, 2) := by decide +kernel
theorem d_M_init_17 : decode b_M_init 17 = .ok (.putfield 13, 3) := by decide +kernel
theorem d_M_init_20 : decode b_M_init 20 = .ok (.aload_n 0, 1) := by decide +kernel
theorem d_M_init_21 : decode b_M_init 21 = .ok (.bipush 32, 2) := by decide +kernel
theorem d_M_init_23 : decode b_M_init 23 = .ok (.newarray .boolean, 2) := by decide +kernel
theorem d_M_init_25 : decode b_M_init 25 = .ok (.putfield 17, 3) := by decide +kernel
theorem d_M_init_28 : decode b_M_init 28 = .ok (.aload_n 0, 1) := by decide +kernel
theorem d_M_init_29 : decode b_M_init 29 = .ok (.bipush 6, 2) := by decide +kernel
theorem d_M_init_31 : decode b_M_init 31 = .ok (.newarray .char, 2) := by decide +kernel
theorem d_M_init_33 : decode b_M_init 33 = .ok (.putfield 20, 3) := by decide +kernel
theorem d_M_init_36 : decode b_M_init 36 = .ok (.aload_n 0, 1) := by decide +kernel
theorem d_M_init_37 : decode b_M_init 37 = .ok (.bipush 6, 2) := by decide +kernel
theorem d_M_init_39 : decode b_M_init 39 = .ok (.newarray .int, 2) := by decide +kernel
theorem d_M_init_41 : decode b_M_init 41 = .ok (.putfield 24, 3) := by decide +kernel
theorem d_M_init_44 : decode b_M_init 44 = .ok (.aload_n 0, 1) := by decide +kernel
theorem d_M_init_45 : decode b_M_init 45 = .ok (.bipush 6, 2) := by decide +kernel
theorem d_M_init_47 : decode b_M_init 47 = .ok (.newarray .int, 2) := by decide +kernel
theorem d_M_init_49 : decode b_M_init 49 = .ok (.putfield 27, 3) := by decide +kernel
theorem d_M_init_52 : decode b_M_init 52 = .ok (.aload_n 0, 1) := by decide +kernel
theorem d_M_init_53 : decode b_M_init 53 = .ok (.bipush 6, 2) := by decide +kernel
theorem d_M_init_55 : decode b_M_init 55 = .ok (.newarray .boolean, 2) := by decide +kernel
theorem d_M_init_57 : decode b_M_init 57 = .ok (.putfield 30, 3) := by decide +kernel
theorem d_M_init_60 : decode b_M_init 60 = .ok (.aload_n 0, 1) := by decide +kernel
theorem d_M_init_61 : decode b_M_init 61 = .ok (.bipush 100, 2) := by decide +kernel
theorem d_M_init_63 : decode b_M_init 63 = .ok (.newarray .char, 2) := by decide +kernel
theorem d_M_init_65 : decode b_M_init 65 = .ok (.putfield 33, 3) := by decide +kernel
theorem d_M_init_68 : decode b_M_init 68 = .ok (.aload_n 0, 1) := by decide +kernel
theorem d_M_init_69 : decode b_M_init 69 = .ok (.iconst (-1), 1) := by decide +kernel
theorem d_M_init_70 : decode b_M_init 70 = .ok (.putfield 36, 3) := by decide +kernel
theorem d_M_init_73 : decode b_M_init 73 = .ok (.aload_n 0, 1) := by decide +kernel
theorem d_M_init_74 : decode b_M_init 74 = .ok (.bipush 32, 2) := by decide +kernel
theorem d_M_init_76 : decode b_M_init 76 = .ok (.newarray .int, 2) := by decide +kernel
theorem d_M_init_78 : decode b_M_init 78 = .ok (.putfield 40, 3) := by decide +kernel
theorem d_M_init_81 : decode b_M_init 81 = .ok (.aload_n 0, 1) := by decide +kernel
theorem d_M_init_82 : decode b_M_init 82 = .ok (.bipush 120, 2) := by decide +kernel
theorem d_M_init_84 : decode b_M_init 84 = .ok (.newarray .int, 2) := by decide +kernel
theorem d_M_init_86 : decode b_M_init 86 = .ok (.putfield 43, 3) := by decide +kernel
theorem d_M_init_89 : decode b_M_init 89 = .ok (.aload_n 0, 1) := by decide +kernel
theorem d_M_init_90 : decode b_M_init 90 = .ok (.bipush 120, 2) := by decide +kernel
theorem d_M_init_92 : decode b_M_init 92 = .ok (.newarray .int, 2) := by decide +kernel
theorem d_M_init_94 : decode b_M_init 94 = .ok (.putfield 46, 3) := by decide +kernel
theorem d_M_init_97 : decode b_M_init 97 = .ok (.aload_n 0, 1) := by decide +kernel
theorem d_M_init_98 : decode b_M_init 98 = .ok (.bipush 120, 2) := by decide +kernel
theorem d_M_init_100 : decode b_M_init 100 = .ok (.newarray .int, 2) := by decide +kernel
theorem d_M_init_102 : decode b_M_init 102 = .ok (.putfield 49, 3) := by decide +kernel
theorem d_M_init_105 : decode b_M_init 105 = .ok (.aload_n 0, 1) := by decide +kernel
theorem d_M_init_106 : decode b_M_init 106 = .ok (.iconst 2, 1) := by decide +kernel
theorem d_M_init_107 : decode b_M_init 107 = .ok (.newarray .int, 2) := by decide +kernel
theorem d_M_init_109 : decode b_M_init 109 = .ok (.putfield 52, 3) := by decide +kernel
theorem d_M_init_112 : decode b_M_init 112 = .ok (.aload_n 0, 1) := by decide +kernel
theorem d_M_init_113 : decode b_M_init 113 = .ok (.iconst 2, 1) := by decide +kernel
theorem d_M_init_114 : decode b_M_init 114 = .ok (.newarray .int, 2) := by decide +kernel
theorem d_M_init_116 : decode b_M_init 116 = .ok (.putfield 55, 3) := by decide +kernel
theorem d_M_init_119 : decode b_M_init 119 = .ok (.aload_n 0, 1) := by decide +kernel
theorem d_M_init_120 : decode b_M_init 120 = .ok (.iconst 2, 1) := by decide +kernel
theorem d_M_init_121 : decode b_M_init 121 = .ok (.newarray .int, 2) := by decide +kernel
theorem d_M_init_123 : decode b_M_init 123 = .ok (.putfield 58, 3) := by decide +kernel
theorem d_M_init_126 : decode b_M_init 126 = .ok (.aload_n 0, 1) := by decide +kernel
theorem d_M_init_127 : decode b_M_init 127 = .ok (.iconst 2, 1) := by decide +kernel
theorem d_M_init_128 : decode b_M_init 128 = .ok (.newarray .int, 2) := by decide +kernel
theorem d_M_init_130 : decode b_M_init 130 = .ok (.putfield 61, 3) := by decide +kernel
theorem d_M_init_133 : decode b_M_init 133 = .ok (.aload_n 0, 1) := by decide +kernel
theorem d_M_init_134 : decode b_M_init 134 = .ok (.iconst 2, 1) := by decide +kernel
theorem d_M_init_135 : decode b_M_init 135 = .ok (.newarray .int, 2) := by decide +kernel
theorem d_M_init_137 : decode b_M_init 137 = .ok (.putfield 64, 3) := by decide +kernel
theorem d_M_init_140 : decode b_M_init 140 = .ok (.aload_n 0, 1) := by decide +kernel
theorem d_M_init_141 : decode b_M_init 141 = .ok (.iconst 2, 1) := by decide +kernel
theorem d_M_init_142 : decode b_M_init 142 = .ok (.newarray .int, 2) := by decide +kernel
theorem d_M_init_144 : decode b_M_init 144 = .ok (.putfield 67, 3) := by decide +kernel
theorem d_M_init_147 : decode b_M_init 147 = .ok (.aload_n 0, 1) := by decide +kernel
theorem d_M_init_148 : decode b_M_init 148 = .ok (.bipush 120, 2) := by decide +kernel
theorem d_M_init_150 : decode b_M_init 150 = .ok (.newarray .int, 2) := by decide +kernel
theorem d_M_init_152 : decode b_M_init 152 = .ok (.putfield 70, 3) := by decide +kernel
theorem d_M_init_155 : decode b_M_init 155 = .ok (.return_, 1) := by decide +kernel
theorem d_M_thrown_0 : decode b_M_thrown 0 = .ok (.aload_n 0, 1) := by decide +kernel
theorem d_M_thrown_1 : decode b_M_thrown 1 = .ok (.getfield 73, 3) := by decide +kernel
theorem d_M_thrown_4 : decode b_M_thrown 4 = .ok (.ireturn, 1) := by decide +kernel
theorem d_M_field_0 : decode b_M_field 0 = .ok (.iload_n 1, 1) := by decide +kernel
theorem d_M_field_1 : decode b_M_field 1 = .ok (.bipush 97, 2) := by decide +kernel
theorem d_M_field_3 : decode b_M_field 3 = .ok (.if_icmp .lt 50, 3) := by decide +kernel
theorem d_M_field_6 : decode b_M_field 6 = .ok (.iload_n 1, 1) := by decide +kernel
theorem d_M_field_7 : decode b_M_field 7 = .ok (.bipush 122, 2) := by decide +kernel
theorem d_M_field_9 : decode b_M_field 9 = .ok (.if_icmp .gt 44, 3) := by decide +kernel
theorem d_M_field_12 : decode b_M_field 12 = .ok (.aload_n 0, 1) := by decide +kernel
theorem d_M_field_13 : decode b_M_field 13 = .ok (.iload_n 1, 1) := by decide +kernel
theorem d_M_field_14 : decode b_M_field 14 = .ok (.invokevirtual 79, 3) := by decide +kernel
theorem d_M_field_17 : decode b_M_field 17 = .ok (.ifCond .ge 36, 3) := by decide +kernel
theorem d_M_field_20 : decode b_M_field 20 = .ok (.iload_n 2, 1) := by decide +kernel
theorem d_M_field_21 : decode b_M_field 21 = .ok (.ifCond .lt 32, 3) := by decide +kernel
theorem d_M_field_24 : decode b_M_field 24 = .ok (.iload_n 2, 1) := by decide +kernel
theorem d_M_field_25 : decode b_M_field 25 = .ok (.bipush 23, 2) := by decide +kernel
theorem d_M_field_27 : decode b_M_field 27 = .ok (.if_icmp .gt 26, 3) := by decide +kernel
theorem d_M_field_30 : decode b_M_field 30 = .ok (.iload_n 3, 1) := by decide +kernel
theorem d_M_field_31 : decode b_M_field 31 = .ok (.iconst 1, 1) := by decide +kernel
theorem d_M_field_32 : decode b_M_field 32 = .ok (.if_icmp .lt 21, 3) := by decide +kernel
theorem d_M_field_35 : decode b_M_field 35 = .ok (.iload_n 3, 1) := by decide +kernel
theorem d_M_field_36 : decode b_M_field 36 = .ok (.bipush 10, 2) := by decide +kernel
theorem d_M_field_38 : decode b_M_field 38 = .ok (.if_icmp .gt 15, 3) := by decide +kernel
theorem d_M_field_41 : decode b_M_field 41 = .ok (.iload_n 2, 1) := by decide +kernel
theorem d_M_field_42 : decode b_M_field 42 = .ok (.iload_n 3, 1) := by decide +kernel
theorem d_M_field_43 : decode b_M_field 43 = .ok (.iadd, 1) := by decide +kernel
theorem d_M_field_44 : decode b_M_field 44 = .ok (.bipush 24, 2) := by decide +kernel
theorem d_M_field_46 : decode b_M_field 46 = .ok (.if_icmp .gt 7, 3) := by decide +kernel
theorem d_M_field_49 : decode b_M_field 49 = .ok (.iconst 1, 1) := by decide +kernel
theorem d_M_field_50 : decode b_M_field 50 = .ok (.goto 4, 3) := by decide +kernel
theorem d_M_field_53 : decode b_M_field 53 = .ok (.iconst 0, 1) := by decide +kernel
theorem d_M_field_54 : decode b_M_field 54 = .ok (.istore 5, 2) := by decide +kernel
theorem d_M_field_56 : decode b_M_field 56 = .ok (.iconst 0, 1) := by decide +kernel
theorem d_M_field_57 : decode b_M_field 57 = .ok (.istore 6, 2) := by decide +kernel
theorem d_M_field_59 : decode b_M_field 59 = .ok (.iload 6, 2) := by decide +kernel
theorem d_M_field_61 : decode b_M_field 61 = .ok (.aload_n 0, 1) := by decide +kernel
theorem d_M_field_62 : decode b_M_field 62 = .ok (.getfield 76, 3) := by decide +kernel
theorem d_M_field_65 : decode b_M_field 65 = .ok (.if_icmp .ge 53, 3) := by decide +kernel
theorem d_M_field_68 : decode b_M_field 68 = .ok (.iload 5, 2) := by decide +kernel
theorem d_M_field_70 : decode b_M_field 70 = .ok (.ifCond .eq 48, 3) := by decide +kernel
theorem d_M_field_73 : decode b_M_field 73 = .ok (.iload_n 2, 1) := by decide +kernel
theorem d_M_field_74 : decode b_M_field 74 = .ok (.iload_n 3, 1) := by decide +kernel
theorem d_M_field_75 : decode b_M_field 75 = .ok (.iadd, 1) := by decide +kernel
theorem d_M_field_76 : decode b_M_field 76 = .ok (.aload_n 0, 1) := by decide +kernel
theorem d_M_field_77 : decode b_M_field 77 = .ok (.getfield 24, 3) := by decide +kernel
theorem d_M_field_80 : decode b_M_field 80 = .ok (.iload 6, 2) := by decide +kernel
theorem d_M_field_82 : decode b_M_field 82 = .ok (.iaload, 1) := by decide +kernel
theorem d_M_field_83 : decode b_M_field 83 = .ok (.if_icmp .le 22, 3) := by decide +kernel
theorem d_M_field_86 : decode b_M_field 86 = .ok (.aload_n 0, 1) := by decide +kernel
theorem d_M_field_87 : decode b_M_field 87 = .ok (.getfield 24, 3) := by decide +kernel
theorem d_M_field_90 : decode b_M_field 90 = .ok (.iload 6, 2) := by decide +kernel
theorem d_M_field_92 : decode b_M_field 92 = .ok (.iaload, 1) := by decide +kernel
theorem d_M_field_93 : decode b_M_field 93 = .ok (.aload_n 0, 1) := by decide +kernel
theorem d_M_field_94 : decode b_M_field 94 = .ok (.getfield 27, 3) := by decide +kernel
theorem d_M_field_97 : decode b_M_field 97 = .ok (.iload 6, 2) := by decide +kernel
theorem d_M_field_99 : decode b_M_field 99 = .ok (.iaload, 1) := by decide +kernel
theorem d_M_field_100 : decode b_M_field 100 = .ok (.iadd, 1) := by decide +kernel
theorem d_M_field_101 : decode b_M_field 101 = .ok (.iload_n 2, 1) := by decide +kernel
theorem d_M_field_102 : decode b_M_field 102 = .ok (.if_icmp .gt 7, 3) := by decide +kernel
theorem d_M_field_105 : decode b_M_field 105 = .ok (.iconst 1, 1) := by decide +kernel
theorem d_M_field_106 : decode b_M_field 106 = .ok (.goto 4, 3) := by decide +kernel
theorem d_M_field_109 : decode b_M_field 109 = .ok (.iconst 0, 1) := by decide +kernel
theorem d_M_field_110 : decode b_M_field 110 = .ok (.istore 5, 2) := by decide +kernel
theorem d_M_field_112 : decode b_M_field 112 = .ok (.iinc 6 1, 3) := by decide +kernel
theorem d_M_field_115 : decode b_M_field 115 = .ok (.goto (-56), 3) := by decide +kernel
theorem d_M_field_118 : decode b_M_field 118 = .ok (.aload_n 0, 1) := by decide +kernel
theorem d_M_field_119 : decode b_M_field 119 = .ok (.iload 5, 2) := by decide +kernel
theorem d_M_field_121 : decode b_M_field 121 = .ok (.ifCond .ne 7, 3) := by decide +kernel
theorem d_M_field_124 : decode b_M_field 124 = .ok (.iconst 1, 1) := by decide +kernel
theorem d_M_field_125 : decode b_M_field 125 = .ok (.goto 17, 3) := by decide +kernel
theorem d_M_field_128 : decode b_M_field 128 = .ok (.aload_n 0, 1) := by decide +kernel
theorem d_M_field_129 : decode b_M_field 129 = .ok (.getfield 76, 3) := by decide +kernel
theorem d_M_field_132 : decode b_M_field 132 = .ok (.bipush 6, 2) := by decide +kernel
theorem d_M_field_134 : decode b_M_field 134 = .ok (.if_icmp .ne 7, 3) := by decide +kernel
theorem d_M_field_137 : decode b_M_field 137 = .ok (.iconst 2, 1) := by decide +kernel
theorem d_M_field_138 : decode b_M_field 138 = .ok (.goto 4, 3) := by decide +kernel
theorem d_M_field_141 : decode b_M_field 141 = .ok (.iconst 0, 1) := by decide +kernel
theorem d_M_field_142 : decode b_M_field 142 = .ok (.putfield 73, 3) := by decide +kernel
theorem d_M_field_145 : decode b_M_field 145 = .ok (.aload_n 0, 1) := by decide +kernel
theorem d_M_field_146 : decode b_M_field 146 = .ok (.getfield 73, 3) := by decide +kernel
theorem d_M_field_149 : decode b_M_field 149 = .ok (.ifCond .ne 54, 3) := by decide +kernel
theorem d_M_field_152 : decode b_M_field 152 = .ok (.aload_n 0, 1) := by decide +kernel
theorem d_M_field_153 : decode b_M_field 153 = .ok (.getfield 20, 3) := by decide +kernel
theorem d_M_field_156 : decode b_M_field 156 = .ok (.aload_n 0, 1) := by decide +kernel
theorem d_M_field_157 : decode b_M_field 157 = .ok (.getfield 76, 3) := by decide +kernel
theorem d_M_field_160 : decode b_M_field 160 = .ok (.iload_n 1, 1) := by decide +kernel
theorem d_M_field_161 : decode b_M_field 161 = .ok (.castore, 1) := by decide +kernel
theorem d_M_field_162 : decode b_M_field 162 = .ok (.aload_n 0, 1) := by decide +kernel
theorem d_M_field_163 : decode b_M_field 163 = .ok (.getfield 24, 3) := by decide +kernel
theorem d_M_field_166 : decode b_M_field 166 = .ok (.aload_n 0, 1) := by decide +kernel
theorem d_M_field_167 : decode b_M_field 167 = .ok (.getfield 76, 3) := by decide +kernel
theorem d_M_field_170 : decode b_M_field 170 = .ok (.iload_n 2, 1) := by decide +kernel
theorem d_M_field_171 : decode b_M_field 171 = .ok (.iastore, 1) := by decide +kernel
theorem d_M_field_172 : decode b_M_field 172 = .ok (.aload_n 0, 1) := by decide +kernel
theorem d_M_field_173 : decode b_M_field 173 = .ok (.getfield 27, 3) := by decide +kernel
theorem d_M_field_176 : decode b_M_field 176 = .ok (.aload_n 0, 1) := by decide +kernel
theorem d_M_field_177 : decode b_M_field 177 = .ok (.getfield 76, 3) := by decide +kernel
theorem d_M_field_180 : decode b_M_field 180 = .ok (.iload_n 3, 1) := by decide +kernel
theorem d_M_field_181 : decode b_M_field 181 = .ok (.iastore, 1) := by decide +kernel
theorem d_M_field_182 : decode b_M_field 182 = .ok (.aload_n 0, 1) := by decide +kernel
theorem d_M_field_183 : decode b_M_field 183 = .ok (.getfield 30, 3) := by decide +kernel
theorem d_M_field_186 : decode b_M_field 186 = .ok (.aload_n 0, 1) := by decide +kernel
theorem d_M_field_187 : decode b_M_field 187 = .ok (.getfield 76, 3) := by decide +kernel
theorem d_M_field_190 : decode b_M_field 190 = .ok (.iload 4, 2) := by decide +kernel
theorem d_M_field_192 : decode b_M_field 192 = .ok (.bastore, 1) := by decide +kernel
theorem d_M_field_193 : decode b_M_field 193 = .ok (.aload_n 0, 1) := by decide +kernel
theorem d_M_field_194 : decode b_M_field 194 = .ok (.dup, 1) := by decide +kernel
theorem d_M_field_195 : decode b_M_field 195 = .ok (.getfield 76, 3) := by decide +kernel
theorem d_M_field_198 : decode b_M_field 198 = .ok (.iconst 1, 1) := by decide +kernel
theorem d_M_field_199 : decode b_M_field 199 = .ok (.iadd, 1) := by decide +kernel
theorem d_M_field_200 : decode b_M_field 200 = .ok (.putfield 76, 3) := by decide +kernel
theorem d_M_field_203 : decode b_M_field 203 = .ok (.return_, 1) := by decide +kernel
theorem d_M_fieldOf_0 : decode b_M_fieldOf 0 = .ok (.iconst (-1), 1) := by decide +kernel
theorem d_M_fieldOf_1 : decode b_M_fieldOf 1 = .ok (.istore_n 2, 1) := by decide +kernel
theorem d_M_fieldOf_2 : decode b_M_fieldOf 2 = .ok (.iconst 0, 1) := by decide +kernel
theorem d_M_fieldOf_3 : decode b_M_fieldOf 3 = .ok (.istore_n 3, 1) := by decide +kernel
theorem d_M_fieldOf_4 : decode b_M_fieldOf 4 = .ok (.iload_n 3, 1) := by decide +kernel
theorem d_M_fieldOf_5 : decode b_M_fieldOf 5 = .ok (.aload_n 0, 1) := by decide +kernel
theorem d_M_fieldOf_6 : decode b_M_fieldOf 6 = .ok (.getfield 76, 3) := by decide +kernel
theorem d_M_fieldOf_9 : decode b_M_fieldOf 9 = .ok (.if_icmp .ge 25, 3) := by decide +kernel
theorem d_M_fieldOf_12 : decode b_M_fieldOf 12 = .ok (.aload_n 0, 1) := by decide +kernel
theorem d_M_fieldOf_13 : decode b_M_fieldOf 13 = .ok (.getfield 20, 3) := by decide +kernel
theorem d_M_fieldOf_16 : decode b_M_fieldOf 16 = .ok (.iload_n 3, 1) := by decide +kernel
theorem d_M_fieldOf_17 : decode b_M_fieldOf 17 = .ok (.caload, 1) := by decide +kernel
theorem d_M_fieldOf_18 : decode b_M_fieldOf 18 = .ok (.iload_n 1, 1) := by decide +kernel
theorem d_M_fieldOf_19 : decode b_M_fieldOf 19 = .ok (.if_icmp .ne 7, 3) := by decide +kernel
theorem d_M_fieldOf_22 : decode b_M_fieldOf 22 = .ok (.iload_n 3, 1) := by decide +kernel
theorem d_M_fieldOf_23 : decode b_M_fieldOf 23 = .ok (.goto 4, 3) := by decide +kernel
theorem d_M_fieldOf_26 : decode b_M_fieldOf 26 = .ok (.iload_n 2, 1) := by decide +kernel
theorem d_M_fieldOf_27 : decode b_M_fieldOf 27 = .ok (.istore_n 2, 1) := by decide +kernel
theorem d_M_fieldOf_28 : decode b_M_fieldOf 28 = .ok (.iinc 3 1, 3) := by decide +kernel
theorem d_M_fieldOf_31 : decode b_M_fieldOf 31 = .ok (.goto (-27), 3) := by decide +kernel
theorem d_M_fieldOf_34 : decode b_M_fieldOf 34 = .ok (.iload_n 2, 1) := by decide +kernel
theorem d_M_fieldOf_35 : decode b_M_fieldOf 35 = .ok (.ireturn, 1) := by decide +kernel
theorem d_M_insert_0 : decode b_M_insert 0 = .ok (.iconst (-1), 1) := by decide +kernel
theorem d_M_insert_1 : decode b_M_insert 1 = .ok (.istore_n 1, 1) := by decide +kernel
theorem d_M_insert_2 : decode b_M_insert 2 = .ok (.bipush 31, 2) := by decide +kernel
theorem d_M_insert_4 : decode b_M_insert 4 = .ok (.istore_n 2, 1) := by decide +kernel
theorem d_M_insert_5 : decode b_M_insert 5 = .ok (.iload_n 2, 1) := by decide +kernel
theorem d_M_insert_6 : decode b_M_insert 6 = .ok (.ifCond .lt 24, 3) := by decide +kernel
theorem d_M_insert_9 : decode b_M_insert 9 = .ok (.aload_n 0, 1) := by decide +kernel
theorem d_M_insert_10 : decode b_M_insert 10 = .ok (.getfield 7, 3) := by decide +kernel
theorem d_M_insert_13 : decode b_M_insert 13 = .ok (.iload_n 2, 1) := by decide +kernel
theorem d_M_insert_14 : decode b_M_insert 14 = .ok (.baload, 1) := by decide +kernel
theorem d_M_insert_15 : decode b_M_insert 15 = .ok (.ifCond .eq 7, 3) := by decide +kernel
theorem d_M_insert_18 : decode b_M_insert 18 = .ok (.iload_n 1, 1) := by decide +kernel
theorem d_M_insert_19 : decode b_M_insert 19 = .ok (.goto 4, 3) := by decide +kernel
theorem d_M_insert_22 : decode b_M_insert 22 = .ok (.iload_n 2, 1) := by decide +kernel
theorem d_M_insert_23 : decode b_M_insert 23 = .ok (.istore_n 1, 1) := by decide +kernel
theorem d_M_insert_24 : decode b_M_insert 24 = .ok (.iinc 2 (-1), 3) := by decide +kernel
theorem d_M_insert_27 : decode b_M_insert 27 = .ok (.goto (-22), 3) := by decide +kernel
theorem d_M_insert_30 : decode b_M_insert 30 = .ok (.aload_n 0, 1) := by decide +kernel
theorem d_M_insert_31 : decode b_M_insert 31 = .ok (.iload_n 1, 1) := by decide +kernel
theorem d_M_insert_32 : decode b_M_insert 32 = .ok (.ifCond .ge 7, 3) := by decide +kernel
theorem d_M_insert_35 : decode b_M_insert 35 = .ok (.iconst 1, 1) := by decide +kernel
theorem d_M_insert_36 : decode b_M_insert 36 = .ok (.goto 4, 3) := by decide +kernel
theorem d_M_insert_39 : decode b_M_insert 39 = .ok (.iconst 0, 1) := by decide +kernel
theorem d_M_insert_40 : decode b_M_insert 40 = .ok (.putfield 73, 3) := by decide +kernel
theorem d_M_insert_43 : decode b_M_insert 43 = .ok (.aload_n 0, 1) := by decide +kernel
theorem d_M_insert_44 : decode b_M_insert 44 = .ok (.getfield 73, 3) := by decide +kernel
theorem d_M_insert_47 : decode b_M_insert 47 = .ok (.ifCond .le 5, 3) := by decide +kernel
theorem d_M_insert_50 : decode b_M_insert 50 = .ok (.iconst 0, 1) := by decide +kernel
theorem d_M_insert_51 : decode b_M_insert 51 = .ok (.ireturn, 1) := by decide +kernel
theorem d_M_insert_52 : decode b_M_insert 52 = .ok (.aload_n 0, 1) := by decide +kernel
theorem d_M_insert_53 : decode b_M_insert 53 = .ok (.getfield 7, 3) := by decide +kernel
theorem d_M_insert_56 : decode b_M_insert 56 = .ok (.iload_n 1, 1) := by decide +kernel
theorem d_M_insert_57 : decode b_M_insert 57 = .ok (.iconst 1, 1) := by decide +kernel
theorem d_M_insert_58 : decode b_M_insert 58 = .ok (.bastore, 1) := by decide +kernel
theorem d_M_insert_59 : decode b_M_insert 59 = .ok (.aload_n 0, 1) := by decide +kernel
theorem d_M_insert_60 : decode b_M_insert 60 = .ok (.getfield 13, 3) := by decide +kernel
theorem d_M_insert_63 : decode b_M_insert 63 = .ok (.iload_n 1, 1) := by decide +kernel
theorem d_M_insert_64 : decode b_M_insert 64 = .ok (.iconst 0, 1) := by decide +kernel
theorem d_M_insert_65 : decode b_M_insert 65 = .ok (.iastore, 1) := by decide +kernel
theorem d_M_insert_66 : decode b_M_insert 66 = .ok (.aload_n 0, 1) := by decide +kernel
theorem d_M_insert_67 : decode b_M_insert 67 = .ok (.getfield 17, 3) := by decide +kernel
theorem d_M_insert_70 : decode b_M_insert 70 = .ok (.iload_n 1, 1) := by decide +kernel
theorem d_M_insert_71 : decode b_M_insert 71 = .ok (.iconst 0, 1) := by decide +kernel
theorem d_M_insert_72 : decode b_M_insert 72 = .ok (.bastore, 1) := by decide +kernel
theorem d_M_insert_73 : decode b_M_insert 73 = .ok (.iload_n 1, 1) := by decide +kernel
theorem d_M_insert_74 : decode b_M_insert 74 = .ok (.ireturn, 1) := by decide +kernel
theorem d_M_remove_0 : decode b_M_remove 0 = .ok (.aload_n 0, 1) := by decide +kernel
theorem d_M_remove_1 : decode b_M_remove 1 = .ok (.iload_n 1, 1) := by decide +kernel
theorem d_M_remove_2 : decode b_M_remove 2 = .ok (.invokestatic 83, 3) := by decide +kernel
theorem d_M_remove_5 : decode b_M_remove 5 = .ok (.ifCond .ne 7, 3) := by decide +kernel
theorem d_M_remove_8 : decode b_M_remove 8 = .ok (.iconst 1, 1) := by decide +kernel
theorem d_M_remove_9 : decode b_M_remove 9 = .ok (.goto 17, 3) := by decide +kernel
theorem d_M_remove_12 : decode b_M_remove 12 = .ok (.aload_n 0, 1) := by decide +kernel
theorem d_M_remove_13 : decode b_M_remove 13 = .ok (.getfield 7, 3) := by decide +kernel
theorem d_M_remove_16 : decode b_M_remove 16 = .ok (.iload_n 1, 1) := by decide +kernel
theorem d_M_remove_17 : decode b_M_remove 17 = .ok (.baload, 1) := by decide +kernel
theorem d_M_remove_18 : decode b_M_remove 18 = .ok (.ifCond .ne 7, 3) := by decide +kernel
theorem d_M_remove_21 : decode b_M_remove 21 = .ok (.iconst 2, 1) := by decide +kernel
theorem d_M_remove_22 : decode b_M_remove 22 = .ok (.goto 4, 3) := by decide +kernel
theorem d_M_remove_25 : decode b_M_remove 25 = .ok (.iconst 0, 1) := by decide +kernel
theorem d_M_remove_26 : decode b_M_remove 26 = .ok (.putfield 73, 3) := by decide +kernel
theorem d_M_remove_29 : decode b_M_remove 29 = .ok (.aload_n 0, 1) := by decide +kernel
theorem d_M_remove_30 : decode b_M_remove 30 = .ok (.getfield 73, 3) := by decide +kernel
theorem d_M_remove_33 : decode b_M_remove 33 = .ok (.ifCond .ne 24, 3) := by decide +kernel
theorem d_M_remove_36 : decode b_M_remove 36 = .ok (.aload_n 0, 1) := by decide +kernel
theorem d_M_remove_37 : decode b_M_remove 37 = .ok (.getfield 7, 3) := by decide +kernel
theorem d_M_remove_40 : decode b_M_remove 40 = .ok (.iload_n 1, 1) := by decide +kernel
theorem d_M_remove_41 : decode b_M_remove 41 = .ok (.iconst 0, 1) := by decide +kernel
theorem d_M_remove_42 : decode b_M_remove 42 = .ok (.bastore, 1) := by decide +kernel
theorem d_M_remove_43 : decode b_M_remove 43 = .ok (.aload_n 0, 1) := by decide +kernel
theorem d_M_remove_44 : decode b_M_remove 44 = .ok (.getfield 13, 3) := by decide +kernel
theorem d_M_remove_47 : decode b_M_remove 47 = .ok (.iload_n 1, 1) := by decide +kernel
theorem d_M_remove_48 : decode b_M_remove 48 = .ok (.iconst 0, 1) := by decide +kernel
theorem d_M_remove_49 : decode b_M_remove 49 = .ok (.iastore, 1) := by decide +kernel
theorem d_M_remove_50 : decode b_M_remove 50 = .ok (.aload_n 0, 1) := by decide +kernel
theorem d_M_remove_51 : decode b_M_remove 51 = .ok (.getfield 17, 3) := by decide +kernel
theorem d_M_remove_54 : decode b_M_remove 54 = .ok (.iload_n 1, 1) := by decide +kernel
theorem d_M_remove_55 : decode b_M_remove 55 = .ok (.iconst 0, 1) := by decide +kernel
theorem d_M_remove_56 : decode b_M_remove 56 = .ok (.bastore, 1) := by decide +kernel
theorem d_M_remove_57 : decode b_M_remove 57 = .ok (.return_, 1) := by decide +kernel
theorem d_M_isWord_0 : decode b_M_isWord 0 = .ok (.iload_n 0, 1) := by decide +kernel
theorem d_M_isWord_1 : decode b_M_isWord 1 = .ok (.ifCond .lt 13, 3) := by decide +kernel
theorem d_M_isWord_4 : decode b_M_isWord 4 = .ok (.iload_n 0, 1) := by decide +kernel
theorem d_M_isWord_5 : decode b_M_isWord 5 = .ok (.bipush 31, 2) := by decide +kernel
theorem d_M_isWord_7 : decode b_M_isWord 7 = .ok (.if_icmp .gt 7, 3) := by decide +kernel
theorem d_M_isWord_10 : decode b_M_isWord 10 = .ok (.iconst 1, 1) := by decide +kernel
theorem d_M_isWord_11 : decode b_M_isWord 11 = .ok (.goto 4, 3) := by decide +kernel
theorem d_M_isWord_14 : decode b_M_isWord 14 = .ok (.iconst 0, 1) := by decide +kernel
theorem d_M_isWord_15 : decode b_M_isWord 15 = .ok (.ireturn, 1) := by decide +kernel
theorem d_M_put_0 : decode b_M_put 0 = .ok (.aload_n 0, 1) := by decide +kernel
theorem d_M_put_1 : decode b_M_put 1 = .ok (.iload_n 2, 1) := by decide +kernel
theorem d_M_put_2 : decode b_M_put 2 = .ok (.invokevirtual 79, 3) := by decide +kernel
theorem d_M_put_5 : decode b_M_put 5 = .ok (.istore 4, 2) := by decide +kernel
theorem d_M_put_7 : decode b_M_put 7 = .ok (.aload_n 0, 1) := by decide +kernel
theorem d_M_put_8 : decode b_M_put 8 = .ok (.iload_n 1, 1) := by decide +kernel
theorem d_M_put_9 : decode b_M_put 9 = .ok (.invokestatic 83, 3) := by decide +kernel
theorem d_M_put_12 : decode b_M_put 12 = .ok (.ifCond .eq 8, 3) := by decide +kernel
theorem d_M_put_15 : decode b_M_put 15 = .ok (.iload 4, 2) := by decide +kernel
theorem d_M_put_17 : decode b_M_put 17 = .ok (.ifCond .ge 7, 3) := by decide +kernel
theorem d_M_put_20 : decode b_M_put 20 = .ok (.iconst 1, 1) := by decide +kernel
theorem d_M_put_21 : decode b_M_put 21 = .ok (.goto 31, 3) := by decide +kernel
theorem d_M_put_24 : decode b_M_put 24 = .ok (.aload_n 0, 1) := by decide +kernel
theorem d_M_put_25 : decode b_M_put 25 = .ok (.getfield 7, 3) := by decide +kernel
theorem d_M_put_28 : decode b_M_put 28 = .ok (.iload_n 1, 1) := by decide +kernel
theorem d_M_put_29 : decode b_M_put 29 = .ok (.baload, 1) := by decide +kernel
theorem d_M_put_30 : decode b_M_put 30 = .ok (.ifCond .ne 7, 3) := by decide +kernel
theorem d_M_put_33 : decode b_M_put 33 = .ok (.iconst 2, 1) := by decide +kernel
theorem d_M_put_34 : decode b_M_put 34 = .ok (.goto 18, 3) := by decide +kernel
theorem d_M_put_37 : decode b_M_put 37 = .ok (.aload_n 0, 1) := by decide +kernel
theorem d_M_put_38 : decode b_M_put 38 = .ok (.iload 4, 2) := by decide +kernel
theorem d_M_put_40 : decode b_M_put 40 = .ok (.iload_n 3, 1) := by decide +kernel
theorem d_M_put_41 : decode b_M_put 41 = .ok (.invokevirtual 87, 3) := by decide +kernel
theorem d_M_put_44 : decode b_M_put 44 = .ok (.ifCond .ne 7, 3) := by decide +kernel
theorem d_M_put_47 : decode b_M_put 47 = .ok (.iconst 3, 1) := by decide +kernel
theorem d_M_put_48 : decode b_M_put 48 = .ok (.goto 4, 3) := by decide +kernel
theorem d_M_put_51 : decode b_M_put 51 = .ok (.iconst 0, 1) := by decide +kernel
theorem d_M_put_52 : decode b_M_put 52 = .ok (.putfield 73, 3) := by decide +kernel
theorem d_M_put_55 : decode b_M_put 55 = .ok (.aload_n 0, 1) := by decide +kernel
theorem d_M_put_56 : decode b_M_put 56 = .ok (.getfield 73, 3) := by decide +kernel
theorem d_M_put_59 : decode b_M_put 59 = .ok (.ifCond .ne 11, 3) := by decide +kernel
theorem d_M_put_62 : decode b_M_put 62 = .ok (.aload_n 0, 1) := by decide +kernel
theorem d_M_put_63 : decode b_M_put 63 = .ok (.iload_n 1, 1) := by decide +kernel
theorem d_M_put_64 : decode b_M_put 64 = .ok (.iload 4, 2) := by decide +kernel
theorem d_M_put_66 : decode b_M_put 66 = .ok (.iload_n 3, 1) := by decide +kernel
theorem d_M_put_67 : decode b_M_put 67 = .ok (.invokevirtual 91, 3) := by decide +kernel
theorem d_M_put_70 : decode b_M_put 70 = .ok (.return_, 1) := by decide +kernel
theorem d_M_fits_0 : decode b_M_fits 0 = .ok (.iconst 1, 1) := by decide +kernel
theorem d_M_fits_1 : decode b_M_fits 1 = .ok (.aload_n 0, 1) := by decide +kernel
theorem d_M_fits_2 : decode b_M_fits 2 = .ok (.getfield 27, 3) := by decide +kernel
theorem d_M_fits_5 : decode b_M_fits 5 = .ok (.iload_n 1, 1) := by decide +kernel
theorem d_M_fits_6 : decode b_M_fits 6 = .ok (.iaload, 1) := by decide +kernel
theorem d_M_fits_7 : decode b_M_fits 7 = .ok (.ishl, 1) := by decide +kernel
theorem d_M_fits_8 : decode b_M_fits 8 = .ok (.istore_n 3, 1) := by decide +kernel
theorem d_M_fits_9 : decode b_M_fits 9 = .ok (.aload_n 0, 1) := by decide +kernel
theorem d_M_fits_10 : decode b_M_fits 10 = .ok (.getfield 30, 3) := by decide +kernel
theorem d_M_fits_13 : decode b_M_fits 13 = .ok (.iload_n 1, 1) := by decide +kernel
theorem d_M_fits_14 : decode b_M_fits 14 = .ok (.baload, 1) := by decide +kernel
theorem d_M_fits_15 : decode b_M_fits 15 = .ok (.ifCond .eq 26, 3) := by decide +kernel
theorem d_M_fits_18 : decode b_M_fits 18 = .ok (.iload_n 2, 1) := by decide +kernel
theorem d_M_fits_19 : decode b_M_fits 19 = .ok (.iload_n 3, 1) := by decide +kernel
theorem d_M_fits_20 : decode b_M_fits 20 = .ok (.ineg, 1) := by decide +kernel
theorem d_M_fits_21 : decode b_M_fits 21 = .ok (.iconst 2, 1) := by decide +kernel
theorem d_M_fits_22 : decode b_M_fits 22 = .ok (.idiv, 1) := by decide +kernel
theorem d_M_fits_23 : decode b_M_fits 23 = .ok (.if_icmp .lt 14, 3) := by decide +kernel
theorem d_M_fits_26 : decode b_M_fits 26 = .ok (.iload_n 2, 1) := by decide +kernel
theorem d_M_fits_27 : decode b_M_fits 27 = .ok (.iload_n 3, 1) := by decide +kernel
theorem d_M_fits_28 : decode b_M_fits 28 = .ok (.iconst 2, 1) := by decide +kernel
theorem d_M_fits_29 : decode b_M_fits 29 = .ok (.idiv, 1) := by decide +kernel
theorem d_M_fits_30 : decode b_M_fits 30 = .ok (.if_icmp .ge 7, 3) := by decide +kernel
theorem d_M_fits_33 : decode b_M_fits 33 = .ok (.iconst 1, 1) := by decide +kernel
theorem d_M_fits_34 : decode b_M_fits 34 = .ok (.goto 21, 3) := by decide +kernel
theorem d_M_fits_37 : decode b_M_fits 37 = .ok (.iconst 0, 1) := by decide +kernel
theorem d_M_fits_38 : decode b_M_fits 38 = .ok (.goto 17, 3) := by decide +kernel
theorem d_M_fits_41 : decode b_M_fits 41 = .ok (.iload_n 2, 1) := by decide +kernel
theorem d_M_fits_42 : decode b_M_fits 42 = .ok (.ifCond .lt 12, 3) := by decide +kernel
theorem d_M_fits_45 : decode b_M_fits 45 = .ok (.iload_n 2, 1) := by decide +kernel
theorem d_M_fits_46 : decode b_M_fits 46 = .ok (.iload_n 3, 1) := by decide +kernel
theorem d_M_fits_47 : decode b_M_fits 47 = .ok (.if_icmp .ge 7, 3) := by decide +kernel
theorem d_M_fits_50 : decode b_M_fits 50 = .ok (.iconst 1, 1) := by decide +kernel
theorem d_M_fits_51 : decode b_M_fits 51 = .ok (.goto 4, 3) := by decide +kernel
theorem d_M_fits_54 : decode b_M_fits 54 = .ok (.iconst 0, 1) := by decide +kernel
theorem d_M_fits_55 : decode b_M_fits 55 = .ok (.ireturn, 1) := by decide +kernel
theorem d_M_setValue_0 : decode b_M_setValue 0 = .ok (.iconst 1, 1) := by decide +kernel
theorem d_M_setValue_1 : decode b_M_setValue 1 = .ok (.aload_n 0, 1) := by decide +kernel
theorem d_M_setValue_2 : decode b_M_setValue 2 = .ok (.getfield 27, 3) := by decide +kernel
theorem d_M_setValue_5 : decode b_M_setValue 5 = .ok (.iload_n 2, 1) := by decide +kernel
theorem d_M_setValue_6 : decode b_M_setValue 6 = .ok (.iaload, 1) := by decide +kernel
theorem d_M_setValue_7 : decode b_M_setValue 7 = .ok (.ishl, 1) := by decide +kernel
theorem d_M_setValue_8 : decode b_M_setValue 8 = .ok (.iconst 1, 1) := by decide +kernel
theorem d_M_setValue_9 : decode b_M_setValue 9 = .ok (.isub, 1) := by decide +kernel
theorem d_M_setValue_10 : decode b_M_setValue 10 = .ok (.istore 4, 2) := by decide +kernel
theorem d_M_setValue_12 : decode b_M_setValue 12 = .ok (.aload_n 0, 1) := by decide +kernel
theorem d_M_setValue_13 : decode b_M_setValue 13 = .ok (.getfield 13, 3) := by decide +kernel
theorem d_M_setValue_16 : decode b_M_setValue 16 = .ok (.iload_n 1, 1) := by decide +kernel
theorem d_M_setValue_17 : decode b_M_setValue 17 = .ok (.aload_n 0, 1) := by decide +kernel
theorem d_M_setValue_18 : decode b_M_setValue 18 = .ok (.getfield 13, 3) := by decide +kernel
theorem d_M_setValue_21 : decode b_M_setValue 21 = .ok (.iload_n 1, 1) := by decide +kernel
theorem d_M_setValue_22 : decode b_M_setValue 22 = .ok (.iaload, 1) := by decide +kernel
theorem d_M_setValue_23 : decode b_M_setValue 23 = .ok (.iload 4, 2) := by decide +kernel
theorem d_M_setValue_25 : decode b_M_setValue 25 = .ok (.aload_n 0, 1) := by decide +kernel
theorem d_M_setValue_26 : decode b_M_setValue 26 = .ok (.getfield 24, 3) := by decide +kernel
theorem d_M_setValue_29 : decode b_M_setValue 29 = .ok (.iload_n 2, 1) := by decide +kernel
theorem d_M_setValue_30 : decode b_M_setValue 30 = .ok (.iaload, 1) := by decide +kernel
theorem d_M_setValue_31 : decode b_M_setValue 31 = .ok (.ishl, 1) := by decide +kernel
theorem d_M_setValue_32 : decode b_M_setValue 32 = .ok (.iconst (-1), 1) := by decide +kernel
theorem d_M_setValue_33 : decode b_M_setValue 33 = .ok (.ixor, 1) := by decide +kernel
theorem d_M_setValue_34 : decode b_M_setValue 34 = .ok (.iand, 1) := by decide +kernel
theorem d_M_setValue_35 : decode b_M_setValue 35 = .ok (.iload_n 3, 1) := by decide +kernel
theorem d_M_setValue_36 : decode b_M_setValue 36 = .ok (.iload 4, 2) := by decide +kernel
theorem d_M_setValue_38 : decode b_M_setValue 38 = .ok (.iand, 1) := by decide +kernel
theorem d_M_setValue_39 : decode b_M_setValue 39 = .ok (.aload_n 0, 1) := by decide +kernel
theorem d_M_setValue_40 : decode b_M_setValue 40 = .ok (.getfield 24, 3) := by decide +kernel
theorem d_M_setValue_43 : decode b_M_setValue 43 = .ok (.iload_n 2, 1) := by decide +kernel
theorem d_M_setValue_44 : decode b_M_setValue 44 = .ok (.iaload, 1) := by decide +kernel
theorem d_M_setValue_45 : decode b_M_setValue 45 = .ok (.ishl, 1) := by decide +kernel
theorem d_M_setValue_46 : decode b_M_setValue 46 = .ok (.ior, 1) := by decide +kernel
theorem d_M_setValue_47 : decode b_M_setValue 47 = .ok (.iastore, 1) := by decide +kernel
theorem d_M_setValue_48 : decode b_M_setValue 48 = .ok (.return_, 1) := by decide +kernel
theorem d_M_get_0 : decode b_M_get 0 = .ok (.aload_n 0, 1) := by decide +kernel
theorem d_M_get_1 : decode b_M_get 1 = .ok (.iload_n 2, 1) := by decide +kernel
theorem d_M_get_2 : decode b_M_get 2 = .ok (.invokevirtual 79, 3) := by decide +kernel
theorem d_M_get_5 : decode b_M_get 5 = .ok (.istore_n 3, 1) := by decide +kernel
theorem d_M_get_6 : decode b_M_get 6 = .ok (.aload_n 0, 1) := by decide +kernel
theorem d_M_get_7 : decode b_M_get 7 = .ok (.iload_n 1, 1) := by decide +kernel
theorem d_M_get_8 : decode b_M_get 8 = .ok (.invokestatic 83, 3) := by decide +kernel
theorem d_M_get_11 : decode b_M_get 11 = .ok (.ifCond .eq 7, 3) := by decide +kernel
theorem d_M_get_14 : decode b_M_get 14 = .ok (.iload_n 3, 1) := by decide +kernel
theorem d_M_get_15 : decode b_M_get 15 = .ok (.ifCond .ge 7, 3) := by decide +kernel
theorem d_M_get_18 : decode b_M_get 18 = .ok (.iconst 1, 1) := by decide +kernel
theorem d_M_get_19 : decode b_M_get 19 = .ok (.goto 17, 3) := by decide +kernel
theorem d_M_get_22 : decode b_M_get 22 = .ok (.aload_n 0, 1) := by decide +kernel
theorem d_M_get_23 : decode b_M_get 23 = .ok (.getfield 7, 3) := by decide +kernel
theorem d_M_get_26 : decode b_M_get 26 = .ok (.iload_n 1, 1) := by decide +kernel
theorem d_M_get_27 : decode b_M_get 27 = .ok (.baload, 1) := by decide +kernel
theorem d_M_get_28 : decode b_M_get 28 = .ok (.ifCond .ne 7, 3) := by decide +kernel
theorem d_M_get_31 : decode b_M_get 31 = .ok (.iconst 2, 1) := by decide +kernel
theorem d_M_get_32 : decode b_M_get 32 = .ok (.goto 4, 3) := by decide +kernel
theorem d_M_get_35 : decode b_M_get 35 = .ok (.iconst 0, 1) := by decide +kernel
theorem d_M_get_36 : decode b_M_get 36 = .ok (.putfield 73, 3) := by decide +kernel
theorem d_M_get_39 : decode b_M_get 39 = .ok (.aload_n 0, 1) := by decide +kernel
theorem d_M_get_40 : decode b_M_get 40 = .ok (.getfield 73, 3) := by decide +kernel
theorem d_M_get_43 : decode b_M_get 43 = .ok (.ifCond .ne 12, 3) := by decide +kernel
theorem d_M_get_46 : decode b_M_get 46 = .ok (.aload_n 0, 1) := by decide +kernel
theorem d_M_get_47 : decode b_M_get 47 = .ok (.iload_n 1, 1) := by decide +kernel
theorem d_M_get_48 : decode b_M_get 48 = .ok (.iload_n 3, 1) := by decide +kernel
theorem d_M_get_49 : decode b_M_get 49 = .ok (.invokevirtual 95, 3) := by decide +kernel
theorem d_M_get_52 : decode b_M_get 52 = .ok (.goto 4, 3) := by decide +kernel
theorem d_M_get_55 : decode b_M_get 55 = .ok (.iconst 0, 1) := by decide +kernel
theorem d_M_get_56 : decode b_M_get 56 = .ok (.ireturn, 1) := by decide +kernel
theorem d_M_valueOf_0 : decode b_M_valueOf 0 = .ok (.iconst 0, 1) := by decide +kernel
theorem d_M_valueOf_1 : decode b_M_valueOf 1 = .ok (.istore_n 3, 1) := by decide +kernel
theorem d_M_valueOf_2 : decode b_M_valueOf 2 = .ok (.iconst 1, 1) := by decide +kernel
theorem d_M_valueOf_3 : decode b_M_valueOf 3 = .ok (.istore 4, 2) := by decide +kernel
theorem d_M_valueOf_5 : decode b_M_valueOf 5 = .ok (.iconst 0, 1) := by decide +kernel
theorem d_M_valueOf_6 : decode b_M_valueOf 6 = .ok (.istore 5, 2) := by decide +kernel
theorem d_M_valueOf_8 : decode b_M_valueOf 8 = .ok (.iload 5, 2) := by decide +kernel
theorem d_M_valueOf_10 : decode b_M_valueOf 10 = .ok (.aload_n 0, 1) := by decide +kernel
theorem d_M_valueOf_11 : decode b_M_valueOf 11 = .ok (.getfield 27, 3) := by decide +kernel
theorem d_M_valueOf_14 : decode b_M_valueOf 14 = .ok (.iload_n 2, 1) := by decide +kernel
theorem d_M_valueOf_15 : decode b_M_valueOf 15 = .ok (.iaload, 1) := by decide +kernel
theorem d_M_valueOf_16 : decode b_M_valueOf 16 = .ok (.if_icmp .ge 79, 3) := by decide +kernel
theorem d_M_valueOf_19 : decode b_M_valueOf 19 = .ok (.aload_n 0, 1) := by decide +kernel
theorem d_M_valueOf_20 : decode b_M_valueOf 20 = .ok (.getfield 30, 3) := by decide +kernel
theorem d_M_valueOf_23 : decode b_M_valueOf 23 = .ok (.iload_n 2, 1) := by decide +kernel
theorem d_M_valueOf_24 : decode b_M_valueOf 24 = .ok (.baload, 1) := by decide +kernel
theorem d_M_valueOf_25 : decode b_M_valueOf 25 = .ok (.ifCond .eq 20, 3) := by decide +kernel
theorem d_M_valueOf_28 : decode b_M_valueOf 28 = .ok (.iload 5, 2) := by decide +kernel
theorem d_M_valueOf_30 : decode b_M_valueOf 30 = .ok (.aload_n 0, 1) := by decide +kernel
theorem d_M_valueOf_31 : decode b_M_valueOf 31 = .ok (.getfield 27, 3) := by decide +kernel
theorem d_M_valueOf_34 : decode b_M_valueOf 34 = .ok (.iload_n 2, 1) := by decide +kernel
theorem d_M_valueOf_35 : decode b_M_valueOf 35 = .ok (.iaload, 1) := by decide +kernel
theorem d_M_valueOf_36 : decode b_M_valueOf 36 = .ok (.iconst 1, 1) := by decide +kernel
theorem d_M_valueOf_37 : decode b_M_valueOf 37 = .ok (.isub, 1) := by decide +kernel
theorem d_M_valueOf_38 : decode b_M_valueOf 38 = .ok (.if_icmp .ne 7, 3) := by decide +kernel
theorem d_M_valueOf_41 : decode b_M_valueOf 41 = .ok (.iconst 1, 1) := by decide +kernel
theorem d_M_valueOf_42 : decode b_M_valueOf 42 = .ok (.goto 4, 3) := by decide +kernel
theorem d_M_valueOf_45 : decode b_M_valueOf 45 = .ok (.iconst 0, 1) := by decide +kernel
theorem d_M_valueOf_46 : decode b_M_valueOf 46 = .ok (.istore 6, 2) := by decide +kernel
theorem d_M_valueOf_48 : decode b_M_valueOf 48 = .ok (.iload_n 3, 1) := by decide +kernel
theorem d_M_valueOf_49 : decode b_M_valueOf 49 = .ok (.aload_n 0, 1) := by decide +kernel
theorem d_M_valueOf_50 : decode b_M_valueOf 50 = .ok (.getfield 13, 3) := by decide +kernel
theorem d_M_valueOf_53 : decode b_M_valueOf 53 = .ok (.iload_n 1, 1) := by decide +kernel
theorem d_M_valueOf_54 : decode b_M_valueOf 54 = .ok (.iaload, 1) := by decide +kernel
theorem d_M_valueOf_55 : decode b_M_valueOf 55 = .ok (.aload_n 0, 1) := by decide +kernel
theorem d_M_valueOf_56 : decode b_M_valueOf 56 = .ok (.getfield 24, 3) := by decide +kernel
theorem d_M_valueOf_59 : decode b_M_valueOf 59 = .ok (.iload_n 2, 1) := by decide +kernel
theorem d_M_valueOf_60 : decode b_M_valueOf 60 = .ok (.iaload, 1) := by decide +kernel
theorem d_M_valueOf_61 : decode b_M_valueOf 61 = .ok (.iload 5, 2) := by decide +kernel
theorem d_M_valueOf_63 : decode b_M_valueOf 63 = .ok (.iadd, 1) := by decide +kernel
theorem d_M_valueOf_64 : decode b_M_valueOf 64 = .ok (.ishr, 1) := by decide +kernel
theorem d_M_valueOf_65 : decode b_M_valueOf 65 = .ok (.iconst 1, 1) := by decide +kernel
theorem d_M_valueOf_66 : decode b_M_valueOf 66 = .ok (.iand, 1) := by decide +kernel
theorem d_M_valueOf_67 : decode b_M_valueOf 67 = .ok (.iload 6, 2) := by decide +kernel
theorem d_M_valueOf_69 : decode b_M_valueOf 69 = .ok (.ifCond .eq 9, 3) := by decide +kernel
theorem d_M_valueOf_72 : decode b_M_valueOf 72 = .ok (.iload 4, 2) := by decide +kernel
theorem d_M_valueOf_74 : decode b_M_valueOf 74 = .ok (.ineg, 1) := by decide +kernel
theorem d_M_valueOf_75 : decode b_M_valueOf 75 = .ok (.goto 5, 3) := by decide +kernel
theorem d_M_valueOf_78 : decode b_M_valueOf 78 = .ok (.iload 4, 2) := by decide +kernel
theorem d_M_valueOf_80 : decode b_M_valueOf 80 = .ok (.imul, 1) := by decide +kernel
theorem d_M_valueOf_81 : decode b_M_valueOf 81 = .ok (.iadd, 1) := by decide +kernel
theorem d_M_valueOf_82 : decode b_M_valueOf 82 = .ok (.istore_n 3, 1) := by decide +kernel
theorem d_M_valueOf_83 : decode b_M_valueOf 83 = .ok (.iconst 2, 1) := by decide +kernel
theorem d_M_valueOf_84 : decode b_M_valueOf 84 = .ok (.iload 4, 2) := by decide +kernel
theorem d_M_valueOf_86 : decode b_M_valueOf 86 = .ok (.imul, 1) := by decide +kernel
theorem d_M_valueOf_87 : decode b_M_valueOf 87 = .ok (.istore 4, 2) := by decide +kernel
theorem d_M_valueOf_89 : decode b_M_valueOf 89 = .ok (.iinc 5 1, 3) := by decide +kernel
theorem d_M_valueOf_92 : decode b_M_valueOf 92 = .ok (.goto (-84), 3) := by decide +kernel
theorem d_M_valueOf_95 : decode b_M_valueOf 95 = .ok (.iload_n 3, 1) := by decide +kernel
theorem d_M_valueOf_96 : decode b_M_valueOf 96 = .ok (.ireturn, 1) := by decide +kernel
theorem d_M_bit_0 : decode b_M_bit 0 = .ok (.aload_n 0, 1) := by decide +kernel
theorem d_M_bit_1 : decode b_M_bit 1 = .ok (.iload_n 1, 1) := by decide +kernel
theorem d_M_bit_2 : decode b_M_bit 2 = .ok (.invokestatic 83, 3) := by decide +kernel
theorem d_M_bit_5 : decode b_M_bit 5 = .ok (.ifCond .eq 14, 3) := by decide +kernel
theorem d_M_bit_8 : decode b_M_bit 8 = .ok (.iload_n 2, 1) := by decide +kernel
theorem d_M_bit_9 : decode b_M_bit 9 = .ok (.invokestatic 83, 3) := by decide +kernel
theorem d_M_bit_12 : decode b_M_bit 12 = .ok (.ifCond .eq 7, 3) := by decide +kernel
theorem d_M_bit_15 : decode b_M_bit 15 = .ok (.iconst 0, 1) := by decide +kernel
theorem d_M_bit_16 : decode b_M_bit 16 = .ok (.goto 4, 3) := by decide +kernel
theorem d_M_bit_19 : decode b_M_bit 19 = .ok (.iconst 1, 1) := by decide +kernel
theorem d_M_bit_20 : decode b_M_bit 20 = .ok (.putfield 73, 3) := by decide +kernel
theorem d_M_bit_23 : decode b_M_bit 23 = .ok (.aload_n 0, 1) := by decide +kernel
theorem d_M_bit_24 : decode b_M_bit 24 = .ok (.getfield 73, 3) := by decide +kernel
theorem d_M_bit_27 : decode b_M_bit 27 = .ok (.ifCond .ne 21, 3) := by decide +kernel
theorem d_M_bit_30 : decode b_M_bit 30 = .ok (.aload_n 0, 1) := by decide +kernel
theorem d_M_bit_31 : decode b_M_bit 31 = .ok (.getfield 13, 3) := by decide +kernel
theorem d_M_bit_34 : decode b_M_bit 34 = .ok (.iload_n 1, 1) := by decide +kernel
theorem d_M_bit_35 : decode b_M_bit 35 = .ok (.iaload, 1) := by decide +kernel
theorem d_M_bit_36 : decode b_M_bit 36 = .ok (.iload_n 2, 1) := by decide +kernel
theorem d_M_bit_37 : decode b_M_bit 37 = .ok (.ishr, 1) := by decide +kernel
theorem d_M_bit_38 : decode b_M_bit 38 = .ok (.iconst 1, 1) := by decide +kernel
theorem d_M_bit_39 : decode b_M_bit 39 = .ok (.iand, 1) := by decide +kernel
theorem d_M_bit_40 : decode b_M_bit 40 = .ok (.iconst 1, 1) := by decide +kernel
theorem d_M_bit_41 : decode b_M_bit 41 = .ok (.if_icmp .ne 7, 3) := by decide +kernel
theorem d_M_bit_44 : decode b_M_bit 44 = .ok (.iconst 1, 1) := by decide +kernel
theorem d_M_bit_45 : decode b_M_bit 45 = .ok (.goto 4, 3) := by decide +kernel
theorem d_M_bit_48 : decode b_M_bit 48 = .ok (.iconst 0, 1) := by decide +kernel
theorem d_M_bit_49 : decode b_M_bit 49 = .ok (.ireturn, 1) := by decide +kernel
theorem d_M_search_0 : decode b_M_search 0 = .ok (.aload_n 0, 1) := by decide +kernel
theorem d_M_search_1 : decode b_M_search 1 = .ok (.iconst 0, 1) := by decide +kernel
theorem d_M_search_2 : decode b_M_search 2 = .ok (.putfield 73, 3) := by decide +kernel
theorem d_M_search_5 : decode b_M_search 5 = .ok (.iconst 0, 1) := by decide +kernel
theorem d_M_search_6 : decode b_M_search 6 = .ok (.istore 4, 2) := by decide +kernel
theorem d_M_search_8 : decode b_M_search 8 = .ok (.iconst 0, 1) := by decide +kernel
theorem d_M_search_9 : decode b_M_search 9 = .ok (.istore 5, 2) := by decide +kernel
theorem d_M_search_11 : decode b_M_search 11 = .ok (.iload 5, 2) := by decide +kernel
theorem d_M_search_13 : decode b_M_search 13 = .ok (.bipush 32, 2) := by decide +kernel
theorem d_M_search_15 : decode b_M_search 15 = .ok (.if_icmp .ge 79, 3) := by decide +kernel
theorem d_M_search_18 : decode b_M_search 18 = .ok (.aload_n 0, 1) := by decide +kernel
theorem d_M_search_19 : decode b_M_search 19 = .ok (.getfield 17, 3) := by decide +kernel
theorem d_M_search_22 : decode b_M_search 22 = .ok (.iload 5, 2) := by decide +kernel
theorem d_M_search_24 : decode b_M_search 24 = .ok (.aload_n 0, 1) := by decide +kernel
theorem d_M_search_25 : decode b_M_search 25 = .ok (.getfield 7, 3) := by decide +kernel
theorem d_M_search_28 : decode b_M_search 28 = .ok (.iload 5, 2) := by decide +kernel
theorem d_M_search_30 : decode b_M_search 30 = .ok (.baload, 1) := by decide +kernel
theorem d_M_search_31 : decode b_M_search 31 = .ok (.ifCond .eq 35, 3) := by decide +kernel
theorem d_M_search_34 : decode b_M_search 34 = .ok (.iload_n 3, 1) := by decide +kernel
theorem d_M_search_35 : decode b_M_search 35 = .ok (.ifCond .eq 13, 3) := by decide +kernel
theorem d_M_search_38 : decode b_M_search 38 = .ok (.aload_n 0, 1) := by decide +kernel
theorem d_M_search_39 : decode b_M_search 39 = .ok (.getfield 17, 3) := by decide +kernel
theorem d_M_search_42 : decode b_M_search 42 = .ok (.iload 5, 2) := by decide +kernel
theorem d_M_search_44 : decode b_M_search 44 = .ok (.baload, 1) := by decide +kernel
theorem d_M_search_45 : decode b_M_search 45 = .ok (.ifCond .eq 21, 3) := by decide +kernel
theorem d_M_search_48 : decode b_M_search 48 = .ok (.aload_n 0, 1) := by decide +kernel
theorem d_M_search_49 : decode b_M_search 49 = .ok (.getfield 13, 3) := by decide +kernel
theorem d_M_search_52 : decode b_M_search 52 = .ok (.iload 5, 2) := by decide +kernel
theorem d_M_search_54 : decode b_M_search 54 = .ok (.iaload, 1) := by decide +kernel
theorem d_M_search_55 : decode b_M_search 55 = .ok (.iload_n 2, 1) := by decide +kernel
theorem d_M_search_56 : decode b_M_search 56 = .ok (.ixor, 1) := by decide +kernel
theorem d_M_search_57 : decode b_M_search 57 = .ok (.iload_n 1, 1) := by decide +kernel
theorem d_M_search_58 : decode b_M_search 58 = .ok (.iand, 1) := by decide +kernel
theorem d_M_search_59 : decode b_M_search 59 = .ok (.ifCond .ne 7, 3) := by decide +kernel
theorem d_M_search_62 : decode b_M_search 62 = .ok (.iconst 1, 1) := by decide +kernel
theorem d_M_search_63 : decode b_M_search 63 = .ok (.goto 4, 3) := by decide +kernel
theorem d_M_search_66 : decode b_M_search 66 = .ok (.iconst 0, 1) := by decide +kernel
theorem d_M_search_67 : decode b_M_search 67 = .ok (.bastore, 1) := by decide +kernel
theorem d_M_search_68 : decode b_M_search 68 = .ok (.iload 4, 2) := by decide +kernel
theorem d_M_search_70 : decode b_M_search 70 = .ok (.aload_n 0, 1) := by decide +kernel
theorem d_M_search_71 : decode b_M_search 71 = .ok (.getfield 17, 3) := by decide +kernel
theorem d_M_search_74 : decode b_M_search 74 = .ok (.iload 5, 2) := by decide +kernel
theorem d_M_search_76 : decode b_M_search 76 = .ok (.baload, 1) := by decide +kernel
theorem d_M_search_77 : decode b_M_search 77 = .ok (.ifCond .eq 7, 3) := by decide +kernel
theorem d_M_search_80 : decode b_M_search 80 = .ok (.iconst 1, 1) := by decide +kernel
theorem d_M_search_81 : decode b_M_search 81 = .ok (.goto 4, 3) := by decide +kernel
theorem d_M_search_84 : decode b_M_search 84 = .ok (.iconst 0, 1) := by decide +kernel
theorem d_M_search_85 : decode b_M_search 85 = .ok (.iadd, 1) := by decide +kernel
theorem d_M_search_86 : decode b_M_search 86 = .ok (.istore 4, 2) := by decide +kernel
theorem d_M_search_88 : decode b_M_search 88 = .ok (.iinc 5 1, 3) := by decide +kernel
theorem d_M_search_91 : decode b_M_search 91 = .ok (.goto (-80), 3) := by decide +kernel
theorem d_M_search_94 : decode b_M_search 94 = .ok (.iload 4, 2) := by decide +kernel
theorem d_M_search_96 : decode b_M_search 96 = .ok (.ireturn, 1) := by decide +kernel
theorem d_M_multi_0 : decode b_M_multi 0 = .ok (.aload_n 0, 1) := by decide +kernel
theorem d_M_multi_1 : decode b_M_multi 1 = .ok (.iload_n 1, 1) := by decide +kernel
theorem d_M_multi_2 : decode b_M_multi 2 = .ok (.ldc 99, 2) := by decide +kernel
theorem d_M_multi_4 : decode b_M_multi 4 = .ok (.iand, 1) := by decide +kernel
theorem d_M_multi_5 : decode b_M_multi 5 = .ok (.ifCond .eq 7, 3) := by decide +kernel
theorem d_M_multi_8 : decode b_M_multi 8 = .ok (.iconst 1, 1) := by decide +kernel
theorem d_M_multi_9 : decode b_M_multi 9 = .ok (.goto 4, 3) := by decide +kernel
theorem d_M_multi_12 : decode b_M_multi 12 = .ok (.iconst 0, 1) := by decide +kernel
theorem d_M_multi_13 : decode b_M_multi 13 = .ok (.putfield 73, 3) := by decide +kernel
theorem d_M_multi_16 : decode b_M_multi 16 = .ok (.iconst 0, 1) := by decide +kernel
theorem d_M_multi_17 : decode b_M_multi 17 = .ok (.istore_n 3, 1) := by decide +kernel
theorem d_M_multi_18 : decode b_M_multi 18 = .ok (.iload_n 3, 1) := by decide +kernel
theorem d_M_multi_19 : decode b_M_multi 19 = .ok (.bipush 32, 2) := by decide +kernel
theorem d_M_multi_21 : decode b_M_multi 21 = .ok (.if_icmp .ge 54, 3) := by decide +kernel
theorem d_M_multi_24 : decode b_M_multi 24 = .ok (.aload_n 0, 1) := by decide +kernel
theorem d_M_multi_25 : decode b_M_multi 25 = .ok (.getfield 73, 3) := by decide +kernel
theorem d_M_multi_28 : decode b_M_multi 28 = .ok (.ifCond .ne 47, 3) := by decide +kernel
theorem d_M_multi_31 : decode b_M_multi 31 = .ok (.aload_n 0, 1) := by decide +kernel
theorem d_M_multi_32 : decode b_M_multi 32 = .ok (.getfield 13, 3) := by decide +kernel
theorem d_M_multi_35 : decode b_M_multi 35 = .ok (.iload_n 3, 1) := by decide +kernel
theorem d_M_multi_36 : decode b_M_multi 36 = .ok (.aload_n 0, 1) := by decide +kernel
theorem d_M_multi_37 : decode b_M_multi 37 = .ok (.getfield 17, 3) := by decide +kernel
theorem d_M_multi_40 : decode b_M_multi 40 = .ok (.iload_n 3, 1) := by decide +kernel
theorem d_M_multi_41 : decode b_M_multi 41 = .ok (.baload, 1) := by decide +kernel
theorem d_M_multi_42 : decode b_M_multi 42 = .ok (.ifCond .eq 20, 3) := by decide +kernel
theorem d_M_multi_45 : decode b_M_multi 45 = .ok (.aload_n 0, 1) := by decide +kernel
theorem d_M_multi_46 : decode b_M_multi 46 = .ok (.getfield 13, 3) := by decide +kernel
theorem d_M_multi_49 : decode b_M_multi 49 = .ok (.iload_n 3, 1) := by decide +kernel
theorem d_M_multi_50 : decode b_M_multi 50 = .ok (.iaload, 1) := by decide +kernel
theorem d_M_multi_51 : decode b_M_multi 51 = .ok (.iload_n 1, 1) := by decide +kernel
theorem d_M_multi_52 : decode b_M_multi 52 = .ok (.iconst (-1), 1) := by decide +kernel
theorem d_M_multi_53 : decode b_M_multi 53 = .ok (.ixor, 1) := by decide +kernel
theorem d_M_multi_54 : decode b_M_multi 54 = .ok (.iand, 1) := by decide +kernel
theorem d_M_multi_55 : decode b_M_multi 55 = .ok (.iload_n 2, 1) := by decide +kernel
theorem d_M_multi_56 : decode b_M_multi 56 = .ok (.iload_n 1, 1) := by decide +kernel
theorem d_M_multi_57 : decode b_M_multi 57 = .ok (.iand, 1) := by decide +kernel
theorem d_M_multi_58 : decode b_M_multi 58 = .ok (.ior, 1) := by decide +kernel
theorem d_M_multi_59 : decode b_M_multi 59 = .ok (.goto 9, 3) := by decide +kernel
theorem d_M_multi_62 : decode b_M_multi 62 = .ok (.aload_n 0, 1) := by decide +kernel
theorem d_M_multi_63 : decode b_M_multi 63 = .ok (.getfield 13, 3) := by decide +kernel
theorem d_M_multi_66 : decode b_M_multi 66 = .ok (.iload_n 3, 1) := by decide +kernel
theorem d_M_multi_67 : decode b_M_multi 67 = .ok (.iaload, 1) := by decide +kernel
theorem d_M_multi_68 : decode b_M_multi 68 = .ok (.iastore, 1) := by decide +kernel
theorem d_M_multi_69 : decode b_M_multi 69 = .ok (.iinc 3 1, 3) := by decide +kernel
theorem d_M_multi_72 : decode b_M_multi 72 = .ok (.goto (-54), 3) := by decide +kernel
theorem d_M_multi_75 : decode b_M_multi 75 = .ok (.return_, 1) := by decide +kernel
theorem d_M_responds_0 : decode b_M_responds 0 = .ok (.aload_n 0, 1) := by decide +kernel
theorem d_M_responds_1 : decode b_M_responds 1 = .ok (.iload_n 1, 1) := by decide +kernel
theorem d_M_responds_2 : decode b_M_responds 2 = .ok (.invokestatic 83, 3) := by decide +kernel
theorem d_M_responds_5 : decode b_M_responds 5 = .ok (.ifCond .eq 7, 3) := by decide +kernel
theorem d_M_responds_8 : decode b_M_responds 8 = .ok (.iconst 0, 1) := by decide +kernel
theorem d_M_responds_9 : decode b_M_responds 9 = .ok (.goto 4, 3) := by decide +kernel
theorem d_M_responds_12 : decode b_M_responds 12 = .ok (.iconst 1, 1) := by decide +kernel
theorem d_M_responds_13 : decode b_M_responds 13 = .ok (.putfield 73, 3) := by decide +kernel
theorem d_M_responds_16 : decode b_M_responds 16 = .ok (.aload_n 0, 1) := by decide +kernel
theorem d_M_responds_17 : decode b_M_responds 17 = .ok (.getfield 73, 3) := by decide +kernel
theorem d_M_responds_20 : decode b_M_responds 20 = .ok (.ifCond .ne 16, 3) := by decide +kernel
theorem d_M_responds_23 : decode b_M_responds 23 = .ok (.aload_n 0, 1) := by decide +kernel
theorem d_M_responds_24 : decode b_M_responds 24 = .ok (.getfield 17, 3) := by decide +kernel
theorem d_M_responds_27 : decode b_M_responds 27 = .ok (.iload_n 1, 1) := by decide +kernel
theorem d_M_responds_28 : decode b_M_responds 28 = .ok (.baload, 1) := by decide +kernel
theorem d_M_responds_29 : decode b_M_responds 29 = .ok (.ifCond .eq 7, 3) := by decide +kernel
theorem d_M_responds_32 : decode b_M_responds 32 = .ok (.iconst 1, 1) := by decide +kernel
theorem d_M_responds_33 : decode b_M_responds 33 = .ok (.goto 4, 3) := by decide +kernel
theorem d_M_responds_36 : decode b_M_responds 36 = .ok (.iconst 0, 1) := by decide +kernel
theorem d_M_responds_37 : decode b_M_responds 37 = .ok (.ireturn, 1) := by decide +kernel
theorem d_M_first_0 : decode b_M_first 0 = .ok (.aload_n 0, 1) := by decide +kernel
theorem d_M_first_1 : decode b_M_first 1 = .ok (.iconst 0, 1) := by decide +kernel
theorem d_M_first_2 : decode b_M_first 2 = .ok (.putfield 73, 3) := by decide +kernel
theorem d_M_first_5 : decode b_M_first 5 = .ok (.iconst 0, 1) := by decide +kernel
theorem d_M_first_6 : decode b_M_first 6 = .ok (.istore_n 1, 1) := by decide +kernel
theorem d_M_first_7 : decode b_M_first 7 = .ok (.iload_n 1, 1) := by decide +kernel
theorem d_M_first_8 : decode b_M_first 8 = .ok (.bipush 32, 2) := by decide +kernel
theorem d_M_first_10 : decode b_M_first 10 = .ok (.if_icmp .ge 27, 3) := by decide +kernel
theorem d_M_first_13 : decode b_M_first 13 = .ok (.aload_n 0, 1) := by decide +kernel
theorem d_M_first_14 : decode b_M_first 14 = .ok (.getfield 17, 3) := by decide +kernel
theorem d_M_first_17 : decode b_M_first 17 = .ok (.iload_n 1, 1) := by decide +kernel
theorem d_M_first_18 : decode b_M_first 18 = .ok (.baload, 1) := by decide +kernel
theorem d_M_first_19 : decode b_M_first 19 = .ok (.ifCond .eq 12, 3) := by decide +kernel
theorem d_M_first_22 : decode b_M_first 22 = .ok (.aload_n 0, 1) := by decide +kernel
theorem d_M_first_23 : decode b_M_first 23 = .ok (.getfield 17, 3) := by decide +kernel
theorem d_M_first_26 : decode b_M_first 26 = .ok (.iload_n 1, 1) := by decide +kernel
theorem d_M_first_27 : decode b_M_first 27 = .ok (.iconst 0, 1) := by decide +kernel
theorem d_M_first_28 : decode b_M_first 28 = .ok (.bastore, 1) := by decide +kernel
theorem d_M_first_29 : decode b_M_first 29 = .ok (.iload_n 1, 1) := by decide +kernel
theorem d_M_first_30 : decode b_M_first 30 = .ok (.ireturn, 1) := by decide +kernel
theorem d_M_first_31 : decode b_M_first 31 = .ok (.iinc 1 1, 3) := by decide +kernel
theorem d_M_first_34 : decode b_M_first 34 = .ok (.goto (-27), 3) := by decide +kernel
theorem d_M_first_37 : decode b_M_first 37 = .ok (.iconst (-1), 1) := by decide +kernel
theorem d_M_first_38 : decode b_M_first 38 = .ok (.ireturn, 1) := by decide +kernel
theorem d_M_write_0 : decode b_M_write 0 = .ok (.aload_n 0, 1) := by decide +kernel
theorem d_M_write_1 : decode b_M_write 1 = .ok (.iconst 0, 1) := by decide +kernel
theorem d_M_write_2 : decode b_M_write 2 = .ok (.putfield 73, 3) := by decide +kernel
theorem d_M_write_5 : decode b_M_write 5 = .ok (.iconst 0, 1) := by decide +kernel
theorem d_M_write_6 : decode b_M_write 6 = .ok (.istore_n 3, 1) := by decide +kernel
theorem d_M_write_7 : decode b_M_write 7 = .ok (.iconst 0, 1) := by decide +kernel
theorem d_M_write_8 : decode b_M_write 8 = .ok (.istore 4, 2) := by decide +kernel
theorem d_M_write_10 : decode b_M_write 10 = .ok (.iload 4, 2) := by decide +kernel
theorem d_M_write_12 : decode b_M_write 12 = .ok (.bipush 8, 2) := by decide +kernel
theorem d_M_write_14 : decode b_M_write 14 = .ok (.if_icmp .ge 57, 3) := by decide +kernel
theorem d_M_write_17 : decode b_M_write 17 = .ok (.lload_n 1, 1) := by decide +kernel
theorem d_M_write_18 : decode b_M_write 18 = .ok (.bipush 8, 2) := by decide +kernel
theorem d_M_write_20 : decode b_M_write 20 = .ok (.iload 4, 2) := by decide +kernel
theorem d_M_write_22 : decode b_M_write 22 = .ok (.imul, 1) := by decide +kernel
theorem d_M_write_23 : decode b_M_write 23 = .ok (.lshr, 1) := by decide +kernel
theorem d_M_write_24 : decode b_M_write 24 = .ok (.ldc2_w 100, 3) := by decide +kernel
theorem d_M_write_27 : decode b_M_write 27 = .ok (.land, 1) := by decide +kernel
theorem d_M_write_28 : decode b_M_write 28 = .ok (.l2i, 1) := by decide +kernel
theorem d_M_write_29 : decode b_M_write 29 = .ok (.istore 5, 2) := by decide +kernel
theorem d_M_write_31 : decode b_M_write 31 = .ok (.iload 5, 2) := by decide +kernel
theorem d_M_write_33 : decode b_M_write 33 = .ok (.ifCond .eq 19, 3) := by decide +kernel
theorem d_M_write_36 : decode b_M_write 36 = .ok (.iload 5, 2) := by decide +kernel
theorem d_M_write_38 : decode b_M_write 38 = .ok (.bipush 32, 2) := by decide +kernel
theorem d_M_write_40 : decode b_M_write 40 = .ok (.if_icmp .lt 10, 3) := by decide +kernel
theorem d_M_write_43 : decode b_M_write 43 = .ok (.iload 5, 2) := by decide +kernel
theorem d_M_write_45 : decode b_M_write 45 = .ok (.bipush 126, 2) := by decide +kernel
theorem d_M_write_47 : decode b_M_write 47 = .ok (.if_icmp .le 5, 3) := by decide +kernel
theorem d_M_write_50 : decode b_M_write 50 = .ok (.iconst 0, 1) := by decide +kernel
theorem d_M_write_51 : decode b_M_write 51 = .ok (.ireturn, 1) := by decide +kernel
theorem d_M_write_52 : decode b_M_write 52 = .ok (.iload_n 3, 1) := by decide +kernel
theorem d_M_write_53 : decode b_M_write 53 = .ok (.iload 5, 2) := by decide +kernel
theorem d_M_write_55 : decode b_M_write 55 = .ok (.ifCond .ne 7, 3) := by decide +kernel
theorem d_M_write_58 : decode b_M_write 58 = .ok (.iconst 0, 1) := by decide +kernel
theorem d_M_write_59 : decode b_M_write 59 = .ok (.goto 4, 3) := by decide +kernel
theorem d_M_write_62 : decode b_M_write 62 = .ok (.iconst 1, 1) := by decide +kernel
theorem d_M_write_63 : decode b_M_write 63 = .ok (.iadd, 1) := by decide +kernel
theorem d_M_write_64 : decode b_M_write 64 = .ok (.istore_n 3, 1) := by decide +kernel
theorem d_M_write_65 : decode b_M_write 65 = .ok (.iinc 4 1, 3) := by decide +kernel
theorem d_M_write_68 : decode b_M_write 68 = .ok (.goto (-58), 3) := by decide +kernel
theorem d_M_write_71 : decode b_M_write 71 = .ok (.aload_n 0, 1) := by decide +kernel
theorem d_M_write_72 : decode b_M_write 72 = .ok (.getfield 102, 3) := by decide +kernel
theorem d_M_write_75 : decode b_M_write 75 = .ok (.iload_n 3, 1) := by decide +kernel
theorem d_M_write_76 : decode b_M_write 76 = .ok (.iadd, 1) := by decide +kernel
theorem d_M_write_77 : decode b_M_write 77 = .ok (.bipush 100, 2) := by decide +kernel
theorem d_M_write_79 : decode b_M_write 79 = .ok (.if_icmp .le 5, 3) := by decide +kernel
theorem d_M_write_82 : decode b_M_write 82 = .ok (.iconst 0, 1) := by decide +kernel
theorem d_M_write_83 : decode b_M_write 83 = .ok (.ireturn, 1) := by decide +kernel
theorem d_M_write_84 : decode b_M_write 84 = .ok (.iconst 0, 1) := by decide +kernel
theorem d_M_write_85 : decode b_M_write 85 = .ok (.istore 4, 2) := by decide +kernel
theorem d_M_write_87 : decode b_M_write 87 = .ok (.iload 4, 2) := by decide +kernel
theorem d_M_write_89 : decode b_M_write 89 = .ok (.bipush 8, 2) := by decide +kernel
theorem d_M_write_91 : decode b_M_write 91 = .ok (.if_icmp .ge 50, 3) := by decide +kernel
theorem d_M_write_94 : decode b_M_write 94 = .ok (.lload_n 1, 1) := by decide +kernel
theorem d_M_write_95 : decode b_M_write 95 = .ok (.bipush 8, 2) := by decide +kernel
theorem d_M_write_97 : decode b_M_write 97 = .ok (.iload 4, 2) := by decide +kernel
theorem d_M_write_99 : decode b_M_write 99 = .ok (.imul, 1) := by decide +kernel
theorem d_M_write_100 : decode b_M_write 100 = .ok (.lshr, 1) := by decide +kernel
theorem d_M_write_101 : decode b_M_write 101 = .ok (.ldc2_w 100, 3) := by decide +kernel
theorem d_M_write_104 : decode b_M_write 104 = .ok (.land, 1) := by decide +kernel
theorem d_M_write_105 : decode b_M_write 105 = .ok (.l2i, 1) := by decide +kernel
theorem d_M_write_106 : decode b_M_write 106 = .ok (.istore 5, 2) := by decide +kernel
theorem d_M_write_108 : decode b_M_write 108 = .ok (.iload 5, 2) := by decide +kernel
theorem d_M_write_110 : decode b_M_write 110 = .ok (.ifCond .eq 25, 3) := by decide +kernel
theorem d_M_write_113 : decode b_M_write 113 = .ok (.aload_n 0, 1) := by decide +kernel
theorem d_M_write_114 : decode b_M_write 114 = .ok (.getfield 33, 3) := by decide +kernel
theorem d_M_write_117 : decode b_M_write 117 = .ok (.aload_n 0, 1) := by decide +kernel
theorem d_M_write_118 : decode b_M_write 118 = .ok (.getfield 102, 3) := by decide +kernel
theorem d_M_write_121 : decode b_M_write 121 = .ok (.iload 5, 2) := by decide +kernel
theorem d_M_write_123 : decode b_M_write 123 = .ok (.i2c, 1) := by decide +kernel
theorem d_M_write_124 : decode b_M_write 124 = .ok (.castore, 1) := by decide +kernel
theorem d_M_write_125 : decode b_M_write 125 = .ok (.aload_n 0, 1) := by decide +kernel
theorem d_M_write_126 : decode b_M_write 126 = .ok (.dup, 1) := by decide +kernel
theorem d_M_write_127 : decode b_M_write 127 = .ok (.getfield 102, 3) := by decide +kernel
theorem d_M_write_130 : decode b_M_write 130 = .ok (.iconst 1, 1) := by decide +kernel
theorem d_M_write_131 : decode b_M_write 131 = .ok (.iadd, 1) := by decide +kernel
theorem d_M_write_132 : decode b_M_write 132 = .ok (.putfield 102, 3) := by decide +kernel
theorem d_M_write_135 : decode b_M_write 135 = .ok (.iinc 4 1, 3) := by decide +kernel
theorem d_M_write_138 : decode b_M_write 138 = .ok (.goto (-51), 3) := by decide +kernel
theorem d_M_write_141 : decode b_M_write 141 = .ok (.iconst 1, 1) := by decide +kernel
theorem d_M_write_142 : decode b_M_write 142 = .ok (.ireturn, 1) := by decide +kernel
theorem d_M_wipe_0 : decode b_M_wipe 0 = .ok (.aload_n 0, 1) := by decide +kernel
theorem d_M_wipe_1 : decode b_M_wipe 1 = .ok (.iconst 0, 1) := by decide +kernel
theorem d_M_wipe_2 : decode b_M_wipe 2 = .ok (.putfield 73, 3) := by decide +kernel
theorem d_M_wipe_5 : decode b_M_wipe 5 = .ok (.aload_n 0, 1) := by decide +kernel
theorem d_M_wipe_6 : decode b_M_wipe 6 = .ok (.getfield 102, 3) := by decide +kernel
theorem d_M_wipe_9 : decode b_M_wipe 9 = .ok (.istore_n 1, 1) := by decide +kernel
theorem d_M_wipe_10 : decode b_M_wipe 10 = .ok (.aload_n 0, 1) := by decide +kernel
theorem d_M_wipe_11 : decode b_M_wipe 11 = .ok (.iconst 0, 1) := by decide +kernel
theorem d_M_wipe_12 : decode b_M_wipe 12 = .ok (.putfield 102, 3) := by decide +kernel
theorem d_M_wipe_15 : decode b_M_wipe 15 = .ok (.iload_n 1, 1) := by decide +kernel
theorem d_M_wipe_16 : decode b_M_wipe 16 = .ok (.ireturn, 1) := by decide +kernel
theorem d_M_run_0 : decode b_M_run 0 = .ok (.aload_n 0, 1) := by decide +kernel
theorem d_M_run_1 : decode b_M_run 1 = .ok (.invokevirtual 263, 3) := by decide +kernel
theorem d_M_run_4 : decode b_M_run 4 = .ok (.istore_n 1, 1) := by decide +kernel
theorem d_M_run_5 : decode b_M_run 5 = .ok (.aload_n 0, 1) := by decide +kernel
theorem d_M_run_6 : decode b_M_run 6 = .ok (.iload_n 1, 1) := by decide +kernel
theorem d_M_run_7 : decode b_M_run 7 = .ok (.putfield 36, 3) := by decide +kernel
theorem d_M_run_10 : decode b_M_run 10 = .ok (.aload_n 0, 1) := by decide +kernel
theorem d_M_run_11 : decode b_M_run 11 = .ok (.iload_n 1, 1) := by decide +kernel
theorem d_M_run_12 : decode b_M_run 12 = .ok (.ifCond .lt 7, 3) := by decide +kernel
theorem d_M_run_15 : decode b_M_run 15 = .ok (.iconst 1, 1) := by decide +kernel
theorem d_M_run_16 : decode b_M_run 16 = .ok (.goto 4, 3) := by decide +kernel
theorem d_M_run_19 : decode b_M_run 19 = .ok (.iconst 0, 1) := by decide +kernel
theorem d_M_run_20 : decode b_M_run 20 = .ok (.putfield 73, 3) := by decide +kernel
theorem d_M_run_23 : decode b_M_run 23 = .ok (.aload_n 0, 1) := by decide +kernel
theorem d_M_run_24 : decode b_M_run 24 = .ok (.getfield 73, 3) := by decide +kernel
theorem d_M_run_27 : decode b_M_run 27 = .ok (.ifCond .le 5, 3) := by decide +kernel
theorem d_M_run_30 : decode b_M_run 30 = .ok (.iconst 0, 1) := by decide +kernel
theorem d_M_run_31 : decode b_M_run 31 = .ok (.ireturn, 1) := by decide +kernel
theorem d_M_run_32 : decode b_M_run 32 = .ok (.iconst 0, 1) := by decide +kernel
theorem d_M_run_33 : decode b_M_run 33 = .ok (.istore_n 2, 1) := by decide +kernel
theorem d_M_run_34 : decode b_M_run 34 = .ok (.iconst 0, 1) := by decide +kernel
theorem d_M_run_35 : decode b_M_run 35 = .ok (.istore_n 3, 1) := by decide +kernel
theorem d_M_run_36 : decode b_M_run 36 = .ok (.iload_n 3, 1) := by decide +kernel
theorem d_M_run_37 : decode b_M_run 37 = .ok (.bipush 32, 2) := by decide +kernel
theorem d_M_run_39 : decode b_M_run 39 = .ok (.if_icmp .ge 29, 3) := by decide +kernel
theorem d_M_run_42 : decode b_M_run 42 = .ok (.aload_n 0, 1) := by decide +kernel
theorem d_M_run_43 : decode b_M_run 43 = .ok (.iload_n 3, 1) := by decide +kernel
theorem d_M_run_44 : decode b_M_run 44 = .ok (.invokevirtual 266, 3) := by decide +kernel
theorem d_M_run_47 : decode b_M_run 47 = .ok (.istore 4, 2) := by decide +kernel
theorem d_M_run_49 : decode b_M_run 49 = .ok (.iload_n 2, 1) := by decide +kernel
theorem d_M_run_50 : decode b_M_run 50 = .ok (.iload 4, 2) := by decide +kernel
theorem d_M_run_52 : decode b_M_run 52 = .ok (.ifCond .eq 7, 3) := by decide +kernel
theorem d_M_run_55 : decode b_M_run 55 = .ok (.iconst 1, 1) := by decide +kernel
theorem d_M_run_56 : decode b_M_run 56 = .ok (.goto 4, 3) := by decide +kernel
theorem d_M_run_59 : decode b_M_run 59 = .ok (.iconst 0, 1) := by decide +kernel
theorem d_M_run_60 : decode b_M_run 60 = .ok (.iadd, 1) := by decide +kernel
theorem d_M_run_61 : decode b_M_run 61 = .ok (.istore_n 2, 1) := by decide +kernel
theorem d_M_run_62 : decode b_M_run 62 = .ok (.iinc 3 1, 3) := by decide +kernel
theorem d_M_run_65 : decode b_M_run 65 = .ok (.goto (-29), 3) := by decide +kernel
theorem d_M_run_68 : decode b_M_run 68 = .ok (.iload_n 2, 1) := by decide +kernel
theorem d_M_run_69 : decode b_M_run 69 = .ok (.ifCond .ne 26, 3) := by decide +kernel
theorem d_M_run_72 : decode b_M_run 72 = .ok (.aload_n 0, 1) := by decide +kernel
theorem d_M_run_73 : decode b_M_run 73 = .ok (.getfield 167, 3) := by decide +kernel
theorem d_M_run_76 : decode b_M_run 76 = .ok (.iconst 2, 1) := by decide +kernel
theorem d_M_run_77 : decode b_M_run 77 = .ok (.if_icmp .eq 11, 3) := by decide +kernel
theorem d_M_run_80 : decode b_M_run 80 = .ok (.aload_n 0, 1) := by decide +kernel
theorem d_M_run_81 : decode b_M_run 81 = .ok (.getfield 167, 3) := by decide +kernel
theorem d_M_run_84 : decode b_M_run 84 = .ok (.iconst 3, 1) := by decide +kernel
theorem d_M_run_85 : decode b_M_run 85 = .ok (.if_icmp .ne 10, 3) := by decide +kernel
theorem d_M_run_88 : decode b_M_run 88 = .ok (.aload_n 0, 1) := by decide +kernel
theorem d_M_run_89 : decode b_M_run 89 = .ok (.iconst 2, 1) := by decide +kernel
theorem d_M_run_90 : decode b_M_run 90 = .ok (.putfield 73, 3) := by decide +kernel
theorem d_M_run_93 : decode b_M_run 93 = .ok (.iconst 0, 1) := by decide +kernel
theorem d_M_run_94 : decode b_M_run 94 = .ok (.ireturn, 1) := by decide +kernel
theorem d_M_run_95 : decode b_M_run 95 = .ok (.iconst 0, 1) := by decide +kernel
theorem d_M_run_96 : decode b_M_run 96 = .ok (.istore_n 3, 1) := by decide +kernel
theorem d_M_run_97 : decode b_M_run 97 = .ok (.iload_n 3, 1) := by decide +kernel
theorem d_M_run_98 : decode b_M_run 98 = .ok (.bipush 32, 2) := by decide +kernel
theorem d_M_run_100 : decode b_M_run 100 = .ok (.if_icmp .ge 20, 3) := by decide +kernel
theorem d_M_run_103 : decode b_M_run 103 = .ok (.aload_n 0, 1) := by decide +kernel
theorem d_M_run_104 : decode b_M_run 104 = .ok (.getfield 17, 3) := by decide +kernel
theorem d_M_run_107 : decode b_M_run 107 = .ok (.iload_n 3, 1) := by decide +kernel
theorem d_M_run_108 : decode b_M_run 108 = .ok (.aload_n 0, 1) := by decide +kernel
theorem d_M_run_109 : decode b_M_run 109 = .ok (.iload_n 3, 1) := by decide +kernel
theorem d_M_run_110 : decode b_M_run 110 = .ok (.invokevirtual 266, 3) := by decide +kernel
theorem d_M_run_113 : decode b_M_run 113 = .ok (.bastore, 1) := by decide +kernel
theorem d_M_run_114 : decode b_M_run 114 = .ok (.iinc 3 1, 3) := by decide +kernel
theorem d_M_run_117 : decode b_M_run 117 = .ok (.goto (-20), 3) := by decide +kernel
theorem d_M_run_120 : decode b_M_run 120 = .ok (.aload_n 0, 1) := by decide +kernel
theorem d_M_run_121 : decode b_M_run 121 = .ok (.iconst 0, 1) := by decide +kernel
theorem d_M_run_122 : decode b_M_run 122 = .ok (.putfield 102, 3) := by decide +kernel
theorem d_M_run_125 : decode b_M_run 125 = .ok (.aload_n 0, 1) := by decide +kernel
theorem d_M_run_126 : decode b_M_run 126 = .ok (.iconst 0, 1) := by decide +kernel
theorem d_M_run_127 : decode b_M_run 127 = .ok (.putfield 257, 3) := by decide +kernel
theorem d_M_run_130 : decode b_M_run 130 = .ok (.aload_n 0, 1) := by decide +kernel
theorem d_M_run_131 : decode b_M_run 131 = .ok (.getfield 167, 3) := by decide +kernel
theorem d_M_run_134 : decode b_M_run 134 = .ok (.iconst 1, 1) := by decide +kernel
theorem d_M_run_135 : decode b_M_run 135 = .ok (.if_icmp .ne 10, 3) := by decide +kernel
theorem d_M_run_138 : decode b_M_run 138 = .ok (.aload_n 0, 1) := by decide +kernel
theorem d_M_run_139 : decode b_M_run 139 = .ok (.invokevirtual 269, 3) := by decide +kernel
theorem d_M_run_142 : decode b_M_run 142 = .ok (.goto 35, 3) := by decide +kernel
theorem d_M_run_145 : decode b_M_run 145 = .ok (.aload_n 0, 1) := by decide +kernel
theorem d_M_run_146 : decode b_M_run 146 = .ok (.getfield 167, 3) := by decide +kernel
theorem d_M_run_149 : decode b_M_run 149 = .ok (.iconst 5, 1) := by decide +kernel
theorem d_M_run_150 : decode b_M_run 150 = .ok (.if_icmp .ne 10, 3) := by decide +kernel
theorem d_M_run_153 : decode b_M_run 153 = .ok (.aload_n 0, 1) := by decide +kernel
theorem d_M_run_154 : decode b_M_run 154 = .ok (.invokevirtual 272, 3) := by decide +kernel
theorem d_M_run_157 : decode b_M_run 157 = .ok (.goto 20, 3) := by decide +kernel
theorem d_M_run_160 : decode b_M_run 160 = .ok (.aload_n 0, 1) := by decide +kernel
theorem d_M_run_161 : decode b_M_run 161 = .ok (.getfield 167, 3) := by decide +kernel
theorem d_M_run_164 : decode b_M_run 164 = .ok (.bipush 6, 2) := by decide +kernel
theorem d_M_run_166 : decode b_M_run 166 = .ok (.if_icmp .ne 7, 3) := by decide +kernel
theorem d_M_run_169 : decode b_M_run 169 = .ok (.iload_n 2, 1) := by decide +kernel
theorem d_M_run_170 : decode b_M_run 170 = .ok (.goto 7, 3) := by decide +kernel
theorem d_M_run_173 : decode b_M_run 173 = .ok (.aload_n 0, 1) := by decide +kernel
theorem d_M_run_174 : decode b_M_run 174 = .ok (.invokevirtual 275, 3) := by decide +kernel
theorem d_M_run_177 : decode b_M_run 177 = .ok (.istore_n 3, 1) := by decide +kernel
theorem d_M_run_178 : decode b_M_run 178 = .ok (.iconst 0, 1) := by decide +kernel
theorem d_M_run_179 : decode b_M_run 179 = .ok (.istore 4, 2) := by decide +kernel
theorem d_M_run_181 : decode b_M_run 181 = .ok (.iload 4, 2) := by decide +kernel
theorem d_M_run_183 : decode b_M_run 183 = .ok (.bipush 32, 2) := by decide +kernel
theorem d_M_run_185 : decode b_M_run 185 = .ok (.if_icmp .ge 21, 3) := by decide +kernel
theorem d_M_run_188 : decode b_M_run 188 = .ok (.aload_n 0, 1) := by decide +kernel
theorem d_M_run_189 : decode b_M_run 189 = .ok (.getfield 13, 3) := by decide +kernel
theorem d_M_run_192 : decode b_M_run 192 = .ok (.iload 4, 2) := by decide +kernel
theorem d_M_run_194 : decode b_M_run 194 = .ok (.dup2, 1) := by decide +kernel
theorem d_M_run_195 : decode b_M_run 195 = .ok (.iaload, 1) := by decide +kernel
theorem d_M_run_196 : decode b_M_run 196 = .ok (.ldc 99, 2) := by decide +kernel
theorem d_M_run_198 : decode b_M_run 198 = .ok (.iand, 1) := by decide +kernel
theorem d_M_run_199 : decode b_M_run 199 = .ok (.iastore, 1) := by decide +kernel
theorem d_M_run_200 : decode b_M_run 200 = .ok (.iinc 4 1, 3) := by decide +kernel
theorem d_M_run_203 : decode b_M_run 203 = .ok (.goto (-22), 3) := by decide +kernel
theorem d_M_run_206 : decode b_M_run 206 = .ok (.iload_n 3, 1) := by decide +kernel
theorem d_M_run_207 : decode b_M_run 207 = .ok (.ireturn, 1) := by decide +kernel
theorem d_M_readText_0 : decode b_M_readText 0 = .ok (.aload_n 0, 1) := by decide +kernel
theorem d_M_readText_1 : decode b_M_readText 1 = .ok (.iconst 0, 1) := by decide +kernel
theorem d_M_readText_2 : decode b_M_readText 2 = .ok (.putfield 149, 3) := by decide +kernel
theorem d_M_readText_5 : decode b_M_readText 5 = .ok (.aload_n 0, 1) := by decide +kernel
theorem d_M_readText_6 : decode b_M_readText 6 = .ok (.iconst 0, 1) := by decide +kernel
theorem d_M_readText_7 : decode b_M_readText 7 = .ok (.putfield 152, 3) := by decide +kernel
theorem d_M_readText_10 : decode b_M_readText 10 = .ok (.aload_n 0, 1) := by decide +kernel
theorem d_M_readText_11 : decode b_M_readText 11 = .ok (.iconst 0, 1) := by decide +kernel
theorem d_M_readText_12 : decode b_M_readText 12 = .ok (.putfield 178, 3) := by decide +kernel
theorem d_M_readText_15 : decode b_M_readText 15 = .ok (.aload_n 0, 1) := by decide +kernel
theorem d_M_readText_16 : decode b_M_readText 16 = .ok (.iconst 0, 1) := by decide +kernel
theorem d_M_readText_17 : decode b_M_readText 17 = .ok (.putfield 203, 3) := by decide +kernel
theorem d_M_readText_20 : decode b_M_readText 20 = .ok (.iconst 0, 1) := by decide +kernel
theorem d_M_readText_21 : decode b_M_readText 21 = .ok (.istore_n 1, 1) := by decide +kernel
theorem d_M_readText_22 : decode b_M_readText 22 = .ok (.iconst 0, 1) := by decide +kernel
theorem d_M_readText_23 : decode b_M_readText 23 = .ok (.istore_n 2, 1) := by decide +kernel
theorem d_M_readText_24 : decode b_M_readText 24 = .ok (.aload_n 0, 1) := by decide +kernel
theorem d_M_readText_25 : decode b_M_readText 25 = .ok (.iload_n 2, 1) := by decide +kernel
theorem d_M_readText_26 : decode b_M_readText 26 = .ok (.invokevirtual 238, 3) := by decide +kernel
theorem d_M_readText_29 : decode b_M_readText 29 = .ok (.aload_n 0, 1) := by decide +kernel
theorem d_M_readText_30 : decode b_M_readText 30 = .ok (.getfield 132, 3) := by decide +kernel
theorem d_M_readText_33 : decode b_M_readText 33 = .ok (.ifCond .ne 11, 3) := by decide +kernel
theorem d_M_readText_36 : decode b_M_readText 36 = .ok (.iload_n 1, 1) := by decide +kernel
theorem d_M_readText_37 : decode b_M_readText 37 = .ok (.bipush 16, 2) := by decide +kernel
theorem d_M_readText_39 : decode b_M_readText 39 = .ok (.if_icmp .ne 5, 3) := by decide +kernel
theorem d_M_readText_42 : decode b_M_readText 42 = .ok (.iconst (-1), 1) := by decide +kernel
theorem d_M_readText_43 : decode b_M_readText 43 = .ok (.ireturn, 1) := by decide +kernel
theorem d_M_readText_44 : decode b_M_readText 44 = .ok (.aload_n 0, 1) := by decide +kernel
theorem d_M_readText_45 : decode b_M_readText 45 = .ok (.getfield 132, 3) := by decide +kernel
theorem d_M_readText_48 : decode b_M_readText 48 = .ok (.iconst 4, 1) := by decide +kernel
theorem d_M_readText_49 : decode b_M_readText 49 = .ok (.if_icmp .ne 8, 3) := by decide +kernel
theorem d_M_readText_52 : decode b_M_readText 52 = .ok (.bipush 17, 2) := by decide +kernel
theorem d_M_readText_54 : decode b_M_readText 54 = .ok (.goto 8, 3) := by decide +kernel
theorem d_M_readText_57 : decode b_M_readText 57 = .ok (.aload_n 0, 1) := by decide +kernel
theorem d_M_readText_58 : decode b_M_readText 58 = .ok (.iload_n 1, 1) := by decide +kernel
theorem d_M_readText_59 : decode b_M_readText 59 = .ok (.invokevirtual 241, 3) := by decide +kernel
theorem d_M_readText_62 : decode b_M_readText 62 = .ok (.istore_n 1, 1) := by decide +kernel
theorem d_M_readText_63 : decode b_M_readText 63 = .ok (.iload_n 1, 1) := by decide +kernel
theorem d_M_readText_64 : decode b_M_readText 64 = .ok (.bipush 17, 2) := by decide +kernel
theorem d_M_readText_66 : decode b_M_readText 66 = .ok (.if_icmp .ne 22, 3) := by decide +kernel
theorem d_M_readText_69 : decode b_M_readText 69 = .ok (.aload_n 0, 1) := by decide +kernel
theorem d_M_readText_70 : decode b_M_readText 70 = .ok (.getfield 132, 3) := by decide +kernel
theorem d_M_readText_73 : decode b_M_readText 73 = .ok (.ifCond .ne 10, 3) := by decide +kernel
theorem d_M_readText_76 : decode b_M_readText 76 = .ok (.aload_n 0, 1) := by decide +kernel
theorem d_M_readText_77 : decode b_M_readText 77 = .ok (.getfield 102, 3) := by decide +kernel
theorem d_M_readText_80 : decode b_M_readText 80 = .ok (.goto 7, 3) := by decide +kernel
theorem d_M_readText_83 : decode b_M_readText 83 = .ok (.aload_n 0, 1) := by decide +kernel
theorem d_M_readText_84 : decode b_M_readText 84 = .ok (.getfield 105, 3) := by decide +kernel
theorem d_M_readText_87 : decode b_M_readText 87 = .ok (.ireturn, 1) := by decide +kernel
theorem d_M_readText_88 : decode b_M_readText 88 = .ok (.aload_n 0, 1) := by decide +kernel
theorem d_M_readText_89 : decode b_M_readText 89 = .ok (.getfield 132, 3) := by decide +kernel
theorem d_M_readText_92 : decode b_M_readText 92 = .ok (.ifCond .ne 5, 3) := by decide +kernel
theorem d_M_readText_95 : decode b_M_readText 95 = .ok (.iconst (-1), 1) := by decide +kernel
theorem d_M_readText_96 : decode b_M_readText 96 = .ok (.ireturn, 1) := by decide +kernel
theorem d_M_readText_97 : decode b_M_readText 97 = .ok (.aload_n 0, 1) := by decide +kernel
theorem d_M_readText_98 : decode b_M_readText 98 = .ok (.getfield 112, 3) := by decide +kernel
theorem d_M_readText_101 : decode b_M_readText 101 = .ok (.istore_n 2, 1) := by decide +kernel
theorem d_M_readText_102 : decode b_M_readText 102 = .ok (.goto (-78), 3) := by decide +kernel
theorem d_M_scan_0 : decode b_M_scan 0 = .ok (.aload_n 0, 1) := by decide +kernel
theorem d_M_scan_1 : decode b_M_scan 1 = .ok (.iload_n 1, 1) := by decide +kernel
theorem d_M_scan_2 : decode b_M_scan 2 = .ok (.putfield 105, 3) := by decide +kernel
theorem d_M_scan_5 : decode b_M_scan 5 = .ok (.aload_n 0, 1) := by decide +kernel
theorem d_M_scan_6 : decode b_M_scan 6 = .ok (.aload_n 0, 1) := by decide +kernel
theorem d_M_scan_7 : decode b_M_scan 7 = .ok (.getfield 105, 3) := by decide +kernel
theorem d_M_scan_10 : decode b_M_scan 10 = .ok (.invokevirtual 108, 3) := by decide +kernel
theorem d_M_scan_13 : decode b_M_scan 13 = .ok (.bipush 32, 2) := by decide +kernel
theorem d_M_scan_15 : decode b_M_scan 15 = .ok (.if_icmp .ne 16, 3) := by decide +kernel
theorem d_M_scan_18 : decode b_M_scan 18 = .ok (.aload_n 0, 1) := by decide +kernel
theorem d_M_scan_19 : decode b_M_scan 19 = .ok (.dup, 1) := by decide +kernel
theorem d_M_scan_20 : decode b_M_scan 20 = .ok (.getfield 105, 3) := by decide +kernel
theorem d_M_scan_23 : decode b_M_scan 23 = .ok (.iconst 1, 1) := by decide +kernel
theorem d_M_scan_24 : decode b_M_scan 24 = .ok (.iadd, 1) := by decide +kernel
theorem d_M_scan_25 : decode b_M_scan 25 = .ok (.putfield 105, 3) := by decide +kernel
theorem d_M_scan_28 : decode b_M_scan 28 = .ok (.goto (-23), 3) := by decide +kernel
theorem d_M_scan_31 : decode b_M_scan 31 = .ok (.aload_n 0, 1) := by decide +kernel
theorem d_M_scan_32 : decode b_M_scan 32 = .ok (.aload_n 0, 1) := by decide +kernel
theorem d_M_scan_33 : decode b_M_scan 33 = .ok (.getfield 105, 3) := by decide +kernel
theorem d_M_scan_36 : decode b_M_scan 36 = .ok (.putfield 112, 3) := by decide +kernel
theorem d_M_scan_39 : decode b_M_scan 39 = .ok (.aload_n 0, 1) := by decide +kernel
theorem d_M_scan_40 : decode b_M_scan 40 = .ok (.iconst 0, 1) := by decide +kernel
theorem d_M_scan_41 : decode b_M_scan 41 = .ok (.putfield 115, 3) := by decide +kernel
theorem d_M_scan_44 : decode b_M_scan 44 = .ok (.aload_n 0, 1) := by decide +kernel
theorem d_M_scan_45 : decode b_M_scan 45 = .ok (.lconst 0, 1) := by decide +kernel
theorem d_M_scan_46 : decode b_M_scan 46 = .ok (.putfield 118, 3) := by decide +kernel
theorem d_M_scan_49 : decode b_M_scan 49 = .ok (.aload_n 0, 1) := by decide +kernel
theorem d_M_scan_50 : decode b_M_scan 50 = .ok (.aload_n 0, 1) := by decide +kernel
theorem d_M_scan_51 : decode b_M_scan 51 = .ok (.getfield 105, 3) := by decide +kernel
theorem d_M_scan_54 : decode b_M_scan 54 = .ok (.invokevirtual 108, 3) := by decide +kernel
theorem d_M_scan_57 : decode b_M_scan 57 = .ok (.istore_n 2, 1) := by decide +kernel
theorem d_M_scan_58 : decode b_M_scan 58 = .ok (.aload_n 0, 1) := by decide +kernel
theorem d_M_scan_59 : decode b_M_scan 59 = .ok (.aload_n 0, 1) := by decide +kernel
theorem d_M_scan_60 : decode b_M_scan 60 = .ok (.getfield 105, 3) := by decide +kernel
theorem d_M_scan_63 : decode b_M_scan 63 = .ok (.aload_n 0, 1) := by decide +kernel
theorem d_M_scan_64 : decode b_M_scan 64 = .ok (.getfield 102, 3) := by decide +kernel
theorem d_M_scan_67 : decode b_M_scan 67 = .ok (.if_icmp .lt 7, 3) := by decide +kernel
theorem d_M_scan_70 : decode b_M_scan 70 = .ok (.iconst 0, 1) := by decide +kernel
theorem d_M_scan_71 : decode b_M_scan 71 = .ok (.goto 37, 3) := by decide +kernel
theorem d_M_scan_74 : decode b_M_scan 74 = .ok (.iload_n 2, 1) := by decide +kernel
theorem d_M_scan_75 : decode b_M_scan 75 = .ok (.invokestatic 122, 3) := by decide +kernel
theorem d_M_scan_78 : decode b_M_scan 78 = .ok (.ifCond .eq 7, 3) := by decide +kernel
theorem d_M_scan_81 : decode b_M_scan 81 = .ok (.iconst 1, 1) := by decide +kernel
theorem d_M_scan_82 : decode b_M_scan 82 = .ok (.goto 26, 3) := by decide +kernel
theorem d_M_scan_85 : decode b_M_scan 85 = .ok (.iload_n 2, 1) := by decide +kernel
theorem d_M_scan_86 : decode b_M_scan 86 = .ok (.invokestatic 126, 3) := by decide +kernel
theorem d_M_scan_89 : decode b_M_scan 89 = .ok (.ifCond .eq 7, 3) := by decide +kernel
theorem d_M_scan_92 : decode b_M_scan 92 = .ok (.iconst 2, 1) := by decide +kernel
theorem d_M_scan_93 : decode b_M_scan 93 = .ok (.goto 15, 3) := by decide +kernel
theorem d_M_scan_96 : decode b_M_scan 96 = .ok (.iload_n 2, 1) := by decide +kernel
theorem d_M_scan_97 : decode b_M_scan 97 = .ok (.invokestatic 129, 3) := by decide +kernel
theorem d_M_scan_100 : decode b_M_scan 100 = .ok (.ifCond .eq 7, 3) := by decide +kernel
theorem d_M_scan_103 : decode b_M_scan 103 = .ok (.iconst 3, 1) := by decide +kernel
theorem d_M_scan_104 : decode b_M_scan 104 = .ok (.goto 4, 3) := by decide +kernel
theorem d_M_scan_107 : decode b_M_scan 107 = .ok (.iconst 4, 1) := by decide +kernel
theorem d_M_scan_108 : decode b_M_scan 108 = .ok (.putfield 132, 3) := by decide +kernel
theorem d_M_scan_111 : decode b_M_scan 111 = .ok (.aload_n 0, 1) := by decide +kernel
theorem d_M_scan_112 : decode b_M_scan 112 = .ok (.getfield 132, 3) := by decide +kernel
theorem d_M_scan_115 : decode b_M_scan 115 = .ok (.iconst 1, 1) := by decide +kernel
theorem d_M_scan_116 : decode b_M_scan 116 = .ok (.if_icmp .ne 71, 3) := by decide +kernel
theorem d_M_scan_119 : decode b_M_scan 119 = .ok (.aload_n 0, 1) := by decide +kernel
theorem d_M_scan_120 : decode b_M_scan 120 = .ok (.aload_n 0, 1) := by decide +kernel
theorem d_M_scan_121 : decode b_M_scan 121 = .ok (.getfield 112, 3) := by decide +kernel
theorem d_M_scan_124 : decode b_M_scan 124 = .ok (.invokevirtual 108, 3) := by decide +kernel
theorem d_M_scan_127 : decode b_M_scan 127 = .ok (.invokestatic 122, 3) := by decide +kernel
theorem d_M_scan_130 : decode b_M_scan 130 = .ok (.ifCond .eq 175, 3) := by decide +kernel
theorem d_M_scan_133 : decode b_M_scan 133 = .ok (.aload_n 0, 1) := by decide +kernel
theorem d_M_scan_134 : decode b_M_scan 134 = .ok (.aload_n 0, 1) := by decide +kernel
theorem d_M_scan_135 : decode b_M_scan 135 = .ok (.getfield 112, 3) := by decide +kernel
theorem d_M_scan_138 : decode b_M_scan 138 = .ok (.aload_n 0, 1) := by decide +kernel
theorem d_M_scan_139 : decode b_M_scan 139 = .ok (.getfield 105, 3) := by decide +kernel
theorem d_M_scan_142 : decode b_M_scan 142 = .ok (.isub, 1) := by decide +kernel
theorem d_M_scan_143 : decode b_M_scan 143 = .ok (.bipush 7, 2) := by decide +kernel
theorem d_M_scan_145 : decode b_M_scan 145 = .ok (.if_icmp .ge 23, 3) := by decide +kernel
theorem d_M_scan_148 : decode b_M_scan 148 = .ok (.aload_n 0, 1) := by decide +kernel
theorem d_M_scan_149 : decode b_M_scan 149 = .ok (.getfield 118, 3) := by decide +kernel
theorem d_M_scan_152 : decode b_M_scan 152 = .ok (.bipush 8, 2) := by decide +kernel
theorem d_M_scan_154 : decode b_M_scan 154 = .ok (.lshl, 1) := by decide +kernel
theorem d_M_scan_155 : decode b_M_scan 155 = .ok (.aload_n 0, 1) := by decide +kernel
theorem d_M_scan_156 : decode b_M_scan 156 = .ok (.aload_n 0, 1) := by decide +kernel
theorem d_M_scan_157 : decode b_M_scan 157 = .ok (.getfield 112, 3) := by decide +kernel
theorem d_M_scan_160 : decode b_M_scan 160 = .ok (.invokevirtual 108, 3) := by decide +kernel
theorem d_M_scan_163 : decode b_M_scan 163 = .ok (.i2l, 1) := by decide +kernel
theorem d_M_scan_164 : decode b_M_scan 164 = .ok (.lor, 1) := by decide +kernel
theorem d_M_scan_165 : decode b_M_scan 165 = .ok (.goto 6, 3) := by decide +kernel
theorem d_M_scan_168 : decode b_M_scan 168 = .ok (.ldc2_w 135, 3) := by decide +kernel
theorem d_M_scan_171 : decode b_M_scan 171 = .ok (.putfield 118, 3) := by decide +kernel
theorem d_M_scan_174 : decode b_M_scan 174 = .ok (.aload_n 0, 1) := by decide +kernel
theorem d_M_scan_175 : decode b_M_scan 175 = .ok (.dup, 1) := by decide +kernel
theorem d_M_scan_176 : decode b_M_scan 176 = .ok (.getfield 112, 3) := by decide +kernel
theorem d_M_scan_179 : decode b_M_scan 179 = .ok (.iconst 1, 1) := by decide +kernel
theorem d_M_scan_180 : decode b_M_scan 180 = .ok (.iadd, 1) := by decide +kernel
theorem d_M_scan_181 : decode b_M_scan 181 = .ok (.putfield 112, 3) := by decide +kernel
theorem d_M_scan_184 : decode b_M_scan 184 = .ok (.goto (-65), 3) := by decide +kernel
theorem d_M_scan_187 : decode b_M_scan 187 = .ok (.aload_n 0, 1) := by decide +kernel
theorem d_M_scan_188 : decode b_M_scan 188 = .ok (.getfield 132, 3) := by decide +kernel
theorem d_M_scan_191 : decode b_M_scan 191 = .ok (.iconst 2, 1) := by decide +kernel
theorem d_M_scan_192 : decode b_M_scan 192 = .ok (.if_icmp .ne 95, 3) := by decide +kernel
theorem d_M_scan_195 : decode b_M_scan 195 = .ok (.aload_n 0, 1) := by decide +kernel
theorem d_M_scan_196 : decode b_M_scan 196 = .ok (.aload_n 0, 1) := by decide +kernel
theorem d_M_scan_197 : decode b_M_scan 197 = .ok (.getfield 112, 3) := by decide +kernel
theorem d_M_scan_200 : decode b_M_scan 200 = .ok (.invokevirtual 108, 3) := by decide +kernel
theorem d_M_scan_203 : decode b_M_scan 203 = .ok (.invokestatic 126, 3) := by decide +kernel
theorem d_M_scan_206 : decode b_M_scan 206 = .ok (.ifCond .eq 56, 3) := by decide +kernel
theorem d_M_scan_209 : decode b_M_scan 209 = .ok (.aload_n 0, 1) := by decide +kernel
theorem d_M_scan_210 : decode b_M_scan 210 = .ok (.aload_n 0, 1) := by decide +kernel
theorem d_M_scan_211 : decode b_M_scan 211 = .ok (.getfield 112, 3) := by decide +kernel
theorem d_M_scan_214 : decode b_M_scan 214 = .ok (.aload_n 0, 1) := by decide +kernel
theorem d_M_scan_215 : decode b_M_scan 215 = .ok (.getfield 105, 3) := by decide +kernel
theorem d_M_scan_218 : decode b_M_scan 218 = .ok (.isub, 1) := by decide +kernel
theorem d_M_scan_219 : decode b_M_scan 219 = .ok (.iconst 3, 1) := by decide +kernel
theorem d_M_scan_220 : decode b_M_scan 220 = .ok (.if_icmp .ge 25, 3) := by decide +kernel
theorem d_M_scan_223 : decode b_M_scan 223 = .ok (.bipush 10, 2) := by decide +kernel
theorem d_M_scan_225 : decode b_M_scan 225 = .ok (.aload_n 0, 1) := by decide +kernel
theorem d_M_scan_226 : decode b_M_scan 226 = .ok (.getfield 115, 3) := by decide +kernel
theorem d_M_scan_229 : decode b_M_scan 229 = .ok (.imul, 1) := by decide +kernel
theorem d_M_scan_230 : decode b_M_scan 230 = .ok (.aload_n 0, 1) := by decide +kernel
theorem d_M_scan_231 : decode b_M_scan 231 = .ok (.aload_n 0, 1) := by decide +kernel
theorem d_M_scan_232 : decode b_M_scan 232 = .ok (.getfield 112, 3) := by decide +kernel
theorem d_M_scan_235 : decode b_M_scan 235 = .ok (.invokevirtual 108, 3) := by decide +kernel
theorem d_M_scan_238 : decode b_M_scan 238 = .ok (.iadd, 1) := by decide +kernel
theorem d_M_scan_239 : decode b_M_scan 239 = .ok (.bipush 48, 2) := by decide +kernel
theorem d_M_scan_241 : decode b_M_scan 241 = .ok (.isub, 1) := by decide +kernel
theorem d_M_scan_242 : decode b_M_scan 242 = .ok (.goto 4, 3) := by decide +kernel
theorem d_M_scan_245 : decode b_M_scan 245 = .ok (.iconst 0, 1) := by decide +kernel
theorem d_M_scan_246 : decode b_M_scan 246 = .ok (.putfield 115, 3) := by decide +kernel
theorem d_M_scan_249 : decode b_M_scan 249 = .ok (.aload_n 0, 1) := by decide +kernel
theorem d_M_scan_250 : decode b_M_scan 250 = .ok (.dup, 1) := by decide +kernel
theorem d_M_scan_251 : decode b_M_scan 251 = .ok (.getfield 112, 3) := by decide +kernel
theorem d_M_scan_254 : decode b_M_scan 254 = .ok (.iconst 1, 1) := by decide +kernel
theorem d_M_scan_255 : decode b_M_scan 255 = .ok (.iadd, 1) := by decide +kernel
theorem d_M_scan_256 : decode b_M_scan 256 = .ok (.putfield 112, 3) := by decide +kernel
theorem d_M_scan_259 : decode b_M_scan 259 = .ok (.goto (-64), 3) := by decide +kernel
theorem d_M_scan_262 : decode b_M_scan 262 = .ok (.aload_n 0, 1) := by decide +kernel
theorem d_M_scan_263 : decode b_M_scan 263 = .ok (.aload_n 0, 1) := by decide +kernel
theorem d_M_scan_264 : decode b_M_scan 264 = .ok (.getfield 112, 3) := by decide +kernel
theorem d_M_scan_267 : decode b_M_scan 267 = .ok (.aload_n 0, 1) := by decide +kernel
theorem d_M_scan_268 : decode b_M_scan 268 = .ok (.getfield 105, 3) := by decide +kernel
theorem d_M_scan_271 : decode b_M_scan 271 = .ok (.isub, 1) := by decide +kernel
theorem d_M_scan_272 : decode b_M_scan 272 = .ok (.iconst 3, 1) := by decide +kernel
theorem d_M_scan_273 : decode b_M_scan 273 = .ok (.if_icmp .le 7, 3) := by decide +kernel
theorem d_M_scan_276 : decode b_M_scan 276 = .ok (.iconst 4, 1) := by decide +kernel
theorem d_M_scan_277 : decode b_M_scan 277 = .ok (.goto 4, 3) := by decide +kernel
theorem d_M_scan_280 : decode b_M_scan 280 = .ok (.iconst 2, 1) := by decide +kernel
theorem d_M_scan_281 : decode b_M_scan 281 = .ok (.putfield 132, 3) := by decide +kernel
theorem d_M_scan_284 : decode b_M_scan 284 = .ok (.goto 21, 3) := by decide +kernel
theorem d_M_scan_287 : decode b_M_scan 287 = .ok (.aload_n 0, 1) := by decide +kernel
theorem d_M_scan_288 : decode b_M_scan 288 = .ok (.getfield 132, 3) := by decide +kernel
theorem d_M_scan_291 : decode b_M_scan 291 = .ok (.iconst 3, 1) := by decide +kernel
theorem d_M_scan_292 : decode b_M_scan 292 = .ok (.if_icmp .ne 13, 3) := by decide +kernel
theorem d_M_scan_295 : decode b_M_scan 295 = .ok (.aload_n 0, 1) := by decide +kernel
theorem d_M_scan_296 : decode b_M_scan 296 = .ok (.dup, 1) := by decide +kernel
theorem d_M_scan_297 : decode b_M_scan 297 = .ok (.getfield 112, 3) := by decide +kernel
theorem d_M_scan_300 : decode b_M_scan 300 = .ok (.iconst 1, 1) := by decide +kernel
theorem d_M_scan_301 : decode b_M_scan 301 = .ok (.iadd, 1) := by decide +kernel
theorem d_M_scan_302 : decode b_M_scan 302 = .ok (.putfield 112, 3) := by decide +kernel
theorem d_M_scan_305 : decode b_M_scan 305 = .ok (.return_, 1) := by decide +kernel
theorem d_M_see_0 : decode b_M_see 0 = .ok (.iload_n 1, 1) := by decide +kernel
theorem d_M_see_1 : decode b_M_see 1 = .ok (.aload_n 0, 1) := by decide +kernel
theorem d_M_see_2 : decode b_M_see 2 = .ok (.getfield 102, 3) := by decide +kernel
theorem d_M_see_5 : decode b_M_see 5 = .ok (.if_icmp .ge 12, 3) := by decide +kernel
theorem d_M_see_8 : decode b_M_see 8 = .ok (.aload_n 0, 1) := by decide +kernel
theorem d_M_see_9 : decode b_M_see 9 = .ok (.getfield 33, 3) := by decide +kernel
theorem d_M_see_12 : decode b_M_see 12 = .ok (.iload_n 1, 1) := by decide +kernel
theorem d_M_see_13 : decode b_M_see 13 = .ok (.caload, 1) := by decide +kernel
theorem d_M_see_14 : decode b_M_see 14 = .ok (.goto 4, 3) := by decide +kernel
theorem d_M_see_17 : decode b_M_see 17 = .ok (.iconst 0, 1) := by decide +kernel
theorem d_M_see_18 : decode b_M_see 18 = .ok (.ireturn, 1) := by decide +kernel
theorem d_M_isLetter_0 : decode b_M_isLetter 0 = .ok (.iload_n 0, 1) := by decide +kernel
theorem d_M_isLetter_1 : decode b_M_isLetter 1 = .ok (.bipush 97, 2) := by decide +kernel
theorem d_M_isLetter_3 : decode b_M_isLetter 3 = .ok (.if_icmp .lt 13, 3) := by decide +kernel
theorem d_M_isLetter_6 : decode b_M_isLetter 6 = .ok (.iload_n 0, 1) := by decide +kernel
theorem d_M_isLetter_7 : decode b_M_isLetter 7 = .ok (.bipush 122, 2) := by decide +kernel
theorem d_M_isLetter_9 : decode b_M_isLetter 9 = .ok (.if_icmp .gt 7, 3) := by decide +kernel
theorem d_M_isLetter_12 : decode b_M_isLetter 12 = .ok (.iconst 1, 1) := by decide +kernel
theorem d_M_isLetter_13 : decode b_M_isLetter 13 = .ok (.goto 4, 3) := by decide +kernel
theorem d_M_isLetter_16 : decode b_M_isLetter 16 = .ok (.iconst 0, 1) := by decide +kernel
theorem d_M_isLetter_17 : decode b_M_isLetter 17 = .ok (.ireturn, 1) := by decide +kernel
theorem d_M_isDigit_0 : decode b_M_isDigit 0 = .ok (.iload_n 0, 1) := by decide +kernel
theorem d_M_isDigit_1 : decode b_M_isDigit 1 = .ok (.bipush 48, 2) := by decide +kernel
theorem d_M_isDigit_3 : decode b_M_isDigit 3 = .ok (.if_icmp .lt 13, 3) := by decide +kernel
theorem d_M_isDigit_6 : decode b_M_isDigit 6 = .ok (.iload_n 0, 1) := by decide +kernel
theorem d_M_isDigit_7 : decode b_M_isDigit 7 = .ok (.bipush 57, 2) := by decide +kernel
theorem d_M_isDigit_9 : decode b_M_isDigit 9 = .ok (.if_icmp .gt 7, 3) := by decide +kernel
theorem d_M_isDigit_12 : decode b_M_isDigit 12 = .ok (.iconst 1, 1) := by decide +kernel
theorem d_M_isDigit_13 : decode b_M_isDigit 13 = .ok (.goto 4, 3) := by decide +kernel
theorem d_M_isDigit_16 : decode b_M_isDigit 16 = .ok (.iconst 0, 1) := by decide +kernel
theorem d_M_isDigit_17 : decode b_M_isDigit 17 = .ok (.ireturn, 1) := by decide +kernel
theorem d_M_isSign_0 : decode b_M_isSign 0 = .ok (.iload_n 0, 1) := by decide +kernel
theorem d_M_isSign_1 : decode b_M_isSign 1 = .ok (.bipush 60, 2) := by decide +kernel
theorem d_M_isSign_3 : decode b_M_isSign 3 = .ok (.if_icmp .eq 69, 3) := by decide +kernel
theorem d_M_isSign_6 : decode b_M_isSign 6 = .ok (.iload_n 0, 1) := by decide +kernel
theorem d_M_isSign_7 : decode b_M_isSign 7 = .ok (.bipush 61, 2) := by decide +kernel
theorem d_M_isSign_9 : decode b_M_isSign 9 = .ok (.if_icmp .eq 63, 3) := by decide +kernel
theorem d_M_isSign_12 : decode b_M_isSign 12 = .ok (.iload_n 0, 1) := by decide +kernel
theorem d_M_isSign_13 : decode b_M_isSign 13 = .ok (.bipush 62, 2) := by decide +kernel
theorem d_M_isSign_15 : decode b_M_isSign 15 = .ok (.if_icmp .eq 57, 3) := by decide +kernel
theorem d_M_isSign_18 : decode b_M_isSign 18 = .ok (.iload_n 0, 1) := by decide +kernel
theorem d_M_isSign_19 : decode b_M_isSign 19 = .ok (.bipush 38, 2) := by decide +kernel
theorem d_M_isSign_21 : decode b_M_isSign 21 = .ok (.if_icmp .eq 51, 3) := by decide +kernel
theorem d_M_isSign_24 : decode b_M_isSign 24 = .ok (.iload_n 0, 1) := by decide +kernel
theorem d_M_isSign_25 : decode b_M_isSign 25 = .ok (.bipush 124, 2) := by decide +kernel
theorem d_M_isSign_27 : decode b_M_isSign 27 = .ok (.if_icmp .eq 45, 3) := by decide +kernel
theorem d_M_isSign_30 : decode b_M_isSign 30 = .ok (.iload_n 0, 1) := by decide +kernel
theorem d_M_isSign_31 : decode b_M_isSign 31 = .ok (.bipush 33, 2) := by decide +kernel
theorem d_M_isSign_33 : decode b_M_isSign 33 = .ok (.if_icmp .eq 39, 3) := by decide +kernel
theorem d_M_isSign_36 : decode b_M_isSign 36 = .ok (.iload_n 0, 1) := by decide +kernel
theorem d_M_isSign_37 : decode b_M_isSign 37 = .ok (.bipush 40, 2) := by decide +kernel
theorem d_M_isSign_39 : decode b_M_isSign 39 = .ok (.if_icmp .eq 33, 3) := by decide +kernel
theorem d_M_isSign_42 : decode b_M_isSign 42 = .ok (.iload_n 0, 1) := by decide +kernel
theorem d_M_isSign_43 : decode b_M_isSign 43 = .ok (.bipush 41, 2) := by decide +kernel
theorem d_M_isSign_45 : decode b_M_isSign 45 = .ok (.if_icmp .eq 27, 3) := by decide +kernel
theorem d_M_isSign_48 : decode b_M_isSign 48 = .ok (.iload_n 0, 1) := by decide +kernel
theorem d_M_isSign_49 : decode b_M_isSign 49 = .ok (.bipush 44, 2) := by decide +kernel
theorem d_M_isSign_51 : decode b_M_isSign 51 = .ok (.if_icmp .eq 21, 3) := by decide +kernel
theorem d_M_isSign_54 : decode b_M_isSign 54 = .ok (.iload_n 0, 1) := by decide +kernel
theorem d_M_isSign_55 : decode b_M_isSign 55 = .ok (.bipush 43, 2) := by decide +kernel
theorem d_M_isSign_57 : decode b_M_isSign 57 = .ok (.if_icmp .eq 15, 3) := by decide +kernel
theorem d_M_isSign_60 : decode b_M_isSign 60 = .ok (.iload_n 0, 1) := by decide +kernel
theorem d_M_isSign_61 : decode b_M_isSign 61 = .ok (.bipush 45, 2) := by decide +kernel
theorem d_M_isSign_63 : decode b_M_isSign 63 = .ok (.if_icmp .eq 9, 3) := by decide +kernel
theorem d_M_isSign_66 : decode b_M_isSign 66 = .ok (.iload_n 0, 1) := by decide +kernel
theorem d_M_isSign_67 : decode b_M_isSign 67 = .ok (.bipush 42, 2) := by decide +kernel
theorem d_M_isSign_69 : decode b_M_isSign 69 = .ok (.if_icmp .ne 7, 3) := by decide +kernel
theorem d_M_isSign_72 : decode b_M_isSign 72 = .ok (.iconst 1, 1) := by decide +kernel
theorem d_M_isSign_73 : decode b_M_isSign 73 = .ok (.goto 4, 3) := by decide +kernel
theorem d_M_isSign_76 : decode b_M_isSign 76 = .ok (.iconst 0, 1) := by decide +kernel
theorem d_M_isSign_77 : decode b_M_isSign 77 = .ok (.ireturn, 1) := by decide +kernel
theorem d_M_next_0 : decode b_M_next 0 = .ok (.iload_n 1, 1) := by decide +kernel
theorem d_M_next_1 : decode b_M_next 1 = .ok (.ifCond .eq 8, 3) := by decide +kernel
theorem d_M_next_4 : decode b_M_next 4 = .ok (.iload_n 1, 1) := by decide +kernel
theorem d_M_next_5 : decode b_M_next 5 = .ok (.iconst 1, 1) := by decide +kernel
theorem d_M_next_6 : decode b_M_next 6 = .ok (.if_icmp .ne 19, 3) := by decide +kernel
theorem d_M_next_9 : decode b_M_next 9 = .ok (.iload_n 1, 1) := by decide +kernel
theorem d_M_next_10 : decode b_M_next 10 = .ok (.ifCond .ne 10, 3) := by decide +kernel
theorem d_M_next_13 : decode b_M_next 13 = .ok (.aload_n 0, 1) := by decide +kernel
theorem d_M_next_14 : decode b_M_next 14 = .ok (.invokevirtual 212, 3) := by decide +kernel
theorem d_M_next_17 : decode b_M_next 17 = .ok (.goto 7, 3) := by decide +kernel
theorem d_M_next_20 : decode b_M_next 20 = .ok (.aload_n 0, 1) := by decide +kernel
theorem d_M_next_21 : decode b_M_next 21 = .ok (.invokevirtual 215, 3) := by decide +kernel
theorem d_M_next_24 : decode b_M_next 24 = .ok (.ireturn, 1) := by decide +kernel
theorem d_M_next_25 : decode b_M_next 25 = .ok (.iload_n 1, 1) := by decide +kernel
theorem d_M_next_26 : decode b_M_next 26 = .ok (.iconst 2, 1) := by decide +kernel
theorem d_M_next_27 : decode b_M_next 27 = .ok (.if_icmp .eq 8, 3) := by decide +kernel
theorem d_M_next_30 : decode b_M_next 30 = .ok (.iload_n 1, 1) := by decide +kernel
theorem d_M_next_31 : decode b_M_next 31 = .ok (.iconst 5, 1) := by decide +kernel
theorem d_M_next_32 : decode b_M_next 32 = .ok (.if_icmp .ne 19, 3) := by decide +kernel
theorem d_M_next_35 : decode b_M_next 35 = .ok (.aload_n 0, 1) := by decide +kernel
theorem d_M_next_36 : decode b_M_next 36 = .ok (.iload_n 1, 1) := by decide +kernel
theorem d_M_next_37 : decode b_M_next 37 = .ok (.iconst 2, 1) := by decide +kernel
theorem d_M_next_38 : decode b_M_next 38 = .ok (.if_icmp .ne 7, 3) := by decide +kernel
theorem d_M_next_41 : decode b_M_next 41 = .ok (.iconst 3, 1) := by decide +kernel
theorem d_M_next_42 : decode b_M_next 42 = .ok (.goto 5, 3) := by decide +kernel
theorem d_M_next_45 : decode b_M_next 45 = .ok (.bipush 6, 2) := by decide +kernel
theorem d_M_next_47 : decode b_M_next 47 = .ok (.invokevirtual 218, 3) := by decide +kernel
theorem d_M_next_50 : decode b_M_next 50 = .ok (.ireturn, 1) := by decide +kernel
theorem d_M_next_51 : decode b_M_next 51 = .ok (.iload_n 1, 1) := by decide +kernel
theorem d_M_next_52 : decode b_M_next 52 = .ok (.tableswitch 169 3 15 #[68, 73, 169, 81, 86, 93, 110, 110, 131, 136, 136, 157, 162], 68) := by decide +kernel
theorem d_M_next_120 : decode b_M_next 120 = .ok (.aload_n 0, 1) := by decide +kernel
theorem d_M_next_121 : decode b_M_next 121 = .ok (.invokevirtual 222, 3) := by decide +kernel
theorem d_M_next_124 : decode b_M_next 124 = .ok (.ireturn, 1) := by decide +kernel
theorem d_M_next_125 : decode b_M_next 125 = .ok (.aload_n 0, 1) := by decide +kernel
theorem d_M_next_126 : decode b_M_next 126 = .ok (.iconst 5, 1) := by decide +kernel
theorem d_M_next_127 : decode b_M_next 127 = .ok (.bipush 6, 2) := by decide +kernel
theorem d_M_next_129 : decode b_M_next 129 = .ok (.invokevirtual 185, 3) := by decide +kernel
theorem d_M_next_132 : decode b_M_next 132 = .ok (.ireturn, 1) := by decide +kernel
theorem d_M_next_133 : decode b_M_next 133 = .ok (.aload_n 0, 1) := by decide +kernel
theorem d_M_next_134 : decode b_M_next 134 = .ok (.invokevirtual 225, 3) := by decide +kernel
theorem d_M_next_137 : decode b_M_next 137 = .ok (.ireturn, 1) := by decide +kernel
theorem d_M_next_138 : decode b_M_next 138 = .ok (.aload_n 0, 1) := by decide +kernel
theorem d_M_next_139 : decode b_M_next 139 = .ok (.bipush 8, 2) := by decide +kernel
theorem d_M_next_141 : decode b_M_next 141 = .ok (.invokevirtual 228, 3) := by decide +kernel
theorem d_M_next_144 : decode b_M_next 144 = .ok (.ireturn, 1) := by decide +kernel
theorem d_M_next_145 : decode b_M_next 145 = .ok (.aload_n 0, 1) := by decide +kernel
theorem d_M_next_146 : decode b_M_next 146 = .ok (.bipush 61, 2) := by decide +kernel
theorem d_M_next_148 : decode b_M_next 148 = .ok (.invokevirtual 175, 3) := by decide +kernel
theorem d_M_next_151 : decode b_M_next 151 = .ok (.ifCond .eq 8, 3) := by decide +kernel
theorem d_M_next_154 : decode b_M_next 154 = .ok (.bipush 9, 2) := by decide +kernel
theorem d_M_next_156 : decode b_M_next 156 = .ok (.goto 5, 3) := by decide +kernel
theorem d_M_next_159 : decode b_M_next 159 = .ok (.bipush 17, 2) := by decide +kernel
theorem d_M_next_161 : decode b_M_next 161 = .ok (.ireturn, 1) := by decide +kernel
theorem d_M_next_162 : decode b_M_next 162 = .ok (.aload_n 0, 1) := by decide +kernel
theorem d_M_next_163 : decode b_M_next 163 = .ok (.iconst 0, 1) := by decide +kernel
theorem d_M_next_164 : decode b_M_next 164 = .ok (.iload_n 1, 1) := by decide +kernel
theorem d_M_next_165 : decode b_M_next 165 = .ok (.bipush 10, 2) := by decide +kernel
theorem d_M_next_167 : decode b_M_next 167 = .ok (.if_icmp .ne 7, 3) := by decide +kernel
theorem d_M_next_170 : decode b_M_next 170 = .ok (.iconst 1, 1) := by decide +kernel
theorem d_M_next_171 : decode b_M_next 171 = .ok (.goto 4, 3) := by decide +kernel
theorem d_M_next_174 : decode b_M_next 174 = .ok (.iconst 0, 1) := by decide +kernel
theorem d_M_next_175 : decode b_M_next 175 = .ok (.bipush 10, 2) := by decide +kernel
theorem d_M_next_177 : decode b_M_next 177 = .ok (.bipush 11, 2) := by decide +kernel
theorem d_M_next_179 : decode b_M_next 179 = .ok (.invokevirtual 231, 3) := by decide +kernel
theorem d_M_next_182 : decode b_M_next 182 = .ok (.ireturn, 1) := by decide +kernel
theorem d_M_next_183 : decode b_M_next 183 = .ok (.aload_n 0, 1) := by decide +kernel
theorem d_M_next_184 : decode b_M_next 184 = .ok (.invokevirtual 235, 3) := by decide +kernel
theorem d_M_next_187 : decode b_M_next 187 = .ok (.ireturn, 1) := by decide +kernel
theorem d_M_next_188 : decode b_M_next 188 = .ok (.aload_n 0, 1) := by decide +kernel
theorem d_M_next_189 : decode b_M_next 189 = .ok (.iconst 1, 1) := by decide +kernel
theorem d_M_next_190 : decode b_M_next 190 = .ok (.iload_n 1, 1) := by decide +kernel
theorem d_M_next_191 : decode b_M_next 191 = .ok (.bipush 13, 2) := by decide +kernel
theorem d_M_next_193 : decode b_M_next 193 = .ok (.if_icmp .ne 7, 3) := by decide +kernel
theorem d_M_next_196 : decode b_M_next 196 = .ok (.iconst 1, 1) := by decide +kernel
theorem d_M_next_197 : decode b_M_next 197 = .ok (.goto 4, 3) := by decide +kernel
theorem d_M_next_200 : decode b_M_next 200 = .ok (.iconst 0, 1) := by decide +kernel
theorem d_M_next_201 : decode b_M_next 201 = .ok (.bipush 13, 2) := by decide +kernel
theorem d_M_next_203 : decode b_M_next 203 = .ok (.bipush 14, 2) := by decide +kernel
theorem d_M_next_205 : decode b_M_next 205 = .ok (.invokevirtual 231, 3) := by decide +kernel
theorem d_M_next_208 : decode b_M_next 208 = .ok (.ireturn, 1) := by decide +kernel
theorem d_M_next_209 : decode b_M_next 209 = .ok (.aload_n 0, 1) := by decide +kernel
theorem d_M_next_210 : decode b_M_next 210 = .ok (.invokevirtual 209, 3) := by decide +kernel
theorem d_M_next_213 : decode b_M_next 213 = .ok (.ireturn, 1) := by decide +kernel
theorem d_M_next_214 : decode b_M_next 214 = .ok (.aload_n 0, 1) := by decide +kernel
theorem d_M_next_215 : decode b_M_next 215 = .ok (.bipush 16, 2) := by decide +kernel
theorem d_M_next_217 : decode b_M_next 217 = .ok (.invokevirtual 228, 3) := by decide +kernel
theorem d_M_next_220 : decode b_M_next 220 = .ok (.ireturn, 1) := by decide +kernel
theorem d_M_next_221 : decode b_M_next 221 = .ok (.bipush 17, 2) := by decide +kernel
theorem d_M_next_223 : decode b_M_next 223 = .ok (.ireturn, 1) := by decide +kernel
theorem d_M_start_0 : decode b_M_start 0 = .ok (.aload_n 0, 1) := by decide +kernel
theorem d_M_start_1 : decode b_M_start 1 = .ok (.getfield 132, 3) := by decide +kernel
theorem d_M_start_4 : decode b_M_start 4 = .ok (.iconst 1, 1) := by decide +kernel
theorem d_M_start_5 : decode b_M_start 5 = .ok (.if_icmp .ne 16, 3) := by decide +kernel
theorem d_M_start_8 : decode b_M_start 8 = .ok (.aload_n 0, 1) := by decide +kernel
theorem d_M_start_9 : decode b_M_start 9 = .ok (.getfield 118, 3) := by decide +kernel
theorem d_M_start_12 : decode b_M_start 12 = .ok (.ldc2_w 170, 3) := by decide +kernel
theorem d_M_start_15 : decode b_M_start 15 = .ok (.lcmp, 1) := by decide +kernel
theorem d_M_start_16 : decode b_M_start 16 = .ok (.ifCond .ne 5, 3) := by decide +kernel
theorem d_M_start_19 : decode b_M_start 19 = .ok (.iconst 1, 1) := by decide +kernel
theorem d_M_start_20 : decode b_M_start 20 = .ok (.ireturn, 1) := by decide +kernel
theorem d_M_start_21 : decode b_M_start 21 = .ok (.aload_n 0, 1) := by decide +kernel
theorem d_M_start_22 : decode b_M_start 22 = .ok (.bipush 6, 2) := by decide +kernel
theorem d_M_start_24 : decode b_M_start 24 = .ok (.iconst 1, 1) := by decide +kernel
theorem d_M_start_25 : decode b_M_start 25 = .ok (.invokevirtual 159, 3) := by decide +kernel
theorem d_M_start_28 : decode b_M_start 28 = .ok (.aload_n 0, 1) := by decide +kernel
theorem d_M_start_29 : decode b_M_start 29 = .ok (.invokevirtual 172, 3) := by decide +kernel
theorem d_M_start_32 : decode b_M_start 32 = .ok (.ireturn, 1) := by decide +kernel
end
section
theorem d_M_emit_0 : decode b_M_emit 0 = .ok (.aload_n 0, 1) := by decide +kernel
theorem d_M_emit_1 : decode b_M_emit 1 = .ok (.getfield 43, 3) := by decide +kernel
theorem d_M_emit_4 : decode b_M_emit 4 = .ok (.aload_n 0, 1) := by decide +kernel
theorem d_M_emit_5 : decode b_M_emit 5 = .ok (.getfield 149, 3) := by decide +kernel
theorem d_M_emit_8 : decode b_M_emit 8 = .ok (.iload_n 1, 1) := by decide +kernel
theorem d_M_emit_9 : decode b_M_emit 9 = .ok (.iastore, 1) := by decide +kernel
theorem d_M_emit_10 : decode b_M_emit 10 = .ok (.aload_n 0, 1) := by decide +kernel
theorem d_M_emit_11 : decode b_M_emit 11 = .ok (.getfield 46, 3) := by decide +kernel
theorem d_M_emit_14 : decode b_M_emit 14 = .ok (.aload_n 0, 1) := by decide +kernel
theorem d_M_emit_15 : decode b_M_emit 15 = .ok (.getfield 149, 3) := by decide +kernel
theorem d_M_emit_18 : decode b_M_emit 18 = .ok (.iload_n 2, 1) := by decide +kernel
theorem d_M_emit_19 : decode b_M_emit 19 = .ok (.iastore, 1) := by decide +kernel
theorem d_M_emit_20 : decode b_M_emit 20 = .ok (.aload_n 0, 1) := by decide +kernel
theorem d_M_emit_21 : decode b_M_emit 21 = .ok (.dup, 1) := by decide +kernel
theorem d_M_emit_22 : decode b_M_emit 22 = .ok (.getfield 149, 3) := by decide +kernel
theorem d_M_emit_25 : decode b_M_emit 25 = .ok (.iconst 1, 1) := by decide +kernel
theorem d_M_emit_26 : decode b_M_emit 26 = .ok (.iadd, 1) := by decide +kernel
theorem d_M_emit_27 : decode b_M_emit 27 = .ok (.putfield 149, 3) := by decide +kernel
theorem d_M_emit_30 : decode b_M_emit 30 = .ok (.return_, 1) := by decide +kernel
theorem d_M_act_0 : decode b_M_act 0 = .ok (.aload_n 0, 1) := by decide +kernel
theorem d_M_act_1 : decode b_M_act 1 = .ok (.aload_n 0, 1) := by decide +kernel
theorem d_M_act_2 : decode b_M_act 2 = .ok (.getfield 132, 3) := by decide +kernel
theorem d_M_act_5 : decode b_M_act 5 = .ok (.iconst 1, 1) := by decide +kernel
theorem d_M_act_6 : decode b_M_act 6 = .ok (.if_icmp .ne 13, 3) := by decide +kernel
theorem d_M_act_9 : decode b_M_act 9 = .ok (.aload_n 0, 1) := by decide +kernel
theorem d_M_act_10 : decode b_M_act 10 = .ok (.getfield 118, 3) := by decide +kernel
theorem d_M_act_13 : decode b_M_act 13 = .ok (.invokestatic 163, 3) := by decide +kernel
theorem d_M_act_16 : decode b_M_act 16 = .ok (.goto 4, 3) := by decide +kernel
theorem d_M_act_19 : decode b_M_act 19 = .ok (.iconst 0, 1) := by decide +kernel
theorem d_M_act_20 : decode b_M_act 20 = .ok (.putfield 167, 3) := by decide +kernel
theorem d_M_act_23 : decode b_M_act 23 = .ok (.aload_n 0, 1) := by decide +kernel
theorem d_M_act_24 : decode b_M_act 24 = .ok (.getfield 167, 3) := by decide +kernel
theorem d_M_act_27 : decode b_M_act 27 = .ok (.ifCond .ne 8, 3) := by decide +kernel
theorem d_M_act_30 : decode b_M_act 30 = .ok (.bipush 17, 2) := by decide +kernel
theorem d_M_act_32 : decode b_M_act 32 = .ok (.goto 32, 3) := by decide +kernel
theorem d_M_act_35 : decode b_M_act 35 = .ok (.aload_n 0, 1) := by decide +kernel
theorem d_M_act_36 : decode b_M_act 36 = .ok (.getfield 167, 3) := by decide +kernel
theorem d_M_act_39 : decode b_M_act 39 = .ok (.iconst 1, 1) := by decide +kernel
theorem d_M_act_40 : decode b_M_act 40 = .ok (.if_icmp .ne 8, 3) := by decide +kernel
theorem d_M_act_43 : decode b_M_act 43 = .ok (.bipush 7, 2) := by decide +kernel
theorem d_M_act_45 : decode b_M_act 45 = .ok (.goto 19, 3) := by decide +kernel
theorem d_M_act_48 : decode b_M_act 48 = .ok (.aload_n 0, 1) := by decide +kernel
theorem d_M_act_49 : decode b_M_act 49 = .ok (.getfield 167, 3) := by decide +kernel
theorem d_M_act_52 : decode b_M_act 52 = .ok (.bipush 6, 2) := by decide +kernel
theorem d_M_act_54 : decode b_M_act 54 = .ok (.if_icmp .ne 8, 3) := by decide +kernel
theorem d_M_act_57 : decode b_M_act 57 = .ok (.bipush 16, 2) := by decide +kernel
theorem d_M_act_59 : decode b_M_act 59 = .ok (.goto 5, 3) := by decide +kernel
theorem d_M_act_62 : decode b_M_act 62 = .ok (.bipush 15, 2) := by decide +kernel
theorem d_M_act_64 : decode b_M_act 64 = .ok (.ireturn, 1) := by decide +kernel
theorem d_M_actionOf_0 : decode b_M_actionOf 0 = .ok (.lload_n 0, 1) := by decide +kernel
theorem d_M_actionOf_1 : decode b_M_actionOf 1 = .ok (.ldc2_w 137, 3) := by decide +kernel
theorem d_M_actionOf_4 : decode b_M_actionOf 4 = .ok (.lcmp, 1) := by decide +kernel
theorem d_M_actionOf_5 : decode b_M_actionOf 5 = .ok (.ifCond .ne 5, 3) := by decide +kernel
theorem d_M_actionOf_8 : decode b_M_actionOf 8 = .ok (.iconst 1, 1) := by decide +kernel
theorem d_M_actionOf_9 : decode b_M_actionOf 9 = .ok (.ireturn, 1) := by decide +kernel
theorem d_M_actionOf_10 : decode b_M_actionOf 10 = .ok (.lload_n 0, 1) := by decide +kernel
theorem d_M_actionOf_11 : decode b_M_actionOf 11 = .ok (.ldc2_w 139, 3) := by decide +kernel
theorem d_M_actionOf_14 : decode b_M_actionOf 14 = .ok (.lcmp, 1) := by decide +kernel
theorem d_M_actionOf_15 : decode b_M_actionOf 15 = .ok (.ifCond .ne 5, 3) := by decide +kernel
theorem d_M_actionOf_18 : decode b_M_actionOf 18 = .ok (.iconst 2, 1) := by decide +kernel
theorem d_M_actionOf_19 : decode b_M_actionOf 19 = .ok (.ireturn, 1) := by decide +kernel
theorem d_M_actionOf_20 : decode b_M_actionOf 20 = .ok (.lload_n 0, 1) := by decide +kernel
theorem d_M_actionOf_21 : decode b_M_actionOf 21 = .ok (.ldc2_w 141, 3) := by decide +kernel
theorem d_M_actionOf_24 : decode b_M_actionOf 24 = .ok (.lcmp, 1) := by decide +kernel
theorem d_M_actionOf_25 : decode b_M_actionOf 25 = .ok (.ifCond .ne 5, 3) := by decide +kernel
theorem d_M_actionOf_28 : decode b_M_actionOf 28 = .ok (.iconst 3, 1) := by decide +kernel
theorem d_M_actionOf_29 : decode b_M_actionOf 29 = .ok (.ireturn, 1) := by decide +kernel
theorem d_M_actionOf_30 : decode b_M_actionOf 30 = .ok (.lload_n 0, 1) := by decide +kernel
theorem d_M_actionOf_31 : decode b_M_actionOf 31 = .ok (.ldc2_w 143, 3) := by decide +kernel
theorem d_M_actionOf_34 : decode b_M_actionOf 34 = .ok (.lcmp, 1) := by decide +kernel
theorem d_M_actionOf_35 : decode b_M_actionOf 35 = .ok (.ifCond .ne 5, 3) := by decide +kernel
theorem d_M_actionOf_38 : decode b_M_actionOf 38 = .ok (.iconst 4, 1) := by decide +kernel
theorem d_M_actionOf_39 : decode b_M_actionOf 39 = .ok (.ireturn, 1) := by decide +kernel
theorem d_M_actionOf_40 : decode b_M_actionOf 40 = .ok (.lload_n 0, 1) := by decide +kernel
theorem d_M_actionOf_41 : decode b_M_actionOf 41 = .ok (.ldc2_w 145, 3) := by decide +kernel
theorem d_M_actionOf_44 : decode b_M_actionOf 44 = .ok (.lcmp, 1) := by decide +kernel
theorem d_M_actionOf_45 : decode b_M_actionOf 45 = .ok (.ifCond .ne 5, 3) := by decide +kernel
theorem d_M_actionOf_48 : decode b_M_actionOf 48 = .ok (.iconst 5, 1) := by decide +kernel
theorem d_M_actionOf_49 : decode b_M_actionOf 49 = .ok (.ireturn, 1) := by decide +kernel
theorem d_M_actionOf_50 : decode b_M_actionOf 50 = .ok (.lload_n 0, 1) := by decide +kernel
theorem d_M_actionOf_51 : decode b_M_actionOf 51 = .ok (.ldc2_w 147, 3) := by decide +kernel
theorem d_M_actionOf_54 : decode b_M_actionOf 54 = .ok (.lcmp, 1) := by decide +kernel
theorem d_M_actionOf_55 : decode b_M_actionOf 55 = .ok (.ifCond .ne 8, 3) := by decide +kernel
theorem d_M_actionOf_58 : decode b_M_actionOf 58 = .ok (.bipush 6, 2) := by decide +kernel
theorem d_M_actionOf_60 : decode b_M_actionOf 60 = .ok (.goto 4, 3) := by decide +kernel
theorem d_M_actionOf_63 : decode b_M_actionOf 63 = .ok (.iconst 0, 1) := by decide +kernel
theorem d_M_actionOf_64 : decode b_M_actionOf 64 = .ok (.ireturn, 1) := by decide +kernel
theorem d_M_one_0 : decode b_M_one 0 = .ok (.aload_n 0, 1) := by decide +kernel
theorem d_M_one_1 : decode b_M_one 1 = .ok (.bipush 33, 2) := by decide +kernel
theorem d_M_one_3 : decode b_M_one 3 = .ok (.invokevirtual 175, 3) := by decide +kernel
theorem d_M_one_6 : decode b_M_one 6 = .ok (.ifCond .ne 12, 3) := by decide +kernel
theorem d_M_one_9 : decode b_M_one 9 = .ok (.aload_n 0, 1) := by decide +kernel
theorem d_M_one_10 : decode b_M_one 10 = .ok (.bipush 40, 2) := by decide +kernel
theorem d_M_one_12 : decode b_M_one 12 = .ok (.invokevirtual 175, 3) := by decide +kernel
theorem d_M_one_15 : decode b_M_one 15 = .ok (.ifCond .eq 45, 3) := by decide +kernel
theorem d_M_one_18 : decode b_M_one 18 = .ok (.aload_n 0, 1) := by decide +kernel
theorem d_M_one_19 : decode b_M_one 19 = .ok (.getfield 178, 3) := by decide +kernel
theorem d_M_one_22 : decode b_M_one 22 = .ok (.bipush 8, 2) := by decide +kernel
theorem d_M_one_24 : decode b_M_one 24 = .ok (.if_icmp .ne 6, 3) := by decide +kernel
theorem d_M_one_27 : decode b_M_one 27 = .ok (.bipush 17, 2) := by decide +kernel
theorem d_M_one_29 : decode b_M_one 29 = .ok (.ireturn, 1) := by decide +kernel
theorem d_M_one_30 : decode b_M_one 30 = .ok (.aload_n 0, 1) := by decide +kernel
theorem d_M_one_31 : decode b_M_one 31 = .ok (.dup, 1) := by decide +kernel
theorem d_M_one_32 : decode b_M_one 32 = .ok (.getfield 178, 3) := by decide +kernel
theorem d_M_one_35 : decode b_M_one 35 = .ok (.iconst 1, 1) := by decide +kernel
theorem d_M_one_36 : decode b_M_one 36 = .ok (.iadd, 1) := by decide +kernel
theorem d_M_one_37 : decode b_M_one 37 = .ok (.putfield 178, 3) := by decide +kernel
theorem d_M_one_40 : decode b_M_one 40 = .ok (.aload_n 0, 1) := by decide +kernel
theorem d_M_one_41 : decode b_M_one 41 = .ok (.aload_n 0, 1) := by decide +kernel
theorem d_M_one_42 : decode b_M_one 42 = .ok (.bipush 33, 2) := by decide +kernel
theorem d_M_one_44 : decode b_M_one 44 = .ok (.invokevirtual 175, 3) := by decide +kernel
theorem d_M_one_47 : decode b_M_one 47 = .ok (.ifCond .eq 7, 3) := by decide +kernel
theorem d_M_one_50 : decode b_M_one 50 = .ok (.iconst 3, 1) := by decide +kernel
theorem d_M_one_51 : decode b_M_one 51 = .ok (.goto 4, 3) := by decide +kernel
theorem d_M_one_54 : decode b_M_one 54 = .ok (.iconst 4, 1) := by decide +kernel
theorem d_M_one_55 : decode b_M_one 55 = .ok (.invokevirtual 181, 3) := by decide +kernel
theorem d_M_one_58 : decode b_M_one 58 = .ok (.iconst 1, 1) := by decide +kernel
theorem d_M_one_59 : decode b_M_one 59 = .ok (.ireturn, 1) := by decide +kernel
theorem d_M_one_60 : decode b_M_one 60 = .ok (.aload_n 0, 1) := by decide +kernel
theorem d_M_one_61 : decode b_M_one 61 = .ok (.iconst 2, 1) := by decide +kernel
theorem d_M_one_62 : decode b_M_one 62 = .ok (.iconst 3, 1) := by decide +kernel
theorem d_M_one_63 : decode b_M_one 63 = .ok (.invokevirtual 185, 3) := by decide +kernel
theorem d_M_one_66 : decode b_M_one 66 = .ok (.ireturn, 1) := by decide +kernel
theorem d_M_isIt_0 : decode b_M_isIt 0 = .ok (.aload_n 0, 1) := by decide +kernel
theorem d_M_isIt_1 : decode b_M_isIt 1 = .ok (.getfield 132, 3) := by decide +kernel
theorem d_M_isIt_4 : decode b_M_isIt 4 = .ok (.iconst 3, 1) := by decide +kernel
theorem d_M_isIt_5 : decode b_M_isIt 5 = .ok (.if_icmp .ne 20, 3) := by decide +kernel
theorem d_M_isIt_8 : decode b_M_isIt 8 = .ok (.aload_n 0, 1) := by decide +kernel
theorem d_M_isIt_9 : decode b_M_isIt 9 = .ok (.getfield 33, 3) := by decide +kernel
theorem d_M_isIt_12 : decode b_M_isIt 12 = .ok (.aload_n 0, 1) := by decide +kernel
theorem d_M_isIt_13 : decode b_M_isIt 13 = .ok (.getfield 105, 3) := by decide +kernel
theorem d_M_isIt_16 : decode b_M_isIt 16 = .ok (.caload, 1) := by decide +kernel
theorem d_M_isIt_17 : decode b_M_isIt 17 = .ok (.iload_n 1, 1) := by decide +kernel
theorem d_M_isIt_18 : decode b_M_isIt 18 = .ok (.if_icmp .ne 7, 3) := by decide +kernel
theorem d_M_isIt_21 : decode b_M_isIt 21 = .ok (.iconst 1, 1) := by decide +kernel
theorem d_M_isIt_22 : decode b_M_isIt 22 = .ok (.goto 4, 3) := by decide +kernel
theorem d_M_isIt_25 : decode b_M_isIt 25 = .ok (.iconst 0, 1) := by decide +kernel
theorem d_M_isIt_26 : decode b_M_isIt 26 = .ok (.ireturn, 1) := by decide +kernel
theorem d_M_push_0 : decode b_M_push 0 = .ok (.aload_n 0, 1) := by decide +kernel
theorem d_M_push_1 : decode b_M_push 1 = .ok (.getfield 49, 3) := by decide +kernel
theorem d_M_push_4 : decode b_M_push 4 = .ok (.aload_n 0, 1) := by decide +kernel
theorem d_M_push_5 : decode b_M_push 5 = .ok (.getfield 152, 3) := by decide +kernel
theorem d_M_push_8 : decode b_M_push 8 = .ok (.iload_n 1, 1) := by decide +kernel
theorem d_M_push_9 : decode b_M_push 9 = .ok (.iastore, 1) := by decide +kernel
theorem d_M_push_10 : decode b_M_push 10 = .ok (.aload_n 0, 1) := by decide +kernel
theorem d_M_push_11 : decode b_M_push 11 = .ok (.dup, 1) := by decide +kernel
theorem d_M_push_12 : decode b_M_push 12 = .ok (.getfield 152, 3) := by decide +kernel
theorem d_M_push_15 : decode b_M_push 15 = .ok (.iconst 1, 1) := by decide +kernel
theorem d_M_push_16 : decode b_M_push 16 = .ok (.iadd, 1) := by decide +kernel
theorem d_M_push_17 : decode b_M_push 17 = .ok (.putfield 152, 3) := by decide +kernel
theorem d_M_push_20 : decode b_M_push 20 = .ok (.return_, 1) := by decide +kernel
theorem d_M_operand_0 : decode b_M_operand 0 = .ok (.aload_n 0, 1) := by decide +kernel
theorem d_M_operand_1 : decode b_M_operand 1 = .ok (.bipush 45, 2) := by decide +kernel
theorem d_M_operand_3 : decode b_M_operand 3 = .ok (.invokevirtual 175, 3) := by decide +kernel
theorem d_M_operand_6 : decode b_M_operand 6 = .ok (.ifCond .eq 5, 3) := by decide +kernel
theorem d_M_operand_9 : decode b_M_operand 9 = .ok (.iload_n 1, 1) := by decide +kernel
theorem d_M_operand_10 : decode b_M_operand 10 = .ok (.ireturn, 1) := by decide +kernel
theorem d_M_operand_11 : decode b_M_operand 11 = .ok (.aload_n 0, 1) := by decide +kernel
theorem d_M_operand_12 : decode b_M_operand 12 = .ok (.getfield 132, 3) := by decide +kernel
theorem d_M_operand_15 : decode b_M_operand 15 = .ok (.iconst 2, 1) := by decide +kernel
theorem d_M_operand_16 : decode b_M_operand 16 = .ok (.if_icmp .ne 28, 3) := by decide +kernel
theorem d_M_operand_19 : decode b_M_operand 19 = .ok (.aload_n 0, 1) := by decide +kernel
theorem d_M_operand_20 : decode b_M_operand 20 = .ok (.bipush 6, 2) := by decide +kernel
theorem d_M_operand_22 : decode b_M_operand 22 = .ok (.aload_n 0, 1) := by decide +kernel
theorem d_M_operand_23 : decode b_M_operand 23 = .ok (.getfield 115, 3) := by decide +kernel
theorem d_M_operand_26 : decode b_M_operand 26 = .ok (.invokevirtual 159, 3) := by decide +kernel
theorem d_M_operand_29 : decode b_M_operand 29 = .ok (.iload_n 2, 1) := by decide +kernel
theorem d_M_operand_30 : decode b_M_operand 30 = .ok (.bipush 6, 2) := by decide +kernel
theorem d_M_operand_32 : decode b_M_operand 32 = .ok (.if_icmp .ne 10, 3) := by decide +kernel
theorem d_M_operand_35 : decode b_M_operand 35 = .ok (.aload_n 0, 1) := by decide +kernel
theorem d_M_operand_36 : decode b_M_operand 36 = .ok (.invokevirtual 188, 3) := by decide +kernel
theorem d_M_operand_39 : decode b_M_operand 39 = .ok (.goto 4, 3) := by decide +kernel
theorem d_M_operand_42 : decode b_M_operand 42 = .ok (.iload_n 2, 1) := by decide +kernel
theorem d_M_operand_43 : decode b_M_operand 43 = .ok (.ireturn, 1) := by decide +kernel
theorem d_M_operand_44 : decode b_M_operand 44 = .ok (.aload_n 0, 1) := by decide +kernel
theorem d_M_operand_45 : decode b_M_operand 45 = .ok (.invokevirtual 191, 3) := by decide +kernel
theorem d_M_operand_48 : decode b_M_operand 48 = .ok (.ifCond .ge 6, 3) := by decide +kernel
theorem d_M_operand_51 : decode b_M_operand 51 = .ok (.bipush 17, 2) := by decide +kernel
theorem d_M_operand_53 : decode b_M_operand 53 = .ok (.ireturn, 1) := by decide +kernel
theorem d_M_operand_54 : decode b_M_operand 54 = .ok (.aload_n 0, 1) := by decide +kernel
theorem d_M_operand_55 : decode b_M_operand 55 = .ok (.iconst 5, 1) := by decide +kernel
theorem d_M_operand_56 : decode b_M_operand 56 = .ok (.aload_n 0, 1) := by decide +kernel
theorem d_M_operand_57 : decode b_M_operand 57 = .ok (.invokevirtual 191, 3) := by decide +kernel
theorem d_M_operand_60 : decode b_M_operand 60 = .ok (.invokevirtual 159, 3) := by decide +kernel
theorem d_M_operand_63 : decode b_M_operand 63 = .ok (.iload_n 2, 1) := by decide +kernel
theorem d_M_operand_64 : decode b_M_operand 64 = .ok (.bipush 6, 2) := by decide +kernel
theorem d_M_operand_66 : decode b_M_operand 66 = .ok (.if_icmp .ne 10, 3) := by decide +kernel
theorem d_M_operand_69 : decode b_M_operand 69 = .ok (.aload_n 0, 1) := by decide +kernel
theorem d_M_operand_70 : decode b_M_operand 70 = .ok (.invokevirtual 188, 3) := by decide +kernel
theorem d_M_operand_73 : decode b_M_operand 73 = .ok (.goto 4, 3) := by decide +kernel
theorem d_M_operand_76 : decode b_M_operand 76 = .ok (.iload_n 2, 1) := by decide +kernel
theorem d_M_operand_77 : decode b_M_operand 77 = .ok (.ireturn, 1) := by decide +kernel
theorem d_M_wholeOne_0 : decode b_M_wholeOne 0 = .ok (.aload_n 0, 1) := by decide +kernel
theorem d_M_wholeOne_1 : decode b_M_wholeOne 1 = .ok (.aload_n 0, 1) := by decide +kernel
theorem d_M_wholeOne_2 : decode b_M_wholeOne 2 = .ok (.getfield 194, 3) := by decide +kernel
theorem d_M_wholeOne_5 : decode b_M_wholeOne 5 = .ok (.iconst 0, 1) := by decide +kernel
theorem d_M_wholeOne_6 : decode b_M_wholeOne 6 = .ok (.invokevirtual 159, 3) := by decide +kernel
theorem d_M_wholeOne_9 : decode b_M_wholeOne 9 = .ok (.aload_n 0, 1) := by decide +kernel
theorem d_M_wholeOne_10 : decode b_M_wholeOne 10 = .ok (.invokevirtual 197, 3) := by decide +kernel
theorem d_M_wholeOne_13 : decode b_M_wholeOne 13 = .ok (.bipush 6, 2) := by decide +kernel
theorem d_M_wholeOne_15 : decode b_M_wholeOne 15 = .ok (.ireturn, 1) := by decide +kernel
theorem d_M_denied_0 : decode b_M_denied 0 = .ok (.aload_n 0, 1) := by decide +kernel
theorem d_M_denied_1 : decode b_M_denied 1 = .ok (.invokevirtual 155, 3) := by decide +kernel
theorem d_M_denied_4 : decode b_M_denied 4 = .ok (.iconst 3, 1) := by decide +kernel
theorem d_M_denied_5 : decode b_M_denied 5 = .ok (.if_icmp .ne 32, 3) := by decide +kernel
theorem d_M_denied_8 : decode b_M_denied 8 = .ok (.aload_n 0, 1) := by decide +kernel
theorem d_M_denied_9 : decode b_M_denied 9 = .ok (.dup, 1) := by decide +kernel
theorem d_M_denied_10 : decode b_M_denied 10 = .ok (.getfield 152, 3) := by decide +kernel
theorem d_M_denied_13 : decode b_M_denied 13 = .ok (.iconst 1, 1) := by decide +kernel
theorem d_M_denied_14 : decode b_M_denied 14 = .ok (.isub, 1) := by decide +kernel
theorem d_M_denied_15 : decode b_M_denied 15 = .ok (.putfield 152, 3) := by decide +kernel
theorem d_M_denied_18 : decode b_M_denied 18 = .ok (.aload_n 0, 1) := by decide +kernel
theorem d_M_denied_19 : decode b_M_denied 19 = .ok (.dup, 1) := by decide +kernel
theorem d_M_denied_20 : decode b_M_denied 20 = .ok (.getfield 178, 3) := by decide +kernel
theorem d_M_denied_23 : decode b_M_denied 23 = .ok (.iconst 1, 1) := by decide +kernel
theorem d_M_denied_24 : decode b_M_denied 24 = .ok (.isub, 1) := by decide +kernel
theorem d_M_denied_25 : decode b_M_denied 25 = .ok (.putfield 178, 3) := by decide +kernel
theorem d_M_denied_28 : decode b_M_denied 28 = .ok (.aload_n 0, 1) := by decide +kernel
theorem d_M_denied_29 : decode b_M_denied 29 = .ok (.iconst 3, 1) := by decide +kernel
theorem d_M_denied_30 : decode b_M_denied 30 = .ok (.iconst 0, 1) := by decide +kernel
theorem d_M_denied_31 : decode b_M_denied 31 = .ok (.invokevirtual 159, 3) := by decide +kernel
theorem d_M_denied_34 : decode b_M_denied 34 = .ok (.goto (-34), 3) := by decide +kernel
theorem d_M_denied_37 : decode b_M_denied 37 = .ok (.return_, 1) := by decide +kernel
theorem d_M_upper_0 : decode b_M_upper 0 = .ok (.aload_n 0, 1) := by decide +kernel
theorem d_M_upper_1 : decode b_M_upper 1 = .ok (.getfield 152, 3) := by decide +kernel
theorem d_M_upper_4 : decode b_M_upper 4 = .ok (.ifCond .ne 7, 3) := by decide +kernel
theorem d_M_upper_7 : decode b_M_upper 7 = .ok (.iconst 0, 1) := by decide +kernel
theorem d_M_upper_8 : decode b_M_upper 8 = .ok (.goto 14, 3) := by decide +kernel
theorem d_M_upper_11 : decode b_M_upper 11 = .ok (.aload_n 0, 1) := by decide +kernel
theorem d_M_upper_12 : decode b_M_upper 12 = .ok (.getfield 49, 3) := by decide +kernel
theorem d_M_upper_15 : decode b_M_upper 15 = .ok (.aload_n 0, 1) := by decide +kernel
theorem d_M_upper_16 : decode b_M_upper 16 = .ok (.getfield 152, 3) := by decide +kernel
theorem d_M_upper_19 : decode b_M_upper 19 = .ok (.iconst 1, 1) := by decide +kernel
theorem d_M_upper_20 : decode b_M_upper 20 = .ok (.isub, 1) := by decide +kernel
theorem d_M_upper_21 : decode b_M_upper 21 = .ok (.iaload, 1) := by decide +kernel
theorem d_M_upper_22 : decode b_M_upper 22 = .ok (.ireturn, 1) := by decide +kernel
theorem d_M_named_0 : decode b_M_named 0 = .ok (.aload_n 0, 1) := by decide +kernel
theorem d_M_named_1 : decode b_M_named 1 = .ok (.getfield 132, 3) := by decide +kernel
theorem d_M_named_4 : decode b_M_named 4 = .ok (.iconst 1, 1) := by decide +kernel
theorem d_M_named_5 : decode b_M_named 5 = .ok (.if_icmp .ne 32, 3) := by decide +kernel
theorem d_M_named_8 : decode b_M_named 8 = .ok (.aload_n 0, 1) := by decide +kernel
theorem d_M_named_9 : decode b_M_named 9 = .ok (.getfield 112, 3) := by decide +kernel
theorem d_M_named_12 : decode b_M_named 12 = .ok (.aload_n 0, 1) := by decide +kernel
theorem d_M_named_13 : decode b_M_named 13 = .ok (.getfield 105, 3) := by decide +kernel
theorem d_M_named_16 : decode b_M_named 16 = .ok (.iconst 1, 1) := by decide +kernel
theorem d_M_named_17 : decode b_M_named 17 = .ok (.iadd, 1) := by decide +kernel
theorem d_M_named_18 : decode b_M_named 18 = .ok (.if_icmp .ne 19, 3) := by decide +kernel
theorem d_M_named_21 : decode b_M_named 21 = .ok (.aload_n 0, 1) := by decide +kernel
theorem d_M_named_22 : decode b_M_named 22 = .ok (.aload_n 0, 1) := by decide +kernel
theorem d_M_named_23 : decode b_M_named 23 = .ok (.getfield 33, 3) := by decide +kernel
theorem d_M_named_26 : decode b_M_named 26 = .ok (.aload_n 0, 1) := by decide +kernel
theorem d_M_named_27 : decode b_M_named 27 = .ok (.getfield 105, 3) := by decide +kernel
theorem d_M_named_30 : decode b_M_named 30 = .ok (.caload, 1) := by decide +kernel
theorem d_M_named_31 : decode b_M_named 31 = .ok (.invokevirtual 79, 3) := by decide +kernel
theorem d_M_named_34 : decode b_M_named 34 = .ok (.goto 4, 3) := by decide +kernel
theorem d_M_named_37 : decode b_M_named 37 = .ok (.iconst (-1), 1) := by decide +kernel
theorem d_M_named_38 : decode b_M_named 38 = .ok (.ireturn, 1) := by decide +kernel
theorem d_M_negative_0 : decode b_M_negative 0 = .ok (.aload_n 0, 1) := by decide +kernel
theorem d_M_negative_1 : decode b_M_negative 1 = .ok (.getfield 132, 3) := by decide +kernel
theorem d_M_negative_4 : decode b_M_negative 4 = .ok (.iconst 2, 1) := by decide +kernel
theorem d_M_negative_5 : decode b_M_negative 5 = .ok (.if_icmp .eq 6, 3) := by decide +kernel
theorem d_M_negative_8 : decode b_M_negative 8 = .ok (.bipush 17, 2) := by decide +kernel
theorem d_M_negative_10 : decode b_M_negative 10 = .ok (.ireturn, 1) := by decide +kernel
theorem d_M_negative_11 : decode b_M_negative 11 = .ok (.aload_n 0, 1) := by decide +kernel
theorem d_M_negative_12 : decode b_M_negative 12 = .ok (.bipush 6, 2) := by decide +kernel
theorem d_M_negative_14 : decode b_M_negative 14 = .ok (.aload_n 0, 1) := by decide +kernel
theorem d_M_negative_15 : decode b_M_negative 15 = .ok (.getfield 115, 3) := by decide +kernel
theorem d_M_negative_18 : decode b_M_negative 18 = .ok (.ineg, 1) := by decide +kernel
theorem d_M_negative_19 : decode b_M_negative 19 = .ok (.invokevirtual 159, 3) := by decide +kernel
theorem d_M_negative_22 : decode b_M_negative 22 = .ok (.iload_n 1, 1) := by decide +kernel
theorem d_M_negative_23 : decode b_M_negative 23 = .ok (.bipush 6, 2) := by decide +kernel
theorem d_M_negative_25 : decode b_M_negative 25 = .ok (.if_icmp .ne 10, 3) := by decide +kernel
theorem d_M_negative_28 : decode b_M_negative 28 = .ok (.aload_n 0, 1) := by decide +kernel
theorem d_M_negative_29 : decode b_M_negative 29 = .ok (.invokevirtual 188, 3) := by decide +kernel
theorem d_M_negative_32 : decode b_M_negative 32 = .ok (.goto 4, 3) := by decide +kernel
theorem d_M_negative_35 : decode b_M_negative 35 = .ok (.iload_n 1, 1) := by decide +kernel
theorem d_M_negative_36 : decode b_M_negative 36 = .ok (.ireturn, 1) := by decide +kernel
theorem d_M_relate_0 : decode b_M_relate 0 = .ok (.aload_n 0, 1) := by decide +kernel
theorem d_M_relate_1 : decode b_M_relate 1 = .ok (.aload_n 0, 1) := by decide +kernel
theorem d_M_relate_2 : decode b_M_relate 2 = .ok (.bipush 60, 2) := by decide +kernel
theorem d_M_relate_4 : decode b_M_relate 4 = .ok (.invokevirtual 175, 3) := by decide +kernel
theorem d_M_relate_7 : decode b_M_relate 7 = .ok (.ifCond .eq 8, 3) := by decide +kernel
theorem d_M_relate_10 : decode b_M_relate 10 = .ok (.bipush 7, 2) := by decide +kernel
theorem d_M_relate_12 : decode b_M_relate 12 = .ok (.goto 32, 3) := by decide +kernel
theorem d_M_relate_15 : decode b_M_relate 15 = .ok (.aload_n 0, 1) := by decide +kernel
theorem d_M_relate_16 : decode b_M_relate 16 = .ok (.bipush 61, 2) := by decide +kernel
theorem d_M_relate_18 : decode b_M_relate 18 = .ok (.invokevirtual 175, 3) := by decide +kernel
theorem d_M_relate_21 : decode b_M_relate 21 = .ok (.ifCond .eq 8, 3) := by decide +kernel
theorem d_M_relate_24 : decode b_M_relate 24 = .ok (.bipush 8, 2) := by decide +kernel
theorem d_M_relate_26 : decode b_M_relate 26 = .ok (.goto 18, 3) := by decide +kernel
theorem d_M_relate_29 : decode b_M_relate 29 = .ok (.aload_n 0, 1) := by decide +kernel
theorem d_M_relate_30 : decode b_M_relate 30 = .ok (.bipush 62, 2) := by decide +kernel
theorem d_M_relate_32 : decode b_M_relate 32 = .ok (.invokevirtual 175, 3) := by decide +kernel
theorem d_M_relate_35 : decode b_M_relate 35 = .ok (.ifCond .eq 8, 3) := by decide +kernel
theorem d_M_relate_38 : decode b_M_relate 38 = .ok (.bipush 9, 2) := by decide +kernel
theorem d_M_relate_40 : decode b_M_relate 40 = .ok (.goto 4, 3) := by decide +kernel
theorem d_M_relate_43 : decode b_M_relate 43 = .ok (.iconst 0, 1) := by decide +kernel
theorem d_M_relate_44 : decode b_M_relate 44 = .ok (.putfield 194, 3) := by decide +kernel
theorem d_M_relate_47 : decode b_M_relate 47 = .ok (.aload_n 0, 1) := by decide +kernel
theorem d_M_relate_48 : decode b_M_relate 48 = .ok (.getfield 194, 3) := by decide +kernel
theorem d_M_relate_51 : decode b_M_relate 51 = .ok (.ifCond .le 7, 3) := by decide +kernel
theorem d_M_relate_54 : decode b_M_relate 54 = .ok (.iconst 4, 1) := by decide +kernel
theorem d_M_relate_55 : decode b_M_relate 55 = .ok (.goto 5, 3) := by decide +kernel
theorem d_M_relate_58 : decode b_M_relate 58 = .ok (.bipush 17, 2) := by decide +kernel
theorem d_M_relate_60 : decode b_M_relate 60 = .ok (.ireturn, 1) := by decide +kernel
theorem d_M_afterOne_0 : decode b_M_afterOne 0 = .ok (.aload_n 0, 1) := by decide +kernel
theorem d_M_afterOne_1 : decode b_M_afterOne 1 = .ok (.bipush 38, 2) := by decide +kernel
theorem d_M_afterOne_3 : decode b_M_afterOne 3 = .ok (.invokevirtual 175, 3) := by decide +kernel
theorem d_M_afterOne_6 : decode b_M_afterOne 6 = .ok (.ifCond .eq 16, 3) := by decide +kernel
theorem d_M_afterOne_9 : decode b_M_afterOne 9 = .ok (.aload_n 0, 1) := by decide +kernel
theorem d_M_afterOne_10 : decode b_M_afterOne 10 = .ok (.iconst 2, 1) := by decide +kernel
theorem d_M_afterOne_11 : decode b_M_afterOne 11 = .ok (.iconst 2, 1) := by decide +kernel
theorem d_M_afterOne_12 : decode b_M_afterOne 12 = .ok (.invokevirtual 200, 3) := by decide +kernel
theorem d_M_afterOne_15 : decode b_M_afterOne 15 = .ok (.aload_n 0, 1) := by decide +kernel
theorem d_M_afterOne_16 : decode b_M_afterOne 16 = .ok (.iconst 2, 1) := by decide +kernel
theorem d_M_afterOne_17 : decode b_M_afterOne 17 = .ok (.invokevirtual 181, 3) := by decide +kernel
theorem d_M_afterOne_20 : decode b_M_afterOne 20 = .ok (.iconst 1, 1) := by decide +kernel
theorem d_M_afterOne_21 : decode b_M_afterOne 21 = .ok (.ireturn, 1) := by decide +kernel
theorem d_M_afterOne_22 : decode b_M_afterOne 22 = .ok (.aload_n 0, 1) := by decide +kernel
theorem d_M_afterOne_23 : decode b_M_afterOne 23 = .ok (.iconst 2, 1) := by decide +kernel
theorem d_M_afterOne_24 : decode b_M_afterOne 24 = .ok (.iconst 1, 1) := by decide +kernel
theorem d_M_afterOne_25 : decode b_M_afterOne 25 = .ok (.invokevirtual 200, 3) := by decide +kernel
theorem d_M_afterOne_28 : decode b_M_afterOne 28 = .ok (.aload_n 0, 1) := by decide +kernel
theorem d_M_afterOne_29 : decode b_M_afterOne 29 = .ok (.bipush 124, 2) := by decide +kernel
theorem d_M_afterOne_31 : decode b_M_afterOne 31 = .ok (.invokevirtual 175, 3) := by decide +kernel
theorem d_M_afterOne_34 : decode b_M_afterOne 34 = .ok (.ifCond .eq 10, 3) := by decide +kernel
theorem d_M_afterOne_37 : decode b_M_afterOne 37 = .ok (.aload_n 0, 1) := by decide +kernel
theorem d_M_afterOne_38 : decode b_M_afterOne 38 = .ok (.iconst 1, 1) := by decide +kernel
theorem d_M_afterOne_39 : decode b_M_afterOne 39 = .ok (.invokevirtual 181, 3) := by decide +kernel
theorem d_M_afterOne_42 : decode b_M_afterOne 42 = .ok (.iconst 1, 1) := by decide +kernel
theorem d_M_afterOne_43 : decode b_M_afterOne 43 = .ok (.ireturn, 1) := by decide +kernel
theorem d_M_afterOne_44 : decode b_M_afterOne 44 = .ok (.aload_n 0, 1) := by decide +kernel
theorem d_M_afterOne_45 : decode b_M_afterOne 45 = .ok (.getfield 152, 3) := by decide +kernel
theorem d_M_afterOne_48 : decode b_M_afterOne 48 = .ok (.ifCond .ne 8, 3) := by decide +kernel
theorem d_M_afterOne_51 : decode b_M_afterOne 51 = .ok (.aload_n 0, 1) := by decide +kernel
theorem d_M_afterOne_52 : decode b_M_afterOne 52 = .ok (.invokevirtual 172, 3) := by decide +kernel
theorem d_M_afterOne_55 : decode b_M_afterOne 55 = .ok (.ireturn, 1) := by decide +kernel
theorem d_M_afterOne_56 : decode b_M_afterOne 56 = .ok (.aload_n 0, 1) := by decide +kernel
theorem d_M_afterOne_57 : decode b_M_afterOne 57 = .ok (.bipush 41, 2) := by decide +kernel
theorem d_M_afterOne_59 : decode b_M_afterOne 59 = .ok (.invokevirtual 175, 3) := by decide +kernel
theorem d_M_afterOne_62 : decode b_M_afterOne 62 = .ok (.ifCond .ne 6, 3) := by decide +kernel
theorem d_M_afterOne_65 : decode b_M_afterOne 65 = .ok (.bipush 17, 2) := by decide +kernel
theorem d_M_afterOne_67 : decode b_M_afterOne 67 = .ok (.ireturn, 1) := by decide +kernel
theorem d_M_afterOne_68 : decode b_M_afterOne 68 = .ok (.aload_n 0, 1) := by decide +kernel
theorem d_M_afterOne_69 : decode b_M_afterOne 69 = .ok (.dup, 1) := by decide +kernel
theorem d_M_afterOne_70 : decode b_M_afterOne 70 = .ok (.getfield 152, 3) := by decide +kernel
theorem d_M_afterOne_73 : decode b_M_afterOne 73 = .ok (.iconst 1, 1) := by decide +kernel
theorem d_M_afterOne_74 : decode b_M_afterOne 74 = .ok (.isub, 1) := by decide +kernel
theorem d_M_afterOne_75 : decode b_M_afterOne 75 = .ok (.putfield 152, 3) := by decide +kernel
theorem d_M_afterOne_78 : decode b_M_afterOne 78 = .ok (.aload_n 0, 1) := by decide +kernel
theorem d_M_afterOne_79 : decode b_M_afterOne 79 = .ok (.dup, 1) := by decide +kernel
theorem d_M_afterOne_80 : decode b_M_afterOne 80 = .ok (.getfield 178, 3) := by decide +kernel
theorem d_M_afterOne_83 : decode b_M_afterOne 83 = .ok (.iconst 1, 1) := by decide +kernel
theorem d_M_afterOne_84 : decode b_M_afterOne 84 = .ok (.isub, 1) := by decide +kernel
theorem d_M_afterOne_85 : decode b_M_afterOne 85 = .ok (.putfield 178, 3) := by decide +kernel
theorem d_M_afterOne_88 : decode b_M_afterOne 88 = .ok (.aload_n 0, 1) := by decide +kernel
theorem d_M_afterOne_89 : decode b_M_afterOne 89 = .ok (.invokevirtual 197, 3) := by decide +kernel
theorem d_M_afterOne_92 : decode b_M_afterOne 92 = .ok (.bipush 6, 2) := by decide +kernel
theorem d_M_afterOne_94 : decode b_M_afterOne 94 = .ok (.ireturn, 1) := by decide +kernel
theorem d_M_settle_0 : decode b_M_settle 0 = .ok (.aload_n 0, 1) := by decide +kernel
theorem d_M_settle_1 : decode b_M_settle 1 = .ok (.invokevirtual 155, 3) := by decide +kernel
theorem d_M_settle_4 : decode b_M_settle 4 = .ok (.iload_n 1, 1) := by decide +kernel
theorem d_M_settle_5 : decode b_M_settle 5 = .ok (.if_icmp .eq 11, 3) := by decide +kernel
theorem d_M_settle_8 : decode b_M_settle 8 = .ok (.aload_n 0, 1) := by decide +kernel
theorem d_M_settle_9 : decode b_M_settle 9 = .ok (.invokevirtual 155, 3) := by decide +kernel
theorem d_M_settle_12 : decode b_M_settle 12 = .ok (.iload_n 2, 1) := by decide +kernel
theorem d_M_settle_13 : decode b_M_settle 13 = .ok (.if_icmp .ne 30, 3) := by decide +kernel
theorem d_M_settle_16 : decode b_M_settle 16 = .ok (.aload_n 0, 1) := by decide +kernel
theorem d_M_settle_17 : decode b_M_settle 17 = .ok (.dup, 1) := by decide +kernel
theorem d_M_settle_18 : decode b_M_settle 18 = .ok (.getfield 152, 3) := by decide +kernel
theorem d_M_settle_21 : decode b_M_settle 21 = .ok (.iconst 1, 1) := by decide +kernel
theorem d_M_settle_22 : decode b_M_settle 22 = .ok (.isub, 1) := by decide +kernel
theorem d_M_settle_23 : decode b_M_settle 23 = .ok (.putfield 152, 3) := by decide +kernel
theorem d_M_settle_26 : decode b_M_settle 26 = .ok (.aload_n 0, 1) := by decide +kernel
theorem d_M_settle_27 : decode b_M_settle 27 = .ok (.aload_n 0, 1) := by decide +kernel
theorem d_M_settle_28 : decode b_M_settle 28 = .ok (.getfield 49, 3) := by decide +kernel
theorem d_M_settle_31 : decode b_M_settle 31 = .ok (.aload_n 0, 1) := by decide +kernel
theorem d_M_settle_32 : decode b_M_settle 32 = .ok (.getfield 152, 3) := by decide +kernel
theorem d_M_settle_35 : decode b_M_settle 35 = .ok (.iaload, 1) := by decide +kernel
theorem d_M_settle_36 : decode b_M_settle 36 = .ok (.iconst 0, 1) := by decide +kernel
theorem d_M_settle_37 : decode b_M_settle 37 = .ok (.invokevirtual 159, 3) := by decide +kernel
theorem d_M_settle_40 : decode b_M_settle 40 = .ok (.goto (-40), 3) := by decide +kernel
theorem d_M_settle_43 : decode b_M_settle 43 = .ok (.return_, 1) := by decide +kernel
theorem d_M_pick_0 : decode b_M_pick 0 = .ok (.aload_n 0, 1) := by decide +kernel
theorem d_M_pick_1 : decode b_M_pick 1 = .ok (.invokevirtual 191, 3) := by decide +kernel
theorem d_M_pick_4 : decode b_M_pick 4 = .ok (.ifCond .ge 6, 3) := by decide +kernel
theorem d_M_pick_7 : decode b_M_pick 7 = .ok (.bipush 17, 2) := by decide +kernel
theorem d_M_pick_9 : decode b_M_pick 9 = .ok (.ireturn, 1) := by decide +kernel
theorem d_M_pick_10 : decode b_M_pick 10 = .ok (.iload_n 1, 1) := by decide +kernel
theorem d_M_pick_11 : decode b_M_pick 11 = .ok (.bipush 8, 2) := by decide +kernel
theorem d_M_pick_13 : decode b_M_pick 13 = .ok (.if_icmp .ne 19, 3) := by decide +kernel
theorem d_M_pick_16 : decode b_M_pick 16 = .ok (.aload_n 0, 1) := by decide +kernel
theorem d_M_pick_17 : decode b_M_pick 17 = .ok (.getfield 52, 3) := by decide +kernel
theorem d_M_pick_20 : decode b_M_pick 20 = .ok (.aload_n 0, 1) := by decide +kernel
theorem d_M_pick_21 : decode b_M_pick 21 = .ok (.getfield 203, 3) := by decide +kernel
theorem d_M_pick_24 : decode b_M_pick 24 = .ok (.aload_n 0, 1) := by decide +kernel
theorem d_M_pick_25 : decode b_M_pick 25 = .ok (.invokevirtual 191, 3) := by decide +kernel
theorem d_M_pick_28 : decode b_M_pick 28 = .ok (.iastore, 1) := by decide +kernel
theorem d_M_pick_29 : decode b_M_pick 29 = .ok (.goto 11, 3) := by decide +kernel
theorem d_M_pick_32 : decode b_M_pick 32 = .ok (.aload_n 0, 1) := by decide +kernel
theorem d_M_pick_33 : decode b_M_pick 33 = .ok (.aload_n 0, 1) := by decide +kernel
theorem d_M_pick_34 : decode b_M_pick 34 = .ok (.invokevirtual 191, 3) := by decide +kernel
theorem d_M_pick_37 : decode b_M_pick 37 = .ok (.putfield 206, 3) := by decide +kernel
theorem d_M_pick_40 : decode b_M_pick 40 = .ok (.iload_n 1, 1) := by decide +kernel
theorem d_M_pick_41 : decode b_M_pick 41 = .ok (.ireturn, 1) := by decide +kernel
theorem d_M_part_0 : decode b_M_part 0 = .ok (.aload_n 0, 1) := by decide +kernel
theorem d_M_part_1 : decode b_M_part 1 = .ok (.bipush 45, 2) := by decide +kernel
theorem d_M_part_3 : decode b_M_part 3 = .ok (.invokevirtual 175, 3) := by decide +kernel
theorem d_M_part_6 : decode b_M_part 6 = .ok (.ifCond .eq 9, 3) := by decide +kernel
theorem d_M_part_9 : decode b_M_part 9 = .ok (.iload_n 2, 1) := by decide +kernel
theorem d_M_part_10 : decode b_M_part 10 = .ok (.ifCond .ne 5, 3) := by decide +kernel
theorem d_M_part_13 : decode b_M_part 13 = .ok (.iload_n 3, 1) := by decide +kernel
theorem d_M_part_14 : decode b_M_part 14 = .ok (.ireturn, 1) := by decide +kernel
theorem d_M_part_15 : decode b_M_part 15 = .ok (.iload_n 2, 1) := by decide +kernel
theorem d_M_part_16 : decode b_M_part 16 = .ok (.ifCond .eq 7, 3) := by decide +kernel
theorem d_M_part_19 : decode b_M_part 19 = .ok (.iconst (-1), 1) := by decide +kernel
theorem d_M_part_20 : decode b_M_part 20 = .ok (.goto 7, 3) := by decide +kernel
theorem d_M_part_23 : decode b_M_part 23 = .ok (.aload_n 0, 1) := by decide +kernel
theorem d_M_part_24 : decode b_M_part 24 = .ok (.invokevirtual 191, 3) := by decide +kernel
theorem d_M_part_27 : decode b_M_part 27 = .ok (.istore 5, 2) := by decide +kernel
theorem d_M_part_29 : decode b_M_part 29 = .ok (.aload_n 0, 1) := by decide +kernel
theorem d_M_part_30 : decode b_M_part 30 = .ok (.getfield 132, 3) := by decide +kernel
theorem d_M_part_33 : decode b_M_part 33 = .ok (.iconst 2, 1) := by decide +kernel
theorem d_M_part_34 : decode b_M_part 34 = .ok (.if_icmp .eq 11, 3) := by decide +kernel
theorem d_M_part_37 : decode b_M_part 37 = .ok (.iload 5, 2) := by decide +kernel
theorem d_M_part_39 : decode b_M_part 39 = .ok (.ifCond .ge 6, 3) := by decide +kernel
theorem d_M_part_42 : decode b_M_part 42 = .ok (.bipush 17, 2) := by decide +kernel
theorem d_M_part_44 : decode b_M_part 44 = .ok (.ireturn, 1) := by decide +kernel
theorem d_M_part_45 : decode b_M_part 45 = .ok (.iload_n 2, 1) := by decide +kernel
theorem d_M_part_46 : decode b_M_part 46 = .ok (.ifCond .eq 11, 3) := by decide +kernel
theorem d_M_part_49 : decode b_M_part 49 = .ok (.aload_n 0, 1) := by decide +kernel
theorem d_M_part_50 : decode b_M_part 50 = .ok (.getfield 115, 3) := by decide +kernel
theorem d_M_part_53 : decode b_M_part 53 = .ok (.ineg, 1) := by decide +kernel
theorem d_M_part_54 : decode b_M_part 54 = .ok (.goto 7, 3) := by decide +kernel
theorem d_M_part_57 : decode b_M_part 57 = .ok (.aload_n 0, 1) := by decide +kernel
theorem d_M_part_58 : decode b_M_part 58 = .ok (.getfield 115, 3) := by decide +kernel
theorem d_M_part_61 : decode b_M_part 61 = .ok (.istore 6, 2) := by decide +kernel
theorem d_M_part_63 : decode b_M_part 63 = .ok (.iload_n 1, 1) := by decide +kernel
theorem d_M_part_64 : decode b_M_part 64 = .ok (.ifCond .eq 28, 3) := by decide +kernel
theorem d_M_part_67 : decode b_M_part 67 = .ok (.aload_n 0, 1) := by decide +kernel
theorem d_M_part_68 : decode b_M_part 68 = .ok (.getfield 64, 3) := by decide +kernel
theorem d_M_part_71 : decode b_M_part 71 = .ok (.aload_n 0, 1) := by decide +kernel
theorem d_M_part_72 : decode b_M_part 72 = .ok (.getfield 203, 3) := by decide +kernel
theorem d_M_part_75 : decode b_M_part 75 = .ok (.iload 5, 2) := by decide +kernel
theorem d_M_part_77 : decode b_M_part 77 = .ok (.iastore, 1) := by decide +kernel
theorem d_M_part_78 : decode b_M_part 78 = .ok (.aload_n 0, 1) := by decide +kernel
theorem d_M_part_79 : decode b_M_part 79 = .ok (.getfield 67, 3) := by decide +kernel
theorem d_M_part_82 : decode b_M_part 82 = .ok (.aload_n 0, 1) := by decide +kernel
theorem d_M_part_83 : decode b_M_part 83 = .ok (.getfield 203, 3) := by decide +kernel
theorem d_M_part_86 : decode b_M_part 86 = .ok (.iload 6, 2) := by decide +kernel
theorem d_M_part_88 : decode b_M_part 88 = .ok (.iastore, 1) := by decide +kernel
theorem d_M_part_89 : decode b_M_part 89 = .ok (.goto 35, 3) := by decide +kernel
theorem d_M_part_92 : decode b_M_part 92 = .ok (.aload_n 0, 1) := by decide +kernel
theorem d_M_part_93 : decode b_M_part 93 = .ok (.getfield 55, 3) := by decide +kernel
theorem d_M_part_96 : decode b_M_part 96 = .ok (.aload_n 0, 1) := by decide +kernel
theorem d_M_part_97 : decode b_M_part 97 = .ok (.getfield 203, 3) := by decide +kernel
theorem d_M_part_100 : decode b_M_part 100 = .ok (.iload 5, 2) := by decide +kernel
theorem d_M_part_102 : decode b_M_part 102 = .ok (.iastore, 1) := by decide +kernel
theorem d_M_part_103 : decode b_M_part 103 = .ok (.aload_n 0, 1) := by decide +kernel
theorem d_M_part_104 : decode b_M_part 104 = .ok (.getfield 58, 3) := by decide +kernel
theorem d_M_part_107 : decode b_M_part 107 = .ok (.aload_n 0, 1) := by decide +kernel
theorem d_M_part_108 : decode b_M_part 108 = .ok (.getfield 203, 3) := by decide +kernel
theorem d_M_part_111 : decode b_M_part 111 = .ok (.iload 6, 2) := by decide +kernel
theorem d_M_part_113 : decode b_M_part 113 = .ok (.iastore, 1) := by decide +kernel
theorem d_M_part_114 : decode b_M_part 114 = .ok (.aload_n 0, 1) := by decide +kernel
theorem d_M_part_115 : decode b_M_part 115 = .ok (.getfield 61, 3) := by decide +kernel
theorem d_M_part_118 : decode b_M_part 118 = .ok (.aload_n 0, 1) := by decide +kernel
theorem d_M_part_119 : decode b_M_part 119 = .ok (.getfield 203, 3) := by decide +kernel
theorem d_M_part_122 : decode b_M_part 122 = .ok (.iconst 0, 1) := by decide +kernel
theorem d_M_part_123 : decode b_M_part 123 = .ok (.iastore, 1) := by decide +kernel
theorem d_M_part_124 : decode b_M_part 124 = .ok (.iload 4, 2) := by decide +kernel
theorem d_M_part_126 : decode b_M_part 126 = .ok (.ireturn, 1) := by decide +kernel
theorem d_M_afterFirst_0 : decode b_M_afterFirst 0 = .ok (.aload_n 0, 1) := by decide +kernel
theorem d_M_afterFirst_1 : decode b_M_afterFirst 1 = .ok (.getfield 61, 3) := by decide +kernel
theorem d_M_afterFirst_4 : decode b_M_afterFirst 4 = .ok (.aload_n 0, 1) := by decide +kernel
theorem d_M_afterFirst_5 : decode b_M_afterFirst 5 = .ok (.getfield 203, 3) := by decide +kernel
theorem d_M_afterFirst_8 : decode b_M_afterFirst 8 = .ok (.aload_n 0, 1) := by decide +kernel
theorem d_M_afterFirst_9 : decode b_M_afterFirst 9 = .ok (.bipush 43, 2) := by decide +kernel
theorem d_M_afterFirst_11 : decode b_M_afterFirst 11 = .ok (.invokevirtual 175, 3) := by decide +kernel
theorem d_M_afterFirst_14 : decode b_M_afterFirst 14 = .ok (.ifCond .eq 7, 3) := by decide +kernel
theorem d_M_afterFirst_17 : decode b_M_afterFirst 17 = .ok (.iconst 1, 1) := by decide +kernel
theorem d_M_afterFirst_18 : decode b_M_afterFirst 18 = .ok (.goto 30, 3) := by decide +kernel
theorem d_M_afterFirst_21 : decode b_M_afterFirst 21 = .ok (.aload_n 0, 1) := by decide +kernel
theorem d_M_afterFirst_22 : decode b_M_afterFirst 22 = .ok (.bipush 45, 2) := by decide +kernel
theorem d_M_afterFirst_24 : decode b_M_afterFirst 24 = .ok (.invokevirtual 175, 3) := by decide +kernel
theorem d_M_afterFirst_27 : decode b_M_afterFirst 27 = .ok (.ifCond .eq 7, 3) := by decide +kernel
theorem d_M_afterFirst_30 : decode b_M_afterFirst 30 = .ok (.iconst 2, 1) := by decide +kernel
theorem d_M_afterFirst_31 : decode b_M_afterFirst 31 = .ok (.goto 17, 3) := by decide +kernel
theorem d_M_afterFirst_34 : decode b_M_afterFirst 34 = .ok (.aload_n 0, 1) := by decide +kernel
theorem d_M_afterFirst_35 : decode b_M_afterFirst 35 = .ok (.bipush 42, 2) := by decide +kernel
theorem d_M_afterFirst_37 : decode b_M_afterFirst 37 = .ok (.invokevirtual 175, 3) := by decide +kernel
theorem d_M_afterFirst_40 : decode b_M_afterFirst 40 = .ok (.ifCond .eq 7, 3) := by decide +kernel
theorem d_M_afterFirst_43 : decode b_M_afterFirst 43 = .ok (.iconst 3, 1) := by decide +kernel
theorem d_M_afterFirst_44 : decode b_M_afterFirst 44 = .ok (.goto 4, 3) := by decide +kernel
theorem d_M_afterFirst_47 : decode b_M_afterFirst 47 = .ok (.iconst 0, 1) := by decide +kernel
theorem d_M_afterFirst_48 : decode b_M_afterFirst 48 = .ok (.iastore, 1) := by decide +kernel
theorem d_M_afterFirst_49 : decode b_M_afterFirst 49 = .ok (.aload_n 0, 1) := by decide +kernel
theorem d_M_afterFirst_50 : decode b_M_afterFirst 50 = .ok (.getfield 61, 3) := by decide +kernel
theorem d_M_afterFirst_53 : decode b_M_afterFirst 53 = .ok (.aload_n 0, 1) := by decide +kernel
theorem d_M_afterFirst_54 : decode b_M_afterFirst 54 = .ok (.getfield 203, 3) := by decide +kernel
theorem d_M_afterFirst_57 : decode b_M_afterFirst 57 = .ok (.iaload, 1) := by decide +kernel
theorem d_M_afterFirst_58 : decode b_M_afterFirst 58 = .ok (.ifCond .le 8, 3) := by decide +kernel
theorem d_M_afterFirst_61 : decode b_M_afterFirst 61 = .ok (.bipush 12, 2) := by decide +kernel
theorem d_M_afterFirst_63 : decode b_M_afterFirst 63 = .ok (.goto 7, 3) := by decide +kernel
theorem d_M_afterFirst_66 : decode b_M_afterFirst 66 = .ok (.aload_n 0, 1) := by decide +kernel
theorem d_M_afterFirst_67 : decode b_M_afterFirst 67 = .ok (.invokevirtual 209, 3) := by decide +kernel
theorem d_M_afterFirst_70 : decode b_M_afterFirst 70 = .ok (.ireturn, 1) := by decide +kernel
theorem d_M_afterChange_0 : decode b_M_afterChange 0 = .ok (.aload_n 0, 1) := by decide +kernel
theorem d_M_afterChange_1 : decode b_M_afterChange 1 = .ok (.getfield 203, 3) := by decide +kernel
theorem d_M_afterChange_4 : decode b_M_afterChange 4 = .ok (.ifCond .ne 20, 3) := by decide +kernel
theorem d_M_afterChange_7 : decode b_M_afterChange 7 = .ok (.aload_n 0, 1) := by decide +kernel
theorem d_M_afterChange_8 : decode b_M_afterChange 8 = .ok (.bipush 44, 2) := by decide +kernel
theorem d_M_afterChange_10 : decode b_M_afterChange 10 = .ok (.invokevirtual 175, 3) := by decide +kernel
theorem d_M_afterChange_13 : decode b_M_afterChange 13 = .ok (.ifCond .eq 11, 3) := by decide +kernel
theorem d_M_afterChange_16 : decode b_M_afterChange 16 = .ok (.aload_n 0, 1) := by decide +kernel
theorem d_M_afterChange_17 : decode b_M_afterChange 17 = .ok (.iconst 1, 1) := by decide +kernel
theorem d_M_afterChange_18 : decode b_M_afterChange 18 = .ok (.putfield 203, 3) := by decide +kernel
theorem d_M_afterChange_21 : decode b_M_afterChange 21 = .ok (.bipush 7, 2) := by decide +kernel
theorem d_M_afterChange_23 : decode b_M_afterChange 23 = .ok (.ireturn, 1) := by decide +kernel
theorem d_M_afterChange_24 : decode b_M_afterChange 24 = .ok (.aload_n 0, 1) := by decide +kernel
theorem d_M_afterChange_25 : decode b_M_afterChange 25 = .ok (.getfield 132, 3) := by decide +kernel
theorem d_M_afterChange_28 : decode b_M_afterChange 28 = .ok (.ifCond .ne 8, 3) := by decide +kernel
theorem d_M_afterChange_31 : decode b_M_afterChange 31 = .ok (.bipush 16, 2) := by decide +kernel
theorem d_M_afterChange_33 : decode b_M_afterChange 33 = .ok (.goto 5, 3) := by decide +kernel
theorem d_M_afterChange_36 : decode b_M_afterChange 36 = .ok (.bipush 17, 2) := by decide +kernel
theorem d_M_afterChange_38 : decode b_M_afterChange 38 = .ok (.ireturn, 1) := by decide +kernel
theorem d_M_isTaken_0 : decode b_M_isTaken 0 = .ok (.aload_n 0, 1) := by decide +kernel
theorem d_M_isTaken_1 : decode b_M_isTaken 1 = .ok (.iconst 0, 1) := by decide +kernel
theorem d_M_isTaken_2 : decode b_M_isTaken 2 = .ok (.putfield 244, 3) := by decide +kernel
theorem d_M_isTaken_5 : decode b_M_isTaken 5 = .ok (.iconst 0, 1) := by decide +kernel
theorem d_M_isTaken_6 : decode b_M_isTaken 6 = .ok (.istore_n 2, 1) := by decide +kernel
theorem d_M_isTaken_7 : decode b_M_isTaken 7 = .ok (.iload_n 2, 1) := by decide +kernel
theorem d_M_isTaken_8 : decode b_M_isTaken 8 = .ok (.aload_n 0, 1) := by decide +kernel
theorem d_M_isTaken_9 : decode b_M_isTaken 9 = .ok (.getfield 149, 3) := by decide +kernel
theorem d_M_isTaken_12 : decode b_M_isTaken 12 = .ok (.if_icmp .ge 160, 3) := by decide +kernel
theorem d_M_isTaken_15 : decode b_M_isTaken 15 = .ok (.aload_n 0, 1) := by decide +kernel
theorem d_M_isTaken_16 : decode b_M_isTaken 16 = .ok (.getfield 7, 3) := by decide +kernel
theorem d_M_isTaken_19 : decode b_M_isTaken 19 = .ok (.iload_n 1, 1) := by decide +kernel
theorem d_M_isTaken_20 : decode b_M_isTaken 20 = .ok (.baload, 1) := by decide +kernel
theorem d_M_isTaken_21 : decode b_M_isTaken 21 = .ok (.ifCond .eq 151, 3) := by decide +kernel
theorem d_M_isTaken_24 : decode b_M_isTaken 24 = .ok (.aload_n 0, 1) := by decide +kernel
theorem d_M_isTaken_25 : decode b_M_isTaken 25 = .ok (.getfield 43, 3) := by decide +kernel
theorem d_M_isTaken_28 : decode b_M_isTaken 28 = .ok (.iload_n 2, 1) := by decide +kernel
theorem d_M_isTaken_29 : decode b_M_isTaken 29 = .ok (.iaload, 1) := by decide +kernel
theorem d_M_isTaken_30 : decode b_M_isTaken 30 = .ok (.istore_n 3, 1) := by decide +kernel
theorem d_M_isTaken_31 : decode b_M_isTaken 31 = .ok (.iload_n 3, 1) := by decide +kernel
theorem d_M_isTaken_32 : decode b_M_isTaken 32 = .ok (.iconst 5, 1) := by decide +kernel
theorem d_M_isTaken_33 : decode b_M_isTaken 33 = .ok (.if_icmp .eq 9, 3) := by decide +kernel
theorem d_M_isTaken_36 : decode b_M_isTaken 36 = .ok (.iload_n 3, 1) := by decide +kernel
theorem d_M_isTaken_37 : decode b_M_isTaken 37 = .ok (.bipush 6, 2) := by decide +kernel
theorem d_M_isTaken_39 : decode b_M_isTaken 39 = .ok (.if_icmp .ne 50, 3) := by decide +kernel
theorem d_M_isTaken_42 : decode b_M_isTaken 42 = .ok (.aload_n 0, 1) := by decide +kernel
theorem d_M_isTaken_43 : decode b_M_isTaken 43 = .ok (.getfield 70, 3) := by decide +kernel
theorem d_M_isTaken_46 : decode b_M_isTaken 46 = .ok (.aload_n 0, 1) := by decide +kernel
theorem d_M_isTaken_47 : decode b_M_isTaken 47 = .ok (.getfield 244, 3) := by decide +kernel
theorem d_M_isTaken_50 : decode b_M_isTaken 50 = .ok (.iload_n 3, 1) := by decide +kernel
theorem d_M_isTaken_51 : decode b_M_isTaken 51 = .ok (.iconst 5, 1) := by decide +kernel
theorem d_M_isTaken_52 : decode b_M_isTaken 52 = .ok (.if_icmp .ne 17, 3) := by decide +kernel
theorem d_M_isTaken_55 : decode b_M_isTaken 55 = .ok (.aload_n 0, 1) := by decide +kernel
theorem d_M_isTaken_56 : decode b_M_isTaken 56 = .ok (.iload_n 1, 1) := by decide +kernel
theorem d_M_isTaken_57 : decode b_M_isTaken 57 = .ok (.aload_n 0, 1) := by decide +kernel
theorem d_M_isTaken_58 : decode b_M_isTaken 58 = .ok (.getfield 46, 3) := by decide +kernel
theorem d_M_isTaken_61 : decode b_M_isTaken 61 = .ok (.iload_n 2, 1) := by decide +kernel
theorem d_M_isTaken_62 : decode b_M_isTaken 62 = .ok (.iaload, 1) := by decide +kernel
theorem d_M_isTaken_63 : decode b_M_isTaken 63 = .ok (.invokevirtual 95, 3) := by decide +kernel
theorem d_M_isTaken_66 : decode b_M_isTaken 66 = .ok (.goto 9, 3) := by decide +kernel
theorem d_M_isTaken_69 : decode b_M_isTaken 69 = .ok (.aload_n 0, 1) := by decide +kernel
theorem d_M_isTaken_70 : decode b_M_isTaken 70 = .ok (.getfield 46, 3) := by decide +kernel
theorem d_M_isTaken_73 : decode b_M_isTaken 73 = .ok (.iload_n 2, 1) := by decide +kernel
theorem d_M_isTaken_74 : decode b_M_isTaken 74 = .ok (.iaload, 1) := by decide +kernel
theorem d_M_isTaken_75 : decode b_M_isTaken 75 = .ok (.iastore, 1) := by decide +kernel
theorem d_M_isTaken_76 : decode b_M_isTaken 76 = .ok (.aload_n 0, 1) := by decide +kernel
theorem d_M_isTaken_77 : decode b_M_isTaken 77 = .ok (.dup, 1) := by decide +kernel
theorem d_M_isTaken_78 : decode b_M_isTaken 78 = .ok (.getfield 244, 3) := by decide +kernel
theorem d_M_isTaken_81 : decode b_M_isTaken 81 = .ok (.iconst 1, 1) := by decide +kernel
theorem d_M_isTaken_82 : decode b_M_isTaken 82 = .ok (.iadd, 1) := by decide +kernel
theorem d_M_isTaken_83 : decode b_M_isTaken 83 = .ok (.putfield 244, 3) := by decide +kernel
theorem d_M_isTaken_86 : decode b_M_isTaken 86 = .ok (.goto 80, 3) := by decide +kernel
theorem d_M_isTaken_89 : decode b_M_isTaken 89 = .ok (.iload_n 3, 1) := by decide +kernel
theorem d_M_isTaken_90 : decode b_M_isTaken 90 = .ok (.iconst 3, 1) := by decide +kernel
theorem d_M_isTaken_91 : decode b_M_isTaken 91 = .ok (.if_icmp .ne 30, 3) := by decide +kernel
theorem d_M_isTaken_94 : decode b_M_isTaken 94 = .ok (.aload_n 0, 1) := by decide +kernel
theorem d_M_isTaken_95 : decode b_M_isTaken 95 = .ok (.getfield 70, 3) := by decide +kernel
theorem d_M_isTaken_98 : decode b_M_isTaken 98 = .ok (.aload_n 0, 1) := by decide +kernel
theorem d_M_isTaken_99 : decode b_M_isTaken 99 = .ok (.getfield 244, 3) := by decide +kernel
theorem d_M_isTaken_102 : decode b_M_isTaken 102 = .ok (.iconst 1, 1) := by decide +kernel
theorem d_M_isTaken_103 : decode b_M_isTaken 103 = .ok (.isub, 1) := by decide +kernel
theorem d_M_isTaken_104 : decode b_M_isTaken 104 = .ok (.iconst 1, 1) := by decide +kernel
theorem d_M_isTaken_105 : decode b_M_isTaken 105 = .ok (.aload_n 0, 1) := by decide +kernel
theorem d_M_isTaken_106 : decode b_M_isTaken 106 = .ok (.getfield 70, 3) := by decide +kernel
theorem d_M_isTaken_109 : decode b_M_isTaken 109 = .ok (.aload_n 0, 1) := by decide +kernel
theorem d_M_isTaken_110 : decode b_M_isTaken 110 = .ok (.getfield 244, 3) := by decide +kernel
theorem d_M_isTaken_113 : decode b_M_isTaken 113 = .ok (.iconst 1, 1) := by decide +kernel
theorem d_M_isTaken_114 : decode b_M_isTaken 114 = .ok (.isub, 1) := by decide +kernel
theorem d_M_isTaken_115 : decode b_M_isTaken 115 = .ok (.iaload, 1) := by decide +kernel
theorem d_M_isTaken_116 : decode b_M_isTaken 116 = .ok (.isub, 1) := by decide +kernel
theorem d_M_isTaken_117 : decode b_M_isTaken 117 = .ok (.iastore, 1) := by decide +kernel
theorem d_M_isTaken_118 : decode b_M_isTaken 118 = .ok (.goto 48, 3) := by decide +kernel
theorem d_M_isTaken_121 : decode b_M_isTaken 121 = .ok (.aload_n 0, 1) := by decide +kernel
theorem d_M_isTaken_122 : decode b_M_isTaken 122 = .ok (.dup, 1) := by decide +kernel
theorem d_M_isTaken_123 : decode b_M_isTaken 123 = .ok (.getfield 244, 3) := by decide +kernel
theorem d_M_isTaken_126 : decode b_M_isTaken 126 = .ok (.iconst 1, 1) := by decide +kernel
theorem d_M_isTaken_127 : decode b_M_isTaken 127 = .ok (.isub, 1) := by decide +kernel
theorem d_M_isTaken_128 : decode b_M_isTaken 128 = .ok (.putfield 244, 3) := by decide +kernel
theorem d_M_isTaken_131 : decode b_M_isTaken 131 = .ok (.aload_n 0, 1) := by decide +kernel
theorem d_M_isTaken_132 : decode b_M_isTaken 132 = .ok (.getfield 70, 3) := by decide +kernel
theorem d_M_isTaken_135 : decode b_M_isTaken 135 = .ok (.aload_n 0, 1) := by decide +kernel
theorem d_M_isTaken_136 : decode b_M_isTaken 136 = .ok (.getfield 244, 3) := by decide +kernel
theorem d_M_isTaken_139 : decode b_M_isTaken 139 = .ok (.iconst 1, 1) := by decide +kernel
theorem d_M_isTaken_140 : decode b_M_isTaken 140 = .ok (.isub, 1) := by decide +kernel
theorem d_M_isTaken_141 : decode b_M_isTaken 141 = .ok (.iload_n 3, 1) := by decide +kernel
theorem d_M_isTaken_142 : decode b_M_isTaken 142 = .ok (.aload_n 0, 1) := by decide +kernel
theorem d_M_isTaken_143 : decode b_M_isTaken 143 = .ok (.getfield 70, 3) := by decide +kernel
theorem d_M_isTaken_146 : decode b_M_isTaken 146 = .ok (.aload_n 0, 1) := by decide +kernel
theorem d_M_isTaken_147 : decode b_M_isTaken 147 = .ok (.getfield 244, 3) := by decide +kernel
theorem d_M_isTaken_150 : decode b_M_isTaken 150 = .ok (.iconst 1, 1) := by decide +kernel
theorem d_M_isTaken_151 : decode b_M_isTaken 151 = .ok (.isub, 1) := by decide +kernel
theorem d_M_isTaken_152 : decode b_M_isTaken 152 = .ok (.iaload, 1) := by decide +kernel
theorem d_M_isTaken_153 : decode b_M_isTaken 153 = .ok (.aload_n 0, 1) := by decide +kernel
theorem d_M_isTaken_154 : decode b_M_isTaken 154 = .ok (.getfield 70, 3) := by decide +kernel
theorem d_M_isTaken_157 : decode b_M_isTaken 157 = .ok (.aload_n 0, 1) := by decide +kernel
theorem d_M_isTaken_158 : decode b_M_isTaken 158 = .ok (.getfield 244, 3) := by decide +kernel
theorem d_M_isTaken_161 : decode b_M_isTaken 161 = .ok (.iaload, 1) := by decide +kernel
theorem d_M_isTaken_162 : decode b_M_isTaken 162 = .ok (.invokestatic 247, 3) := by decide +kernel
theorem d_M_isTaken_165 : decode b_M_isTaken 165 = .ok (.iastore, 1) := by decide +kernel
theorem d_M_isTaken_166 : decode b_M_isTaken 166 = .ok (.iinc 2 1, 3) := by decide +kernel
theorem d_M_isTaken_169 : decode b_M_isTaken 169 = .ok (.goto (-162), 3) := by decide +kernel
theorem d_M_isTaken_172 : decode b_M_isTaken 172 = .ok (.aload_n 0, 1) := by decide +kernel
theorem d_M_isTaken_173 : decode b_M_isTaken 173 = .ok (.getfield 7, 3) := by decide +kernel
theorem d_M_isTaken_176 : decode b_M_isTaken 176 = .ok (.iload_n 1, 1) := by decide +kernel
theorem d_M_isTaken_177 : decode b_M_isTaken 177 = .ok (.baload, 1) := by decide +kernel
theorem d_M_isTaken_178 : decode b_M_isTaken 178 = .ok (.ifCond .eq 17, 3) := by decide +kernel
theorem d_M_isTaken_181 : decode b_M_isTaken 181 = .ok (.aload_n 0, 1) := by decide +kernel
theorem d_M_isTaken_182 : decode b_M_isTaken 182 = .ok (.getfield 70, 3) := by decide +kernel
theorem d_M_isTaken_185 : decode b_M_isTaken 185 = .ok (.iconst 0, 1) := by decide +kernel
theorem d_M_isTaken_186 : decode b_M_isTaken 186 = .ok (.iaload, 1) := by decide +kernel
theorem d_M_isTaken_187 : decode b_M_isTaken 187 = .ok (.iconst 1, 1) := by decide +kernel
theorem d_M_isTaken_188 : decode b_M_isTaken 188 = .ok (.if_icmp .ne 7, 3) := by decide +kernel
theorem d_M_isTaken_191 : decode b_M_isTaken 191 = .ok (.iconst 1, 1) := by decide +kernel
theorem d_M_isTaken_192 : decode b_M_isTaken 192 = .ok (.goto 4, 3) := by decide +kernel
theorem d_M_isTaken_195 : decode b_M_isTaken 195 = .ok (.iconst 0, 1) := by decide +kernel
theorem d_M_isTaken_196 : decode b_M_isTaken 196 = .ok (.ireturn, 1) := by decide +kernel
theorem d_M_reckon_0 : decode b_M_reckon 0 = .ok (.iload_n 0, 1) := by decide +kernel
theorem d_M_reckon_1 : decode b_M_reckon 1 = .ok (.tableswitch 77 1 8 #[47, 51, 77, 77, 77, 77, 55, 66], 47) := by decide +kernel
theorem d_M_reckon_48 : decode b_M_reckon 48 = .ok (.iload_n 1, 1) := by decide +kernel
theorem d_M_reckon_49 : decode b_M_reckon 49 = .ok (.iload_n 2, 1) := by decide +kernel
theorem d_M_reckon_50 : decode b_M_reckon 50 = .ok (.ior, 1) := by decide +kernel
theorem d_M_reckon_51 : decode b_M_reckon 51 = .ok (.ireturn, 1) := by decide +kernel
theorem d_M_reckon_52 : decode b_M_reckon 52 = .ok (.iload_n 1, 1) := by decide +kernel
theorem d_M_reckon_53 : decode b_M_reckon 53 = .ok (.iload_n 2, 1) := by decide +kernel
theorem d_M_reckon_54 : decode b_M_reckon 54 = .ok (.iand, 1) := by decide +kernel
theorem d_M_reckon_55 : decode b_M_reckon 55 = .ok (.ireturn, 1) := by decide +kernel
theorem d_M_reckon_56 : decode b_M_reckon 56 = .ok (.iload_n 1, 1) := by decide +kernel
theorem d_M_reckon_57 : decode b_M_reckon 57 = .ok (.iload_n 2, 1) := by decide +kernel
theorem d_M_reckon_58 : decode b_M_reckon 58 = .ok (.if_icmp .ge 7, 3) := by decide +kernel
theorem d_M_reckon_61 : decode b_M_reckon 61 = .ok (.iconst 1, 1) := by decide +kernel
theorem d_M_reckon_62 : decode b_M_reckon 62 = .ok (.goto 4, 3) := by decide +kernel
theorem d_M_reckon_65 : decode b_M_reckon 65 = .ok (.iconst 0, 1) := by decide +kernel
theorem d_M_reckon_66 : decode b_M_reckon 66 = .ok (.ireturn, 1) := by decide +kernel
theorem d_M_reckon_67 : decode b_M_reckon 67 = .ok (.iload_n 1, 1) := by decide +kernel
theorem d_M_reckon_68 : decode b_M_reckon 68 = .ok (.iload_n 2, 1) := by decide +kernel
theorem d_M_reckon_69 : decode b_M_reckon 69 = .ok (.if_icmp .ne 7, 3) := by decide +kernel
theorem d_M_reckon_72 : decode b_M_reckon 72 = .ok (.iconst 1, 1) := by decide +kernel
theorem d_M_reckon_73 : decode b_M_reckon 73 = .ok (.goto 4, 3) := by decide +kernel
theorem d_M_reckon_76 : decode b_M_reckon 76 = .ok (.iconst 0, 1) := by decide +kernel
theorem d_M_reckon_77 : decode b_M_reckon 77 = .ok (.ireturn, 1) := by decide +kernel
theorem d_M_reckon_78 : decode b_M_reckon 78 = .ok (.iload_n 1, 1) := by decide +kernel
theorem d_M_reckon_79 : decode b_M_reckon 79 = .ok (.iload_n 2, 1) := by decide +kernel
theorem d_M_reckon_80 : decode b_M_reckon 80 = .ok (.if_icmp .le 7, 3) := by decide +kernel
theorem d_M_reckon_83 : decode b_M_reckon 83 = .ok (.iconst 1, 1) := by decide +kernel
theorem d_M_reckon_84 : decode b_M_reckon 84 = .ok (.goto 4, 3) := by decide +kernel
theorem d_M_reckon_87 : decode b_M_reckon 87 = .ok (.iconst 0, 1) := by decide +kernel
theorem d_M_reckon_88 : decode b_M_reckon 88 = .ok (.ireturn, 1) := by decide +kernel
theorem d_M_changeAll_0 : decode b_M_changeAll 0 = .ok (.iconst 0, 1) := by decide +kernel
theorem d_M_changeAll_1 : decode b_M_changeAll 1 = .ok (.istore_n 1, 1) := by decide +kernel
theorem d_M_changeAll_2 : decode b_M_changeAll 2 = .ok (.iconst 0, 1) := by decide +kernel
theorem d_M_changeAll_3 : decode b_M_changeAll 3 = .ok (.istore_n 2, 1) := by decide +kernel
theorem d_M_changeAll_4 : decode b_M_changeAll 4 = .ok (.iload_n 2, 1) := by decide +kernel
theorem d_M_changeAll_5 : decode b_M_changeAll 5 = .ok (.bipush 32, 2) := by decide +kernel
theorem d_M_changeAll_7 : decode b_M_changeAll 7 = .ok (.if_icmp .ge 71, 3) := by decide +kernel
theorem d_M_changeAll_10 : decode b_M_changeAll 10 = .ok (.aload_n 0, 1) := by decide +kernel
theorem d_M_changeAll_11 : decode b_M_changeAll 11 = .ok (.getfield 17, 3) := by decide +kernel
theorem d_M_changeAll_14 : decode b_M_changeAll 14 = .ok (.iload_n 2, 1) := by decide +kernel
theorem d_M_changeAll_15 : decode b_M_changeAll 15 = .ok (.baload, 1) := by decide +kernel
theorem d_M_changeAll_16 : decode b_M_changeAll 16 = .ok (.ifCond .eq 15, 3) := by decide +kernel
theorem d_M_changeAll_19 : decode b_M_changeAll 19 = .ok (.aload_n 0, 1) := by decide +kernel
theorem d_M_changeAll_20 : decode b_M_changeAll 20 = .ok (.iload_n 2, 1) := by decide +kernel
theorem d_M_changeAll_21 : decode b_M_changeAll 21 = .ok (.invokevirtual 254, 3) := by decide +kernel
theorem d_M_changeAll_24 : decode b_M_changeAll 24 = .ok (.ifCond .eq 7, 3) := by decide +kernel
theorem d_M_changeAll_27 : decode b_M_changeAll 27 = .ok (.iconst 1, 1) := by decide +kernel
theorem d_M_changeAll_28 : decode b_M_changeAll 28 = .ok (.goto 4, 3) := by decide +kernel
theorem d_M_changeAll_31 : decode b_M_changeAll 31 = .ok (.iconst 0, 1) := by decide +kernel
theorem d_M_changeAll_32 : decode b_M_changeAll 32 = .ok (.istore_n 3, 1) := by decide +kernel
theorem d_M_changeAll_33 : decode b_M_changeAll 33 = .ok (.iload_n 1, 1) := by decide +kernel
theorem d_M_changeAll_34 : decode b_M_changeAll 34 = .ok (.iload_n 3, 1) := by decide +kernel
theorem d_M_changeAll_35 : decode b_M_changeAll 35 = .ok (.ifCond .eq 7, 3) := by decide +kernel
theorem d_M_changeAll_38 : decode b_M_changeAll 38 = .ok (.iconst 1, 1) := by decide +kernel
theorem d_M_changeAll_39 : decode b_M_changeAll 39 = .ok (.goto 4, 3) := by decide +kernel
theorem d_M_changeAll_42 : decode b_M_changeAll 42 = .ok (.iconst 0, 1) := by decide +kernel
theorem d_M_changeAll_43 : decode b_M_changeAll 43 = .ok (.iadd, 1) := by decide +kernel
theorem d_M_changeAll_44 : decode b_M_changeAll 44 = .ok (.istore_n 1, 1) := by decide +kernel
theorem d_M_changeAll_45 : decode b_M_changeAll 45 = .ok (.aload_n 0, 1) := by decide +kernel
theorem d_M_changeAll_46 : decode b_M_changeAll 46 = .ok (.dup, 1) := by decide +kernel
theorem d_M_changeAll_47 : decode b_M_changeAll 47 = .ok (.getfield 257, 3) := by decide +kernel
theorem d_M_changeAll_50 : decode b_M_changeAll 50 = .ok (.aload_n 0, 1) := by decide +kernel
theorem d_M_changeAll_51 : decode b_M_changeAll 51 = .ok (.getfield 17, 3) := by decide +kernel
theorem d_M_changeAll_54 : decode b_M_changeAll 54 = .ok (.iload_n 2, 1) := by decide +kernel
theorem d_M_changeAll_55 : decode b_M_changeAll 55 = .ok (.baload, 1) := by decide +kernel
theorem d_M_changeAll_56 : decode b_M_changeAll 56 = .ok (.ifCond .eq 11, 3) := by decide +kernel
theorem d_M_changeAll_59 : decode b_M_changeAll 59 = .ok (.iload_n 3, 1) := by decide +kernel
theorem d_M_changeAll_60 : decode b_M_changeAll 60 = .ok (.ifCond .ne 7, 3) := by decide +kernel
theorem d_M_changeAll_63 : decode b_M_changeAll 63 = .ok (.iconst 1, 1) := by decide +kernel
theorem d_M_changeAll_64 : decode b_M_changeAll 64 = .ok (.goto 4, 3) := by decide +kernel
theorem d_M_changeAll_67 : decode b_M_changeAll 67 = .ok (.iconst 0, 1) := by decide +kernel
theorem d_M_changeAll_68 : decode b_M_changeAll 68 = .ok (.iadd, 1) := by decide +kernel
theorem d_M_changeAll_69 : decode b_M_changeAll 69 = .ok (.putfield 257, 3) := by decide +kernel
theorem d_M_changeAll_72 : decode b_M_changeAll 72 = .ok (.iinc 2 1, 3) := by decide +kernel
theorem d_M_changeAll_75 : decode b_M_changeAll 75 = .ok (.goto (-71), 3) := by decide +kernel
theorem d_M_changeAll_78 : decode b_M_changeAll 78 = .ok (.iload_n 1, 1) := by decide +kernel
theorem d_M_changeAll_79 : decode b_M_changeAll 79 = .ok (.ireturn, 1) := by decide +kernel
theorem d_M_change_0 : decode b_M_change 0 = .ok (.aload_n 0, 1) := by decide +kernel
theorem d_M_change_1 : decode b_M_change 1 = .ok (.iload_n 1, 1) := by decide +kernel
theorem d_M_change_2 : decode b_M_change 2 = .ok (.iconst 0, 1) := by decide +kernel
theorem d_M_change_3 : decode b_M_change 3 = .ok (.invokevirtual 251, 3) := by decide +kernel
theorem d_M_change_6 : decode b_M_change 6 = .ok (.istore_n 2, 1) := by decide +kernel
theorem d_M_change_7 : decode b_M_change 7 = .ok (.aload_n 0, 1) := by decide +kernel
theorem d_M_change_8 : decode b_M_change 8 = .ok (.getfield 203, 3) := by decide +kernel
theorem d_M_change_11 : decode b_M_change 11 = .ok (.iconst 1, 1) := by decide +kernel
theorem d_M_change_12 : decode b_M_change 12 = .ok (.if_icmp .ne 12, 3) := by decide +kernel
theorem d_M_change_15 : decode b_M_change 15 = .ok (.aload_n 0, 1) := by decide +kernel
theorem d_M_change_16 : decode b_M_change 16 = .ok (.iload_n 1, 1) := by decide +kernel
theorem d_M_change_17 : decode b_M_change 17 = .ok (.iconst 1, 1) := by decide +kernel
theorem d_M_change_18 : decode b_M_change 18 = .ok (.invokevirtual 251, 3) := by decide +kernel
theorem d_M_change_21 : decode b_M_change 21 = .ok (.goto 4, 3) := by decide +kernel
theorem d_M_change_24 : decode b_M_change 24 = .ok (.iconst 0, 1) := by decide +kernel
theorem d_M_change_25 : decode b_M_change 25 = .ok (.istore_n 3, 1) := by decide +kernel
theorem d_M_change_26 : decode b_M_change 26 = .ok (.aload_n 0, 1) := by decide +kernel
theorem d_M_change_27 : decode b_M_change 27 = .ok (.aload_n 0, 1) := by decide +kernel
theorem d_M_change_28 : decode b_M_change 28 = .ok (.getfield 52, 3) := by decide +kernel
theorem d_M_change_31 : decode b_M_change 31 = .ok (.iconst 0, 1) := by decide +kernel
theorem d_M_change_32 : decode b_M_change 32 = .ok (.iaload, 1) := by decide +kernel
theorem d_M_change_33 : decode b_M_change 33 = .ok (.iload_n 2, 1) := by decide +kernel
theorem d_M_change_34 : decode b_M_change 34 = .ok (.invokevirtual 87, 3) := by decide +kernel
theorem d_M_change_37 : decode b_M_change 37 = .ok (.ifCond .eq 25, 3) := by decide +kernel
theorem d_M_change_40 : decode b_M_change 40 = .ok (.aload_n 0, 1) := by decide +kernel
theorem d_M_change_41 : decode b_M_change 41 = .ok (.getfield 203, 3) := by decide +kernel
theorem d_M_change_44 : decode b_M_change 44 = .ok (.iconst 1, 1) := by decide +kernel
theorem d_M_change_45 : decode b_M_change 45 = .ok (.if_icmp .ne 19, 3) := by decide +kernel
theorem d_M_change_48 : decode b_M_change 48 = .ok (.aload_n 0, 1) := by decide +kernel
theorem d_M_change_49 : decode b_M_change 49 = .ok (.aload_n 0, 1) := by decide +kernel
theorem d_M_change_50 : decode b_M_change 50 = .ok (.getfield 52, 3) := by decide +kernel
theorem d_M_change_53 : decode b_M_change 53 = .ok (.iconst 1, 1) := by decide +kernel
theorem d_M_change_54 : decode b_M_change 54 = .ok (.iaload, 1) := by decide +kernel
theorem d_M_change_55 : decode b_M_change 55 = .ok (.iload_n 3, 1) := by decide +kernel
theorem d_M_change_56 : decode b_M_change 56 = .ok (.invokevirtual 87, 3) := by decide +kernel
theorem d_M_change_59 : decode b_M_change 59 = .ok (.ifCond .ne 5, 3) := by decide +kernel
theorem d_M_change_62 : decode b_M_change 62 = .ok (.iconst 0, 1) := by decide +kernel
theorem d_M_change_63 : decode b_M_change 63 = .ok (.ireturn, 1) := by decide +kernel
theorem d_M_change_64 : decode b_M_change 64 = .ok (.aload_n 0, 1) := by decide +kernel
theorem d_M_change_65 : decode b_M_change 65 = .ok (.iload_n 1, 1) := by decide +kernel
theorem d_M_change_66 : decode b_M_change 66 = .ok (.aload_n 0, 1) := by decide +kernel
theorem d_M_change_67 : decode b_M_change 67 = .ok (.getfield 52, 3) := by decide +kernel
theorem d_M_change_70 : decode b_M_change 70 = .ok (.iconst 0, 1) := by decide +kernel
theorem d_M_change_71 : decode b_M_change 71 = .ok (.iaload, 1) := by decide +kernel
theorem d_M_change_72 : decode b_M_change 72 = .ok (.iload_n 2, 1) := by decide +kernel
theorem d_M_change_73 : decode b_M_change 73 = .ok (.invokevirtual 91, 3) := by decide +kernel
theorem d_M_change_76 : decode b_M_change 76 = .ok (.aload_n 0, 1) := by decide +kernel
theorem d_M_change_77 : decode b_M_change 77 = .ok (.getfield 203, 3) := by decide +kernel
theorem d_M_change_80 : decode b_M_change 80 = .ok (.iconst 1, 1) := by decide +kernel
theorem d_M_change_81 : decode b_M_change 81 = .ok (.if_icmp .ne 15, 3) := by decide +kernel
theorem d_M_change_84 : decode b_M_change 84 = .ok (.aload_n 0, 1) := by decide +kernel
theorem d_M_change_85 : decode b_M_change 85 = .ok (.iload_n 1, 1) := by decide +kernel
theorem d_M_change_86 : decode b_M_change 86 = .ok (.aload_n 0, 1) := by decide +kernel
theorem d_M_change_87 : decode b_M_change 87 = .ok (.getfield 52, 3) := by decide +kernel
theorem d_M_change_90 : decode b_M_change 90 = .ok (.iconst 1, 1) := by decide +kernel
theorem d_M_change_91 : decode b_M_change 91 = .ok (.iaload, 1) := by decide +kernel
theorem d_M_change_92 : decode b_M_change 92 = .ok (.iload_n 3, 1) := by decide +kernel
theorem d_M_change_93 : decode b_M_change 93 = .ok (.invokevirtual 91, 3) := by decide +kernel
theorem d_M_change_96 : decode b_M_change 96 = .ok (.iconst 1, 1) := by decide +kernel
theorem d_M_change_97 : decode b_M_change 97 = .ok (.ireturn, 1) := by decide +kernel
theorem d_M_resultOf_0 : decode b_M_resultOf 0 = .ok (.aload_n 0, 1) := by decide +kernel
theorem d_M_resultOf_1 : decode b_M_resultOf 1 = .ok (.getfield 55, 3) := by decide +kernel
theorem d_M_resultOf_4 : decode b_M_resultOf 4 = .ok (.iload_n 2, 1) := by decide +kernel
theorem d_M_resultOf_5 : decode b_M_resultOf 5 = .ok (.iaload, 1) := by decide +kernel
theorem d_M_resultOf_6 : decode b_M_resultOf 6 = .ok (.ifCond .ge 12, 3) := by decide +kernel
theorem d_M_resultOf_9 : decode b_M_resultOf 9 = .ok (.aload_n 0, 1) := by decide +kernel
theorem d_M_resultOf_10 : decode b_M_resultOf 10 = .ok (.getfield 58, 3) := by decide +kernel
theorem d_M_resultOf_13 : decode b_M_resultOf 13 = .ok (.iload_n 2, 1) := by decide +kernel
theorem d_M_resultOf_14 : decode b_M_resultOf 14 = .ok (.iaload, 1) := by decide +kernel
theorem d_M_resultOf_15 : decode b_M_resultOf 15 = .ok (.goto 14, 3) := by decide +kernel
theorem d_M_resultOf_18 : decode b_M_resultOf 18 = .ok (.aload_n 0, 1) := by decide +kernel
theorem d_M_resultOf_19 : decode b_M_resultOf 19 = .ok (.iload_n 1, 1) := by decide +kernel
theorem d_M_resultOf_20 : decode b_M_resultOf 20 = .ok (.aload_n 0, 1) := by decide +kernel
theorem d_M_resultOf_21 : decode b_M_resultOf 21 = .ok (.getfield 55, 3) := by decide +kernel
theorem d_M_resultOf_24 : decode b_M_resultOf 24 = .ok (.iload_n 2, 1) := by decide +kernel
theorem d_M_resultOf_25 : decode b_M_resultOf 25 = .ok (.iaload, 1) := by decide +kernel
theorem d_M_resultOf_26 : decode b_M_resultOf 26 = .ok (.invokevirtual 95, 3) := by decide +kernel
theorem d_M_resultOf_29 : decode b_M_resultOf 29 = .ok (.istore_n 3, 1) := by decide +kernel
theorem d_M_resultOf_30 : decode b_M_resultOf 30 = .ok (.aload_n 0, 1) := by decide +kernel
theorem d_M_resultOf_31 : decode b_M_resultOf 31 = .ok (.getfield 61, 3) := by decide +kernel
theorem d_M_resultOf_34 : decode b_M_resultOf 34 = .ok (.iload_n 2, 1) := by decide +kernel
theorem d_M_resultOf_35 : decode b_M_resultOf 35 = .ok (.iaload, 1) := by decide +kernel
theorem d_M_resultOf_36 : decode b_M_resultOf 36 = .ok (.ifCond .ne 5, 3) := by decide +kernel
theorem d_M_resultOf_39 : decode b_M_resultOf 39 = .ok (.iload_n 3, 1) := by decide +kernel
theorem d_M_resultOf_40 : decode b_M_resultOf 40 = .ok (.ireturn, 1) := by decide +kernel
theorem d_M_resultOf_41 : decode b_M_resultOf 41 = .ok (.aload_n 0, 1) := by decide +kernel
theorem d_M_resultOf_42 : decode b_M_resultOf 42 = .ok (.getfield 64, 3) := by decide +kernel
theorem d_M_resultOf_45 : decode b_M_resultOf 45 = .ok (.iload_n 2, 1) := by decide +kernel
theorem d_M_resultOf_46 : decode b_M_resultOf 46 = .ok (.iaload, 1) := by decide +kernel
theorem d_M_resultOf_47 : decode b_M_resultOf 47 = .ok (.ifCond .ge 12, 3) := by decide +kernel
theorem d_M_resultOf_50 : decode b_M_resultOf 50 = .ok (.aload_n 0, 1) := by decide +kernel
theorem d_M_resultOf_51 : decode b_M_resultOf 51 = .ok (.getfield 67, 3) := by decide +kernel
theorem d_M_resultOf_54 : decode b_M_resultOf 54 = .ok (.iload_n 2, 1) := by decide +kernel
theorem d_M_resultOf_55 : decode b_M_resultOf 55 = .ok (.iaload, 1) := by decide +kernel
theorem d_M_resultOf_56 : decode b_M_resultOf 56 = .ok (.goto 14, 3) := by decide +kernel
theorem d_M_resultOf_59 : decode b_M_resultOf 59 = .ok (.aload_n 0, 1) := by decide +kernel
theorem d_M_resultOf_60 : decode b_M_resultOf 60 = .ok (.iload_n 1, 1) := by decide +kernel
theorem d_M_resultOf_61 : decode b_M_resultOf 61 = .ok (.aload_n 0, 1) := by decide +kernel
theorem d_M_resultOf_62 : decode b_M_resultOf 62 = .ok (.getfield 64, 3) := by decide +kernel
theorem d_M_resultOf_65 : decode b_M_resultOf 65 = .ok (.iload_n 2, 1) := by decide +kernel
theorem d_M_resultOf_66 : decode b_M_resultOf 66 = .ok (.iaload, 1) := by decide +kernel
theorem d_M_resultOf_67 : decode b_M_resultOf 67 = .ok (.invokevirtual 95, 3) := by decide +kernel
theorem d_M_resultOf_70 : decode b_M_resultOf 70 = .ok (.istore 4, 2) := by decide +kernel
theorem d_M_resultOf_72 : decode b_M_resultOf 72 = .ok (.aload_n 0, 1) := by decide +kernel
theorem d_M_resultOf_73 : decode b_M_resultOf 73 = .ok (.getfield 61, 3) := by decide +kernel
theorem d_M_resultOf_76 : decode b_M_resultOf 76 = .ok (.iload_n 2, 1) := by decide +kernel
theorem d_M_resultOf_77 : decode b_M_resultOf 77 = .ok (.iaload, 1) := by decide +kernel
theorem d_M_resultOf_78 : decode b_M_resultOf 78 = .ok (.iconst 1, 1) := by decide +kernel
theorem d_M_resultOf_79 : decode b_M_resultOf 79 = .ok (.if_icmp .ne 10, 3) := by decide +kernel
theorem d_M_resultOf_82 : decode b_M_resultOf 82 = .ok (.iload_n 3, 1) := by decide +kernel
theorem d_M_resultOf_83 : decode b_M_resultOf 83 = .ok (.iload 4, 2) := by decide +kernel
theorem d_M_resultOf_85 : decode b_M_resultOf 85 = .ok (.iadd, 1) := by decide +kernel
theorem d_M_resultOf_86 : decode b_M_resultOf 86 = .ok (.goto 24, 3) := by decide +kernel
theorem d_M_resultOf_89 : decode b_M_resultOf 89 = .ok (.aload_n 0, 1) := by decide +kernel
theorem d_M_resultOf_90 : decode b_M_resultOf 90 = .ok (.getfield 61, 3) := by decide +kernel
theorem d_M_resultOf_93 : decode b_M_resultOf 93 = .ok (.iload_n 2, 1) := by decide +kernel
theorem d_M_resultOf_94 : decode b_M_resultOf 94 = .ok (.iaload, 1) := by decide +kernel
theorem d_M_resultOf_95 : decode b_M_resultOf 95 = .ok (.iconst 2, 1) := by decide +kernel
theorem d_M_resultOf_96 : decode b_M_resultOf 96 = .ok (.if_icmp .ne 10, 3) := by decide +kernel
theorem d_M_resultOf_99 : decode b_M_resultOf 99 = .ok (.iload_n 3, 1) := by decide +kernel
theorem d_M_resultOf_100 : decode b_M_resultOf 100 = .ok (.iload 4, 2) := by decide +kernel
theorem d_M_resultOf_102 : decode b_M_resultOf 102 = .ok (.isub, 1) := by decide +kernel
theorem d_M_resultOf_103 : decode b_M_resultOf 103 = .ok (.goto 7, 3) := by decide +kernel
theorem d_M_resultOf_106 : decode b_M_resultOf 106 = .ok (.iload_n 3, 1) := by decide +kernel
theorem d_M_resultOf_107 : decode b_M_resultOf 107 = .ok (.iload 4, 2) := by decide +kernel
theorem d_M_resultOf_109 : decode b_M_resultOf 109 = .ok (.imul, 1) := by decide +kernel
theorem d_M_resultOf_110 : decode b_M_resultOf 110 = .ok (.ireturn, 1) := by decide +kernel
theorem d_M_listAll_0 : decode b_M_listAll 0 = .ok (.aload_n 0, 1) := by decide +kernel
theorem d_M_listAll_1 : decode b_M_listAll 1 = .ok (.iconst 0, 1) := by decide +kernel
theorem d_M_listAll_2 : decode b_M_listAll 2 = .ok (.putfield 260, 3) := by decide +kernel
theorem d_M_listAll_5 : decode b_M_listAll 5 = .ok (.iconst 0, 1) := by decide +kernel
theorem d_M_listAll_6 : decode b_M_listAll 6 = .ok (.istore_n 1, 1) := by decide +kernel
theorem d_M_listAll_7 : decode b_M_listAll 7 = .ok (.iload_n 1, 1) := by decide +kernel
theorem d_M_listAll_8 : decode b_M_listAll 8 = .ok (.bipush 32, 2) := by decide +kernel
theorem d_M_listAll_10 : decode b_M_listAll 10 = .ok (.if_icmp .ge 92, 3) := by decide +kernel
theorem d_M_listAll_13 : decode b_M_listAll 13 = .ok (.aload_n 0, 1) := by decide +kernel
theorem d_M_listAll_14 : decode b_M_listAll 14 = .ok (.getfield 17, 3) := by decide +kernel
theorem d_M_listAll_17 : decode b_M_listAll 17 = .ok (.iload_n 1, 1) := by decide +kernel
theorem d_M_listAll_18 : decode b_M_listAll 18 = .ok (.baload, 1) := by decide +kernel
theorem d_M_listAll_19 : decode b_M_listAll 19 = .ok (.ifCond .eq 77, 3) := by decide +kernel
theorem d_M_listAll_22 : decode b_M_listAll 22 = .ok (.aload_n 0, 1) := by decide +kernel
theorem d_M_listAll_23 : decode b_M_listAll 23 = .ok (.getfield 260, 3) := by decide +kernel
theorem d_M_listAll_26 : decode b_M_listAll 26 = .ok (.istore_n 2, 1) := by decide +kernel
theorem d_M_listAll_27 : decode b_M_listAll 27 = .ok (.iload_n 2, 1) := by decide +kernel
theorem d_M_listAll_28 : decode b_M_listAll 28 = .ok (.ifCond .le 51, 3) := by decide +kernel
theorem d_M_listAll_31 : decode b_M_listAll 31 = .ok (.aload_n 0, 1) := by decide +kernel
theorem d_M_listAll_32 : decode b_M_listAll 32 = .ok (.aload_n 0, 1) := by decide +kernel
theorem d_M_listAll_33 : decode b_M_listAll 33 = .ok (.getfield 40, 3) := by decide +kernel
theorem d_M_listAll_36 : decode b_M_listAll 36 = .ok (.iload_n 2, 1) := by decide +kernel
theorem d_M_listAll_37 : decode b_M_listAll 37 = .ok (.iconst 1, 1) := by decide +kernel
theorem d_M_listAll_38 : decode b_M_listAll 38 = .ok (.isub, 1) := by decide +kernel
theorem d_M_listAll_39 : decode b_M_listAll 39 = .ok (.iaload, 1) := by decide +kernel
theorem d_M_listAll_40 : decode b_M_listAll 40 = .ok (.aload_n 0, 1) := by decide +kernel
theorem d_M_listAll_41 : decode b_M_listAll 41 = .ok (.getfield 206, 3) := by decide +kernel
theorem d_M_listAll_44 : decode b_M_listAll 44 = .ok (.invokevirtual 95, 3) := by decide +kernel
theorem d_M_listAll_47 : decode b_M_listAll 47 = .ok (.aload_n 0, 1) := by decide +kernel
theorem d_M_listAll_48 : decode b_M_listAll 48 = .ok (.iload_n 1, 1) := by decide +kernel
theorem d_M_listAll_49 : decode b_M_listAll 49 = .ok (.aload_n 0, 1) := by decide +kernel
theorem d_M_listAll_50 : decode b_M_listAll 50 = .ok (.getfield 206, 3) := by decide +kernel
theorem d_M_listAll_53 : decode b_M_listAll 53 = .ok (.invokevirtual 95, 3) := by decide +kernel
theorem d_M_listAll_56 : decode b_M_listAll 56 = .ok (.if_icmp .le 23, 3) := by decide +kernel
theorem d_M_listAll_59 : decode b_M_listAll 59 = .ok (.aload_n 0, 1) := by decide +kernel
theorem d_M_listAll_60 : decode b_M_listAll 60 = .ok (.getfield 40, 3) := by decide +kernel
theorem d_M_listAll_63 : decode b_M_listAll 63 = .ok (.iload_n 2, 1) := by decide +kernel
theorem d_M_listAll_64 : decode b_M_listAll 64 = .ok (.aload_n 0, 1) := by decide +kernel
theorem d_M_listAll_65 : decode b_M_listAll 65 = .ok (.getfield 40, 3) := by decide +kernel
theorem d_M_listAll_68 : decode b_M_listAll 68 = .ok (.iload_n 2, 1) := by decide +kernel
theorem d_M_listAll_69 : decode b_M_listAll 69 = .ok (.iconst 1, 1) := by decide +kernel
theorem d_M_listAll_70 : decode b_M_listAll 70 = .ok (.isub, 1) := by decide +kernel
theorem d_M_listAll_71 : decode b_M_listAll 71 = .ok (.iaload, 1) := by decide +kernel
theorem d_M_listAll_72 : decode b_M_listAll 72 = .ok (.iastore, 1) := by decide +kernel
theorem d_M_listAll_73 : decode b_M_listAll 73 = .ok (.iinc 2 (-1), 3) := by decide +kernel
theorem d_M_listAll_76 : decode b_M_listAll 76 = .ok (.goto (-49), 3) := by decide +kernel
theorem d_M_listAll_79 : decode b_M_listAll 79 = .ok (.aload_n 0, 1) := by decide +kernel
theorem d_M_listAll_80 : decode b_M_listAll 80 = .ok (.getfield 40, 3) := by decide +kernel
theorem d_M_listAll_83 : decode b_M_listAll 83 = .ok (.iload_n 2, 1) := by decide +kernel
theorem d_M_listAll_84 : decode b_M_listAll 84 = .ok (.iload_n 1, 1) := by decide +kernel
theorem d_M_listAll_85 : decode b_M_listAll 85 = .ok (.iastore, 1) := by decide +kernel
theorem d_M_listAll_86 : decode b_M_listAll 86 = .ok (.aload_n 0, 1) := by decide +kernel
theorem d_M_listAll_87 : decode b_M_listAll 87 = .ok (.dup, 1) := by decide +kernel
theorem d_M_listAll_88 : decode b_M_listAll 88 = .ok (.getfield 260, 3) := by decide +kernel
theorem d_M_listAll_91 : decode b_M_listAll 91 = .ok (.iconst 1, 1) := by decide +kernel
theorem d_M_listAll_92 : decode b_M_listAll 92 = .ok (.iadd, 1) := by decide +kernel
theorem d_M_listAll_93 : decode b_M_listAll 93 = .ok (.putfield 260, 3) := by decide +kernel
theorem d_M_listAll_96 : decode b_M_listAll 96 = .ok (.iinc 1 1, 3) := by decide +kernel
theorem d_M_listAll_99 : decode b_M_listAll 99 = .ok (.goto (-92), 3) := by decide +kernel
theorem d_M_listAll_102 : decode b_M_listAll 102 = .ok (.aload_n 0, 1) := by decide +kernel
theorem d_M_listAll_103 : decode b_M_listAll 103 = .ok (.getfield 260, 3) := by decide +kernel
theorem d_M_listAll_106 : decode b_M_listAll 106 = .ok (.ireturn, 1) := by decide +kernel
theorem d_M_gather_0 : decode b_M_gather 0 = .ok (.iconst 0, 1) := by decide +kernel
theorem d_M_gather_1 : decode b_M_gather 1 = .ok (.istore_n 1, 1) := by decide +kernel
theorem d_M_gather_2 : decode b_M_gather 2 = .ok (.iconst 1, 1) := by decide +kernel
theorem d_M_gather_3 : decode b_M_gather 3 = .ok (.istore_n 2, 1) := by decide +kernel
theorem d_M_gather_4 : decode b_M_gather 4 = .ok (.iconst 0, 1) := by decide +kernel
theorem d_M_gather_5 : decode b_M_gather 5 = .ok (.istore_n 3, 1) := by decide +kernel
theorem d_M_gather_6 : decode b_M_gather 6 = .ok (.iload_n 3, 1) := by decide +kernel
theorem d_M_gather_7 : decode b_M_gather 7 = .ok (.bipush 32, 2) := by decide +kernel
theorem d_M_gather_9 : decode b_M_gather 9 = .ok (.if_icmp .ge 92, 3) := by decide +kernel
theorem d_M_gather_12 : decode b_M_gather 12 = .ok (.aload_n 0, 1) := by decide +kernel
theorem d_M_gather_13 : decode b_M_gather 13 = .ok (.getfield 17, 3) := by decide +kernel
theorem d_M_gather_16 : decode b_M_gather 16 = .ok (.iload_n 3, 1) := by decide +kernel
theorem d_M_gather_17 : decode b_M_gather 17 = .ok (.baload, 1) := by decide +kernel
theorem d_M_gather_18 : decode b_M_gather 18 = .ok (.ifCond .eq 77, 3) := by decide +kernel
theorem d_M_gather_21 : decode b_M_gather 21 = .ok (.aload_n 0, 1) := by decide +kernel
theorem d_M_gather_22 : decode b_M_gather 22 = .ok (.iload_n 3, 1) := by decide +kernel
theorem d_M_gather_23 : decode b_M_gather 23 = .ok (.aload_n 0, 1) := by decide +kernel
theorem d_M_gather_24 : decode b_M_gather 24 = .ok (.getfield 206, 3) := by decide +kernel
theorem d_M_gather_27 : decode b_M_gather 27 = .ok (.invokevirtual 95, 3) := by decide +kernel
theorem d_M_gather_30 : decode b_M_gather 30 = .ok (.istore 4, 2) := by decide +kernel
theorem d_M_gather_32 : decode b_M_gather 32 = .ok (.iload_n 2, 1) := by decide +kernel
theorem d_M_gather_33 : decode b_M_gather 33 = .ok (.ifCond .ne 26, 3) := by decide +kernel
theorem d_M_gather_36 : decode b_M_gather 36 = .ok (.aload_n 0, 1) := by decide +kernel
theorem d_M_gather_37 : decode b_M_gather 37 = .ok (.getfield 167, 3) := by decide +kernel
theorem d_M_gather_40 : decode b_M_gather 40 = .ok (.iconst 2, 1) := by decide +kernel
theorem d_M_gather_41 : decode b_M_gather 41 = .ok (.if_icmp .ne 12, 3) := by decide +kernel
theorem d_M_gather_44 : decode b_M_gather 44 = .ok (.iload 4, 2) := by decide +kernel
theorem d_M_gather_46 : decode b_M_gather 46 = .ok (.iload_n 1, 1) := by decide +kernel
theorem d_M_gather_47 : decode b_M_gather 47 = .ok (.if_icmp .le 16, 3) := by decide +kernel
theorem d_M_gather_50 : decode b_M_gather 50 = .ok (.goto 9, 3) := by decide +kernel
theorem d_M_gather_53 : decode b_M_gather 53 = .ok (.iload 4, 2) := by decide +kernel
theorem d_M_gather_55 : decode b_M_gather 55 = .ok (.iload_n 1, 1) := by decide +kernel
theorem d_M_gather_56 : decode b_M_gather 56 = .ok (.if_icmp .ge 7, 3) := by decide +kernel
theorem d_M_gather_59 : decode b_M_gather 59 = .ok (.iconst 1, 1) := by decide +kernel
theorem d_M_gather_60 : decode b_M_gather 60 = .ok (.goto 4, 3) := by decide +kernel
theorem d_M_gather_63 : decode b_M_gather 63 = .ok (.iconst 0, 1) := by decide +kernel
theorem d_M_gather_64 : decode b_M_gather 64 = .ok (.istore 5, 2) := by decide +kernel
theorem d_M_gather_66 : decode b_M_gather 66 = .ok (.aload_n 0, 1) := by decide +kernel
theorem d_M_gather_67 : decode b_M_gather 67 = .ok (.getfield 167, 3) := by decide +kernel
theorem d_M_gather_70 : decode b_M_gather 70 = .ok (.iconst 4, 1) := by decide +kernel
theorem d_M_gather_71 : decode b_M_gather 71 = .ok (.if_icmp .ne 10, 3) := by decide +kernel
theorem d_M_gather_74 : decode b_M_gather 74 = .ok (.iload_n 1, 1) := by decide +kernel
theorem d_M_gather_75 : decode b_M_gather 75 = .ok (.iload 4, 2) := by decide +kernel
theorem d_M_gather_77 : decode b_M_gather 77 = .ok (.iadd, 1) := by decide +kernel
theorem d_M_gather_78 : decode b_M_gather 78 = .ok (.goto 14, 3) := by decide +kernel
theorem d_M_gather_81 : decode b_M_gather 81 = .ok (.iload 5, 2) := by decide +kernel
theorem d_M_gather_83 : decode b_M_gather 83 = .ok (.ifCond .eq 8, 3) := by decide +kernel
theorem d_M_gather_86 : decode b_M_gather 86 = .ok (.iload 4, 2) := by decide +kernel
theorem d_M_gather_88 : decode b_M_gather 88 = .ok (.goto 4, 3) := by decide +kernel
theorem d_M_gather_91 : decode b_M_gather 91 = .ok (.iload_n 1, 1) := by decide +kernel
theorem d_M_gather_92 : decode b_M_gather 92 = .ok (.istore_n 1, 1) := by decide +kernel
theorem d_M_gather_93 : decode b_M_gather 93 = .ok (.iconst 0, 1) := by decide +kernel
theorem d_M_gather_94 : decode b_M_gather 94 = .ok (.istore_n 2, 1) := by decide +kernel
theorem d_M_gather_95 : decode b_M_gather 95 = .ok (.iinc 3 1, 3) := by decide +kernel
theorem d_M_gather_98 : decode b_M_gather 98 = .ok (.goto (-92), 3) := by decide +kernel
theorem d_M_gather_101 : decode b_M_gather 101 = .ok (.iload_n 1, 1) := by decide +kernel
theorem d_M_gather_102 : decode b_M_gather 102 = .ok (.ireturn, 1) := by decide +kernel
theorem d_M_place_0 : decode b_M_place 0 = .ok (.aload_n 0, 1) := by decide +kernel
theorem d_M_place_1 : decode b_M_place 1 = .ok (.iconst 0, 1) := by decide +kernel
theorem d_M_place_2 : decode b_M_place 2 = .ok (.putfield 73, 3) := by decide +kernel
theorem d_M_place_5 : decode b_M_place 5 = .ok (.aload_n 0, 1) := by decide +kernel
theorem d_M_place_6 : decode b_M_place 6 = .ok (.getfield 36, 3) := by decide +kernel
theorem d_M_place_9 : decode b_M_place 9 = .ok (.ireturn, 1) := by decide +kernel
theorem d_M_refused_0 : decode b_M_refused 0 = .ok (.aload_n 0, 1) := by decide +kernel
theorem d_M_refused_1 : decode b_M_refused 1 = .ok (.iconst 0, 1) := by decide +kernel
theorem d_M_refused_2 : decode b_M_refused 2 = .ok (.putfield 73, 3) := by decide +kernel
theorem d_M_refused_5 : decode b_M_refused 5 = .ok (.aload_n 0, 1) := by decide +kernel
theorem d_M_refused_6 : decode b_M_refused 6 = .ok (.getfield 257, 3) := by decide +kernel
theorem d_M_refused_9 : decode b_M_refused 9 = .ok (.ireturn, 1) := by decide +kernel
theorem d_M_listed_0 : decode b_M_listed 0 = .ok (.aload_n 0, 1) := by decide +kernel
theorem d_M_listed_1 : decode b_M_listed 1 = .ok (.iload_n 1, 1) := by decide +kernel
theorem d_M_listed_2 : decode b_M_listed 2 = .ok (.ifCond .lt 11, 3) := by decide +kernel
theorem d_M_listed_5 : decode b_M_listed 5 = .ok (.iload_n 1, 1) := by decide +kernel
theorem d_M_listed_6 : decode b_M_listed 6 = .ok (.aload_n 0, 1) := by decide +kernel
theorem d_M_listed_7 : decode b_M_listed 7 = .ok (.getfield 260, 3) := by decide +kernel
theorem d_M_listed_10 : decode b_M_listed 10 = .ok (.if_icmp .lt 7, 3) := by decide +kernel
theorem d_M_listed_13 : decode b_M_listed 13 = .ok (.iconst 1, 1) := by decide +kernel
theorem d_M_listed_14 : decode b_M_listed 14 = .ok (.goto 4, 3) := by decide +kernel
theorem d_M_listed_17 : decode b_M_listed 17 = .ok (.iconst 0, 1) := by decide +kernel
theorem d_M_listed_18 : decode b_M_listed 18 = .ok (.putfield 73, 3) := by decide +kernel
theorem d_M_listed_21 : decode b_M_listed 21 = .ok (.aload_n 0, 1) := by decide +kernel
theorem d_M_listed_22 : decode b_M_listed 22 = .ok (.getfield 73, 3) := by decide +kernel
theorem d_M_listed_25 : decode b_M_listed 25 = .ok (.ifCond .ne 12, 3) := by decide +kernel
theorem d_M_listed_28 : decode b_M_listed 28 = .ok (.aload_n 0, 1) := by decide +kernel
theorem d_M_listed_29 : decode b_M_listed 29 = .ok (.getfield 40, 3) := by decide +kernel
theorem d_M_listed_32 : decode b_M_listed 32 = .ok (.iload_n 1, 1) := by decide +kernel
theorem d_M_listed_33 : decode b_M_listed 33 = .ok (.iaload, 1) := by decide +kernel
theorem d_M_listed_34 : decode b_M_listed 34 = .ok (.goto 4, 3) := by decide +kernel
theorem d_M_listed_37 : decode b_M_listed 37 = .ok (.iconst 0, 1) := by decide +kernel
theorem d_M_listed_38 : decode b_M_listed 38 = .ok (.ireturn, 1) := by decide +kernel
end
section
theorem d_L_field_0 : decode b_L_field 0 = .ok (.aload_n 0, 1) := by decide +kernel
theorem d_L_field_1 : decode b_L_field 1 = .ok (.iload_n 1, 1) := by decide +kernel
theorem d_L_field_2 : decode b_L_field 2 = .ok (.iload_n 2, 1) := by decide +kernel
theorem d_L_field_3 : decode b_L_field 3 = .ok (.iload_n 3, 1) := by decide +kernel
theorem d_L_field_4 : decode b_L_field 4 = .ok (.iload 4, 2) := by decide +kernel
theorem d_L_field_6 : decode b_L_field 6 = .ok (.invokevirtual 7, 3) := by decide +kernel
theorem d_L_field_9 : decode b_L_field 9 = .ok (.goto 11, 3) := by decide +kernel
theorem d_L_field_12 : decode b_L_field 12 = .ok (.astore 5, 2) := by decide +kernel
theorem d_L_field_14 : decode b_L_field 14 = .ok (.iconst 1, 1) := by decide +kernel
theorem d_L_field_15 : decode b_L_field 15 = .ok (.ireturn, 1) := by decide +kernel
theorem d_L_field_16 : decode b_L_field 16 = .ok (.astore 5, 2) := by decide +kernel
theorem d_L_field_18 : decode b_L_field 18 = .ok (.iconst 2, 1) := by decide +kernel
theorem d_L_field_19 : decode b_L_field 19 = .ok (.ireturn, 1) := by decide +kernel
theorem d_L_field_20 : decode b_L_field 20 = .ok (.iconst 0, 1) := by decide +kernel
theorem d_L_field_21 : decode b_L_field 21 = .ok (.ireturn, 1) := by decide +kernel
theorem d_L_insert_0 : decode b_L_insert 0 = .ok (.aload_n 1, 1) := by decide +kernel
theorem d_L_insert_1 : decode b_L_insert 1 = .ok (.iconst 0, 1) := by decide +kernel
theorem d_L_insert_2 : decode b_L_insert 2 = .ok (.aload_n 0, 1) := by decide +kernel
theorem d_L_insert_3 : decode b_L_insert 3 = .ok (.invokevirtual 17, 3) := by decide +kernel
theorem d_L_insert_6 : decode b_L_insert 6 = .ok (.i2l, 1) := by decide +kernel
theorem d_L_insert_7 : decode b_L_insert 7 = .ok (.lastore, 1) := by decide +kernel
theorem d_L_insert_8 : decode b_L_insert 8 = .ok (.goto 6, 3) := by decide +kernel
theorem d_L_insert_11 : decode b_L_insert 11 = .ok (.astore_n 2, 1) := by decide +kernel
theorem d_L_insert_12 : decode b_L_insert 12 = .ok (.iconst 1, 1) := by decide +kernel
theorem d_L_insert_13 : decode b_L_insert 13 = .ok (.ireturn, 1) := by decide +kernel
theorem d_L_insert_14 : decode b_L_insert 14 = .ok (.iconst 0, 1) := by decide +kernel
theorem d_L_insert_15 : decode b_L_insert 15 = .ok (.ireturn, 1) := by decide +kernel
theorem d_L_remove_0 : decode b_L_remove 0 = .ok (.aload_n 0, 1) := by decide +kernel
theorem d_L_remove_1 : decode b_L_remove 1 = .ok (.iload_n 1, 1) := by decide +kernel
theorem d_L_remove_2 : decode b_L_remove 2 = .ok (.invokevirtual 23, 3) := by decide +kernel
theorem d_L_remove_5 : decode b_L_remove 5 = .ok (.goto 9, 3) := by decide +kernel
theorem d_L_remove_8 : decode b_L_remove 8 = .ok (.astore_n 2, 1) := by decide +kernel
theorem d_L_remove_9 : decode b_L_remove 9 = .ok (.iconst 1, 1) := by decide +kernel
theorem d_L_remove_10 : decode b_L_remove 10 = .ok (.ireturn, 1) := by decide +kernel
theorem d_L_remove_11 : decode b_L_remove 11 = .ok (.astore_n 2, 1) := by decide +kernel
theorem d_L_remove_12 : decode b_L_remove 12 = .ok (.iconst 2, 1) := by decide +kernel
theorem d_L_remove_13 : decode b_L_remove 13 = .ok (.ireturn, 1) := by decide +kernel
theorem d_L_remove_14 : decode b_L_remove 14 = .ok (.iconst 0, 1) := by decide +kernel
theorem d_L_remove_15 : decode b_L_remove 15 = .ok (.ireturn, 1) := by decide +kernel
theorem d_L_put_0 : decode b_L_put 0 = .ok (.aload_n 0, 1) := by decide +kernel
theorem d_L_put_1 : decode b_L_put 1 = .ok (.iload_n 1, 1) := by decide +kernel
theorem d_L_put_2 : decode b_L_put 2 = .ok (.iload_n 2, 1) := by decide +kernel
theorem d_L_put_3 : decode b_L_put 3 = .ok (.iload_n 3, 1) := by decide +kernel
theorem d_L_put_4 : decode b_L_put 4 = .ok (.invokevirtual 27, 3) := by decide +kernel
theorem d_L_put_7 : decode b_L_put 7 = .ok (.goto 15, 3) := by decide +kernel
theorem d_L_put_10 : decode b_L_put 10 = .ok (.astore 4, 2) := by decide +kernel
theorem d_L_put_12 : decode b_L_put 12 = .ok (.iconst 1, 1) := by decide +kernel
theorem d_L_put_13 : decode b_L_put 13 = .ok (.ireturn, 1) := by decide +kernel
theorem d_L_put_14 : decode b_L_put 14 = .ok (.astore 4, 2) := by decide +kernel
theorem d_L_put_16 : decode b_L_put 16 = .ok (.iconst 2, 1) := by decide +kernel
theorem d_L_put_17 : decode b_L_put 17 = .ok (.ireturn, 1) := by decide +kernel
theorem d_L_put_18 : decode b_L_put 18 = .ok (.astore 4, 2) := by decide +kernel
theorem d_L_put_20 : decode b_L_put 20 = .ok (.iconst 3, 1) := by decide +kernel
theorem d_L_put_21 : decode b_L_put 21 = .ok (.ireturn, 1) := by decide +kernel
theorem d_L_put_22 : decode b_L_put 22 = .ok (.iconst 0, 1) := by decide +kernel
theorem d_L_put_23 : decode b_L_put 23 = .ok (.ireturn, 1) := by decide +kernel
theorem d_L_get_0 : decode b_L_get 0 = .ok (.aload_n 3, 1) := by decide +kernel
theorem d_L_get_1 : decode b_L_get 1 = .ok (.iconst 0, 1) := by decide +kernel
theorem d_L_get_2 : decode b_L_get 2 = .ok (.aload_n 0, 1) := by decide +kernel
theorem d_L_get_3 : decode b_L_get 3 = .ok (.iload_n 1, 1) := by decide +kernel
theorem d_L_get_4 : decode b_L_get 4 = .ok (.iload_n 2, 1) := by decide +kernel
theorem d_L_get_5 : decode b_L_get 5 = .ok (.invokevirtual 31, 3) := by decide +kernel
theorem d_L_get_8 : decode b_L_get 8 = .ok (.i2l, 1) := by decide +kernel
theorem d_L_get_9 : decode b_L_get 9 = .ok (.lastore, 1) := by decide +kernel
theorem d_L_get_10 : decode b_L_get 10 = .ok (.goto 11, 3) := by decide +kernel
theorem d_L_get_13 : decode b_L_get 13 = .ok (.astore 4, 2) := by decide +kernel
theorem d_L_get_15 : decode b_L_get 15 = .ok (.iconst 1, 1) := by decide +kernel
theorem d_L_get_16 : decode b_L_get 16 = .ok (.ireturn, 1) := by decide +kernel
theorem d_L_get_17 : decode b_L_get 17 = .ok (.astore 4, 2) := by decide +kernel
theorem d_L_get_19 : decode b_L_get 19 = .ok (.iconst 2, 1) := by decide +kernel
theorem d_L_get_20 : decode b_L_get 20 = .ok (.ireturn, 1) := by decide +kernel
theorem d_L_get_21 : decode b_L_get 21 = .ok (.iconst 0, 1) := by decide +kernel
theorem d_L_get_22 : decode b_L_get 22 = .ok (.ireturn, 1) := by decide +kernel
theorem d_L_bit_0 : decode b_L_bit 0 = .ok (.aload_n 3, 1) := by decide +kernel
theorem d_L_bit_1 : decode b_L_bit 1 = .ok (.iconst 0, 1) := by decide +kernel
theorem d_L_bit_2 : decode b_L_bit 2 = .ok (.aload_n 0, 1) := by decide +kernel
theorem d_L_bit_3 : decode b_L_bit 3 = .ok (.iload_n 1, 1) := by decide +kernel
theorem d_L_bit_4 : decode b_L_bit 4 = .ok (.iload_n 2, 1) := by decide +kernel
theorem d_L_bit_5 : decode b_L_bit 5 = .ok (.invokevirtual 35, 3) := by decide +kernel
theorem d_L_bit_8 : decode b_L_bit 8 = .ok (.ifCond .eq 7, 3) := by decide +kernel
theorem d_L_bit_11 : decode b_L_bit 11 = .ok (.lconst 1, 1) := by decide +kernel
theorem d_L_bit_12 : decode b_L_bit 12 = .ok (.goto 4, 3) := by decide +kernel
theorem d_L_bit_15 : decode b_L_bit 15 = .ok (.lconst 0, 1) := by decide +kernel
theorem d_L_bit_16 : decode b_L_bit 16 = .ok (.lastore, 1) := by decide +kernel
theorem d_L_bit_17 : decode b_L_bit 17 = .ok (.goto 7, 3) := by decide +kernel
theorem d_L_bit_20 : decode b_L_bit 20 = .ok (.astore 4, 2) := by decide +kernel
theorem d_L_bit_22 : decode b_L_bit 22 = .ok (.iconst 1, 1) := by decide +kernel
theorem d_L_bit_23 : decode b_L_bit 23 = .ok (.ireturn, 1) := by decide +kernel
theorem d_L_bit_24 : decode b_L_bit 24 = .ok (.iconst 0, 1) := by decide +kernel
theorem d_L_bit_25 : decode b_L_bit 25 = .ok (.ireturn, 1) := by decide +kernel
theorem d_L_multi_0 : decode b_L_multi 0 = .ok (.aload_n 0, 1) := by decide +kernel
theorem d_L_multi_1 : decode b_L_multi 1 = .ok (.iload_n 1, 1) := by decide +kernel
theorem d_L_multi_2 : decode b_L_multi 2 = .ok (.iload_n 2, 1) := by decide +kernel
theorem d_L_multi_3 : decode b_L_multi 3 = .ok (.invokevirtual 39, 3) := by decide +kernel
theorem d_L_multi_6 : decode b_L_multi 6 = .ok (.goto 6, 3) := by decide +kernel
theorem d_L_multi_9 : decode b_L_multi 9 = .ok (.astore_n 3, 1) := by decide +kernel
theorem d_L_multi_10 : decode b_L_multi 10 = .ok (.iconst 1, 1) := by decide +kernel
theorem d_L_multi_11 : decode b_L_multi 11 = .ok (.ireturn, 1) := by decide +kernel
theorem d_L_multi_12 : decode b_L_multi 12 = .ok (.iconst 0, 1) := by decide +kernel
theorem d_L_multi_13 : decode b_L_multi 13 = .ok (.ireturn, 1) := by decide +kernel
theorem d_L_responds_0 : decode b_L_responds 0 = .ok (.aload_n 2, 1) := by decide +kernel
theorem d_L_responds_1 : decode b_L_responds 1 = .ok (.iconst 0, 1) := by decide +kernel
theorem d_L_responds_2 : decode b_L_responds 2 = .ok (.aload_n 0, 1) := by decide +kernel
theorem d_L_responds_3 : decode b_L_responds 3 = .ok (.iload_n 1, 1) := by decide +kernel
theorem d_L_responds_4 : decode b_L_responds 4 = .ok (.invokevirtual 43, 3) := by decide +kernel
theorem d_L_responds_7 : decode b_L_responds 7 = .ok (.ifCond .eq 7, 3) := by decide +kernel
theorem d_L_responds_10 : decode b_L_responds 10 = .ok (.lconst 1, 1) := by decide +kernel
theorem d_L_responds_11 : decode b_L_responds 11 = .ok (.goto 4, 3) := by decide +kernel
theorem d_L_responds_14 : decode b_L_responds 14 = .ok (.lconst 0, 1) := by decide +kernel
theorem d_L_responds_15 : decode b_L_responds 15 = .ok (.lastore, 1) := by decide +kernel
theorem d_L_responds_16 : decode b_L_responds 16 = .ok (.goto 6, 3) := by decide +kernel
theorem d_L_responds_19 : decode b_L_responds 19 = .ok (.astore_n 3, 1) := by decide +kernel
theorem d_L_responds_20 : decode b_L_responds 20 = .ok (.iconst 1, 1) := by decide +kernel
theorem d_L_responds_21 : decode b_L_responds 21 = .ok (.ireturn, 1) := by decide +kernel
theorem d_L_responds_22 : decode b_L_responds 22 = .ok (.iconst 0, 1) := by decide +kernel
theorem d_L_responds_23 : decode b_L_responds 23 = .ok (.ireturn, 1) := by decide +kernel
theorem d_L_run_0 : decode b_L_run 0 = .ok (.aload_n 1, 1) := by decide +kernel
theorem d_L_run_1 : decode b_L_run 1 = .ok (.iconst 0, 1) := by decide +kernel
theorem d_L_run_2 : decode b_L_run 2 = .ok (.aload_n 0, 1) := by decide +kernel
theorem d_L_run_3 : decode b_L_run 3 = .ok (.invokevirtual 47, 3) := by decide +kernel
theorem d_L_run_6 : decode b_L_run 6 = .ok (.i2l, 1) := by decide +kernel
theorem d_L_run_7 : decode b_L_run 7 = .ok (.lastore, 1) := by decide +kernel
theorem d_L_run_8 : decode b_L_run 8 = .ok (.goto 9, 3) := by decide +kernel
theorem d_L_run_11 : decode b_L_run 11 = .ok (.astore_n 2, 1) := by decide +kernel
theorem d_L_run_12 : decode b_L_run 12 = .ok (.iconst 1, 1) := by decide +kernel
theorem d_L_run_13 : decode b_L_run 13 = .ok (.ireturn, 1) := by decide +kernel
theorem d_L_run_14 : decode b_L_run 14 = .ok (.astore_n 2, 1) := by decide +kernel
theorem d_L_run_15 : decode b_L_run 15 = .ok (.iconst 2, 1) := by decide +kernel
theorem d_L_run_16 : decode b_L_run 16 = .ok (.ireturn, 1) := by decide +kernel
theorem d_L_run_17 : decode b_L_run 17 = .ok (.iconst 0, 1) := by decide +kernel
theorem d_L_run_18 : decode b_L_run 18 = .ok (.ireturn, 1) := by decide +kernel
theorem d_L_listed_0 : decode b_L_listed 0 = .ok (.aload_n 2, 1) := by decide +kernel
theorem d_L_listed_1 : decode b_L_listed 1 = .ok (.iconst 0, 1) := by decide +kernel
theorem d_L_listed_2 : decode b_L_listed 2 = .ok (.aload_n 0, 1) := by decide +kernel
theorem d_L_listed_3 : decode b_L_listed 3 = .ok (.iload_n 1, 1) := by decide +kernel
theorem d_L_listed_4 : decode b_L_listed 4 = .ok (.invokevirtual 50, 3) := by decide +kernel
theorem d_L_listed_7 : decode b_L_listed 7 = .ok (.i2l, 1) := by decide +kernel
theorem d_L_listed_8 : decode b_L_listed 8 = .ok (.lastore, 1) := by decide +kernel
theorem d_L_listed_9 : decode b_L_listed 9 = .ok (.goto 6, 3) := by decide +kernel
theorem d_L_listed_12 : decode b_L_listed 12 = .ok (.astore_n 3, 1) := by decide +kernel
theorem d_L_listed_13 : decode b_L_listed 13 = .ok (.iconst 1, 1) := by decide +kernel
theorem d_L_listed_14 : decode b_L_listed 14 = .ok (.ireturn, 1) := by decide +kernel
theorem d_L_listed_15 : decode b_L_listed 15 = .ok (.iconst 0, 1) := by decide +kernel
theorem d_L_listed_16 : decode b_L_listed 16 = .ok (.ireturn, 1) := by decide +kernel
theorem d_L_law_0 : decode b_L_law 0 = .ok (.new 8, 3) := by decide +kernel
theorem d_L_law_3 : decode b_L_law 3 = .ok (.dup, 1) := by decide +kernel
theorem d_L_law_4 : decode b_L_law 4 = .ok (.invokespecial 56, 3) := by decide +kernel
theorem d_L_law_7 : decode b_L_law 7 = .ok (.astore_n 1, 1) := by decide +kernel
theorem d_L_law_8 : decode b_L_law 8 = .ok (.new 57, 3) := by decide +kernel
theorem d_L_law_11 : decode b_L_law 11 = .ok (.dup, 1) := by decide +kernel
theorem d_L_law_12 : decode b_L_law 12 = .ok (.invokespecial 59, 3) := by decide +kernel
theorem d_L_law_15 : decode b_L_law 15 = .ok (.astore_n 2, 1) := by decide +kernel
theorem d_L_law_16 : decode b_L_law 16 = .ok (.iconst 1, 1) := by decide +kernel
theorem d_L_law_17 : decode b_L_law 17 = .ok (.newarray .long, 2) := by decide +kernel
theorem d_L_law_19 : decode b_L_law 19 = .ok (.astore_n 3, 1) := by decide +kernel
theorem d_L_law_20 : decode b_L_law 20 = .ok (.iconst 0, 1) := by decide +kernel
theorem d_L_law_21 : decode b_L_law 21 = .ok (.istore 4, 2) := by decide +kernel
theorem d_L_law_23 : decode b_L_law 23 = .ok (.iload 4, 2) := by decide +kernel
theorem d_L_law_25 : decode b_L_law 25 = .ok (.aload_n 0, 1) := by decide +kernel
theorem d_L_law_26 : decode b_L_law 26 = .ok (.arraylength, 1) := by decide +kernel
theorem d_L_law_27 : decode b_L_law 27 = .ok (.iconst 5, 1) := by decide +kernel
theorem d_L_law_28 : decode b_L_law 28 = .ok (.isub, 1) := by decide +kernel
theorem d_L_law_29 : decode b_L_law 29 = .ok (.if_icmp .gt 855, 3) := by decide +kernel
theorem d_L_law_32 : decode b_L_law 32 = .ok (.aload_n 0, 1) := by decide +kernel
theorem d_L_law_33 : decode b_L_law 33 = .ok (.iload 4, 2) := by decide +kernel
theorem d_L_law_35 : decode b_L_law 35 = .ok (.iaload, 1) := by decide +kernel
theorem d_L_law_36 : decode b_L_law 36 = .ok (.bipush 15, 2) := by decide +kernel
theorem d_L_law_38 : decode b_L_law 38 = .ok (.iand, 1) := by decide +kernel
theorem d_L_law_39 : decode b_L_law 39 = .ok (.tableswitch 839 0 15 #[77, 167, 211, 247, 309, 379, 454, 519, 567, 630, 643, 700, 713, 757, 770, 783], 77) := by decide +kernel
theorem d_L_law_116 : decode b_L_law 116 = .ok (.aload_n 1, 1) := by decide +kernel
theorem d_L_law_117 : decode b_L_law 117 = .ok (.aload_n 0, 1) := by decide +kernel
theorem d_L_law_118 : decode b_L_law 118 = .ok (.iload 4, 2) := by decide +kernel
theorem d_L_law_120 : decode b_L_law 120 = .ok (.iconst 1, 1) := by decide +kernel
theorem d_L_law_121 : decode b_L_law 121 = .ok (.iadd, 1) := by decide +kernel
theorem d_L_law_122 : decode b_L_law 122 = .ok (.iaload, 1) := by decide +kernel
theorem d_L_law_123 : decode b_L_law 123 = .ok (.i2c, 1) := by decide +kernel
theorem d_L_law_124 : decode b_L_law 124 = .ok (.aload_n 0, 1) := by decide +kernel
theorem d_L_law_125 : decode b_L_law 125 = .ok (.iload 4, 2) := by decide +kernel
theorem d_L_law_127 : decode b_L_law 127 = .ok (.iconst 2, 1) := by decide +kernel
theorem d_L_law_128 : decode b_L_law 128 = .ok (.iadd, 1) := by decide +kernel
theorem d_L_law_129 : decode b_L_law 129 = .ok (.iaload, 1) := by decide +kernel
theorem d_L_law_130 : decode b_L_law 130 = .ok (.aload_n 0, 1) := by decide +kernel
theorem d_L_law_131 : decode b_L_law 131 = .ok (.iload 4, 2) := by decide +kernel
theorem d_L_law_133 : decode b_L_law 133 = .ok (.iconst 3, 1) := by decide +kernel
theorem d_L_law_134 : decode b_L_law 134 = .ok (.iadd, 1) := by decide +kernel
theorem d_L_law_135 : decode b_L_law 135 = .ok (.iaload, 1) := by decide +kernel
theorem d_L_law_136 : decode b_L_law 136 = .ok (.aload_n 0, 1) := by decide +kernel
theorem d_L_law_137 : decode b_L_law 137 = .ok (.iload 4, 2) := by decide +kernel
theorem d_L_law_139 : decode b_L_law 139 = .ok (.iconst 4, 1) := by decide +kernel
theorem d_L_law_140 : decode b_L_law 140 = .ok (.iadd, 1) := by decide +kernel
theorem d_L_law_141 : decode b_L_law 141 = .ok (.iaload, 1) := by decide +kernel
theorem d_L_law_142 : decode b_L_law 142 = .ok (.ifCond .eq 7, 3) := by decide +kernel
theorem d_L_law_145 : decode b_L_law 145 = .ok (.iconst 1, 1) := by decide +kernel
theorem d_L_law_146 : decode b_L_law 146 = .ok (.goto 4, 3) := by decide +kernel
theorem d_L_law_149 : decode b_L_law 149 = .ok (.iconst 0, 1) := by decide +kernel
theorem d_L_law_150 : decode b_L_law 150 = .ok (.invokestatic 60, 3) := by decide +kernel
theorem d_L_law_153 : decode b_L_law 153 = .ok (.istore 5, 2) := by decide +kernel
theorem d_L_law_155 : decode b_L_law 155 = .ok (.aload_n 2, 1) := by decide +kernel
theorem d_L_law_156 : decode b_L_law 156 = .ok (.aload_n 0, 1) := by decide +kernel
theorem d_L_law_157 : decode b_L_law 157 = .ok (.iload 4, 2) := by decide +kernel
theorem d_L_law_159 : decode b_L_law 159 = .ok (.iconst 1, 1) := by decide +kernel
theorem d_L_law_160 : decode b_L_law 160 = .ok (.iadd, 1) := by decide +kernel
theorem d_L_law_161 : decode b_L_law 161 = .ok (.iaload, 1) := by decide +kernel
theorem d_L_law_162 : decode b_L_law 162 = .ok (.i2c, 1) := by decide +kernel
theorem d_L_law_163 : decode b_L_law 163 = .ok (.aload_n 0, 1) := by decide +kernel
theorem d_L_law_164 : decode b_L_law 164 = .ok (.iload 4, 2) := by decide +kernel
theorem d_L_law_166 : decode b_L_law 166 = .ok (.iconst 2, 1) := by decide +kernel
theorem d_L_law_167 : decode b_L_law 167 = .ok (.iadd, 1) := by decide +kernel
theorem d_L_law_168 : decode b_L_law 168 = .ok (.iaload, 1) := by decide +kernel
theorem d_L_law_169 : decode b_L_law 169 = .ok (.aload_n 0, 1) := by decide +kernel
theorem d_L_law_170 : decode b_L_law 170 = .ok (.iload 4, 2) := by decide +kernel
theorem d_L_law_172 : decode b_L_law 172 = .ok (.iconst 3, 1) := by decide +kernel
theorem d_L_law_173 : decode b_L_law 173 = .ok (.iadd, 1) := by decide +kernel
theorem d_L_law_174 : decode b_L_law 174 = .ok (.iaload, 1) := by decide +kernel
theorem d_L_law_175 : decode b_L_law 175 = .ok (.aload_n 0, 1) := by decide +kernel
theorem d_L_law_176 : decode b_L_law 176 = .ok (.iload 4, 2) := by decide +kernel
theorem d_L_law_178 : decode b_L_law 178 = .ok (.iconst 4, 1) := by decide +kernel
theorem d_L_law_179 : decode b_L_law 179 = .ok (.iadd, 1) := by decide +kernel
theorem d_L_law_180 : decode b_L_law 180 = .ok (.iaload, 1) := by decide +kernel
theorem d_L_law_181 : decode b_L_law 181 = .ok (.ifCond .eq 7, 3) := by decide +kernel
theorem d_L_law_184 : decode b_L_law 184 = .ok (.iconst 1, 1) := by decide +kernel
theorem d_L_law_185 : decode b_L_law 185 = .ok (.goto 4, 3) := by decide +kernel
theorem d_L_law_188 : decode b_L_law 188 = .ok (.iconst 0, 1) := by decide +kernel
theorem d_L_law_189 : decode b_L_law 189 = .ok (.invokevirtual 65, 3) := by decide +kernel
theorem d_L_law_192 : decode b_L_law 192 = .ok (.aload_n 2, 1) := by decide +kernel
theorem d_L_law_193 : decode b_L_law 193 = .ok (.invokevirtual 66, 3) := by decide +kernel
theorem d_L_law_196 : decode b_L_law 196 = .ok (.iload 5, 2) := by decide +kernel
theorem d_L_law_198 : decode b_L_law 198 = .ok (.if_icmp .eq 5, 3) := by decide +kernel
theorem d_L_law_201 : decode b_L_law 201 = .ok (.iconst 0, 1) := by decide +kernel
theorem d_L_law_202 : decode b_L_law 202 = .ok (.ireturn, 1) := by decide +kernel
theorem d_L_law_203 : decode b_L_law 203 = .ok (.goto 675, 3) := by decide +kernel
theorem d_L_law_206 : decode b_L_law 206 = .ok (.aload_n 1, 1) := by decide +kernel
theorem d_L_law_207 : decode b_L_law 207 = .ok (.aload_n 3, 1) := by decide +kernel
theorem d_L_law_208 : decode b_L_law 208 = .ok (.invokestatic 69, 3) := by decide +kernel
theorem d_L_law_211 : decode b_L_law 211 = .ok (.istore 5, 2) := by decide +kernel
theorem d_L_law_213 : decode b_L_law 213 = .ok (.aload_n 2, 1) := by decide +kernel
theorem d_L_law_214 : decode b_L_law 214 = .ok (.invokevirtual 72, 3) := by decide +kernel
theorem d_L_law_217 : decode b_L_law 217 = .ok (.istore 6, 2) := by decide +kernel
theorem d_L_law_219 : decode b_L_law 219 = .ok (.aload_n 2, 1) := by decide +kernel
theorem d_L_law_220 : decode b_L_law 220 = .ok (.invokevirtual 66, 3) := by decide +kernel
theorem d_L_law_223 : decode b_L_law 223 = .ok (.iload 5, 2) := by decide +kernel
theorem d_L_law_225 : decode b_L_law 225 = .ok (.if_icmp .eq 5, 3) := by decide +kernel
theorem d_L_law_228 : decode b_L_law 228 = .ok (.iconst 0, 1) := by decide +kernel
theorem d_L_law_229 : decode b_L_law 229 = .ok (.ireturn, 1) := by decide +kernel
theorem d_L_law_230 : decode b_L_law 230 = .ok (.iload 5, 2) := by decide +kernel
theorem d_L_law_232 : decode b_L_law 232 = .ok (.ifCond .ne 15, 3) := by decide +kernel
theorem d_L_law_235 : decode b_L_law 235 = .ok (.aload_n 3, 1) := by decide +kernel
theorem d_L_law_236 : decode b_L_law 236 = .ok (.iconst 0, 1) := by decide +kernel
theorem d_L_law_237 : decode b_L_law 237 = .ok (.laload, 1) := by decide +kernel
theorem d_L_law_238 : decode b_L_law 238 = .ok (.iload 6, 2) := by decide +kernel
theorem d_L_law_240 : decode b_L_law 240 = .ok (.i2l, 1) := by decide +kernel
theorem d_L_law_241 : decode b_L_law 241 = .ok (.lcmp, 1) := by decide +kernel
theorem d_L_law_242 : decode b_L_law 242 = .ok (.ifCond .eq 5, 3) := by decide +kernel
theorem d_L_law_245 : decode b_L_law 245 = .ok (.iconst 0, 1) := by decide +kernel
theorem d_L_law_246 : decode b_L_law 246 = .ok (.ireturn, 1) := by decide +kernel
theorem d_L_law_247 : decode b_L_law 247 = .ok (.goto 631, 3) := by decide +kernel
theorem d_L_law_250 : decode b_L_law 250 = .ok (.aload_n 1, 1) := by decide +kernel
theorem d_L_law_251 : decode b_L_law 251 = .ok (.aload_n 0, 1) := by decide +kernel
theorem d_L_law_252 : decode b_L_law 252 = .ok (.iload 4, 2) := by decide +kernel
theorem d_L_law_254 : decode b_L_law 254 = .ok (.iconst 1, 1) := by decide +kernel
theorem d_L_law_255 : decode b_L_law 255 = .ok (.iadd, 1) := by decide +kernel
theorem d_L_law_256 : decode b_L_law 256 = .ok (.iaload, 1) := by decide +kernel
theorem d_L_law_257 : decode b_L_law 257 = .ok (.invokestatic 73, 3) := by decide +kernel
theorem d_L_law_260 : decode b_L_law 260 = .ok (.istore 5, 2) := by decide +kernel
theorem d_L_law_262 : decode b_L_law 262 = .ok (.aload_n 2, 1) := by decide +kernel
theorem d_L_law_263 : decode b_L_law 263 = .ok (.aload_n 0, 1) := by decide +kernel
theorem d_L_law_264 : decode b_L_law 264 = .ok (.iload 4, 2) := by decide +kernel
theorem d_L_law_266 : decode b_L_law 266 = .ok (.iconst 1, 1) := by decide +kernel
theorem d_L_law_267 : decode b_L_law 267 = .ok (.iadd, 1) := by decide +kernel
theorem d_L_law_268 : decode b_L_law 268 = .ok (.iaload, 1) := by decide +kernel
theorem d_L_law_269 : decode b_L_law 269 = .ok (.invokevirtual 76, 3) := by decide +kernel
theorem d_L_law_272 : decode b_L_law 272 = .ok (.aload_n 2, 1) := by decide +kernel
theorem d_L_law_273 : decode b_L_law 273 = .ok (.invokevirtual 66, 3) := by decide +kernel
theorem d_L_law_276 : decode b_L_law 276 = .ok (.iload 5, 2) := by decide +kernel
theorem d_L_law_278 : decode b_L_law 278 = .ok (.if_icmp .eq 5, 3) := by decide +kernel
theorem d_L_law_281 : decode b_L_law 281 = .ok (.iconst 0, 1) := by decide +kernel
theorem d_L_law_282 : decode b_L_law 282 = .ok (.ireturn, 1) := by decide +kernel
theorem d_L_law_283 : decode b_L_law 283 = .ok (.goto 595, 3) := by decide +kernel
theorem d_L_law_286 : decode b_L_law 286 = .ok (.aload_n 1, 1) := by decide +kernel
theorem d_L_law_287 : decode b_L_law 287 = .ok (.aload_n 0, 1) := by decide +kernel
theorem d_L_law_288 : decode b_L_law 288 = .ok (.iload 4, 2) := by decide +kernel
theorem d_L_law_290 : decode b_L_law 290 = .ok (.iconst 1, 1) := by decide +kernel
theorem d_L_law_291 : decode b_L_law 291 = .ok (.iadd, 1) := by decide +kernel
theorem d_L_law_292 : decode b_L_law 292 = .ok (.iaload, 1) := by decide +kernel
theorem d_L_law_293 : decode b_L_law 293 = .ok (.aload_n 0, 1) := by decide +kernel
theorem d_L_law_294 : decode b_L_law 294 = .ok (.iload 4, 2) := by decide +kernel
theorem d_L_law_296 : decode b_L_law 296 = .ok (.iconst 2, 1) := by decide +kernel
theorem d_L_law_297 : decode b_L_law 297 = .ok (.iadd, 1) := by decide +kernel
theorem d_L_law_298 : decode b_L_law 298 = .ok (.iaload, 1) := by decide +kernel
theorem d_L_law_299 : decode b_L_law 299 = .ok (.i2c, 1) := by decide +kernel
theorem d_L_law_300 : decode b_L_law 300 = .ok (.aload_n 0, 1) := by decide +kernel
theorem d_L_law_301 : decode b_L_law 301 = .ok (.iload 4, 2) := by decide +kernel
theorem d_L_law_303 : decode b_L_law 303 = .ok (.iconst 3, 1) := by decide +kernel
theorem d_L_law_304 : decode b_L_law 304 = .ok (.iadd, 1) := by decide +kernel
theorem d_L_law_305 : decode b_L_law 305 = .ok (.iaload, 1) := by decide +kernel
theorem d_L_law_306 : decode b_L_law 306 = .ok (.invokestatic 77, 3) := by decide +kernel
theorem d_L_law_309 : decode b_L_law 309 = .ok (.istore 5, 2) := by decide +kernel
theorem d_L_law_311 : decode b_L_law 311 = .ok (.aload_n 2, 1) := by decide +kernel
theorem d_L_law_312 : decode b_L_law 312 = .ok (.aload_n 0, 1) := by decide +kernel
theorem d_L_law_313 : decode b_L_law 313 = .ok (.iload 4, 2) := by decide +kernel
theorem d_L_law_315 : decode b_L_law 315 = .ok (.iconst 1, 1) := by decide +kernel
theorem d_L_law_316 : decode b_L_law 316 = .ok (.iadd, 1) := by decide +kernel
theorem d_L_law_317 : decode b_L_law 317 = .ok (.iaload, 1) := by decide +kernel
theorem d_L_law_318 : decode b_L_law 318 = .ok (.aload_n 0, 1) := by decide +kernel
theorem d_L_law_319 : decode b_L_law 319 = .ok (.iload 4, 2) := by decide +kernel
theorem d_L_law_321 : decode b_L_law 321 = .ok (.iconst 2, 1) := by decide +kernel
theorem d_L_law_322 : decode b_L_law 322 = .ok (.iadd, 1) := by decide +kernel
theorem d_L_law_323 : decode b_L_law 323 = .ok (.iaload, 1) := by decide +kernel
theorem d_L_law_324 : decode b_L_law 324 = .ok (.i2c, 1) := by decide +kernel
theorem d_L_law_325 : decode b_L_law 325 = .ok (.aload_n 0, 1) := by decide +kernel
theorem d_L_law_326 : decode b_L_law 326 = .ok (.iload 4, 2) := by decide +kernel
theorem d_L_law_328 : decode b_L_law 328 = .ok (.iconst 3, 1) := by decide +kernel
theorem d_L_law_329 : decode b_L_law 329 = .ok (.iadd, 1) := by decide +kernel
theorem d_L_law_330 : decode b_L_law 330 = .ok (.iaload, 1) := by decide +kernel
theorem d_L_law_331 : decode b_L_law 331 = .ok (.invokevirtual 80, 3) := by decide +kernel
theorem d_L_law_334 : decode b_L_law 334 = .ok (.aload_n 2, 1) := by decide +kernel
theorem d_L_law_335 : decode b_L_law 335 = .ok (.invokevirtual 66, 3) := by decide +kernel
theorem d_L_law_338 : decode b_L_law 338 = .ok (.iload 5, 2) := by decide +kernel
theorem d_L_law_340 : decode b_L_law 340 = .ok (.if_icmp .eq 5, 3) := by decide +kernel
theorem d_L_law_343 : decode b_L_law 343 = .ok (.iconst 0, 1) := by decide +kernel
theorem d_L_law_344 : decode b_L_law 344 = .ok (.ireturn, 1) := by decide +kernel
theorem d_L_law_345 : decode b_L_law 345 = .ok (.goto 533, 3) := by decide +kernel
theorem d_L_law_348 : decode b_L_law 348 = .ok (.aload_n 1, 1) := by decide +kernel
theorem d_L_law_349 : decode b_L_law 349 = .ok (.aload_n 0, 1) := by decide +kernel
theorem d_L_law_350 : decode b_L_law 350 = .ok (.iload 4, 2) := by decide +kernel
theorem d_L_law_352 : decode b_L_law 352 = .ok (.iconst 1, 1) := by decide +kernel
theorem d_L_law_353 : decode b_L_law 353 = .ok (.iadd, 1) := by decide +kernel
theorem d_L_law_354 : decode b_L_law 354 = .ok (.iaload, 1) := by decide +kernel
theorem d_L_law_355 : decode b_L_law 355 = .ok (.aload_n 0, 1) := by decide +kernel
theorem d_L_law_356 : decode b_L_law 356 = .ok (.iload 4, 2) := by decide +kernel
theorem d_L_law_358 : decode b_L_law 358 = .ok (.iconst 2, 1) := by decide +kernel
theorem d_L_law_359 : decode b_L_law 359 = .ok (.iadd, 1) := by decide +kernel
theorem d_L_law_360 : decode b_L_law 360 = .ok (.iaload, 1) := by decide +kernel
theorem d_L_law_361 : decode b_L_law 361 = .ok (.i2c, 1) := by decide +kernel
theorem d_L_law_362 : decode b_L_law 362 = .ok (.aload_n 3, 1) := by decide +kernel
theorem d_L_law_363 : decode b_L_law 363 = .ok (.invokestatic 81, 3) := by decide +kernel
theorem d_L_law_366 : decode b_L_law 366 = .ok (.istore 5, 2) := by decide +kernel
theorem d_L_law_368 : decode b_L_law 368 = .ok (.aload_n 2, 1) := by decide +kernel
theorem d_L_law_369 : decode b_L_law 369 = .ok (.aload_n 0, 1) := by decide +kernel
theorem d_L_law_370 : decode b_L_law 370 = .ok (.iload 4, 2) := by decide +kernel
theorem d_L_law_372 : decode b_L_law 372 = .ok (.iconst 1, 1) := by decide +kernel
theorem d_L_law_373 : decode b_L_law 373 = .ok (.iadd, 1) := by decide +kernel
theorem d_L_law_374 : decode b_L_law 374 = .ok (.iaload, 1) := by decide +kernel
theorem d_L_law_375 : decode b_L_law 375 = .ok (.aload_n 0, 1) := by decide +kernel
theorem d_L_law_376 : decode b_L_law 376 = .ok (.iload 4, 2) := by decide +kernel
theorem d_L_law_378 : decode b_L_law 378 = .ok (.iconst 2, 1) := by decide +kernel
theorem d_L_law_379 : decode b_L_law 379 = .ok (.iadd, 1) := by decide +kernel
theorem d_L_law_380 : decode b_L_law 380 = .ok (.iaload, 1) := by decide +kernel
theorem d_L_law_381 : decode b_L_law 381 = .ok (.i2c, 1) := by decide +kernel
theorem d_L_law_382 : decode b_L_law 382 = .ok (.invokevirtual 84, 3) := by decide +kernel
theorem d_L_law_385 : decode b_L_law 385 = .ok (.istore 6, 2) := by decide +kernel
theorem d_L_law_387 : decode b_L_law 387 = .ok (.aload_n 2, 1) := by decide +kernel
theorem d_L_law_388 : decode b_L_law 388 = .ok (.invokevirtual 66, 3) := by decide +kernel
theorem d_L_law_391 : decode b_L_law 391 = .ok (.iload 5, 2) := by decide +kernel
theorem d_L_law_393 : decode b_L_law 393 = .ok (.if_icmp .eq 5, 3) := by decide +kernel
theorem d_L_law_396 : decode b_L_law 396 = .ok (.iconst 0, 1) := by decide +kernel
theorem d_L_law_397 : decode b_L_law 397 = .ok (.ireturn, 1) := by decide +kernel
theorem d_L_law_398 : decode b_L_law 398 = .ok (.iload 5, 2) := by decide +kernel
theorem d_L_law_400 : decode b_L_law 400 = .ok (.ifCond .ne 15, 3) := by decide +kernel
theorem d_L_law_403 : decode b_L_law 403 = .ok (.aload_n 3, 1) := by decide +kernel
theorem d_L_law_404 : decode b_L_law 404 = .ok (.iconst 0, 1) := by decide +kernel
theorem d_L_law_405 : decode b_L_law 405 = .ok (.laload, 1) := by decide +kernel
theorem d_L_law_406 : decode b_L_law 406 = .ok (.iload 6, 2) := by decide +kernel
theorem d_L_law_408 : decode b_L_law 408 = .ok (.i2l, 1) := by decide +kernel
theorem d_L_law_409 : decode b_L_law 409 = .ok (.lcmp, 1) := by decide +kernel
theorem d_L_law_410 : decode b_L_law 410 = .ok (.ifCond .eq 5, 3) := by decide +kernel
theorem d_L_law_413 : decode b_L_law 413 = .ok (.iconst 0, 1) := by decide +kernel
theorem d_L_law_414 : decode b_L_law 414 = .ok (.ireturn, 1) := by decide +kernel
theorem d_L_law_415 : decode b_L_law 415 = .ok (.goto 463, 3) := by decide +kernel
theorem d_L_law_418 : decode b_L_law 418 = .ok (.aload_n 1, 1) := by decide +kernel
theorem d_L_law_419 : decode b_L_law 419 = .ok (.aload_n 0, 1) := by decide +kernel
theorem d_L_law_420 : decode b_L_law 420 = .ok (.iload 4, 2) := by decide +kernel
theorem d_L_law_422 : decode b_L_law 422 = .ok (.iconst 1, 1) := by decide +kernel
theorem d_L_law_423 : decode b_L_law 423 = .ok (.iadd, 1) := by decide +kernel
theorem d_L_law_424 : decode b_L_law 424 = .ok (.iaload, 1) := by decide +kernel
theorem d_L_law_425 : decode b_L_law 425 = .ok (.aload_n 0, 1) := by decide +kernel
theorem d_L_law_426 : decode b_L_law 426 = .ok (.iload 4, 2) := by decide +kernel
theorem d_L_law_428 : decode b_L_law 428 = .ok (.iconst 2, 1) := by decide +kernel
theorem d_L_law_429 : decode b_L_law 429 = .ok (.iadd, 1) := by decide +kernel
theorem d_L_law_430 : decode b_L_law 430 = .ok (.iaload, 1) := by decide +kernel
theorem d_L_law_431 : decode b_L_law 431 = .ok (.aload_n 3, 1) := by decide +kernel
theorem d_L_law_432 : decode b_L_law 432 = .ok (.invokestatic 85, 3) := by decide +kernel
theorem d_L_law_435 : decode b_L_law 435 = .ok (.istore 5, 2) := by decide +kernel
theorem d_L_law_437 : decode b_L_law 437 = .ok (.aload_n 2, 1) := by decide +kernel
theorem d_L_law_438 : decode b_L_law 438 = .ok (.aload_n 0, 1) := by decide +kernel
theorem d_L_law_439 : decode b_L_law 439 = .ok (.iload 4, 2) := by decide +kernel
theorem d_L_law_441 : decode b_L_law 441 = .ok (.iconst 1, 1) := by decide +kernel
theorem d_L_law_442 : decode b_L_law 442 = .ok (.iadd, 1) := by decide +kernel
theorem d_L_law_443 : decode b_L_law 443 = .ok (.iaload, 1) := by decide +kernel
theorem d_L_law_444 : decode b_L_law 444 = .ok (.aload_n 0, 1) := by decide +kernel
theorem d_L_law_445 : decode b_L_law 445 = .ok (.iload 4, 2) := by decide +kernel
theorem d_L_law_447 : decode b_L_law 447 = .ok (.iconst 2, 1) := by decide +kernel
theorem d_L_law_448 : decode b_L_law 448 = .ok (.iadd, 1) := by decide +kernel
theorem d_L_law_449 : decode b_L_law 449 = .ok (.iaload, 1) := by decide +kernel
theorem d_L_law_450 : decode b_L_law 450 = .ok (.invokevirtual 88, 3) := by decide +kernel
theorem d_L_law_453 : decode b_L_law 453 = .ok (.istore 6, 2) := by decide +kernel
theorem d_L_law_455 : decode b_L_law 455 = .ok (.aload_n 2, 1) := by decide +kernel
theorem d_L_law_456 : decode b_L_law 456 = .ok (.invokevirtual 66, 3) := by decide +kernel
theorem d_L_law_459 : decode b_L_law 459 = .ok (.iload 5, 2) := by decide +kernel
theorem d_L_law_461 : decode b_L_law 461 = .ok (.if_icmp .eq 5, 3) := by decide +kernel
theorem d_L_law_464 : decode b_L_law 464 = .ok (.iconst 0, 1) := by decide +kernel
theorem d_L_law_465 : decode b_L_law 465 = .ok (.ireturn, 1) := by decide +kernel
theorem d_L_law_466 : decode b_L_law 466 = .ok (.iload 5, 2) := by decide +kernel
theorem d_L_law_468 : decode b_L_law 468 = .ok (.ifCond .ne 22, 3) := by decide +kernel
theorem d_L_law_471 : decode b_L_law 471 = .ok (.aload_n 3, 1) := by decide +kernel
theorem d_L_law_472 : decode b_L_law 472 = .ok (.iconst 0, 1) := by decide +kernel
theorem d_L_law_473 : decode b_L_law 473 = .ok (.laload, 1) := by decide +kernel
theorem d_L_law_474 : decode b_L_law 474 = .ok (.iload 6, 2) := by decide +kernel
theorem d_L_law_476 : decode b_L_law 476 = .ok (.ifCond .eq 7, 3) := by decide +kernel
theorem d_L_law_479 : decode b_L_law 479 = .ok (.lconst 1, 1) := by decide +kernel
theorem d_L_law_480 : decode b_L_law 480 = .ok (.goto 4, 3) := by decide +kernel
theorem d_L_law_483 : decode b_L_law 483 = .ok (.lconst 0, 1) := by decide +kernel
theorem d_L_law_484 : decode b_L_law 484 = .ok (.lcmp, 1) := by decide +kernel
theorem d_L_law_485 : decode b_L_law 485 = .ok (.ifCond .eq 5, 3) := by decide +kernel
theorem d_L_law_488 : decode b_L_law 488 = .ok (.iconst 0, 1) := by decide +kernel
theorem d_L_law_489 : decode b_L_law 489 = .ok (.ireturn, 1) := by decide +kernel
theorem d_L_law_490 : decode b_L_law 490 = .ok (.goto 388, 3) := by decide +kernel
theorem d_L_law_493 : decode b_L_law 493 = .ok (.aload_n 1, 1) := by decide +kernel
theorem d_L_law_494 : decode b_L_law 494 = .ok (.aload_n 0, 1) := by decide +kernel
theorem d_L_law_495 : decode b_L_law 495 = .ok (.iload 4, 2) := by decide +kernel
theorem d_L_law_497 : decode b_L_law 497 = .ok (.iconst 1, 1) := by decide +kernel
theorem d_L_law_498 : decode b_L_law 498 = .ok (.iadd, 1) := by decide +kernel
theorem d_L_law_499 : decode b_L_law 499 = .ok (.iaload, 1) := by decide +kernel
theorem d_L_law_500 : decode b_L_law 500 = .ok (.aload_n 0, 1) := by decide +kernel
theorem d_L_law_501 : decode b_L_law 501 = .ok (.iload 4, 2) := by decide +kernel
theorem d_L_law_503 : decode b_L_law 503 = .ok (.iconst 2, 1) := by decide +kernel
theorem d_L_law_504 : decode b_L_law 504 = .ok (.iadd, 1) := by decide +kernel
theorem d_L_law_505 : decode b_L_law 505 = .ok (.iaload, 1) := by decide +kernel
theorem d_L_law_506 : decode b_L_law 506 = .ok (.aload_n 0, 1) := by decide +kernel
theorem d_L_law_507 : decode b_L_law 507 = .ok (.iload 4, 2) := by decide +kernel
theorem d_L_law_509 : decode b_L_law 509 = .ok (.iconst 3, 1) := by decide +kernel
theorem d_L_law_510 : decode b_L_law 510 = .ok (.iadd, 1) := by decide +kernel
theorem d_L_law_511 : decode b_L_law 511 = .ok (.iaload, 1) := by decide +kernel
theorem d_L_law_512 : decode b_L_law 512 = .ok (.ifCond .eq 7, 3) := by decide +kernel
theorem d_L_law_515 : decode b_L_law 515 = .ok (.iconst 1, 1) := by decide +kernel
theorem d_L_law_516 : decode b_L_law 516 = .ok (.goto 4, 3) := by decide +kernel
theorem d_L_law_519 : decode b_L_law 519 = .ok (.iconst 0, 1) := by decide +kernel
theorem d_L_law_520 : decode b_L_law 520 = .ok (.invokevirtual 89, 3) := by decide +kernel
theorem d_L_law_523 : decode b_L_law 523 = .ok (.aload_n 2, 1) := by decide +kernel
theorem d_L_law_524 : decode b_L_law 524 = .ok (.aload_n 0, 1) := by decide +kernel
theorem d_L_law_525 : decode b_L_law 525 = .ok (.iload 4, 2) := by decide +kernel
theorem d_L_law_527 : decode b_L_law 527 = .ok (.iconst 1, 1) := by decide +kernel
theorem d_L_law_528 : decode b_L_law 528 = .ok (.iadd, 1) := by decide +kernel
theorem d_L_law_529 : decode b_L_law 529 = .ok (.iaload, 1) := by decide +kernel
theorem d_L_law_530 : decode b_L_law 530 = .ok (.aload_n 0, 1) := by decide +kernel
theorem d_L_law_531 : decode b_L_law 531 = .ok (.iload 4, 2) := by decide +kernel
theorem d_L_law_533 : decode b_L_law 533 = .ok (.iconst 2, 1) := by decide +kernel
theorem d_L_law_534 : decode b_L_law 534 = .ok (.iadd, 1) := by decide +kernel
theorem d_L_law_535 : decode b_L_law 535 = .ok (.iaload, 1) := by decide +kernel
theorem d_L_law_536 : decode b_L_law 536 = .ok (.aload_n 0, 1) := by decide +kernel
theorem d_L_law_537 : decode b_L_law 537 = .ok (.iload 4, 2) := by decide +kernel
theorem d_L_law_539 : decode b_L_law 539 = .ok (.iconst 3, 1) := by decide +kernel
theorem d_L_law_540 : decode b_L_law 540 = .ok (.iadd, 1) := by decide +kernel
theorem d_L_law_541 : decode b_L_law 541 = .ok (.iaload, 1) := by decide +kernel
theorem d_L_law_542 : decode b_L_law 542 = .ok (.ifCond .eq 7, 3) := by decide +kernel
theorem d_L_law_545 : decode b_L_law 545 = .ok (.iconst 1, 1) := by decide +kernel
theorem d_L_law_546 : decode b_L_law 546 = .ok (.goto 4, 3) := by decide +kernel
theorem d_L_law_549 : decode b_L_law 549 = .ok (.iconst 0, 1) := by decide +kernel
theorem d_L_law_550 : decode b_L_law 550 = .ok (.invokevirtual 93, 3) := by decide +kernel
theorem d_L_law_553 : decode b_L_law 553 = .ok (.if_icmp .eq 325, 3) := by decide +kernel
theorem d_L_law_556 : decode b_L_law 556 = .ok (.iconst 0, 1) := by decide +kernel
theorem d_L_law_557 : decode b_L_law 557 = .ok (.ireturn, 1) := by decide +kernel
theorem d_L_law_558 : decode b_L_law 558 = .ok (.aload_n 1, 1) := by decide +kernel
theorem d_L_law_559 : decode b_L_law 559 = .ok (.aload_n 0, 1) := by decide +kernel
theorem d_L_law_560 : decode b_L_law 560 = .ok (.iload 4, 2) := by decide +kernel
theorem d_L_law_562 : decode b_L_law 562 = .ok (.iconst 1, 1) := by decide +kernel
theorem d_L_law_563 : decode b_L_law 563 = .ok (.iadd, 1) := by decide +kernel
theorem d_L_law_564 : decode b_L_law 564 = .ok (.iaload, 1) := by decide +kernel
theorem d_L_law_565 : decode b_L_law 565 = .ok (.aload_n 0, 1) := by decide +kernel
theorem d_L_law_566 : decode b_L_law 566 = .ok (.iload 4, 2) := by decide +kernel
theorem d_L_law_568 : decode b_L_law 568 = .ok (.iconst 2, 1) := by decide +kernel
theorem d_L_law_569 : decode b_L_law 569 = .ok (.iadd, 1) := by decide +kernel
theorem d_L_law_570 : decode b_L_law 570 = .ok (.iaload, 1) := by decide +kernel
theorem d_L_law_571 : decode b_L_law 571 = .ok (.invokestatic 94, 3) := by decide +kernel
theorem d_L_law_574 : decode b_L_law 574 = .ok (.istore 5, 2) := by decide +kernel
theorem d_L_law_576 : decode b_L_law 576 = .ok (.aload_n 2, 1) := by decide +kernel
theorem d_L_law_577 : decode b_L_law 577 = .ok (.aload_n 0, 1) := by decide +kernel
theorem d_L_law_578 : decode b_L_law 578 = .ok (.iload 4, 2) := by decide +kernel
theorem d_L_law_580 : decode b_L_law 580 = .ok (.iconst 1, 1) := by decide +kernel
theorem d_L_law_581 : decode b_L_law 581 = .ok (.iadd, 1) := by decide +kernel
theorem d_L_law_582 : decode b_L_law 582 = .ok (.iaload, 1) := by decide +kernel
theorem d_L_law_583 : decode b_L_law 583 = .ok (.aload_n 0, 1) := by decide +kernel
theorem d_L_law_584 : decode b_L_law 584 = .ok (.iload 4, 2) := by decide +kernel
theorem d_L_law_586 : decode b_L_law 586 = .ok (.iconst 2, 1) := by decide +kernel
theorem d_L_law_587 : decode b_L_law 587 = .ok (.iadd, 1) := by decide +kernel
theorem d_L_law_588 : decode b_L_law 588 = .ok (.iaload, 1) := by decide +kernel
theorem d_L_law_589 : decode b_L_law 589 = .ok (.invokevirtual 97, 3) := by decide +kernel
theorem d_L_law_592 : decode b_L_law 592 = .ok (.aload_n 2, 1) := by decide +kernel
theorem d_L_law_593 : decode b_L_law 593 = .ok (.invokevirtual 66, 3) := by decide +kernel
theorem d_L_law_596 : decode b_L_law 596 = .ok (.iload 5, 2) := by decide +kernel
theorem d_L_law_598 : decode b_L_law 598 = .ok (.if_icmp .eq 5, 3) := by decide +kernel
theorem d_L_law_601 : decode b_L_law 601 = .ok (.iconst 0, 1) := by decide +kernel
theorem d_L_law_602 : decode b_L_law 602 = .ok (.ireturn, 1) := by decide +kernel
theorem d_L_law_603 : decode b_L_law 603 = .ok (.goto 275, 3) := by decide +kernel
theorem d_L_law_606 : decode b_L_law 606 = .ok (.aload_n 1, 1) := by decide +kernel
theorem d_L_law_607 : decode b_L_law 607 = .ok (.aload_n 0, 1) := by decide +kernel
theorem d_L_law_608 : decode b_L_law 608 = .ok (.iload 4, 2) := by decide +kernel
theorem d_L_law_610 : decode b_L_law 610 = .ok (.iconst 1, 1) := by decide +kernel
theorem d_L_law_611 : decode b_L_law 611 = .ok (.iadd, 1) := by decide +kernel
theorem d_L_law_612 : decode b_L_law 612 = .ok (.iaload, 1) := by decide +kernel
theorem d_L_law_613 : decode b_L_law 613 = .ok (.aload_n 3, 1) := by decide +kernel
theorem d_L_law_614 : decode b_L_law 614 = .ok (.invokestatic 98, 3) := by decide +kernel
theorem d_L_law_617 : decode b_L_law 617 = .ok (.istore 5, 2) := by decide +kernel
theorem d_L_law_619 : decode b_L_law 619 = .ok (.aload_n 2, 1) := by decide +kernel
theorem d_L_law_620 : decode b_L_law 620 = .ok (.aload_n 0, 1) := by decide +kernel
theorem d_L_law_621 : decode b_L_law 621 = .ok (.iload 4, 2) := by decide +kernel
theorem d_L_law_623 : decode b_L_law 623 = .ok (.iconst 1, 1) := by decide +kernel
theorem d_L_law_624 : decode b_L_law 624 = .ok (.iadd, 1) := by decide +kernel
theorem d_L_law_625 : decode b_L_law 625 = .ok (.iaload, 1) := by decide +kernel
theorem d_L_law_626 : decode b_L_law 626 = .ok (.invokevirtual 101, 3) := by decide +kernel
theorem d_L_law_629 : decode b_L_law 629 = .ok (.istore 6, 2) := by decide +kernel
theorem d_L_law_631 : decode b_L_law 631 = .ok (.aload_n 2, 1) := by decide +kernel
theorem d_L_law_632 : decode b_L_law 632 = .ok (.invokevirtual 66, 3) := by decide +kernel
theorem d_L_law_635 : decode b_L_law 635 = .ok (.iload 5, 2) := by decide +kernel
theorem d_L_law_637 : decode b_L_law 637 = .ok (.if_icmp .eq 5, 3) := by decide +kernel
theorem d_L_law_640 : decode b_L_law 640 = .ok (.iconst 0, 1) := by decide +kernel
theorem d_L_law_641 : decode b_L_law 641 = .ok (.ireturn, 1) := by decide +kernel
theorem d_L_law_642 : decode b_L_law 642 = .ok (.iload 5, 2) := by decide +kernel
theorem d_L_law_644 : decode b_L_law 644 = .ok (.ifCond .ne 22, 3) := by decide +kernel
theorem d_L_law_647 : decode b_L_law 647 = .ok (.aload_n 3, 1) := by decide +kernel
theorem d_L_law_648 : decode b_L_law 648 = .ok (.iconst 0, 1) := by decide +kernel
theorem d_L_law_649 : decode b_L_law 649 = .ok (.laload, 1) := by decide +kernel
theorem d_L_law_650 : decode b_L_law 650 = .ok (.iload 6, 2) := by decide +kernel
theorem d_L_law_652 : decode b_L_law 652 = .ok (.ifCond .eq 7, 3) := by decide +kernel
theorem d_L_law_655 : decode b_L_law 655 = .ok (.lconst 1, 1) := by decide +kernel
theorem d_L_law_656 : decode b_L_law 656 = .ok (.goto 4, 3) := by decide +kernel
theorem d_L_law_659 : decode b_L_law 659 = .ok (.lconst 0, 1) := by decide +kernel
theorem d_L_law_660 : decode b_L_law 660 = .ok (.lcmp, 1) := by decide +kernel
theorem d_L_law_661 : decode b_L_law 661 = .ok (.ifCond .eq 5, 3) := by decide +kernel
theorem d_L_law_664 : decode b_L_law 664 = .ok (.iconst 0, 1) := by decide +kernel
theorem d_L_law_665 : decode b_L_law 665 = .ok (.ireturn, 1) := by decide +kernel
theorem d_L_law_666 : decode b_L_law 666 = .ok (.goto 212, 3) := by decide +kernel
theorem d_L_law_669 : decode b_L_law 669 = .ok (.aload_n 1, 1) := by decide +kernel
theorem d_L_law_670 : decode b_L_law 670 = .ok (.invokevirtual 102, 3) := by decide +kernel
theorem d_L_law_673 : decode b_L_law 673 = .ok (.aload_n 2, 1) := by decide +kernel
theorem d_L_law_674 : decode b_L_law 674 = .ok (.invokevirtual 105, 3) := by decide +kernel
theorem d_L_law_677 : decode b_L_law 677 = .ok (.if_icmp .eq 201, 3) := by decide +kernel
theorem d_L_law_680 : decode b_L_law 680 = .ok (.iconst 0, 1) := by decide +kernel
theorem d_L_law_681 : decode b_L_law 681 = .ok (.ireturn, 1) := by decide +kernel
theorem d_L_law_682 : decode b_L_law 682 = .ok (.aload_n 1, 1) := by decide +kernel
theorem d_L_law_683 : decode b_L_law 683 = .ok (.aload_n 0, 1) := by decide +kernel
theorem d_L_law_684 : decode b_L_law 684 = .ok (.iload 4, 2) := by decide +kernel
theorem d_L_law_686 : decode b_L_law 686 = .ok (.iconst 1, 1) := by decide +kernel
theorem d_L_law_687 : decode b_L_law 687 = .ok (.iadd, 1) := by decide +kernel
theorem d_L_law_688 : decode b_L_law 688 = .ok (.iaload, 1) := by decide +kernel
theorem d_L_law_689 : decode b_L_law 689 = .ok (.i2l, 1) := by decide +kernel
theorem d_L_law_690 : decode b_L_law 690 = .ok (.bipush 32, 2) := by decide +kernel
theorem d_L_law_692 : decode b_L_law 692 = .ok (.lshl, 1) := by decide +kernel
theorem d_L_law_693 : decode b_L_law 693 = .ok (.aload_n 0, 1) := by decide +kernel
theorem d_L_law_694 : decode b_L_law 694 = .ok (.iload 4, 2) := by decide +kernel
theorem d_L_law_696 : decode b_L_law 696 = .ok (.iconst 2, 1) := by decide +kernel
theorem d_L_law_697 : decode b_L_law 697 = .ok (.iadd, 1) := by decide +kernel
theorem d_L_law_698 : decode b_L_law 698 = .ok (.iaload, 1) := by decide +kernel
theorem d_L_law_699 : decode b_L_law 699 = .ok (.i2l, 1) := by decide +kernel
theorem d_L_law_700 : decode b_L_law 700 = .ok (.ldc2_w 106, 3) := by decide +kernel
theorem d_L_law_703 : decode b_L_law 703 = .ok (.land, 1) := by decide +kernel
theorem d_L_law_704 : decode b_L_law 704 = .ok (.lor, 1) := by decide +kernel
theorem d_L_law_705 : decode b_L_law 705 = .ok (.invokevirtual 108, 3) := by decide +kernel
theorem d_L_law_708 : decode b_L_law 708 = .ok (.aload_n 2, 1) := by decide +kernel
theorem d_L_law_709 : decode b_L_law 709 = .ok (.aload_n 0, 1) := by decide +kernel
theorem d_L_law_710 : decode b_L_law 710 = .ok (.iload 4, 2) := by decide +kernel
theorem d_L_law_712 : decode b_L_law 712 = .ok (.iconst 1, 1) := by decide +kernel
theorem d_L_law_713 : decode b_L_law 713 = .ok (.iadd, 1) := by decide +kernel
theorem d_L_law_714 : decode b_L_law 714 = .ok (.iaload, 1) := by decide +kernel
theorem d_L_law_715 : decode b_L_law 715 = .ok (.i2l, 1) := by decide +kernel
theorem d_L_law_716 : decode b_L_law 716 = .ok (.bipush 32, 2) := by decide +kernel
theorem d_L_law_718 : decode b_L_law 718 = .ok (.lshl, 1) := by decide +kernel
theorem d_L_law_719 : decode b_L_law 719 = .ok (.aload_n 0, 1) := by decide +kernel
theorem d_L_law_720 : decode b_L_law 720 = .ok (.iload 4, 2) := by decide +kernel
theorem d_L_law_722 : decode b_L_law 722 = .ok (.iconst 2, 1) := by decide +kernel
theorem d_L_law_723 : decode b_L_law 723 = .ok (.iadd, 1) := by decide +kernel
theorem d_L_law_724 : decode b_L_law 724 = .ok (.iaload, 1) := by decide +kernel
theorem d_L_law_725 : decode b_L_law 725 = .ok (.i2l, 1) := by decide +kernel
theorem d_L_law_726 : decode b_L_law 726 = .ok (.ldc2_w 106, 3) := by decide +kernel
theorem d_L_law_729 : decode b_L_law 729 = .ok (.land, 1) := by decide +kernel
theorem d_L_law_730 : decode b_L_law 730 = .ok (.lor, 1) := by decide +kernel
theorem d_L_law_731 : decode b_L_law 731 = .ok (.invokevirtual 112, 3) := by decide +kernel
theorem d_L_law_734 : decode b_L_law 734 = .ok (.if_icmp .eq 144, 3) := by decide +kernel
theorem d_L_law_737 : decode b_L_law 737 = .ok (.iconst 0, 1) := by decide +kernel
theorem d_L_law_738 : decode b_L_law 738 = .ok (.ireturn, 1) := by decide +kernel
theorem d_L_law_739 : decode b_L_law 739 = .ok (.aload_n 1, 1) := by decide +kernel
theorem d_L_law_740 : decode b_L_law 740 = .ok (.invokevirtual 113, 3) := by decide +kernel
theorem d_L_law_743 : decode b_L_law 743 = .ok (.aload_n 2, 1) := by decide +kernel
theorem d_L_law_744 : decode b_L_law 744 = .ok (.invokevirtual 116, 3) := by decide +kernel
theorem d_L_law_747 : decode b_L_law 747 = .ok (.if_icmp .eq 131, 3) := by decide +kernel
theorem d_L_law_750 : decode b_L_law 750 = .ok (.iconst 0, 1) := by decide +kernel
theorem d_L_law_751 : decode b_L_law 751 = .ok (.ireturn, 1) := by decide +kernel
theorem d_L_law_752 : decode b_L_law 752 = .ok (.aload_n 1, 1) := by decide +kernel
theorem d_L_law_753 : decode b_L_law 753 = .ok (.aload_n 3, 1) := by decide +kernel
theorem d_L_law_754 : decode b_L_law 754 = .ok (.invokestatic 117, 3) := by decide +kernel
theorem d_L_law_757 : decode b_L_law 757 = .ok (.istore 5, 2) := by decide +kernel
theorem d_L_law_759 : decode b_L_law 759 = .ok (.aload_n 2, 1) := by decide +kernel
theorem d_L_law_760 : decode b_L_law 760 = .ok (.invokevirtual 119, 3) := by decide +kernel
theorem d_L_law_763 : decode b_L_law 763 = .ok (.istore 6, 2) := by decide +kernel
theorem d_L_law_765 : decode b_L_law 765 = .ok (.aload_n 2, 1) := by decide +kernel
theorem d_L_law_766 : decode b_L_law 766 = .ok (.invokevirtual 66, 3) := by decide +kernel
theorem d_L_law_769 : decode b_L_law 769 = .ok (.iload 5, 2) := by decide +kernel
theorem d_L_law_771 : decode b_L_law 771 = .ok (.if_icmp .eq 5, 3) := by decide +kernel
theorem d_L_law_774 : decode b_L_law 774 = .ok (.iconst 0, 1) := by decide +kernel
theorem d_L_law_775 : decode b_L_law 775 = .ok (.ireturn, 1) := by decide +kernel
theorem d_L_law_776 : decode b_L_law 776 = .ok (.iload 5, 2) := by decide +kernel
theorem d_L_law_778 : decode b_L_law 778 = .ok (.ifCond .ne 15, 3) := by decide +kernel
theorem d_L_law_781 : decode b_L_law 781 = .ok (.aload_n 3, 1) := by decide +kernel
theorem d_L_law_782 : decode b_L_law 782 = .ok (.iconst 0, 1) := by decide +kernel
theorem d_L_law_783 : decode b_L_law 783 = .ok (.laload, 1) := by decide +kernel
theorem d_L_law_784 : decode b_L_law 784 = .ok (.iload 6, 2) := by decide +kernel
theorem d_L_law_786 : decode b_L_law 786 = .ok (.i2l, 1) := by decide +kernel
theorem d_L_law_787 : decode b_L_law 787 = .ok (.lcmp, 1) := by decide +kernel
theorem d_L_law_788 : decode b_L_law 788 = .ok (.ifCond .eq 5, 3) := by decide +kernel
theorem d_L_law_791 : decode b_L_law 791 = .ok (.iconst 0, 1) := by decide +kernel
theorem d_L_law_792 : decode b_L_law 792 = .ok (.ireturn, 1) := by decide +kernel
theorem d_L_law_793 : decode b_L_law 793 = .ok (.goto 85, 3) := by decide +kernel
theorem d_L_law_796 : decode b_L_law 796 = .ok (.aload_n 1, 1) := by decide +kernel
theorem d_L_law_797 : decode b_L_law 797 = .ok (.invokevirtual 120, 3) := by decide +kernel
theorem d_L_law_800 : decode b_L_law 800 = .ok (.aload_n 2, 1) := by decide +kernel
theorem d_L_law_801 : decode b_L_law 801 = .ok (.invokevirtual 123, 3) := by decide +kernel
theorem d_L_law_804 : decode b_L_law 804 = .ok (.if_icmp .eq 74, 3) := by decide +kernel
theorem d_L_law_807 : decode b_L_law 807 = .ok (.iconst 0, 1) := by decide +kernel
theorem d_L_law_808 : decode b_L_law 808 = .ok (.ireturn, 1) := by decide +kernel
theorem d_L_law_809 : decode b_L_law 809 = .ok (.aload_n 1, 1) := by decide +kernel
theorem d_L_law_810 : decode b_L_law 810 = .ok (.invokevirtual 124, 3) := by decide +kernel
theorem d_L_law_813 : decode b_L_law 813 = .ok (.aload_n 2, 1) := by decide +kernel
theorem d_L_law_814 : decode b_L_law 814 = .ok (.invokevirtual 127, 3) := by decide +kernel
theorem d_L_law_817 : decode b_L_law 817 = .ok (.if_icmp .eq 61, 3) := by decide +kernel
theorem d_L_law_820 : decode b_L_law 820 = .ok (.iconst 0, 1) := by decide +kernel
theorem d_L_law_821 : decode b_L_law 821 = .ok (.ireturn, 1) := by decide +kernel
theorem d_L_law_822 : decode b_L_law 822 = .ok (.aload_n 1, 1) := by decide +kernel
theorem d_L_law_823 : decode b_L_law 823 = .ok (.aload_n 0, 1) := by decide +kernel
theorem d_L_law_824 : decode b_L_law 824 = .ok (.iload 4, 2) := by decide +kernel
theorem d_L_law_826 : decode b_L_law 826 = .ok (.iconst 1, 1) := by decide +kernel
theorem d_L_law_827 : decode b_L_law 827 = .ok (.iadd, 1) := by decide +kernel
theorem d_L_law_828 : decode b_L_law 828 = .ok (.iaload, 1) := by decide +kernel
theorem d_L_law_829 : decode b_L_law 829 = .ok (.aload_n 3, 1) := by decide +kernel
theorem d_L_law_830 : decode b_L_law 830 = .ok (.invokestatic 128, 3) := by decide +kernel
theorem d_L_law_833 : decode b_L_law 833 = .ok (.istore 5, 2) := by decide +kernel
theorem d_L_law_835 : decode b_L_law 835 = .ok (.aload_n 2, 1) := by decide +kernel
theorem d_L_law_836 : decode b_L_law 836 = .ok (.aload_n 0, 1) := by decide +kernel
theorem d_L_law_837 : decode b_L_law 837 = .ok (.iload 4, 2) := by decide +kernel
theorem d_L_law_839 : decode b_L_law 839 = .ok (.iconst 1, 1) := by decide +kernel
theorem d_L_law_840 : decode b_L_law 840 = .ok (.iadd, 1) := by decide +kernel
theorem d_L_law_841 : decode b_L_law 841 = .ok (.iaload, 1) := by decide +kernel
theorem d_L_law_842 : decode b_L_law 842 = .ok (.invokevirtual 130, 3) := by decide +kernel
theorem d_L_law_845 : decode b_L_law 845 = .ok (.istore 6, 2) := by decide +kernel
theorem d_L_law_847 : decode b_L_law 847 = .ok (.aload_n 2, 1) := by decide +kernel
theorem d_L_law_848 : decode b_L_law 848 = .ok (.invokevirtual 66, 3) := by decide +kernel
theorem d_L_law_851 : decode b_L_law 851 = .ok (.iload 5, 2) := by decide +kernel
theorem d_L_law_853 : decode b_L_law 853 = .ok (.if_icmp .eq 5, 3) := by decide +kernel
theorem d_L_law_856 : decode b_L_law 856 = .ok (.iconst 0, 1) := by decide +kernel
theorem d_L_law_857 : decode b_L_law 857 = .ok (.ireturn, 1) := by decide +kernel
theorem d_L_law_858 : decode b_L_law 858 = .ok (.iload 5, 2) := by decide +kernel
theorem d_L_law_860 : decode b_L_law 860 = .ok (.ifCond .ne 15, 3) := by decide +kernel
theorem d_L_law_863 : decode b_L_law 863 = .ok (.aload_n 3, 1) := by decide +kernel
theorem d_L_law_864 : decode b_L_law 864 = .ok (.iconst 0, 1) := by decide +kernel
theorem d_L_law_865 : decode b_L_law 865 = .ok (.laload, 1) := by decide +kernel
theorem d_L_law_866 : decode b_L_law 866 = .ok (.iload 6, 2) := by decide +kernel
theorem d_L_law_868 : decode b_L_law 868 = .ok (.i2l, 1) := by decide +kernel
theorem d_L_law_869 : decode b_L_law 869 = .ok (.lcmp, 1) := by decide +kernel
theorem d_L_law_870 : decode b_L_law 870 = .ok (.ifCond .eq 5, 3) := by decide +kernel
theorem d_L_law_873 : decode b_L_law 873 = .ok (.iconst 0, 1) := by decide +kernel
theorem d_L_law_874 : decode b_L_law 874 = .ok (.ireturn, 1) := by decide +kernel
theorem d_L_law_875 : decode b_L_law 875 = .ok (.goto 3, 3) := by decide +kernel
theorem d_L_law_878 : decode b_L_law 878 = .ok (.iinc 4 5, 3) := by decide +kernel
theorem d_L_law_881 : decode b_L_law 881 = .ok (.goto (-858), 3) := by decide +kernel
theorem d_L_law_884 : decode b_L_law 884 = .ok (.iconst 1, 1) := by decide +kernel
theorem d_L_law_885 : decode b_L_law 885 = .ok (.ireturn, 1) := by decide +kernel
end
section
theorem d_JInteger_bitCount_0 : decode b_JInteger_bitCount 0 = .ok (.iload_n 0, 1) := by decide +kernel
theorem d_JInteger_bitCount_1 : decode b_JInteger_bitCount 1 = .ok (.iload_n 0, 1) := by decide +kernel
theorem d_JInteger_bitCount_2 : decode b_JInteger_bitCount 2 = .ok (.iconst 1, 1) := by decide +kernel
theorem d_JInteger_bitCount_3 : decode b_JInteger_bitCount 3 = .ok (.iushr, 1) := by decide +kernel
theorem d_JInteger_bitCount_4 : decode b_JInteger_bitCount 4 = .ok (.ldc_w 265, 3) := by decide +kernel
theorem d_JInteger_bitCount_7 : decode b_JInteger_bitCount 7 = .ok (.iand, 1) := by decide +kernel
theorem d_JInteger_bitCount_8 : decode b_JInteger_bitCount 8 = .ok (.isub, 1) := by decide +kernel
theorem d_JInteger_bitCount_9 : decode b_JInteger_bitCount 9 = .ok (.istore_n 0, 1) := by decide +kernel
theorem d_JInteger_bitCount_10 : decode b_JInteger_bitCount 10 = .ok (.iload_n 0, 1) := by decide +kernel
theorem d_JInteger_bitCount_11 : decode b_JInteger_bitCount 11 = .ok (.ldc_w 266, 3) := by decide +kernel
theorem d_JInteger_bitCount_14 : decode b_JInteger_bitCount 14 = .ok (.iand, 1) := by decide +kernel
theorem d_JInteger_bitCount_15 : decode b_JInteger_bitCount 15 = .ok (.iload_n 0, 1) := by decide +kernel
theorem d_JInteger_bitCount_16 : decode b_JInteger_bitCount 16 = .ok (.iconst 2, 1) := by decide +kernel
theorem d_JInteger_bitCount_17 : decode b_JInteger_bitCount 17 = .ok (.iushr, 1) := by decide +kernel
theorem d_JInteger_bitCount_18 : decode b_JInteger_bitCount 18 = .ok (.ldc_w 266, 3) := by decide +kernel
theorem d_JInteger_bitCount_21 : decode b_JInteger_bitCount 21 = .ok (.iand, 1) := by decide +kernel
theorem d_JInteger_bitCount_22 : decode b_JInteger_bitCount 22 = .ok (.iadd, 1) := by decide +kernel
theorem d_JInteger_bitCount_23 : decode b_JInteger_bitCount 23 = .ok (.istore_n 0, 1) := by decide +kernel
theorem d_JInteger_bitCount_24 : decode b_JInteger_bitCount 24 = .ok (.iload_n 0, 1) := by decide +kernel
theorem d_JInteger_bitCount_25 : decode b_JInteger_bitCount 25 = .ok (.iload_n 0, 1) := by decide +kernel
theorem d_JInteger_bitCount_26 : decode b_JInteger_bitCount 26 = .ok (.iconst 4, 1) := by decide +kernel
theorem d_JInteger_bitCount_27 : decode b_JInteger_bitCount 27 = .ok (.iushr, 1) := by decide +kernel
theorem d_JInteger_bitCount_28 : decode b_JInteger_bitCount 28 = .ok (.iadd, 1) := by decide +kernel
theorem d_JInteger_bitCount_29 : decode b_JInteger_bitCount 29 = .ok (.ldc_w 267, 3) := by decide +kernel
theorem d_JInteger_bitCount_32 : decode b_JInteger_bitCount 32 = .ok (.iand, 1) := by decide +kernel
theorem d_JInteger_bitCount_33 : decode b_JInteger_bitCount 33 = .ok (.istore_n 0, 1) := by decide +kernel
theorem d_JInteger_bitCount_34 : decode b_JInteger_bitCount 34 = .ok (.iload_n 0, 1) := by decide +kernel
theorem d_JInteger_bitCount_35 : decode b_JInteger_bitCount 35 = .ok (.iload_n 0, 1) := by decide +kernel
theorem d_JInteger_bitCount_36 : decode b_JInteger_bitCount 36 = .ok (.bipush 8, 2) := by decide +kernel
theorem d_JInteger_bitCount_38 : decode b_JInteger_bitCount 38 = .ok (.iushr, 1) := by decide +kernel
theorem d_JInteger_bitCount_39 : decode b_JInteger_bitCount 39 = .ok (.iadd, 1) := by decide +kernel
theorem d_JInteger_bitCount_40 : decode b_JInteger_bitCount 40 = .ok (.istore_n 0, 1) := by decide +kernel
theorem d_JInteger_bitCount_41 : decode b_JInteger_bitCount 41 = .ok (.iload_n 0, 1) := by decide +kernel
theorem d_JInteger_bitCount_42 : decode b_JInteger_bitCount 42 = .ok (.iload_n 0, 1) := by decide +kernel
theorem d_JInteger_bitCount_43 : decode b_JInteger_bitCount 43 = .ok (.bipush 16, 2) := by decide +kernel
theorem d_JInteger_bitCount_45 : decode b_JInteger_bitCount 45 = .ok (.iushr, 1) := by decide +kernel
theorem d_JInteger_bitCount_46 : decode b_JInteger_bitCount 46 = .ok (.iadd, 1) := by decide +kernel
theorem d_JInteger_bitCount_47 : decode b_JInteger_bitCount 47 = .ok (.istore_n 0, 1) := by decide +kernel
theorem d_JInteger_bitCount_48 : decode b_JInteger_bitCount 48 = .ok (.iload_n 0, 1) := by decide +kernel
theorem d_JInteger_bitCount_49 : decode b_JInteger_bitCount 49 = .ok (.bipush 63, 2) := by decide +kernel
theorem d_JInteger_bitCount_51 : decode b_JInteger_bitCount 51 = .ok (.iand, 1) := by decide +kernel
theorem d_JInteger_bitCount_52 : decode b_JInteger_bitCount 52 = .ok (.ireturn, 1) := by decide +kernel
theorem d_JString_indexOf0_0 : decode b_JString_indexOf0 0 = .ok (.aload_n 0, 1) := by decide +kernel
theorem d_JString_indexOf0_1 : decode b_JString_indexOf0 1 = .ok (.iload_n 1, 1) := by decide +kernel
theorem d_JString_indexOf0_2 : decode b_JString_indexOf0 2 = .ok (.iconst 0, 1) := by decide +kernel
theorem d_JString_indexOf0_3 : decode b_JString_indexOf0 3 = .ok (.invokevirtual 633, 3) := by decide +kernel
theorem d_JString_indexOf0_6 : decode b_JString_indexOf0 6 = .ok (.ireturn, 1) := by decide +kernel
theorem d_JString_indexOf1_0 : decode b_JString_indexOf1 0 = .ok (.aload_n 0, 1) := by decide +kernel
theorem d_JString_indexOf1_1 : decode b_JString_indexOf1 1 = .ok (.invokevirtual 492, 3) := by decide +kernel
theorem d_JString_indexOf1_4 : decode b_JString_indexOf1 4 = .ok (.ifCond .eq 19, 3) := by decide +kernel
theorem d_JString_indexOf1_7 : decode b_JString_indexOf1 7 = .ok (.aload_n 0, 1) := by decide +kernel
theorem d_JString_indexOf1_8 : decode b_JString_indexOf1 8 = .ok (.getfield 9, 3) := by decide +kernel
theorem d_JString_indexOf1_11 : decode b_JString_indexOf1 11 = .ok (.iload_n 1, 1) := by decide +kernel
theorem d_JString_indexOf1_12 : decode b_JString_indexOf1 12 = .ok (.iload_n 2, 1) := by decide +kernel
theorem d_JString_indexOf1_13 : decode b_JString_indexOf1 13 = .ok (.aload_n 0, 1) := by decide +kernel
theorem d_JString_indexOf1_14 : decode b_JString_indexOf1 14 = .ok (.invokevirtual 505, 3) := by decide +kernel
theorem d_JString_indexOf1_17 : decode b_JString_indexOf1 17 = .ok (.invokestatic 637, 3) := by decide +kernel
theorem d_JString_indexOf1_20 : decode b_JString_indexOf1 20 = .ok (.goto 16, 3) := by decide +kernel
theorem d_JString_indexOf1_23 : decode b_JString_indexOf1 23 = .ok (.aload_n 0, 1) := by decide +kernel
theorem d_JString_indexOf1_24 : decode b_JString_indexOf1 24 = .ok (.getfield 9, 3) := by decide +kernel
theorem d_JString_indexOf1_27 : decode b_JString_indexOf1 27 = .ok (.iload_n 1, 1) := by decide +kernel
theorem d_JString_indexOf1_28 : decode b_JString_indexOf1 28 = .ok (.iload_n 2, 1) := by decide +kernel
theorem d_JString_indexOf1_29 : decode b_JString_indexOf1 29 = .ok (.aload_n 0, 1) := by decide +kernel
theorem d_JString_indexOf1_30 : decode b_JString_indexOf1 30 = .ok (.invokevirtual 505, 3) := by decide +kernel
theorem d_JString_indexOf1_33 : decode b_JString_indexOf1 33 = .ok (.invokestatic 640, 3) := by decide +kernel
theorem d_JString_indexOf1_36 : decode b_JString_indexOf1 36 = .ok (.ireturn, 1) := by decide +kernel
theorem d_JString_isLatin1_0 : decode b_JString_isLatin1 0 = .ok (.getstatic 38, 3) := by decide +kernel
theorem d_JString_isLatin1_3 : decode b_JString_isLatin1 3 = .ok (.ifCond .eq 14, 3) := by decide +kernel
theorem d_JString_isLatin1_6 : decode b_JString_isLatin1 6 = .ok (.aload_n 0, 1) := by decide +kernel
theorem d_JString_isLatin1_7 : decode b_JString_isLatin1 7 = .ok (.getfield 15, 3) := by decide +kernel
theorem d_JString_isLatin1_10 : decode b_JString_isLatin1 10 = .ok (.ifCond .ne 7, 3) := by decide +kernel
theorem d_JString_isLatin1_13 : decode b_JString_isLatin1 13 = .ok (.iconst 1, 1) := by decide +kernel
theorem d_JString_isLatin1_14 : decode b_JString_isLatin1 14 = .ok (.goto 4, 3) := by decide +kernel
theorem d_JString_isLatin1_17 : decode b_JString_isLatin1 17 = .ok (.iconst 0, 1) := by decide +kernel
theorem d_JString_isLatin1_18 : decode b_JString_isLatin1 18 = .ok (.ireturn, 1) := by decide +kernel
theorem d_JString_length_0 : decode b_JString_length 0 = .ok (.aload_n 0, 1) := by decide +kernel
theorem d_JString_length_1 : decode b_JString_length 1 = .ok (.getfield 9, 3) := by decide +kernel
theorem d_JString_length_4 : decode b_JString_length 4 = .ok (.arraylength, 1) := by decide +kernel
theorem d_JString_length_5 : decode b_JString_length 5 = .ok (.aload_n 0, 1) := by decide +kernel
theorem d_JString_length_6 : decode b_JString_length 6 = .ok (.invokevirtual 335, 3) := by decide +kernel
theorem d_JString_length_9 : decode b_JString_length 9 = .ok (.ishr, 1) := by decide +kernel
theorem d_JString_length_10 : decode b_JString_length 10 = .ok (.ireturn, 1) := by decide +kernel
theorem d_JString_coder_0 : decode b_JString_coder 0 = .ok (.getstatic 38, 3) := by decide +kernel
theorem d_JString_coder_3 : decode b_JString_coder 3 = .ok (.ifCond .eq 10, 3) := by decide +kernel
theorem d_JString_coder_6 : decode b_JString_coder 6 = .ok (.aload_n 0, 1) := by decide +kernel
theorem d_JString_coder_7 : decode b_JString_coder 7 = .ok (.getfield 15, 3) := by decide +kernel
theorem d_JString_coder_10 : decode b_JString_coder 10 = .ok (.goto 4, 3) := by decide +kernel
theorem d_JString_coder_13 : decode b_JString_coder 13 = .ok (.iconst 1, 1) := by decide +kernel
theorem d_JString_coder_14 : decode b_JString_coder 14 = .ok (.ireturn, 1) := by decide +kernel
theorem d_JStringLatin1_indexOf_0 : decode b_JStringLatin1_indexOf 0 = .ok (.iload_n 1, 1) := by decide +kernel
theorem d_JStringLatin1_indexOf_1 : decode b_JStringLatin1_indexOf 1 = .ok (.invokestatic 88, 3) := by decide +kernel
theorem d_JStringLatin1_indexOf_4 : decode b_JStringLatin1_indexOf 4 = .ok (.ifCond .ne 5, 3) := by decide +kernel
theorem d_JStringLatin1_indexOf_7 : decode b_JStringLatin1_indexOf 7 = .ok (.iconst (-1), 1) := by decide +kernel
theorem d_JStringLatin1_indexOf_8 : decode b_JStringLatin1_indexOf 8 = .ok (.ireturn, 1) := by decide +kernel
theorem d_JStringLatin1_indexOf_9 : decode b_JStringLatin1_indexOf 9 = .ok (.iload_n 2, 1) := by decide +kernel
theorem d_JStringLatin1_indexOf_10 : decode b_JStringLatin1_indexOf 10 = .ok (.iconst 0, 1) := by decide +kernel
theorem d_JStringLatin1_indexOf_11 : decode b_JStringLatin1_indexOf 11 = .ok (.invokestatic 92, 3) := by decide +kernel
theorem d_JStringLatin1_indexOf_14 : decode b_JStringLatin1_indexOf 14 = .ok (.istore_n 2, 1) := by decide +kernel
theorem d_JStringLatin1_indexOf_15 : decode b_JStringLatin1_indexOf 15 = .ok (.iload_n 3, 1) := by decide +kernel
theorem d_JStringLatin1_indexOf_16 : decode b_JStringLatin1_indexOf 16 = .ok (.aload_n 0, 1) := by decide +kernel
theorem d_JStringLatin1_indexOf_17 : decode b_JStringLatin1_indexOf 17 = .ok (.arraylength, 1) := by decide +kernel
theorem d_JStringLatin1_indexOf_18 : decode b_JStringLatin1_indexOf 18 = .ok (.invokestatic 38, 3) := by decide +kernel
theorem d_JStringLatin1_indexOf_21 : decode b_JStringLatin1_indexOf 21 = .ok (.istore_n 3, 1) := by decide +kernel
theorem d_JStringLatin1_indexOf_22 : decode b_JStringLatin1_indexOf 22 = .ok (.iload_n 2, 1) := by decide +kernel
theorem d_JStringLatin1_indexOf_23 : decode b_JStringLatin1_indexOf 23 = .ok (.iload_n 3, 1) := by decide +kernel
theorem d_JStringLatin1_indexOf_24 : decode b_JStringLatin1_indexOf 24 = .ok (.if_icmp .lt 5, 3) := by decide +kernel
theorem d_JStringLatin1_indexOf_27 : decode b_JStringLatin1_indexOf 27 = .ok (.iconst (-1), 1) := by decide +kernel
theorem d_JStringLatin1_indexOf_28 : decode b_JStringLatin1_indexOf 28 = .ok (.ireturn, 1) := by decide +kernel
theorem d_JStringLatin1_indexOf_29 : decode b_JStringLatin1_indexOf 29 = .ok (.aload_n 0, 1) := by decide +kernel
theorem d_JStringLatin1_indexOf_30 : decode b_JStringLatin1_indexOf 30 = .ok (.iload_n 1, 1) := by decide +kernel
theorem d_JStringLatin1_indexOf_31 : decode b_JStringLatin1_indexOf 31 = .ok (.iload_n 2, 1) := by decide +kernel
theorem d_JStringLatin1_indexOf_32 : decode b_JStringLatin1_indexOf 32 = .ok (.iload_n 3, 1) := by decide +kernel
theorem d_JStringLatin1_indexOf_33 : decode b_JStringLatin1_indexOf 33 = .ok (.invokestatic 95, 3) := by decide +kernel
theorem d_JStringLatin1_indexOf_36 : decode b_JStringLatin1_indexOf 36 = .ok (.ireturn, 1) := by decide +kernel
theorem d_JStringLatin1_canEncode_0 : decode b_JStringLatin1_canEncode 0 = .ok (.iload_n 0, 1) := by decide +kernel
theorem d_JStringLatin1_canEncode_1 : decode b_JStringLatin1_canEncode 1 = .ok (.ifCond .lt 14, 3) := by decide +kernel
theorem d_JStringLatin1_canEncode_4 : decode b_JStringLatin1_canEncode 4 = .ok (.iload_n 0, 1) := by decide +kernel
theorem d_JStringLatin1_canEncode_5 : decode b_JStringLatin1_canEncode 5 = .ok (.sipush 255, 3) := by decide +kernel
theorem d_JStringLatin1_canEncode_8 : decode b_JStringLatin1_canEncode 8 = .ok (.if_icmp .gt 7, 3) := by decide +kernel
theorem d_JStringLatin1_canEncode_11 : decode b_JStringLatin1_canEncode 11 = .ok (.iconst 1, 1) := by decide +kernel
theorem d_JStringLatin1_canEncode_12 : decode b_JStringLatin1_canEncode 12 = .ok (.goto 4, 3) := by decide +kernel
theorem d_JStringLatin1_canEncode_15 : decode b_JStringLatin1_canEncode 15 = .ok (.iconst 0, 1) := by decide +kernel
theorem d_JStringLatin1_canEncode_16 : decode b_JStringLatin1_canEncode 16 = .ok (.ireturn, 1) := by decide +kernel
theorem d_JMath_max_0 : decode b_JMath_max 0 = .ok (.iload_n 0, 1) := by decide +kernel
theorem d_JMath_max_1 : decode b_JMath_max 1 = .ok (.iload_n 1, 1) := by decide +kernel
theorem d_JMath_max_2 : decode b_JMath_max 2 = .ok (.if_icmp .lt 7, 3) := by decide +kernel
theorem d_JMath_max_5 : decode b_JMath_max 5 = .ok (.iload_n 0, 1) := by decide +kernel
theorem d_JMath_max_6 : decode b_JMath_max 6 = .ok (.goto 4, 3) := by decide +kernel
theorem d_JMath_max_9 : decode b_JMath_max 9 = .ok (.iload_n 1, 1) := by decide +kernel
theorem d_JMath_max_10 : decode b_JMath_max 10 = .ok (.ireturn, 1) := by decide +kernel
theorem d_JMath_min_0 : decode b_JMath_min 0 = .ok (.iload_n 0, 1) := by decide +kernel
theorem d_JMath_min_1 : decode b_JMath_min 1 = .ok (.iload_n 1, 1) := by decide +kernel
theorem d_JMath_min_2 : decode b_JMath_min 2 = .ok (.if_icmp .gt 7, 3) := by decide +kernel
theorem d_JMath_min_5 : decode b_JMath_min 5 = .ok (.iload_n 0, 1) := by decide +kernel
theorem d_JMath_min_6 : decode b_JMath_min 6 = .ok (.goto 4, 3) := by decide +kernel
theorem d_JMath_min_9 : decode b_JMath_min 9 = .ok (.iload_n 1, 1) := by decide +kernel
theorem d_JMath_min_10 : decode b_JMath_min 10 = .ok (.ireturn, 1) := by decide +kernel
theorem d_JStringLatin1_indexOfChar_0 : decode b_JStringLatin1_indexOfChar 0 = .ok (.iload_n 1, 1) := by decide +kernel
theorem d_JStringLatin1_indexOfChar_1 : decode b_JStringLatin1_indexOfChar 1 = .ok (.i2b, 1) := by decide +kernel
theorem d_JStringLatin1_indexOfChar_2 : decode b_JStringLatin1_indexOfChar 2 = .ok (.istore 4, 2) := by decide +kernel
theorem d_JStringLatin1_indexOfChar_4 : decode b_JStringLatin1_indexOfChar 4 = .ok (.iload_n 2, 1) := by decide +kernel
theorem d_JStringLatin1_indexOfChar_5 : decode b_JStringLatin1_indexOfChar 5 = .ok (.istore 5, 2) := by decide +kernel
theorem d_JStringLatin1_indexOfChar_7 : decode b_JStringLatin1_indexOfChar 7 = .ok (.iload 5, 2) := by decide +kernel
theorem d_JStringLatin1_indexOfChar_9 : decode b_JStringLatin1_indexOfChar 9 = .ok (.iload_n 3, 1) := by decide +kernel
theorem d_JStringLatin1_indexOfChar_10 : decode b_JStringLatin1_indexOfChar 10 = .ok (.if_icmp .ge 21, 3) := by decide +kernel
theorem d_JStringLatin1_indexOfChar_13 : decode b_JStringLatin1_indexOfChar 13 = .ok (.aload_n 0, 1) := by decide +kernel
theorem d_JStringLatin1_indexOfChar_14 : decode b_JStringLatin1_indexOfChar 14 = .ok (.iload 5, 2) := by decide +kernel
theorem d_JStringLatin1_indexOfChar_16 : decode b_JStringLatin1_indexOfChar 16 = .ok (.baload, 1) := by decide +kernel
theorem d_JStringLatin1_indexOfChar_17 : decode b_JStringLatin1_indexOfChar 17 = .ok (.iload 4, 2) := by decide +kernel
theorem d_JStringLatin1_indexOfChar_19 : decode b_JStringLatin1_indexOfChar 19 = .ok (.if_icmp .ne 6, 3) := by decide +kernel
theorem d_JStringLatin1_indexOfChar_22 : decode b_JStringLatin1_indexOfChar 22 = .ok (.iload 5, 2) := by decide +kernel
theorem d_JStringLatin1_indexOfChar_24 : decode b_JStringLatin1_indexOfChar 24 = .ok (.ireturn, 1) := by decide +kernel
theorem d_JStringLatin1_indexOfChar_25 : decode b_JStringLatin1_indexOfChar 25 = .ok (.iinc 5 1, 3) := by decide +kernel
theorem d_JStringLatin1_indexOfChar_28 : decode b_JStringLatin1_indexOfChar 28 = .ok (.goto (-21), 3) := by decide +kernel
theorem d_JStringLatin1_indexOfChar_31 : decode b_JStringLatin1_indexOfChar 31 = .ok (.iconst (-1), 1) := by decide +kernel
theorem d_JStringLatin1_indexOfChar_32 : decode b_JStringLatin1_indexOfChar 32 = .ok (.ireturn, 1) := by decide +kernel
theorem d_JString_charAt_0 : decode b_JString_charAt 0 = .ok (.aload_n 0, 1) := by decide +kernel
theorem d_JString_charAt_1 : decode b_JString_charAt 1 = .ok (.invokevirtual 492, 3) := by decide +kernel
theorem d_JString_charAt_4 : decode b_JString_charAt 4 = .ok (.ifCond .eq 12, 3) := by decide +kernel
theorem d_JString_charAt_7 : decode b_JString_charAt 7 = .ok (.aload_n 0, 1) := by decide +kernel
theorem d_JString_charAt_8 : decode b_JString_charAt 8 = .ok (.getfield 9, 3) := by decide +kernel
theorem d_JString_charAt_11 : decode b_JString_charAt 11 = .ok (.iload_n 1, 1) := by decide +kernel
theorem d_JString_charAt_12 : decode b_JString_charAt 12 = .ok (.invokestatic 495, 3) := by decide +kernel
theorem d_JString_charAt_15 : decode b_JString_charAt 15 = .ok (.ireturn, 1) := by decide +kernel
theorem d_JString_charAt_16 : decode b_JString_charAt 16 = .ok (.aload_n 0, 1) := by decide +kernel
theorem d_JString_charAt_17 : decode b_JString_charAt 17 = .ok (.getfield 9, 3) := by decide +kernel
theorem d_JString_charAt_20 : decode b_JString_charAt 20 = .ok (.iload_n 1, 1) := by decide +kernel
theorem d_JString_charAt_21 : decode b_JString_charAt 21 = .ok (.invokestatic 498, 3) := by decide +kernel
theorem d_JString_charAt_24 : decode b_JString_charAt 24 = .ok (.ireturn, 1) := by decide +kernel
theorem d_JStringLatin1_charAt_0 : decode b_JStringLatin1_charAt 0 = .ok (.iload_n 1, 1) := by decide +kernel
theorem d_JStringLatin1_charAt_1 : decode b_JStringLatin1_charAt 1 = .ok (.aload_n 0, 1) := by decide +kernel
theorem d_JStringLatin1_charAt_2 : decode b_JStringLatin1_charAt 2 = .ok (.arraylength, 1) := by decide +kernel
theorem d_JStringLatin1_charAt_3 : decode b_JStringLatin1_charAt 3 = .ok (.invokestatic 9, 3) := by decide +kernel
theorem d_JStringLatin1_charAt_6 : decode b_JStringLatin1_charAt 6 = .ok (.aload_n 0, 1) := by decide +kernel
theorem d_JStringLatin1_charAt_7 : decode b_JStringLatin1_charAt 7 = .ok (.iload_n 1, 1) := by decide +kernel
theorem d_JStringLatin1_charAt_8 : decode b_JStringLatin1_charAt 8 = .ok (.baload, 1) := by decide +kernel
theorem d_JStringLatin1_charAt_9 : decode b_JStringLatin1_charAt 9 = .ok (.sipush 255, 3) := by decide +kernel
theorem d_JStringLatin1_charAt_12 : decode b_JStringLatin1_charAt 12 = .ok (.iand, 1) := by decide +kernel
theorem d_JStringLatin1_charAt_13 : decode b_JStringLatin1_charAt 13 = .ok (.i2c, 1) := by decide +kernel
theorem d_JStringLatin1_charAt_14 : decode b_JStringLatin1_charAt 14 = .ok (.ireturn, 1) := by decide +kernel
theorem d_JString_checkIndex_0 : decode b_JString_checkIndex 0 = .ok (.iload_n 0, 1) := by decide +kernel
theorem d_JString_checkIndex_1 : decode b_JString_checkIndex 1 = .ok (.iload_n 1, 1) := by decide +kernel
theorem d_JString_checkIndex_2 : decode b_JString_checkIndex 2 = .ok (.getstatic 1053, 3) := by decide +kernel
theorem d_JString_checkIndex_5 : decode b_JString_checkIndex 5 = .ok (.invokestatic 1059, 3) := by decide +kernel
theorem d_JString_checkIndex_8 : decode b_JString_checkIndex 8 = .ok (.pop, 1) := by decide +kernel
theorem d_JString_checkIndex_9 : decode b_JString_checkIndex 9 = .ok (.return_, 1) := by decide +kernel
theorem d_JPreconditions_checkIndex_0 : decode b_JPreconditions_checkIndex 0 = .ok (.iload_n 0, 1) := by decide +kernel
theorem d_JPreconditions_checkIndex_1 : decode b_JPreconditions_checkIndex 1 = .ok (.ifCond .lt 8, 3) := by decide +kernel
theorem d_JPreconditions_checkIndex_4 : decode b_JPreconditions_checkIndex 4 = .ok (.iload_n 0, 1) := by decide +kernel
theorem d_JPreconditions_checkIndex_5 : decode b_JPreconditions_checkIndex 5 = .ok (.iload_n 1, 1) := by decide +kernel
theorem d_JPreconditions_checkIndex_6 : decode b_JPreconditions_checkIndex 6 = .ok (.if_icmp .lt 10, 3) := by decide +kernel
theorem d_JPreconditions_checkIndex_9 : decode b_JPreconditions_checkIndex 9 = .ok (.aload_n 2, 1) := by decide +kernel
theorem d_JPreconditions_checkIndex_10 : decode b_JPreconditions_checkIndex 10 = .ok (.iload_n 0, 1) := by decide +kernel
theorem d_JPreconditions_checkIndex_11 : decode b_JPreconditions_checkIndex 11 = .ok (.iload_n 1, 1) := by decide +kernel
theorem d_JPreconditions_checkIndex_12 : decode b_JPreconditions_checkIndex 12 = .ok (.invokestatic 95, 3) := by decide +kernel
theorem d_JPreconditions_checkIndex_15 : decode b_JPreconditions_checkIndex 15 = .ok (.athrow, 1) := by decide +kernel
theorem d_JPreconditions_checkIndex_16 : decode b_JPreconditions_checkIndex 16 = .ok (.iload_n 0, 1) := by decide +kernel
theorem d_JPreconditions_checkIndex_17 : decode b_JPreconditions_checkIndex 17 = .ok (.ireturn, 1) := by decide +kernel
theorem d_JInteger_compare_0 : decode b_JInteger_compare 0 = .ok (.iload_n 0, 1) := by decide +kernel
theorem d_JInteger_compare_1 : decode b_JInteger_compare 1 = .ok (.iload_n 1, 1) := by decide +kernel
theorem d_JInteger_compare_2 : decode b_JInteger_compare 2 = .ok (.if_icmp .ge 7, 3) := by decide +kernel
theorem d_JInteger_compare_5 : decode b_JInteger_compare 5 = .ok (.iconst (-1), 1) := by decide +kernel
theorem d_JInteger_compare_6 : decode b_JInteger_compare 6 = .ok (.goto 13, 3) := by decide +kernel
theorem d_JInteger_compare_9 : decode b_JInteger_compare 9 = .ok (.iload_n 0, 1) := by decide +kernel
theorem d_JInteger_compare_10 : decode b_JInteger_compare 10 = .ok (.iload_n 1, 1) := by decide +kernel
theorem d_JInteger_compare_11 : decode b_JInteger_compare 11 = .ok (.if_icmp .ne 7, 3) := by decide +kernel
theorem d_JInteger_compare_14 : decode b_JInteger_compare 14 = .ok (.iconst 0, 1) := by decide +kernel
theorem d_JInteger_compare_15 : decode b_JInteger_compare 15 = .ok (.goto 4, 3) := by decide +kernel
theorem d_JInteger_compare_18 : decode b_JInteger_compare 18 = .ok (.iconst 1, 1) := by decide +kernel
theorem d_JInteger_compare_19 : decode b_JInteger_compare 19 = .ok (.ireturn, 1) := by decide +kernel
theorem d_JEnum_ordinal_0 : decode b_JEnum_ordinal 0 = .ok (.aload_n 0, 1) := by decide +kernel
theorem d_JEnum_ordinal_1 : decode b_JEnum_ordinal 1 = .ok (.getfield 7, 3) := by decide +kernel
theorem d_JEnum_ordinal_4 : decode b_JEnum_ordinal 4 = .ok (.ireturn, 1) := by decide +kernel
end
section
/-! THE STATE: scalars by number (S.1), arrays by number (S.2.1), the reference's word of letters (S.2.2.1), the law's own cell (S.2.2.2.1), the action (S.2.2.2.2). The world is 'lay S', and behind it what was thrown -/
abbrev jS : Type := (Nat → Int32) × (Nat → Nat → Int32) × Int64 × (Nat → Int64) × Nat
def lay (S : jS) : jH := [
  .inr (0, [.ref 33, .ref 38, .ref 40, .ref 42, .ref 58, .int (S.1 0), .int (S.1 1)]),
  .inr (1, [.ref 34, .ref 35, .ref 36, .ref 37, .int (S.1 2), .int (S.1 3)]),
  .inl (1, 6, .inl (S.2.1 0)),
  .inl (0, 6, .inl (S.2.1 1)),
  .inl (0, 6, .inl (S.2.1 2)),
  .inl (2, 6, .inl (S.2.1 3)),
  .inr (2, [.ref 39, .int (S.1 4), .int (S.1 5)]),
  .inl (0, 32, .inl (S.2.1 4)),
  .inr (3, [.ref 41, .int (S.1 6)]),
  .inl (1, 100, .inl (S.2.1 5)),
  .inr (8, [.ref 33, .ref 38, .ref 43, .ref 47, .ref 50, .ref 54, .int (S.1 7), .ref S.2.2.2.2, .int (S.1 8), .int (S.1 9), .int (S.1 10)]),
  .inr (4, [.ref 40, .ref 44, .ref 45, .ref 46, .int (S.1 11), .int (S.1 12)]),
  .inl (1, 101, .inl (S.2.1 6)),
  .inl (0, 101, .inl (S.2.1 7)),
  .inl (0, 101, .inl (S.2.1 8)),
  .inr (6, [.ref 48, .ref 49, .int (S.1 13)]),
  .inr (5, [.ref 33, .int (S.1 14), .int (S.1 15)]),
  .inr (5, [.ref 33, .int (S.1 16), .int (S.1 17)]),
  .inr (7, [.ref 33, .ref 51, .int (S.1 18)]),
  .inr (6, [.ref 52, .ref 53, .int (S.1 19)]),
  .inr (5, [.ref 33, .int (S.1 20), .int (S.1 21)]),
  .inr (5, [.ref 33, .int (S.1 22), .int (S.1 23)]),
  .inr (7, [.ref 33, .ref 55, .int (S.1 24)]),
  .inr (6, [.ref 56, .ref 57, .int (S.1 25)]),
  .inr (5, [.ref 33, .int (S.1 26), .int (S.1 27)]),
  .inr (5, [.ref 33, .int (S.1 28), .int (S.1 29)]),
  .inl (0, 32, .inl (S.2.1 9)),
  .inr (9, [.int (S.1 30), .ref 60, .ref 61, .ref 62, .int (S.1 31), .ref 63, .ref 64, .ref 65, .ref 66, .int (S.1 32), .ref 67, .int (S.1 33), .int (S.1 34), .int (S.1 35), .ref 68, .int (S.1 36), .int (S.1 37), .int (S.1 38), .int (S.1 39), .long S.2.2.1, .int (S.1 40), .ref 69, .ref 70, .int (S.1 41), .ref 71, .int (S.1 42), .int (S.1 43), .int (S.1 44), .int (S.1 45), .int (S.1 46), .ref 72, .ref 73, .ref 74, .ref 75, .ref 76, .ref 77, .int (S.1 47), .ref 78]),
  .inl (2, 32, .inl (S.2.1 10)),
  .inl (0, 32, .inl (S.2.1 11)),
  .inl (2, 32, .inl (S.2.1 12)),
  .inl (1, 6, .inl (S.2.1 13)),
  .inl (0, 6, .inl (S.2.1 14)),
  .inl (0, 6, .inl (S.2.1 15)),
  .inl (2, 6, .inl (S.2.1 16)),
  .inl (1, 100, .inl (S.2.1 17)),
  .inl (0, 32, .inl (S.2.1 18)),
  .inl (0, 120, .inl (S.2.1 19)),
  .inl (0, 120, .inl (S.2.1 20)),
  .inl (0, 120, .inl (S.2.1 21)),
  .inl (0, 2, .inl (S.2.1 22)),
  .inl (0, 2, .inl (S.2.1 23)),
  .inl (0, 2, .inl (S.2.1 24)),
  .inl (0, 2, .inl (S.2.1 25)),
  .inl (0, 2, .inl (S.2.1 26)),
  .inl (0, 2, .inl (S.2.1 27)),
  .inl (0, 120, .inl (S.2.1 28)),
  .inl (3, 1, .inr (.inl S.2.2.2.1))]
abbrev s1 (S : jS) (i : Nat) (v : Int32) : jS := (va_up S.1 i v, S.2)
abbrev s2 (S : jS) (i : Nat) (f : Nat → Int32) : jS := (S.1, va_up S.2.1 i f, S.2.2)
abbrev s3 (S : jS) (v : Int64) : jS := (S.1, S.2.1, v, S.2.2.2)
abbrev s4 (S : jS) (f : Nat → Int64) : jS := (S.1, S.2.1, S.2.2.1, f, S.2.2.2.2)
abbrev s5 (S : jS) (n : Nat) : jS := (S.1, S.2.1, S.2.2.1, S.2.2.2.1, n)
end
section
/-! how methods end, locals, counters -/
def rI (v : Int32) (g : jH) : jO → jH → Prop := fun o h => o = .inl (some (.int v)) ∧ h = g
def rV (g : jH) : jO → jH → Prop := fun o h => o = .inl none ∧ h = g
def rX (k : Nat) (g : jH) : jO → jH → Prop := fun o h => o = .inr k ∧ h = g ++ [.inr (k, [])]
def j_sub (ls : List (Nat × Value)) : List (Nat × Value) → Prop
  | [] => True
  | q :: r => j_lg ls q.1 = some q.2 ∧ j_sub ls r
theorem j_sub_all {ls : List (Nat × Value)} : ∀ {ls' : List (Nat × Value)}, j_sub ls ls' → ∀ q ∈ ls', j_lg ls q.1 = some q.2
  | [], _, q, hq => by cases hq
  | r :: ls', h, q, hq => by
    rcases List.mem_cons.mp hq with rfl | hq
    · exact h.1
    · exact j_sub_all h.2 q hq
theorem j_loc' {K : jK} {M : jR} {d pc : Nat} {ls : List (Nat × Value)} {st : List Value} {h : jH} {Q : jO → jH → Prop} {mc ms : Nat} (ls' : List (Nat × Value)) (hs : j_sub ls ls') (k : jE K M d pc ls' st h Q mc ms) : jE K M d pc ls st h Q mc ms := j_few (j_sub_all hs) k
theorem j_iincN {K : jK} {M : jR} {d pc : Nat} {ls : List (Nat × Value)} {st : List Value} {h : jH} {Q : jO → jH → Prop} {mc ms i j : Nat} (hd : decode M.2.1 pc = .ok (.iinc i 1, 3)) (hg : j_lg ls i = some (.int (nI j))) (hn : i < M.2.2.1) (k : jE K M d (pc + 3) (j_ls ls i (.int (nI (j + 1)))) st h Q mc ms) : jE K M d pc ls st h Q mc ms :=
  j_iinc hd hg (by rw [nI_succ]; rfl) hn k
theorem j_iincP {K : jK} {M : jR} {d pc : Nat} {ls : List (Nat × Value)} {st : List Value} {h : jH} {Q : jO → jH → Prop} {mc ms i j : Nat} (hd : decode M.2.1 pc = .ok (.iinc i (-1), 3)) (hg : j_lg ls i = some (.int (nI (j + 1)))) (hn : i < M.2.2.1) (k : jE K M d (pc + 3) (j_ls ls i (.int (nI j))) st h Q mc ms) : jE K M d pc ls st h Q mc ms :=
  j_iinc hd hg (by rw [← pk_m1 j]; rfl) hn k
end
section
/-! Int32 by its bits (the family 'bt' of kit/laws/BITS.to-paste, pasted) -/
def bt (x : Int32) (i : Nat) : Bool := x.toBitVec.getLsbD i
theorem b_ext {x y : Int32} (h : ∀ i, i < 32 → bt x i = bt y i) : x = y := Int32.toBitVec_inj.mp (BitVec.eq_of_getLsbD_eq (fun i hi => h i hi))
theorem b_or (x y : Int32) (i : Nat) : bt (x ||| y) i = (bt x i || bt y i) := by unfold bt; rw [Int32.toBitVec_or, BitVec.getLsbD_or]
theorem b_and (x y : Int32) (i : Nat) : bt (x &&& y) i = (bt x i && bt y i) := by unfold bt; rw [Int32.toBitVec_and, BitVec.getLsbD_and]
theorem b_xor (x y : Int32) (i : Nat) : bt (x ^^^ y) i = (bt x i ^^ bt y i) := by unfold bt; rw [Int32.toBitVec_xor, BitVec.getLsbD_xor]
theorem b_big {x : Int32} {i : Nat} (h : 32 ≤ i) : bt x i = false := BitVec.getLsbD_of_ge _ _ h
theorem b_255 (i : Nat) : bt 255 i = decide (i < 8) := by
  rcases Nat.lt_or_ge i 32 with h | h
  · exact (by decide +kernel : ∀ i, i < 32 → bt 255 i = decide (i < 8)) i h
  · rw [b_big h, decide_eq_false (by omega)]
theorem b_65535 (i : Nat) : bt 65535 i = decide (i < 16) := by
  rcases Nat.lt_or_ge i 32 with h | h
  · exact (by decide +kernel : ∀ i, i < 32 → bt 65535 i = decide (i < 16)) i h
  · rw [b_big h, decide_eq_false (by omega)]
theorem b_m1 : ∀ i, i < 32 → bt (-1) i = true := by decide +kernel
theorem b_0 (i : Nat) : bt 0 i = false := BitVec.getLsbD_zero
theorem s_l : ∀ n, n < 32 → ((nI n &&& 31).toBitVec.smod 32).toNat = n := by decide +kernel
theorem s_u : ∀ n, n < 32 → (((nI n).toUInt32 &&& Int32.toUInt32 31).toBitVec % 32).toNat = n := by decide +kernel
theorem b_shl (n : Nat) (hn : n < 32) (x : Int32) {i : Nat} (hi : i < 32) : bt (x <<< (nI n &&& 31)) i = (decide (n ≤ i) && bt x (i - n)) := by
  unfold bt
  rw [Int32.toBitVec_shiftLeft]
  show (x.toBitVec <<< ((nI n &&& 31).toBitVec.smod 32).toNat).getLsbD i = _
  rw [s_l n hn, BitVec.getLsbD_shiftLeft]
  rcases Nat.lt_or_ge i n with h | h
  · simp [h, Nat.not_le.mpr h]
  · simp [hi, h, Nat.not_lt.mpr h]
theorem b_ushr (n : Nat) (hn : n < 32) (x : Int32) (i : Nat) : bt ((x.toUInt32 >>> ((nI n).toUInt32 &&& Int32.toUInt32 31)).toInt32) i = bt x (n + i) := by
  show (x.toUInt32 >>> ((nI n).toUInt32 &&& Int32.toUInt32 31)).toBitVec.getLsbD i = x.toUInt32.toBitVec.getLsbD (n + i)
  rw [UInt32.toBitVec_shiftRight]
  show (x.toUInt32.toBitVec >>> (((nI n).toUInt32 &&& Int32.toUInt32 31).toBitVec % 32).toNat).getLsbD i = _
  rw [s_u n hn, BitVec.getLsbD_ushiftRight]
theorem b_sshr (n : Nat) (hn : n < 32) (x : Int32) {i : Nat} (hi : i < 32) : bt (x >>> (nI n &&& 31)) i = if n + i < 32 then bt x (n + i) else bt x 31 := by
  unfold bt
  rw [Int32.toBitVec_shiftRight]
  show (x.toBitVec.sshiftRight ((nI n &&& 31).toBitVec.smod 32).toNat).getLsbD i = _
  rw [s_l n hn, BitVec.getLsbD_sshiftRight, BitVec.msb_eq_getLsbD_last]
  simp [hi]
end
section
/-! calls whose end is known -/
section JENDS
variable {K : jK} {M : jR} {d pc : Nat} {ls : List (Nat × Value)} {st st0 : List Value} {h g : jH} {Q : jO → jH → Prop} {mc ms : Nat}
theorem j_retI {v : Int32} (hcall : jCall K M d pc ls st0 st h (rI v g) 0 0) (hh : M.2.2.2.2 = []) (k : jE K M d (pc + 3) ls (.int v :: st) g Q mc ms) : jE K M d pc ls st0 h Q mc ms :=
  j_ret0 hcall hh (fun v' g' hq => by
    obtain ⟨hv, rfl⟩ := hq
    cases hv
    exact k) (fun k' g' hq => by cases hq.1)
theorem j_retV (hcall : jCall K M d pc ls st0 st h (rV g) 0 0) (hh : M.2.2.2.2 = []) (k : jE K M d (pc + 3) ls st g Q mc ms) : jE K M d pc ls st0 h Q mc ms :=
  j_ret0 hcall hh (fun v' g' hq => by
    obtain ⟨hv, rfl⟩ := hq
    cases hv
    exact k) (fun k' g' hq => by cases hq.1)
theorem j_retX {x : Nat} (hcall : jCall K M d pc ls st0 st h (rX x g) 0 0) (hh : M.2.2.2.2 = []) (k : Q (.inr x) (g ++ [.inr (x, [])])) : jE K M d pc ls st0 h Q mc ms :=
  j_ret0 hcall hh (fun v' g' hq => by cases hq.1) (fun k' g' hq => by
    obtain ⟨hv, rfl⟩ := hq
    cases hv
    exact k)
end JENDS
def b2i (b : Bool) : Int32 := if b then 1 else 0
end
section
/-! sets of words as an int -/
theorem b_1 (i : Nat) : bt 1 i = decide (i = 0) := by
  rcases Nat.lt_or_ge i 32 with h | h
  · exact (by decide +kernel : ∀ i, i < 32 → bt 1 i = decide (i = 0)) i h
  · rw [b_big h, decide_eq_false (by omega)]
theorem b_one {n i : Nat} (hn : n < 32) (hi : i < 32) : bt ((1 : Int32) <<< (nI n &&& 31)) i = decide (i = n) := by
  rw [b_shl n hn 1 hi, b_1]
  by_cases h : i = n
  · subst h; simp
  · by_cases h2 : n ≤ i
    · have : ¬ i - n = 0 := by omega
      simp [h, this]
    · simp [h, h2]
theorem b_not (x : Int32) {i : Nat} (hi : i < 32) : bt (x ^^^ (-1)) i = !bt x i := by
  rw [b_xor, b_m1 i hi]
  cases bt x i <;> rfl
theorem hb_iff (x : Int32) {i : Nat} (hi : i < 32) : ((x.toUInt32 >>> ((nI i).toUInt32 &&& Int32.toUInt32 31)).toInt32 &&& 1) = 1 ↔ bt x i = true := by
  constructor
  · intro h
    have h1 := congrArg (fun z => bt z 0) h
    simp only [b_and, b_ushr i hi, b_1] at h1
    simpa using h1
  · intro h
    apply b_ext
    intro j hj
    rw [b_and, b_ushr i hi, b_1]
    by_cases h0 : j = 0
    · subst h0; simp [h]
    · simp [h0]
theorem hs_iff (x : Int32) {i : Nat} (hi : i < 32) : ((x >>> (nI i &&& 31)) &&& 1) = 1 ↔ bt x i = true := by
  constructor
  · intro h
    have h1 := congrArg (fun z => bt z 0) h
    simp only [b_and, b_sshr i hi x (by omega : 0 < 32), b_1] at h1
    simpa [hi] using h1
  · intro h
    apply b_ext
    intro j hj
    rw [b_and, b_sshr i hi x hj, b_1]
    by_cases h0 : j = 0
    · subst h0; simp [h, hi]
    · simp [h0]
/-- the set of the numbers below n of which p says yes -/
def mkS (p : Nat → Bool) : Nat → Int32
  | 0 => 0
  | i + 1 => if p i then mkS p i ||| ((1 : Int32) <<< (nI i &&& 31)) else mkS p i
theorem b_mkS (p : Nat → Bool) : ∀ (n : Nat), n ≤ 32 → ∀ i, i < 32 → bt (mkS p n) i = (decide (i < n) && p i)
  | 0, _, i, _ => by simp [mkS, b_0]
  | n + 1, hn, i, hi => by
    have ih := b_mkS p n (by omega) i hi
    unfold mkS
    split
    · rename_i hp
      rw [b_or, ih, b_one (by omega) hi]
      by_cases h : i = n
      · subst h; simp [hp]
      · have : (i < n + 1) ↔ (i < n) := by omega
        simp [h, this]
    · rename_i hp
      rw [ih]
      by_cases h : i = n
      · subst h; simp [hp]
      · have : (i < n + 1) ↔ (i < n) := by omega
        simp [this]
theorem mkS_all (p : Nat → Bool) {i : Nat} (hi : i < 32) : bt (mkS p 32) i = p i := by rw [b_mkS p 32 (by omega) i hi]; simp [hi]
/-- the first number from i on, of k, that is in the set, or -1 -/
def lowF (x : Int32) : Nat → Nat → Int32
  | 0, _ => -1
  | k + 1, i => if bt x i then nI i else lowF x k (i + 1)
/-- what a set's words get -/
def ovF (f : Nat → Int32) (x m p : Int32) (n : Nat) : Nat → Int32 := fun j => if j < n ∧ bt x j = true then (f j &&& (m ^^^ (-1))) ||| (p &&& m) else f j
theorem ovF_0 (f : Nat → Int32) (x m p : Int32) : ovF f x m p 0 = f := by funext j; simp [ovF]
theorem ovF_s (f : Nat → Int32) (x m p : Int32) (n : Nat) : ovF f x m p (n + 1) = if bt x n then upd (ovF f x m p n) n ((f n &&& (m ^^^ (-1))) ||| (p &&& m)) else ovF f x m p n := by
  funext j
  by_cases hb : bt x n = true
  · rw [if_pos hb]
    by_cases hj : j = n
    · subst hj
      simp [ovF, upd, hb]
    · have : (j < n + 1) ↔ (j < n) := by omega
      simp [ovF, upd, hj, this]
  · rw [if_neg hb]
    by_cases hj : j = n
    · subst hj
      simp [ovF, hb]
    · have : (j < n + 1) ↔ (j < n) := by omega
      simp [ovF, this]
end
section
/-! the bytes of a long, and what they do to the text -/
def cd (x : Int64) (i : Nat) : Int32 := ((x.toUInt64 >>> (((8 : Int32) * nI i).toInt64.toUInt64 &&& Int64.toUInt64 63)).toInt64 &&& 255).toInt32
theorem and255 (y : Int64) : ∃ c : Nat, c < 256 ∧ (y &&& 255).toInt32 = nI c := by
  refine ⟨(y &&& 255).toBitVec.toNat, ?_, ?_⟩
  · rw [Int64.toBitVec_and, BitVec.toNat_and]
    exact Nat.lt_of_le_of_lt Nat.and_le_right (by decide)
  · have e : (y &&& 255) = lN (y &&& 255).toBitVec.toNat := by
      apply Int64.toBitVec_inj.mp
      show _ = BitVec.ofNat 64 (y &&& 255).toBitVec.toNat
      apply BitVec.eq_of_toNat_eq
      simp
    rw [e, lN_i, ← e]
theorem cd_nI (x : Int64) (i : Nat) : ∃ c : Nat, c < 256 ∧ cd x i = nI c := and255 _
theorem nI_i2c {c : Nat} (h : c < 65536) : ((nI c).toUInt32 % 65536).toInt32 = nI c := by
  rw [pk_char, pk_tn (by omega), Nat.mod_eq_of_lt h]
/-- how many characters more, if all may stand -/
def ctk (x : Int64) : Nat → Nat → Nat → Option Nat
  | 0, _, m => some m
  | k + 1, i, m => if cd x i = 0 then ctk x k (i + 1) m else if cd x i < 32 then none else if cd x i ≤ 126 then ctk x k (i + 1) (m + 1) else none
def apT (x : Int64) : Nat → Nat → Nat × (Nat → Int32) → Nat × (Nat → Int32)
  | 0, _, q => q
  | k + 1, i, q => if cd x i = 0 then apT x k (i + 1) q else if 100 ≤ q.1 then apT x k (i + 1) q else apT x k (i + 1) (q.1 + 1, upd q.2 q.1 (cd x i))
def canT (x : Int64) (n : Nat) : Int32 := match ctk x 8 0 0 with
  | none => 0
  | some m => if n + m ≤ 100 then 1 else 0
theorem ctk_le (x : Int64) : ∀ (k i m r : Nat), ctk x k i m = some r → r ≤ m + k
  | 0, i, m, r, h => by cases h; omega
  | k + 1, i, m, r, h => by
    unfold ctk at h
    split at h
    · have := ctk_le x k (i + 1) m r h; omega
    · split at h
      · cases h
      · split at h
        · have := ctk_le x k (i + 1) (m + 1) r h; omega
        · cases h
end
section
/-! BitLoom$Fields -/
theorem m_F_isFull (K : jK) (d : Nat) (S : jS) (J : jH) : jM K M_F_isFull d [.ref 33] (lay S ++ J) (rI (if 6 ≤ S.1 2 then 1 else 0) (lay S ++ J)) 0 0 := by
  refine jM.of (by decide) (Nat.le_of_ble_eq_true rfl) ?_
  refine j_aload_n d_F_isFull_0 rfl ?_
  refine j_getf d_F_isFull_1 f_F_26 rfl rfl ?_
  refine j_bipush (v := 6) d_F_isFull_4 (by decide) ?_
  refine j_icmp_lt (tgt := 13) d_F_isFull_6 rfl (fun hc => ?_) (fun hc => ?_)
  · refine j_iconst (v := 0) d_F_isFull_13 rfl ?_
    exact j_zret rfl rfl d_F_isFull_14 ⟨by rw [if_neg (Int32.not_le.mpr hc)], rfl⟩
  · refine j_iconst (v := 1) d_F_isFull_9 rfl ?_
    refine j_goto (tgt := 14) d_F_isFull_10 rfl ?_
    exact j_zret rfl rfl d_F_isFull_14 ⟨by rw [if_pos (Int32.not_lt.mp hc)], rfl⟩
theorem m_F_ground (K : jK) (d : Nat) (h : jH) (a w : Int32) : jM K M_F_ground d [.int a, .int w] h (rI (((1 <<< (w &&& 31)) - 1) <<< (a &&& 31)) h) 0 0 := by
  refine jM.of (by decide) (Nat.le_of_ble_eq_true rfl) ?_
  refine j_iconst (v := 1) d_F_ground_0 rfl ?_
  refine j_iload_n d_F_ground_1 rfl ?_
  refine j_ishl d_F_ground_2 ?_
  refine j_iconst (v := 1) d_F_ground_3 rfl ?_
  refine j_isub d_F_ground_4 ?_
  refine j_iload_n d_F_ground_5 rfl ?_
  refine j_ishl d_F_ground_6 ?_
  exact j_iret rfl d_F_ground_7 ⟨rfl, rfl⟩
def ixOf (f : Nat → Int32) (c : Int32) : Nat → Nat → Int32
  | 0, _ => -1
  | k + 1, i => if f i = c then nI i else ixOf f c k (i + 1)
theorem m_F_indexOf (K : jK) (d : Nat) (S : jS) (J : jH) (c : Int32) (n : Nat) (hn : S.1 2 = nI n) (h6 : n ≤ 6) : jM K M_F_indexOf d [.ref 33, .int c] (lay S ++ J) (rI (ixOf (S.2.1 0) c n 0) (lay S ++ J)) 0 0 := by
  refine jM.of (by decide) (Nat.le_of_ble_eq_true rfl) ?_
  have loop : ∀ k i, i + k = n → jE K M_F_indexOf d 2 [(0, .ref 33), (1, .int c), (2, .int (nI i))] [] (lay S ++ J) (rI (ixOf (S.2.1 0) c k i) (lay S ++ J)) 0 0 := by
    intro k
    induction k with
    | zero =>
      intro i hi
      refine j_iload_n d_F_indexOf_2 rfl ?_
      refine j_aload_n d_F_indexOf_3 rfl ?_
      refine j_getf d_F_indexOf_4 f_F_26 rfl rfl ?_
      refine j_icmp_geT (tgt := 28) d_F_indexOf_7 rfl (by rw [hn]; exact (nI_leI (by omega) (by omega)).mpr (by omega)) ?_
      refine j_iconst (v := -1) d_F_indexOf_28 rfl ?_
      exact j_iret rfl d_F_indexOf_29 ⟨rfl, rfl⟩
    | succ k ih =>
      intro i hi
      refine j_iload_n d_F_indexOf_2 rfl ?_
      refine j_aload_n d_F_indexOf_3 rfl ?_
      refine j_getf d_F_indexOf_4 f_F_26 rfl rfl ?_
      refine j_icmp_geF (tgt := 28) d_F_indexOf_7 rfl (by rw [hn]; exact fun q => absurd ((nI_leI (by omega) (by omega)).mp q) (by omega)) ?_
      refine j_aload_n d_F_indexOf_10 rfl ?_
      refine j_getf d_F_indexOf_11 f_F_9 rfl rfl ?_
      refine j_iload_n d_F_indexOf_14 rfl ?_
      refine j_cald (j := i) d_F_indexOf_15 rfl (by omega) (by decide) ?_
      refine j_iload_n d_F_indexOf_16 rfl ?_
      refine j_icmp_ne (tgt := 22) d_F_indexOf_17 rfl (fun hc => ?_) (fun hc => ?_)
      · refine j_iincN d_F_indexOf_22 rfl (by decide) ?_
        refine j_goto (tgt := 2) d_F_indexOf_25 rfl ?_
        refine j_loc' [(0, .ref 33), (1, .int c), (2, .int (nI (i + 1)))] ⟨rfl, rfl, rfl, trivial⟩ ?_
        rw [show ixOf (S.2.1 0) c (k + 1) i = ixOf (S.2.1 0) c k (i + 1) by rw [ixOf, if_neg hc]]
        exact ih (i + 1) (by omega)
      · refine j_iload_n d_F_indexOf_20 rfl ?_
        exact j_iret rfl d_F_indexOf_21 ⟨by rw [ixOf, if_pos hc], rfl⟩
  refine j_iconst (v := 0) d_F_indexOf_0 rfl ?_
  refine j_istore_n d_F_indexOf_1 (by decide) ?_
  exact j_loc' [(0, .ref 33), (1, .int c), (2, .int (nI 0))] ⟨rfl, rfl, rfl, trivial⟩ (loop n 0 (by omega))
end
section
/-! BitLoom$Fields, its other methods -/
theorem b2i_nar (b : Bool) : narrow .boolean (.int (b2i b)) = .int (b2i b) := by cases b <;> rfl
theorem b01_nar0 : narrow .boolean (.int 0) = .int 0 := rfl
theorem b01_nar1 : narrow .boolean (.int 1) = .int 1 := rfl
def newNm (f : Nat → Int32) (n : Nat) (c : Int32) : Int32 := if c < 97 then 0 else if 122 < c then 0 else if ixOf f c n 0 = -1 then 1 else 0
theorem m_F_isNewName (K : jK) (d : Nat) (hd : 1 ≤ d) (S : jS) (J : jH) (c : Int32) (n : Nat) (hn : S.1 2 = nI n) (h6 : n ≤ 6) : jM K M_F_isNewName d [.ref 33, .int c] (lay S ++ J) (rI (newNm (S.2.1 0) n c) (lay S ++ J)) 0 0 := by
  refine jM.of (by decide) (Nat.le_of_ble_eq_true rfl) ?_
  refine j_iload_n d_F_isNewName_0 rfl ?_
  refine j_bipush (v := 97) d_F_isNewName_1 (by decide) ?_
  refine j_icmp_lt (tgt := 25) d_F_isNewName_3 rfl (fun h3 => ?_) (fun h3 => ?_)
  · refine j_iconst (v := 0) d_F_isNewName_25 rfl ?_
    exact j_zret rfl rfl d_F_isNewName_26 ⟨by first | (simp only [newNm, h3, ↓reduceIte]; done) | (simp [newNm, h3]; done), rfl⟩
  · refine j_iload_n d_F_isNewName_6 rfl ?_
    refine j_bipush (v := 122) d_F_isNewName_7 (by decide) ?_
    refine j_icmp_gt (tgt := 25) d_F_isNewName_9 rfl (fun h9 => ?_) (fun h9 => ?_)
    · refine j_iconst (v := 0) d_F_isNewName_25 rfl ?_
      exact j_zret rfl rfl d_F_isNewName_26 ⟨by first | (simp only [newNm, h3, h9, ↓reduceIte]; done) | (simp [newNm, h3, h9]; done), rfl⟩
    · refine j_aload_n d_F_isNewName_12 rfl ?_
      refine j_iload_n d_F_isNewName_13 rfl ?_
      refine j_retI (j_callV d_F_isNewName_14 v_F_indexOf l_F_30 rfl rfl (m_F_indexOf K (d - 1) S J c n hn h6) (by omega) (by decide) (Nat.le_of_ble_eq_true rfl) rfl) rfl ?_
      refine j_iconst (v := -1) d_F_isNewName_17 rfl ?_
      refine j_icmp_ne (tgt := 25) d_F_isNewName_18 rfl (fun h18 => ?_) (fun h18 => ?_)
      · refine j_iconst (v := 0) d_F_isNewName_25 rfl ?_
        exact j_zret rfl rfl d_F_isNewName_26 ⟨by first | (simp only [newNm, h3, h9, h18, ↓reduceIte]; done) | (simp [newNm, h3, h9, h18]; done), rfl⟩
      · refine j_iconst (v := 1) d_F_isNewName_21 rfl ?_
        refine j_goto (tgt := 26) d_F_isNewName_22 rfl ?_
        exact j_zret rfl rfl d_F_isNewName_26 ⟨by first | (simp only [newNm, h3, h9, h18, ↓reduceIte]; done) | (simp [newNm, h3, h9, h18]; done), rfl⟩
def grd (a w : Int32) : Int32 := ((1 <<< (w &&& 31)) - 1) <<< (a &&& 31)
def opnG (cov a w : Int32) : Int32 := if a < 0 then 0 else if 24 ≤ a then 0 else if w < 1 then 0 else if w ≤ 10 then (if 24 < a + w then 0 else if cov &&& grd a w = 0 then 1 else 0) else 0
theorem m_F_isOpenGround (K : jK) (d : Nat) (hd : 1 ≤ d) (S : jS) (J : jH) (a w : Int32) : jM K M_F_isOpenGround d [.ref 33, .int a, .int w] (lay S ++ J) (rI (opnG (S.1 3) a w) (lay S ++ J)) 0 0 := by
  refine jM.of (by decide) (Nat.le_of_ble_eq_true rfl) ?_
  refine j_iload_n d_F_isOpenGround_0 rfl ?_
  refine j_if_lt (tgt := 21) d_F_isOpenGround_1 rfl (fun h1 => ?_) (fun h1 => ?_)
  · refine j_iconst (v := 0) d_F_isOpenGround_21 rfl ?_
    exact j_zret rfl rfl d_F_isOpenGround_22 ⟨by first | (simp only [opnG, grd, h1, ↓reduceIte]; done) | (simp [opnG, grd, h1]; done), rfl⟩
  · refine j_iload_n d_F_isOpenGround_4 rfl ?_
    refine j_bipush (v := 24) d_F_isOpenGround_5 (by decide) ?_
    refine j_icmp_ge (tgt := 21) d_F_isOpenGround_7 rfl (fun h7 => ?_) (fun h7 => ?_)
    · refine j_iconst (v := 0) d_F_isOpenGround_21 rfl ?_
      exact j_zret rfl rfl d_F_isOpenGround_22 ⟨by first | (simp only [opnG, grd, h1, h7, ↓reduceIte]; done) | (simp [opnG, grd, h1, h7]; done), rfl⟩
    · refine j_iload_n d_F_isOpenGround_10 rfl ?_
      refine j_iconst (v := 1) d_F_isOpenGround_11 rfl ?_
      refine j_icmp_lt (tgt := 21) d_F_isOpenGround_12 rfl (fun h12 => ?_) (fun h12 => ?_)
      · refine j_iconst (v := 0) d_F_isOpenGround_21 rfl ?_
        exact j_zret rfl rfl d_F_isOpenGround_22 ⟨by first | (simp only [opnG, grd, h1, h7, h12, ↓reduceIte]; done) | (simp [opnG, grd, h1, h7, h12]; done), rfl⟩
      · refine j_iload_n d_F_isOpenGround_15 rfl ?_
        refine j_bipush (v := 10) d_F_isOpenGround_16 (by decide) ?_
        refine j_icmp_le (tgt := 23) d_F_isOpenGround_18 rfl (fun h18 => ?_) (fun h18 => ?_)
        · refine j_iload_n d_F_isOpenGround_23 rfl ?_
          refine j_iload_n d_F_isOpenGround_24 rfl ?_
          refine j_iadd d_F_isOpenGround_25 ?_
          refine j_bipush (v := 24) d_F_isOpenGround_26 (by decide) ?_
          refine j_icmp_gt (tgt := 48) d_F_isOpenGround_28 rfl (fun h28 => ?_) (fun h28 => ?_)
          · refine j_iconst (v := 0) d_F_isOpenGround_48 rfl ?_
            exact j_zret rfl rfl d_F_isOpenGround_49 ⟨by first | (simp only [opnG, grd, h1, h7, h12, h18, h28, ↓reduceIte]; done) | (simp [opnG, grd, h1, h7, h12, h18, h28]; done), rfl⟩
          · refine j_aload_n d_F_isOpenGround_31 rfl ?_
            refine j_getf d_F_isOpenGround_32 f_F_34 rfl rfl ?_
            refine j_iload_n d_F_isOpenGround_35 rfl ?_
            refine j_iload_n d_F_isOpenGround_36 rfl ?_
            refine j_retI (j_callS d_F_isOpenGround_37 s_F_ground l_F_37 rfl (m_F_ground K (d - 1) _ a w) (by omega) (by decide) (Nat.le_of_ble_eq_true rfl) rfl) rfl ?_
            refine j_iand d_F_isOpenGround_40 ?_
            refine j_if_ne (tgt := 48) d_F_isOpenGround_41 rfl (fun h41 => ?_) (fun h41 => ?_)
            · refine j_iconst (v := 0) d_F_isOpenGround_48 rfl ?_
              exact j_zret rfl rfl d_F_isOpenGround_49 ⟨by first | (simp only [opnG, grd, h1, h7, h12, h18, h28, h41, ↓reduceIte]; done) | (simp [opnG, grd, h1, h7, h12, h18, h28, h41]; done), rfl⟩
            · refine j_iconst (v := 1) d_F_isOpenGround_44 rfl ?_
              refine j_goto (tgt := 49) d_F_isOpenGround_45 rfl ?_
              exact j_zret rfl rfl d_F_isOpenGround_49 ⟨by first | (simp only [opnG, grd, h1, h7, h12, h18, h28, h41, ↓reduceIte]; done) | (simp [opnG, grd, h1, h7, h12, h18, h28, h41]; done), rfl⟩
        · refine j_iconst (v := 0) d_F_isOpenGround_21 rfl ?_
          exact j_zret rfl rfl d_F_isOpenGround_22 ⟨by first | (simp only [opnG, grd, h1, h7, h12, h18, ↓reduceIte]; done) | (simp [opnG, grd, h1, h7, h12, h18]; done), rfl⟩
theorem m_F_append (K : jK) (d : Nat) (hd : 1 ≤ d) (S : jS) (J : jH) (c a w z : Int32) (n : Nat) (hn : S.1 2 = nI n) (h6 : n < 6) (hc : narrow .char (.int c) = .int c) (hz : narrow .boolean (.int z) = .int z) : jM K M_F_append d [.ref 33, .int c, .int a, .int w, .int z] (lay S ++ J) (rV (lay (s1 (s1 (s2 (s2 (s2 (s2 S 0 (upd (S.2.1 0) n c)) 1 (upd (S.2.1 1) n a)) 2 (upd (S.2.1 2) n w)) 3 (upd (S.2.1 3) n z)) 2 (nI (n + 1))) 3 (S.1 3 ||| grd a w)) ++ J)) 0 0 := by
  refine jM.of (by decide) (Nat.le_of_ble_eq_true rfl) ?_
  refine j_aload_n d_F_append_0 rfl ?_
  refine j_getf d_F_append_1 f_F_9 rfl rfl ?_
  refine j_aload_n d_F_append_4 rfl ?_
  refine j_getf d_F_append_5 f_F_26 rfl rfl ?_
  refine j_top (w := .int (nI n)) (by first | rw [hn] | exact congrArg Value.int hn) ?_
  refine j_iload_n d_F_append_8 rfl ?_
  refine j_cast d_F_append_9 rfl h6 (by decide) hc rfl ?_
  refine j_aload_n d_F_append_10 rfl ?_
  refine j_getf d_F_append_11 f_F_15 rfl rfl ?_
  refine j_aload_n d_F_append_14 rfl ?_
  refine j_getf d_F_append_15 f_F_26 rfl rfl ?_
  refine j_top (w := .int (nI n)) (by first | rw [hn] | exact congrArg Value.int hn) ?_
  refine j_iload_n d_F_append_18 rfl ?_
  refine j_iast d_F_append_19 rfl h6 (by decide) rfl ?_
  refine j_aload_n d_F_append_20 rfl ?_
  refine j_getf d_F_append_21 f_F_19 rfl rfl ?_
  refine j_aload_n d_F_append_24 rfl ?_
  refine j_getf d_F_append_25 f_F_26 rfl rfl ?_
  refine j_top (w := .int (nI n)) (by first | rw [hn] | exact congrArg Value.int hn) ?_
  refine j_iload_n d_F_append_28 rfl ?_
  refine j_iast d_F_append_29 rfl h6 (by decide) rfl ?_
  refine j_aload_n d_F_append_30 rfl ?_
  refine j_getf d_F_append_31 f_F_22 rfl rfl ?_
  refine j_aload_n d_F_append_34 rfl ?_
  refine j_getf d_F_append_35 f_F_26 rfl rfl ?_
  refine j_top (w := .int (nI n)) (by first | rw [hn] | exact congrArg Value.int hn) ?_
  refine j_iload d_F_append_38 rfl ?_
  refine j_zast d_F_append_40 rfl h6 (by decide) hz rfl ?_
  refine j_aload_n d_F_append_41 rfl ?_
  refine j_dup d_F_append_42 rfl ?_
  refine j_getf d_F_append_43 f_F_26 rfl rfl ?_
  refine j_top (w := .int (nI n)) (by first | rw [hn] | exact congrArg Value.int hn) ?_
  refine j_iconst (v := 1) d_F_append_46 rfl ?_
  refine j_iadd d_F_append_47 ?_
  refine j_top (w := .int (nI (n + 1))) (by rw [nI_succ]) ?_
  refine j_putf d_F_append_48 f_F_26 rfl (Nat.le_of_ble_eq_true rfl) rfl rfl rfl ?_
  refine j_aload_n d_F_append_51 rfl ?_
  refine j_dup d_F_append_52 rfl ?_
  refine j_getf d_F_append_53 f_F_34 rfl rfl ?_
  refine j_iload_n d_F_append_56 rfl ?_
  refine j_iload_n d_F_append_57 rfl ?_
  refine j_retI (j_callS d_F_append_58 s_F_ground l_F_37 rfl (m_F_ground K (d - 1) _ a w) (by omega) (by decide) (Nat.le_of_ble_eq_true rfl) rfl) rfl ?_
  refine j_ior d_F_append_61 ?_
  refine j_putf d_F_append_62 f_F_34 rfl (Nat.le_of_ble_eq_true rfl) rfl rfl rfl ?_
  exact j_vret rfl d_F_append_65 ⟨rfl, rfl⟩
def vlow (w z : Int32) : Int32 := if z = 0 then 0 else -(((1 : Int32) <<< (w &&& 31)) >>> ((1 : Int32) &&& 31))
def vfit (w z v : Int32) : Int32 := if v < vlow w z then 0 else if vlow w z + ((1 : Int32) <<< (w &&& 31)) ≤ v then 0 else 1
theorem m_F_fits (K : jK) (d : Nat) (S : jS) (J : jH) (f : Nat) (v : Int32) (hf : f < 6) : jM K M_F_fits d [.ref 33, .int (nI f), .int v] (lay S ++ J) (rI (vfit (S.2.1 2 f) (S.2.1 3 f) v) (lay S ++ J)) 0 0 := by
  refine jM.of (by decide) (Nat.le_of_ble_eq_true rfl) ?_
  refine j_iconst (v := 1) d_F_fits_0 rfl ?_
  refine j_aload_n d_F_fits_1 rfl ?_
  refine j_getf d_F_fits_2 f_F_19 rfl rfl ?_
  refine j_iload_n d_F_fits_5 rfl ?_
  refine j_iald d_F_fits_6 rfl hf (by decide) ?_
  refine j_ishl d_F_fits_7 ?_
  refine j_istore_n d_F_fits_8 (by decide) ?_
  refine j_aload_n d_F_fits_9 rfl ?_
  refine j_getf d_F_fits_10 f_F_22 rfl rfl ?_
  refine j_iload_n d_F_fits_13 rfl ?_
  refine j_zald d_F_fits_14 rfl hf (by decide) ?_
  refine j_if_eq (tgt := 25) d_F_fits_15 rfl (fun h15 => ?_) (fun h15 => ?_)
  · refine j_iconst (v := 0) d_F_fits_25 rfl ?_
    refine j_istore d_F_fits_26 (by decide) ?_
    refine j_iload_n d_F_fits_28 rfl ?_
    refine j_iload d_F_fits_29 rfl ?_
    refine j_icmp_lt (tgt := 46) d_F_fits_31 rfl (fun h31 => ?_) (fun h31 => ?_)
    · refine j_iconst (v := 0) d_F_fits_46 rfl ?_
      exact j_zret rfl rfl d_F_fits_47 ⟨by first | (simp only [vfit, vlow, h15, h31, ↓reduceIte]; done) | (simp [vfit, vlow, h15, h31]; done), rfl⟩
    · refine j_iload_n d_F_fits_34 rfl ?_
      refine j_iload d_F_fits_35 rfl ?_
      refine j_iload_n d_F_fits_37 rfl ?_
      refine j_iadd d_F_fits_38 ?_
      refine j_icmp_ge (tgt := 46) d_F_fits_39 rfl (fun h39 => ?_) (fun h39 => ?_)
      · refine j_iconst (v := 0) d_F_fits_46 rfl ?_
        exact j_zret rfl rfl d_F_fits_47 ⟨by first | (simp only [vfit, vlow, h15, h31, h39, ↓reduceIte]; done) | (simp [vfit, vlow, h15, h31, h39]; done), rfl⟩
      · refine j_iconst (v := 1) d_F_fits_42 rfl ?_
        refine j_goto (tgt := 47) d_F_fits_43 rfl ?_
        exact j_zret rfl rfl d_F_fits_47 ⟨by first | (simp only [vfit, vlow, h15, h31, h39, ↓reduceIte]; done) | (simp [vfit, vlow, h15, h31, h39]; done), rfl⟩
  · refine j_iload_n d_F_fits_18 rfl ?_
    refine j_iconst (v := 1) d_F_fits_19 rfl ?_
    refine j_ishr d_F_fits_20 ?_
    refine j_ineg d_F_fits_21 ?_
    refine j_goto (tgt := 26) d_F_fits_22 rfl ?_
    refine j_istore d_F_fits_26 (by decide) ?_
    refine j_iload_n d_F_fits_28 rfl ?_
    refine j_iload d_F_fits_29 rfl ?_
    refine j_icmp_lt (tgt := 46) d_F_fits_31 rfl (fun h31 => ?_) (fun h31 => ?_)
    · refine j_iconst (v := 0) d_F_fits_46 rfl ?_
      exact j_zret rfl rfl d_F_fits_47 ⟨by first | (simp only [vfit, vlow, h15, h31, ↓reduceIte]; done) | (simp [vfit, vlow, h15, h31]; done), rfl⟩
    · refine j_iload_n d_F_fits_34 rfl ?_
      refine j_iload d_F_fits_35 rfl ?_
      refine j_iload_n d_F_fits_37 rfl ?_
      refine j_iadd d_F_fits_38 ?_
      refine j_icmp_ge (tgt := 46) d_F_fits_39 rfl (fun h39 => ?_) (fun h39 => ?_)
      · refine j_iconst (v := 0) d_F_fits_46 rfl ?_
        exact j_zret rfl rfl d_F_fits_47 ⟨by first | (simp only [vfit, vlow, h15, h31, h39, ↓reduceIte]; done) | (simp [vfit, vlow, h15, h31, h39]; done), rfl⟩
      · refine j_iconst (v := 1) d_F_fits_42 rfl ?_
        refine j_goto (tgt := 47) d_F_fits_43 rfl ?_
        exact j_zret rfl rfl d_F_fits_47 ⟨by first | (simp only [vfit, vlow, h15, h31, h39, ↓reduceIte]; done) | (simp [vfit, vlow, h15, h31, h39]; done), rfl⟩
def vraw (a w b : Int32) : Int32 := (b.toUInt32 >>> (a.toUInt32 &&& Int32.toUInt32 31)).toInt32 &&& ((1 <<< (w &&& 31)) - 1)
def vval (a w z b : Int32) : Int32 := if z = 0 then vraw a w b else if vraw a w b < (1 <<< (w &&& 31)) >>> ((1 : Int32) &&& 31) then vraw a w b else vraw a w b - (1 <<< (w &&& 31))
theorem m_F_valueIn (K : jK) (d : Nat) (S : jS) (J : jH) (f : Nat) (b : Int32) (hf : f < 6) : jM K M_F_valueIn d [.ref 33, .int (nI f), .int b] (lay S ++ J) (rI (vval (S.2.1 1 f) (S.2.1 2 f) (S.2.1 3 f) b) (lay S ++ J)) 0 0 := by
  refine jM.of (by decide) (Nat.le_of_ble_eq_true rfl) ?_
  refine j_iconst (v := 1) d_F_valueIn_0 rfl ?_
  refine j_aload_n d_F_valueIn_1 rfl ?_
  refine j_getf d_F_valueIn_2 f_F_19 rfl rfl ?_
  refine j_iload_n d_F_valueIn_5 rfl ?_
  refine j_iald d_F_valueIn_6 rfl hf (by decide) ?_
  refine j_ishl d_F_valueIn_7 ?_
  refine j_istore_n d_F_valueIn_8 (by decide) ?_
  refine j_iload_n d_F_valueIn_9 rfl ?_
  refine j_aload_n d_F_valueIn_10 rfl ?_
  refine j_getf d_F_valueIn_11 f_F_15 rfl rfl ?_
  refine j_iload_n d_F_valueIn_14 rfl ?_
  refine j_iald d_F_valueIn_15 rfl hf (by decide) ?_
  refine j_iushr d_F_valueIn_16 ?_
  refine j_iload_n d_F_valueIn_17 rfl ?_
  refine j_iconst (v := 1) d_F_valueIn_18 rfl ?_
  refine j_isub d_F_valueIn_19 ?_
  refine j_iand d_F_valueIn_20 ?_
  refine j_istore d_F_valueIn_21 (by decide) ?_
  refine j_aload_n d_F_valueIn_23 rfl ?_
  refine j_getf d_F_valueIn_24 f_F_22 rfl rfl ?_
  refine j_iload_n d_F_valueIn_27 rfl ?_
  refine j_zald d_F_valueIn_28 rfl hf (by decide) ?_
  refine j_if_eq (tgt := 47) d_F_valueIn_29 rfl (fun h29 => ?_) (fun h29 => ?_)
  · refine j_iload d_F_valueIn_47 rfl ?_
    exact j_iret rfl d_F_valueIn_49 ⟨by rw [vval, if_pos h29]; rfl, rfl⟩
  · refine j_iload d_F_valueIn_32 rfl ?_
    refine j_iload_n d_F_valueIn_34 rfl ?_
    refine j_iconst (v := 1) d_F_valueIn_35 rfl ?_
    refine j_ishr d_F_valueIn_36 ?_
    refine j_icmp_lt (tgt := 47) d_F_valueIn_37 rfl (fun h37 => ?_) (fun h37 => ?_)
    · refine j_iload d_F_valueIn_47 rfl ?_
      exact j_iret rfl d_F_valueIn_49 ⟨by first | (rw [vval, if_pos h29]; done) | (rw [vval, if_neg h29, if_pos h37]; done) | (rw [vval, if_neg h29, if_neg h37]; done) | (simp [vval, vraw, h29, h37]), rfl⟩
    · refine j_iload d_F_valueIn_40 rfl ?_
      refine j_iload_n d_F_valueIn_42 rfl ?_
      refine j_isub d_F_valueIn_43 ?_
      refine j_goto (tgt := 49) d_F_valueIn_44 rfl ?_
      exact j_iret rfl d_F_valueIn_49 ⟨by first | (rw [vval, if_pos h29]; done) | (rw [vval, if_neg h29, if_pos h37]; done) | (rw [vval, if_neg h29, if_neg h37]; done) | (simp [vval, vraw, h29, h37]), rfl⟩
def vput (a w b v : Int32) : Int32 := (b &&& (grd a w ^^^ (-1))) ||| ((v <<< (a &&& 31)) &&& grd a w)
theorem m_F_withValue (K : jK) (d : Nat) (hd : 1 ≤ d) (S : jS) (J : jH) (f : Nat) (b v : Int32) (hf : f < 6) : jM K M_F_withValue d [.ref 33, .int (nI f), .int b, .int v] (lay S ++ J) (rI (vput (S.2.1 1 f) (S.2.1 2 f) b v) (lay S ++ J)) 0 0 := by
  refine jM.of (by decide) (Nat.le_of_ble_eq_true rfl) ?_
  refine j_aload_n d_F_withValue_0 rfl ?_
  refine j_getf d_F_withValue_1 f_F_15 rfl rfl ?_
  refine j_iload_n d_F_withValue_4 rfl ?_
  refine j_iald d_F_withValue_5 rfl hf (by decide) ?_
  refine j_aload_n d_F_withValue_6 rfl ?_
  refine j_getf d_F_withValue_7 f_F_19 rfl rfl ?_
  refine j_iload_n d_F_withValue_10 rfl ?_
  refine j_iald d_F_withValue_11 rfl hf (by decide) ?_
  refine j_retI (j_callS d_F_withValue_12 s_F_ground l_F_37 rfl (m_F_ground K (d - 1) _ _ _) (by omega) (by decide) (Nat.le_of_ble_eq_true rfl) rfl) rfl ?_
  refine j_istore d_F_withValue_15 (by decide) ?_
  refine j_iload_n d_F_withValue_17 rfl ?_
  refine j_iload d_F_withValue_18 rfl ?_
  refine j_iconst (v := -1) d_F_withValue_20 rfl ?_
  refine j_ixor d_F_withValue_21 ?_
  refine j_iand d_F_withValue_22 ?_
  refine j_iload_n d_F_withValue_23 rfl ?_
  refine j_aload_n d_F_withValue_24 rfl ?_
  refine j_getf d_F_withValue_25 f_F_15 rfl rfl ?_
  refine j_iload_n d_F_withValue_28 rfl ?_
  refine j_iald d_F_withValue_29 rfl hf (by decide) ?_
  refine j_ishl d_F_withValue_30 ?_
  refine j_iload d_F_withValue_31 rfl ?_
  refine j_iand d_F_withValue_33 ?_
  refine j_ior d_F_withValue_34 ?_
  exact j_iret rfl d_F_withValue_35 ⟨rfl, rfl⟩
end
section
/-! BitLoom$Words -/
theorem m_W_holds (K : jK) (d : Nat) (h : jH) (x : Int32) (i : Nat) (hi : i < 32) : jM K M_W_holds d [.int x, .int (nI i)] (h) (rI (b2i (bt x i)) h) 0 0 := by
  refine jM.of (by decide) (Nat.le_of_ble_eq_true rfl) ?_
  refine j_iload_n d_W_holds_0 rfl ?_
  refine j_iload_n d_W_holds_1 rfl ?_
  refine j_iushr d_W_holds_2 ?_
  refine j_iconst (v := 1) d_W_holds_3 rfl ?_
  refine j_iand d_W_holds_4 ?_
  refine j_iconst (v := 1) d_W_holds_5 rfl ?_
  refine j_icmp_ne (tgt := 13) d_W_holds_6 rfl (fun h6 => ?_) (fun h6 => ?_)
  · refine j_iconst (v := 0) d_W_holds_13 rfl ?_
    exact j_zret rfl rfl d_W_holds_14 ⟨by first | rw [show bt x i = true from (hb_iff x hi).mp h6]; rfl | (rw [show bt x i = false from Bool.eq_false_iff.mpr (fun q => h6 ((hb_iff x hi).mpr q))]; rfl), rfl⟩
  · refine j_iconst (v := 1) d_W_holds_9 rfl ?_
    refine j_goto (tgt := 14) d_W_holds_10 rfl ?_
    exact j_zret rfl rfl d_W_holds_14 ⟨by first | rw [show bt x i = true from (hb_iff x hi).mp h6]; rfl | (rw [show bt x i = false from Bool.eq_false_iff.mpr (fun q => h6 ((hb_iff x hi).mpr q))]; rfl), rfl⟩
theorem m_W_lowestOf (K : jK) (d : Nat) (hd : 1 ≤ d) (h : jH) (x : Int32) : jM K M_W_lowestOf d [.int x] h (rI (lowF x 32 0) h) 0 0 := by
  refine jM.of (by decide) (Nat.le_of_ble_eq_true rfl) ?_
  have loop : ∀ k i, i + k = 32 → jE K M_W_lowestOf d 2 [(0, .int x), (1, .int (nI i))] [] h (rI (lowF x k i) h) 0 0 := by
    intro k
    induction k with
    | zero =>
      intro i hi
      refine j_iload_n d_W_lowestOf_2 rfl ?_
      refine j_bipush (v := 32) d_W_lowestOf_3 (by decide) ?_
      refine j_icmp_geT (tgt := 24) d_W_lowestOf_5 rfl (show nI 32 ≤ nI i from nI_le (by omega) (by omega)) ?_
      refine j_iconst (v := -1) d_W_lowestOf_24 rfl ?_
      exact j_iret rfl d_W_lowestOf_25 ⟨rfl, rfl⟩
    | succ k ih =>
      intro i hi
      refine j_iload_n d_W_lowestOf_2 rfl ?_
      refine j_bipush (v := 32) d_W_lowestOf_3 (by decide) ?_
      refine j_icmp_geF (tgt := 24) d_W_lowestOf_5 rfl (show ¬ nI 32 ≤ nI i from nI_ge (by omega) (by omega)) ?_
      refine j_iload_n d_W_lowestOf_8 rfl ?_
      refine j_iload_n d_W_lowestOf_9 rfl ?_
      refine j_retI (j_callS d_W_lowestOf_10 s_W_holds l_W_15 rfl (m_W_holds K (d - 1) _ x i (by omega)) (by omega) (by decide) (Nat.le_of_ble_eq_true rfl) rfl) rfl ?_
      cases hb : bt x i with
      | false =>
        refine j_if_eqT (tgt := 18) d_W_lowestOf_13 rfl rfl ?_
        refine j_iincN d_W_lowestOf_18 rfl (by decide) ?_
        refine j_goto (tgt := 2) d_W_lowestOf_21 rfl ?_
        refine j_loc' [(0, .int x), (1, .int (nI (i + 1)))] ⟨rfl, rfl, trivial⟩ ?_
        rw [show lowF x (k + 1) i = lowF x k (i + 1) by rw [lowF, hb]; rfl]
        exact ih (i + 1) (by omega)
      | true =>
        refine j_if_eqF (tgt := 18) d_W_lowestOf_13 rfl (by decide) ?_
        refine j_iload_n d_W_lowestOf_16 rfl ?_
        exact j_iret rfl d_W_lowestOf_17 ⟨by rw [lowF, hb]; rfl, rfl⟩
  refine j_iconst (v := 0) d_W_lowestOf_0 rfl ?_
  refine j_istore_n d_W_lowestOf_1 (by decide) ?_
  exact j_loc' [(0, .int x), (1, .int (nI 0))] ⟨rfl, rfl, trivial⟩ (loop 32 0 rfl)
theorem m_W_free (K : jK) (d : Nat) (S : jS) (J : jH) : jM K M_W_free d [.ref 38] (lay S ++ J) (rI (S.1 4 ^^^ (-1)) (lay S ++ J)) 0 0 := by
  refine jM.of (by decide) (Nat.le_of_ble_eq_true rfl) ?_
  refine j_aload_n d_W_free_0 rfl ?_
  refine j_getf d_W_free_1 f_W_19 rfl rfl ?_
  refine j_iconst (v := -1) d_W_free_4 rfl ?_
  refine j_ixor d_W_free_5 ?_
  exact j_iret rfl d_W_free_6 ⟨rfl, rfl⟩
theorem m_W_inUse (K : jK) (d : Nat) (S : jS) (J : jH) : jM K M_W_inUse d [.ref 38] (lay S ++ J) (rI (S.1 4) (lay S ++ J)) 0 0 := by
  refine jM.of (by decide) (Nat.le_of_ble_eq_true rfl) ?_
  refine j_aload_n d_W_inUse_0 rfl ?_
  refine j_getf d_W_inUse_1 f_W_19 rfl rfl ?_
  exact j_iret rfl d_W_inUse_4 ⟨rfl, rfl⟩
theorem m_W_responding (K : jK) (d : Nat) (S : jS) (J : jH) : jM K M_W_responding d [.ref 38] (lay S ++ J) (rI (S.1 5) (lay S ++ J)) 0 0 := by
  refine jM.of (by decide) (Nat.le_of_ble_eq_true rfl) ?_
  refine j_aload_n d_W_responding_0 rfl ?_
  refine j_getf d_W_responding_1 f_W_23 rfl rfl ?_
  exact j_iret rfl d_W_responding_4 ⟨rfl, rfl⟩
theorem m_W_bitsOf (K : jK) (d : Nat) (S : jS) (J : jH) (i : Nat) (hi : i < 32) : jM K M_W_bitsOf d [.ref 38, .int (nI i)] (lay S ++ J) (rI (S.2.1 4 i) (lay S ++ J)) 0 0 := by
  refine jM.of (by decide) (Nat.le_of_ble_eq_true rfl) ?_
  refine j_aload_n d_W_bitsOf_0 rfl ?_
  refine j_getf d_W_bitsOf_1 f_W_9 rfl rfl ?_
  refine j_iload_n d_W_bitsOf_4 rfl ?_
  refine j_iald d_W_bitsOf_5 rfl hi (by decide) ?_
  exact j_iret rfl d_W_bitsOf_6 ⟨rfl, rfl⟩
theorem m_W_replace (K : jK) (d : Nat) (S : jS) (J : jH) (i : Nat) (hi : i < 32) (v : Int32) : jM K M_W_replace d [.ref 38, .int (nI i), .int v] (lay S ++ J) (rV (lay (s2 S 4 (upd (S.2.1 4) i v)) ++ J)) 0 0 := by
  refine jM.of (by decide) (Nat.le_of_ble_eq_true rfl) ?_
  refine j_aload_n d_W_replace_0 rfl ?_
  refine j_getf d_W_replace_1 f_W_9 rfl rfl ?_
  refine j_iload_n d_W_replace_4 rfl ?_
  refine j_iload_n d_W_replace_5 rfl ?_
  refine j_iast d_W_replace_6 rfl hi (by decide) rfl ?_
  exact j_vret rfl d_W_replace_7 ⟨rfl, rfl⟩
theorem m_W_occupy (K : jK) (d : Nat) (S : jS) (J : jH) (i : Nat) : jM K M_W_occupy d [.ref 38, .int (nI i)] (lay S ++ J) (rV (lay (s1 S 4 (S.1 4 ||| ((1 : Int32) <<< (nI i &&& 31)))) ++ J)) 0 0 := by
  refine jM.of (by decide) (Nat.le_of_ble_eq_true rfl) ?_
  refine j_aload_n d_W_occupy_0 rfl ?_
  refine j_dup d_W_occupy_1 rfl ?_
  refine j_getf d_W_occupy_2 f_W_19 rfl rfl ?_
  refine j_iconst (v := 1) d_W_occupy_5 rfl ?_
  refine j_iload_n d_W_occupy_6 rfl ?_
  refine j_ishl d_W_occupy_7 ?_
  refine j_ior d_W_occupy_8 ?_
  refine j_putf d_W_occupy_9 f_W_19 rfl (Nat.le_of_ble_eq_true rfl) rfl rfl rfl ?_
  exact j_vret rfl d_W_occupy_12 ⟨rfl, rfl⟩
theorem m_W_release (K : jK) (d : Nat) (S : jS) (J : jH) (i : Nat) (hi : i < 32) : jM K M_W_release d [.ref 38, .int (nI i)] (lay S ++ J) (rV (lay (s2 (s1 (s1 S 4 (S.1 4 &&& (((1 : Int32) <<< (nI i &&& 31)) ^^^ (-1)))) 5 (S.1 5 &&& (((1 : Int32) <<< (nI i &&& 31)) ^^^ (-1)))) 4 (upd (S.2.1 4) i 0)) ++ J)) 0 0 := by
  refine jM.of (by decide) (Nat.le_of_ble_eq_true rfl) ?_
  refine j_aload_n d_W_release_0 rfl ?_
  refine j_dup d_W_release_1 rfl ?_
  refine j_getf d_W_release_2 f_W_19 rfl rfl ?_
  refine j_iconst (v := 1) d_W_release_5 rfl ?_
  refine j_iload_n d_W_release_6 rfl ?_
  refine j_ishl d_W_release_7 ?_
  refine j_iconst (v := -1) d_W_release_8 rfl ?_
  refine j_ixor d_W_release_9 ?_
  refine j_iand d_W_release_10 ?_
  refine j_putf d_W_release_11 f_W_19 rfl (Nat.le_of_ble_eq_true rfl) rfl rfl rfl ?_
  refine j_aload_n d_W_release_14 rfl ?_
  refine j_dup d_W_release_15 rfl ?_
  refine j_getf d_W_release_16 f_W_23 rfl rfl ?_
  refine j_iconst (v := 1) d_W_release_19 rfl ?_
  refine j_iload_n d_W_release_20 rfl ?_
  refine j_ishl d_W_release_21 ?_
  refine j_iconst (v := -1) d_W_release_22 rfl ?_
  refine j_ixor d_W_release_23 ?_
  refine j_iand d_W_release_24 ?_
  refine j_putf d_W_release_25 f_W_23 rfl (Nat.le_of_ble_eq_true rfl) rfl rfl rfl ?_
  refine j_aload_n d_W_release_28 rfl ?_
  refine j_getf d_W_release_29 f_W_9 rfl rfl ?_
  refine j_iload_n d_W_release_32 rfl ?_
  refine j_iconst (v := 0) d_W_release_33 rfl ?_
  refine j_iast d_W_release_34 rfl hi (by decide) rfl ?_
  exact j_vret rfl d_W_release_35 ⟨rfl, rfl⟩
theorem m_W_respondOnly (K : jK) (d : Nat) (S : jS) (J : jH) (x : Int32) : jM K M_W_respondOnly d [.ref 38, .int x] (lay S ++ J) (rV (lay (s1 S 5 x) ++ J)) 0 0 := by
  refine jM.of (by decide) (Nat.le_of_ble_eq_true rfl) ?_
  refine j_aload_n d_W_respondOnly_0 rfl ?_
  refine j_iload_n d_W_respondOnly_1 rfl ?_
  refine j_putf d_W_respondOnly_2 f_W_23 rfl (Nat.le_of_ble_eq_true rfl) rfl rfl rfl ?_
  exact j_vret rfl d_W_respondOnly_5 ⟨rfl, rfl⟩
def mtch (f : Nat → Int32) (x m p : Int32) (w : Nat) : Bool := bt x w && decide ((f w ^^^ p) &&& m = 0)
theorem m_W_matching (K : jK) (d : Nat) (hd : 1 ≤ d) (S : jS) (J : jH) (x m p : Int32) : jM K M_W_matching d [.ref 38, .int x, .int m, .int p] (lay S ++ J) (rI (mkS (mtch (S.2.1 4) x m p) 32) (lay S ++ J)) 0 0 := by
  refine jM.of (by decide) (Nat.le_of_ble_eq_true rfl) ?_
  have loop : ∀ k i, i + k = 32 → jE K M_W_matching d 6 [(0, .ref 38), (1, .int x), (2, .int m), (3, .int p), (4, .int (mkS (mtch (S.2.1 4) x m p) i)), (5, .int (nI i))] [] (lay S ++ J) (rI (mkS (mtch (S.2.1 4) x m p) 32) (lay S ++ J)) 0 0 := by
    intro k
    induction k with
    | zero =>
      intro i hi
      have : i = 32 := by omega
      subst this
      refine j_iload d_W_matching_6 rfl ?_
      refine j_bipush (v := 32) d_W_matching_8 (by decide) ?_
      refine j_icmp_geT (tgt := 51) d_W_matching_10 rfl (show nI 32 ≤ nI 32 from nI_le (by omega) (by omega)) ?_
      refine j_iload d_W_matching_51 rfl ?_
      exact j_iret rfl d_W_matching_53 ⟨rfl, rfl⟩
    | succ k ih =>
      intro i hi
      refine j_iload d_W_matching_6 rfl ?_
      refine j_bipush (v := 32) d_W_matching_8 (by decide) ?_
      refine j_icmp_geF (tgt := 51) d_W_matching_10 rfl (show ¬ nI 32 ≤ nI i from nI_ge (by omega) (by omega)) ?_
      refine j_iload_n d_W_matching_13 rfl ?_
      refine j_iload d_W_matching_14 rfl ?_
      refine j_retI (j_callS d_W_matching_16 s_W_holds l_W_15 rfl (m_W_holds K (d - 1) _ x i (by omega)) (by omega) (by decide) (Nat.le_of_ble_eq_true rfl) rfl) rfl ?_
      cases hb : bt x i with
      | false =>
        refine j_if_eqT (tgt := 45) d_W_matching_19 rfl rfl ?_
        refine j_iincN d_W_matching_45 rfl (by decide) ?_
        refine j_goto (tgt := 6) d_W_matching_48 rfl ?_
        refine j_loc' [(0, .ref 38), (1, .int x), (2, .int m), (3, .int p), (4, .int (mkS (mtch (S.2.1 4) x m p) (i + 1))), (5, .int (nI (i + 1)))] ⟨rfl, rfl, rfl, rfl, by rw [show mkS (mtch (S.2.1 4) x m p) (i + 1) = mkS (mtch (S.2.1 4) x m p) i by rw [mkS]; simp [mtch, hb]]; rfl, rfl, trivial⟩ (ih (i + 1) (by omega))
      | true =>
        refine j_if_eqF (tgt := 45) d_W_matching_19 rfl (by decide) ?_
        refine j_aload_n d_W_matching_22 rfl ?_
        refine j_getf d_W_matching_23 f_W_9 rfl rfl ?_
        refine j_iload d_W_matching_26 rfl ?_
        refine j_iald d_W_matching_28 rfl (show i < 32 by omega) (by decide) ?_
        refine j_iload_n d_W_matching_29 rfl ?_
        refine j_ixor d_W_matching_30 ?_
        refine j_iload_n d_W_matching_31 rfl ?_
        refine j_iand d_W_matching_32 ?_
        refine j_if_ne (tgt := 45) d_W_matching_33 rfl (fun hc => ?_) (fun hc => ?_)
        · refine j_iincN d_W_matching_45 rfl (by decide) ?_
          refine j_goto (tgt := 6) d_W_matching_48 rfl ?_
          refine j_loc' [(0, .ref 38), (1, .int x), (2, .int m), (3, .int p), (4, .int (mkS (mtch (S.2.1 4) x m p) (i + 1))), (5, .int (nI (i + 1)))] ⟨rfl, rfl, rfl, rfl, by rw [show mkS (mtch (S.2.1 4) x m p) (i + 1) = mkS (mtch (S.2.1 4) x m p) i by rw [mkS]; simp [mtch, hc]]; rfl, rfl, trivial⟩ (ih (i + 1) (by omega))
        · refine j_iload d_W_matching_36 rfl ?_
          refine j_iconst (v := 1) d_W_matching_38 rfl ?_
          refine j_iload d_W_matching_39 rfl ?_
          refine j_ishl d_W_matching_41 ?_
          refine j_ior d_W_matching_42 ?_
          refine j_istore d_W_matching_43 (by decide) ?_
          refine j_iincN d_W_matching_45 rfl (by decide) ?_
          refine j_goto (tgt := 6) d_W_matching_48 rfl ?_
          refine j_loc' [(0, .ref 38), (1, .int x), (2, .int m), (3, .int p), (4, .int (mkS (mtch (S.2.1 4) x m p) (i + 1))), (5, .int (nI (i + 1)))] ⟨rfl, rfl, rfl, rfl, by rw [show mkS (mtch (S.2.1 4) x m p) (i + 1) = mkS (mtch (S.2.1 4) x m p) i ||| ((1 : Int32) <<< (nI i &&& 31)) by rw [mkS]; simp [mtch, hc, hb]]; rfl, rfl, trivial⟩ (ih (i + 1) (by omega))
  refine j_iconst (v := 0) d_W_matching_0 rfl ?_
  refine j_istore d_W_matching_1 (by decide) ?_
  refine j_iconst (v := 0) d_W_matching_3 rfl ?_
  refine j_istore d_W_matching_4 (by decide) ?_
  exact j_loc' [(0, .ref 38), (1, .int x), (2, .int m), (3, .int p), (4, .int (mkS (mtch (S.2.1 4) x m p) 0)), (5, .int (nI 0))] ⟨rfl, rfl, rfl, rfl, rfl, rfl, trivial⟩ (loop 32 0 rfl)
theorem m_W_overwrite (K : jK) (d : Nat) (hd : 1 ≤ d) (S : jS) (J : jH) (x m p : Int32) : jM K M_W_overwrite d [.ref 38, .int x, .int m, .int p] (lay S ++ J) (rV (lay (s2 S 4 (ovF (S.2.1 4) x m p 32)) ++ J)) 0 0 := by
  refine jM.of (by decide) (Nat.le_of_ble_eq_true rfl) ?_
  have loop : ∀ k i, i + k = 32 → jE K M_W_overwrite d 3 [(0, .ref 38), (1, .int x), (2, .int m), (3, .int p), (4, .int (nI i))] [] (lay (s2 S 4 (ovF (S.2.1 4) x m p i)) ++ J) (rV (lay (s2 S 4 (ovF (S.2.1 4) x m p 32)) ++ J)) 0 0 := by
    intro k
    induction k with
    | zero =>
      intro i hi
      have : i = 32 := by omega
      subst this
      refine j_iload d_W_overwrite_3 rfl ?_
      refine j_bipush (v := 32) d_W_overwrite_5 (by decide) ?_
      refine j_icmp_geT (tgt := 47) d_W_overwrite_7 rfl (show nI 32 ≤ nI 32 from nI_le (by omega) (by omega)) ?_
      exact j_vret rfl d_W_overwrite_47 ⟨rfl, rfl⟩
    | succ k ih =>
      intro i hi
      have ih' := ih (i + 1) (by omega)
      rw [ovF_s] at ih'
      refine j_iload d_W_overwrite_3 rfl ?_
      refine j_bipush (v := 32) d_W_overwrite_5 (by decide) ?_
      refine j_icmp_geF (tgt := 47) d_W_overwrite_7 rfl (show ¬ nI 32 ≤ nI i from nI_ge (by omega) (by omega)) ?_
      refine j_iload_n d_W_overwrite_10 rfl ?_
      refine j_iload d_W_overwrite_11 rfl ?_
      refine j_retI (j_callS d_W_overwrite_13 s_W_holds l_W_15 rfl (m_W_holds K (d - 1) _ x i (by omega)) (by omega) (by decide) (Nat.le_of_ble_eq_true rfl) rfl) rfl ?_
      cases hb : bt x i with
      | false =>
        rw [hb] at ih'
        refine j_if_eqT (tgt := 41) d_W_overwrite_16 rfl rfl ?_
        refine j_iincN d_W_overwrite_41 rfl (by decide) ?_
        refine j_goto (tgt := 3) d_W_overwrite_44 rfl ?_
        exact j_loc' [(0, .ref 38), (1, .int x), (2, .int m), (3, .int p), (4, .int (nI (i + 1)))] ⟨rfl, rfl, rfl, rfl, rfl, trivial⟩ ih'
      | true =>
        rw [hb] at ih'
        refine j_if_eqF (tgt := 41) d_W_overwrite_16 rfl (by decide) ?_
        refine j_aload_n d_W_overwrite_19 rfl ?_
        refine j_getf d_W_overwrite_20 f_W_9 rfl rfl ?_
        refine j_iload d_W_overwrite_23 rfl ?_
        refine j_aload_n d_W_overwrite_25 rfl ?_
        refine j_getf d_W_overwrite_26 f_W_9 rfl rfl ?_
        refine j_iload d_W_overwrite_29 rfl ?_
        refine j_iald d_W_overwrite_31 rfl (show i < 32 by omega) (by decide) ?_
        refine j_iload_n d_W_overwrite_32 rfl ?_
        refine j_iconst (v := -1) d_W_overwrite_33 rfl ?_
        refine j_ixor d_W_overwrite_34 ?_
        refine j_iand d_W_overwrite_35 ?_
        refine j_iload_n d_W_overwrite_36 rfl ?_
        refine j_iload_n d_W_overwrite_37 rfl ?_
        refine j_iand d_W_overwrite_38 ?_
        refine j_ior d_W_overwrite_39 ?_
        refine j_top (w := .int ((S.2.1 4 i &&& (m ^^^ (-1))) ||| (p &&& m))) (by simp [ovF, va_up]) ?_
        refine j_iast d_W_overwrite_40 rfl (show i < 32 by omega) (by decide) rfl ?_
        refine j_iincN d_W_overwrite_41 rfl (by decide) ?_
        refine j_goto (tgt := 3) d_W_overwrite_44 rfl ?_
        exact j_loc' [(0, .ref 38), (1, .int x), (2, .int m), (3, .int p), (4, .int (nI (i + 1)))] ⟨rfl, rfl, rfl, rfl, rfl, trivial⟩ ih'
  refine j_iconst (v := 0) d_W_overwrite_0 rfl ?_
  refine j_istore d_W_overwrite_1 (by decide) ?_
  have l0 := loop 32 0 rfl
  rw [ovF_0] at l0
  exact j_loc' [(0, .ref 38), (1, .int x), (2, .int m), (3, .int p), (4, .int (nI 0))] ⟨rfl, rfl, rfl, rfl, rfl, trivial⟩ l0
end
section
/-! BitLoom$Text -/
theorem m_T_codeOf (K : jK) (d : Nat) (h : jH) (x : Int64) (i : Nat) : jM K M_T_codeOf d [.long x, .int (nI i)] (h) (rI (cd x i) h) 0 0 := by
  refine jM.of (by decide) (Nat.le_of_ble_eq_true rfl) ?_
  refine j_lload_n d_T_codeOf_0 rfl ?_
  refine j_bipush (v := 8) d_T_codeOf_1 (by decide) ?_
  refine j_iload_n d_T_codeOf_3 rfl ?_
  refine j_imul d_T_codeOf_4 ?_
  refine j_lushr d_T_codeOf_5 ?_
  refine j_ldc2 d_T_codeOf_6 c_T_23 ?_
  refine j_land d_T_codeOf_9 ?_
  refine j_l2i d_T_codeOf_10 ?_
  exact j_iret rfl d_T_codeOf_11 ⟨rfl, rfl⟩
theorem m_T_length (K : jK) (d : Nat) (S : jS) (J : jH) : jM K M_T_length d [.ref 40] (lay S ++ J) (rI (S.1 6) (lay S ++ J)) 0 0 := by
  refine jM.of (by decide) (Nat.le_of_ble_eq_true rfl) ?_
  refine j_aload_n d_T_length_0 rfl ?_
  refine j_getf d_T_length_1 f_T_15 rfl rfl ?_
  exact j_iret rfl d_T_length_4 ⟨rfl, rfl⟩
theorem m_T_clear (K : jK) (d : Nat) (S : jS) (J : jH) : jM K M_T_clear d [.ref 40] (lay S ++ J) (rV (lay (s1 S 6 0) ++ J)) 0 0 := by
  refine jM.of (by decide) (Nat.le_of_ble_eq_true rfl) ?_
  refine j_aload_n d_T_clear_0 rfl ?_
  refine j_iconst (v := 0) d_T_clear_1 rfl ?_
  refine j_putf d_T_clear_2 f_T_15 rfl (Nat.le_of_ble_eq_true rfl) rfl rfl rfl ?_
  exact j_vret rfl d_T_clear_5 ⟨rfl, rfl⟩
def chOk (f : Nat → Int32) : Prop := ∀ j, narrow .char (.int (f j)) = .int (f j)
theorem m_T_at (K : jK) (d : Nat) (S : jS) (J : jH) (n j : Nat) (hn : S.1 6 = nI n) (h100 : n ≤ 100) (hj : j < 2 ^ 31) (hc : chOk (S.2.1 5)) : jM K M_T_at d [.ref 40, .int (nI j)] (lay S ++ J) (rI (if j < n then S.2.1 5 j else 0) (lay S ++ J)) 0 0 := by
  refine jM.of (by decide) (Nat.le_of_ble_eq_true rfl) ?_
  refine j_iload_n d_T_at_0 rfl ?_
  refine j_if_ltF (tgt := 21) d_T_at_1 rfl (nI_pos hj) ?_
  refine j_iload_n d_T_at_4 rfl ?_
  refine j_aload_n d_T_at_5 rfl ?_
  refine j_getf d_T_at_6 f_T_15 rfl rfl ?_
  by_cases hl : j < n
  · refine j_icmp_geF (tgt := 21) d_T_at_9 rfl (by rw [hn]; exact nI_ge hl (by omega)) ?_
    refine j_aload_n d_T_at_12 rfl ?_
    refine j_getf d_T_at_13 f_T_9 rfl rfl ?_
    refine j_iload_n d_T_at_16 rfl ?_
    refine j_cald d_T_at_17 rfl (show j < 100 by omega) (by decide) ?_
    refine j_goto (tgt := 22) d_T_at_18 rfl ?_
    exact j_zret rfl (hc j) d_T_at_22 ⟨by rw [if_pos hl], rfl⟩
  · refine j_icmp_geT (tgt := 21) d_T_at_9 rfl (by rw [hn]; exact nI_le (by omega) hj) ?_
    refine j_iconst (v := 0) d_T_at_21 rfl ?_
    exact j_zret rfl rfl d_T_at_22 ⟨by rw [if_neg hl], rfl⟩
theorem m_T_canTake (K : jK) (d : Nat) (hd : 1 ≤ d) (S : jS) (J : jH) (x : Int64) (n : Nat) (hn : S.1 6 = nI n) (h100 : n ≤ 100) : jM K M_T_canTake d [.ref 40, .long x] (lay S ++ J) (rI (canT x n) (lay S ++ J)) 0 0 := by
  refine jM.of (by decide) (Nat.le_of_ble_eq_true rfl) ?_
  have loop : ∀ k i m, i + k = 8 → m ≤ i → ctk x 8 0 0 = ctk x k i m → jE K M_T_canTake d 5 [(0, .ref 40), (1, .long x), (3, .int (nI m)), (4, .int (nI i))] [] (lay S ++ J) (rI (canT x n) (lay S ++ J)) 0 0 := by
    intro k
    induction k with
    | zero =>
      intro i m hi hm he
      refine j_iload d_T_canTake_5 rfl ?_
      refine j_bipush (v := 8) d_T_canTake_7 (by decide) ?_
      refine j_icmp_geT (tgt := 50) d_T_canTake_9 rfl (show nI 8 ≤ nI i from nI_le (by omega) (by omega)) ?_
      refine j_aload_n d_T_canTake_50 rfl ?_
      refine j_getf d_T_canTake_51 f_T_15 rfl rfl ?_
      refine j_top (w := .int (nI n)) (congrArg Value.int hn) ?_
      refine j_iload_n d_T_canTake_54 rfl ?_
      refine j_iadd d_T_canTake_55 ?_
      refine j_top (w := .int (nI (n + m))) (congrArg Value.int (nI_add n m)) ?_
      refine j_bipush (v := 100) d_T_canTake_56 (by decide) ?_
      by_cases hl : n + m ≤ 100
      · refine j_icmp_gtF (tgt := 65) d_T_canTake_58 rfl (show ¬ nI 100 < nI (n + m) from nI_nlt (by omega) (by omega)) ?_
        refine j_iconst (v := 1) d_T_canTake_61 rfl ?_
        refine j_goto (tgt := 66) d_T_canTake_62 rfl ?_
        exact j_zret rfl rfl d_T_canTake_66 ⟨by rw [canT, he, ctk]; simp [hl], rfl⟩
      · refine j_icmp_gtT (tgt := 65) d_T_canTake_58 rfl (show nI 100 < nI (n + m) from nI_lt (by omega) (by omega)) ?_
        refine j_iconst (v := 0) d_T_canTake_65 rfl ?_
        exact j_zret rfl rfl d_T_canTake_66 ⟨by rw [canT, he, ctk]; simp [hl], rfl⟩
    | succ k ih =>
      intro i m hi hm he
      refine j_iload d_T_canTake_5 rfl ?_
      refine j_bipush (v := 8) d_T_canTake_7 (by decide) ?_
      refine j_icmp_geF (tgt := 50) d_T_canTake_9 rfl (show ¬ nI 8 ≤ nI i from nI_ge (by omega) (by omega)) ?_
      refine j_lload_n d_T_canTake_12 rfl ?_
      refine j_iload d_T_canTake_13 rfl ?_
      refine j_retI (j_callS d_T_canTake_15 s_T_codeOf l_T_19 rfl (m_T_codeOf K (d - 1) _ x i) (by omega) (by decide) (Nat.le_of_ble_eq_true rfl) rfl) rfl ?_
      refine j_istore d_T_canTake_18 (by decide) ?_
      refine j_iload d_T_canTake_20 rfl ?_
      refine j_if_eq (tgt := 44) d_T_canTake_22 rfl (fun hc => ?_) (fun hc => ?_)
      · refine j_iincN d_T_canTake_44 rfl (by decide) ?_
        refine j_goto (tgt := 5) d_T_canTake_47 rfl ?_
        exact j_loc' [(0, .ref 40), (1, .long x), (3, .int (nI m)), (4, .int (nI (i + 1)))] ⟨rfl, rfl, rfl, rfl, trivial⟩ (ih (i + 1) m (by omega) (by omega) (by rw [he, ctk, if_pos hc]))
      · refine j_iload d_T_canTake_25 rfl ?_
        refine j_bipush (v := 32) d_T_canTake_27 (by decide) ?_
        refine j_icmp_lt (tgt := 39) d_T_canTake_29 rfl (fun h2 => ?_) (fun h2 => ?_)
        · refine j_iconst (v := 0) d_T_canTake_39 rfl ?_
          exact j_zret rfl rfl d_T_canTake_40 ⟨by rw [canT, he, ctk, if_neg hc, if_pos h2], rfl⟩
        · refine j_iload d_T_canTake_32 rfl ?_
          refine j_bipush (v := 126) d_T_canTake_34 (by decide) ?_
          refine j_icmp_le (tgt := 41) d_T_canTake_36 rfl (fun h3 => ?_) (fun h3 => ?_)
          · refine j_iincN d_T_canTake_41 rfl (by decide) ?_
            refine j_iincN d_T_canTake_44 rfl (by decide) ?_
            refine j_goto (tgt := 5) d_T_canTake_47 rfl ?_
            exact j_loc' [(0, .ref 40), (1, .long x), (3, .int (nI (m + 1))), (4, .int (nI (i + 1)))] ⟨rfl, rfl, rfl, rfl, trivial⟩ (ih (i + 1) (m + 1) (by omega) (by omega) (by rw [he, ctk, if_neg hc, if_neg h2, if_pos h3]))
          · refine j_iconst (v := 0) d_T_canTake_39 rfl ?_
            exact j_zret rfl rfl d_T_canTake_40 ⟨by rw [canT, he, ctk, if_neg hc, if_neg h2, if_neg h3], rfl⟩
  refine j_iconst (v := 0) d_T_canTake_0 rfl ?_
  refine j_istore_n d_T_canTake_1 (by decide) ?_
  refine j_iconst (v := 0) d_T_canTake_2 rfl ?_
  refine j_istore d_T_canTake_3 (by decide) ?_
  exact j_loc' [(0, .ref 40), (1, .long x), (3, .int (nI 0)), (4, .int (nI 0))] ⟨rfl, rfl, rfl, rfl, trivial⟩ (loop 8 0 0 rfl (by omega) rfl)
theorem m_T_append (K : jK) (d : Nat) (hd : 1 ≤ d) (S : jS) (J : jH) (x : Int64) (n : Nat) (hn : S.1 6 = nI n) (h100 : n ≤ 100) : jM K M_T_append d [.ref 40, .long x] (lay S ++ J) (rV (lay (s1 (s2 S 5 (apT x 8 0 (n, S.2.1 5)).2) 6 (nI (apT x 8 0 (n, S.2.1 5)).1)) ++ J)) 0 0 := by
  refine jM.of (by decide) (Nat.le_of_ble_eq_true rfl) ?_
  have loop : ∀ k i (q : Nat × (Nat → Int32)), i + k = 8 → q.1 ≤ 100 → apT x 8 0 (n, S.2.1 5) = apT x k i q → jE K M_T_append d 2 [(0, .ref 40), (1, .long x), (3, .int (nI i))] [] (lay (s1 (s2 S 5 q.2) 6 (nI q.1)) ++ J) (rV (lay (s1 (s2 S 5 (apT x 8 0 (n, S.2.1 5)).2) 6 (nI (apT x 8 0 (n, S.2.1 5)).1)) ++ J)) 0 0 := by
    intro k
    induction k with
    | zero =>
      intro i q hi hq he
      refine j_iload_n d_T_append_2 rfl ?_
      refine j_bipush (v := 8) d_T_append_3 (by decide) ?_
      refine j_icmp_geT (tgt := 57) d_T_append_5 rfl (show nI 8 ≤ nI i from nI_le (by omega) (by omega)) ?_
      exact j_vret rfl d_T_append_57 ⟨rfl, by rw [he]; rfl⟩
    | succ k ih =>
      intro i q hi hq he
      refine j_iload_n d_T_append_2 rfl ?_
      refine j_bipush (v := 8) d_T_append_3 (by decide) ?_
      refine j_icmp_geF (tgt := 57) d_T_append_5 rfl (show ¬ nI 8 ≤ nI i from nI_ge (by omega) (by omega)) ?_
      refine j_lload_n d_T_append_8 rfl ?_
      refine j_iload_n d_T_append_9 rfl ?_
      refine j_retI (j_callS d_T_append_10 s_T_codeOf l_T_19 rfl (m_T_codeOf K (d - 1) _ x i) (by omega) (by decide) (Nat.le_of_ble_eq_true rfl) rfl) rfl ?_
      refine j_istore d_T_append_13 (by decide) ?_
      refine j_iload d_T_append_15 rfl ?_
      refine j_if_eq (tgt := 51) d_T_append_17 rfl (fun hc => ?_) (fun hc => ?_)
      · refine j_iincN d_T_append_51 rfl (by decide) ?_
        refine j_goto (tgt := 2) d_T_append_54 rfl ?_
        exact j_loc' [(0, .ref 40), (1, .long x), (3, .int (nI (i + 1)))] ⟨rfl, rfl, rfl, trivial⟩ (ih (i + 1) q (by omega) hq (by rw [he, apT, if_pos hc]))
      · refine j_aload_n d_T_append_20 rfl ?_
        refine j_getf d_T_append_21 f_T_15 rfl rfl ?_
        refine j_top (w := .int (nI q.1)) rfl ?_
        refine j_bipush (v := 100) d_T_append_24 (by decide) ?_
        by_cases hl : 100 ≤ q.1
        · refine j_icmp_geT (tgt := 51) d_T_append_26 rfl (show nI 100 ≤ nI q.1 from nI_le hl (by omega)) ?_
          refine j_iincN d_T_append_51 rfl (by decide) ?_
          refine j_goto (tgt := 2) d_T_append_54 rfl ?_
          exact j_loc' [(0, .ref 40), (1, .long x), (3, .int (nI (i + 1)))] ⟨rfl, rfl, rfl, trivial⟩ (ih (i + 1) q (by omega) hq (by rw [he, apT, if_neg hc, if_pos hl]))
        · refine j_icmp_geF (tgt := 51) d_T_append_26 rfl (show ¬ nI 100 ≤ nI q.1 from nI_ge (by omega) (by omega)) ?_
          refine j_aload_n d_T_append_29 rfl ?_
          refine j_getf d_T_append_30 f_T_9 rfl rfl ?_
          refine j_aload_n d_T_append_33 rfl ?_
          refine j_getf d_T_append_34 f_T_15 rfl rfl ?_
          refine j_top (w := .int (nI q.1)) rfl ?_
          refine j_iload d_T_append_37 rfl ?_
          refine j_i2c d_T_append_39 ?_
          obtain ⟨c, hc256, hce⟩ := cd_nI x i
          refine j_top (w := .int (cd x i)) (by rw [hce, nI_i2c (by omega)]) ?_
          refine j_cast d_T_append_40 rfl (show q.1 < 100 by omega) (by decide) (by rw [hce]; exact (pk_charN (by omega)).1) rfl ?_
          refine j_aload_n d_T_append_41 rfl ?_
          refine j_dup d_T_append_42 rfl ?_
          refine j_getf d_T_append_43 f_T_15 rfl rfl ?_
          refine j_top (w := .int (nI q.1)) rfl ?_
          refine j_iconst (v := 1) d_T_append_46 rfl ?_
          refine j_iadd d_T_append_47 ?_
          refine j_top (w := .int (nI (q.1 + 1))) (by rw [nI_succ]) ?_
          refine j_putf d_T_append_48 f_T_15 rfl (Nat.le_of_ble_eq_true rfl) rfl rfl rfl ?_
          refine j_iincN d_T_append_51 rfl (by decide) ?_
          refine j_goto (tgt := 2) d_T_append_54 rfl ?_
          exact j_loc' [(0, .ref 40), (1, .long x), (3, .int (nI (i + 1)))] ⟨rfl, rfl, rfl, trivial⟩ (ih (i + 1) (q.1 + 1, upd q.2 q.1 (cd x i)) (by omega) (by show q.1 + 1 ≤ 100; omega) (by rw [he, apT, if_neg hc, if_neg hl]))
  refine j_iconst (v := 0) d_T_append_0 rfl ?_
  refine j_istore_n d_T_append_1 (by decide) ?_
  refine j_hp (h' := lay (s1 (s2 S 5 (n, S.2.1 5).2) 6 (nI (n, S.2.1 5).1)) ++ J) (by
    rw [show (s1 (s2 S 5 (n, S.2.1 5).2) 6 (nI (n, S.2.1 5).1)) = S by
      rw [← hn]
      obtain ⟨S1, S2, S3⟩ := S
      simp only [s1, s2, Prod.mk.injEq]
      exact ⟨by funext j; by_cases hj : j = 6 <;> simp [va_up, hj], by funext j; by_cases hj : j = 5 <;> simp [va_up, hj], trivial⟩]) ?_
  exact j_loc' [(0, .ref 40), (1, .long x), (3, .int (nI 0))] ⟨rfl, rfl, rfl, trivial⟩ (loop 8 0 (n, S.2.1 5) rfl h100 rfl)
end
section
/-! BitLoom, its calls but run -/
theorem nI_m1 {i : Nat} (hi : i < 32) : ¬ nI i = -1 := by
  intro q
  have := congrArg Int32.toInt q
  rw [nI_toInt (by omega)] at this
  have h2 : (-1 : Int32).toInt = -1 := by decide
  omega
/-- no word has this number -/
def badW (w : Int32) : Prop := w < 0 ∨ 32 ≤ w
theorem m_B_requireWord (K : jK) (d : Nat) (h : jH) (i : Nat) (hi : i < 32) : jM K M_B_requireWord d [.ref 32, .int (nI i)] (h) (rV h) 0 0 := by
  refine jM.of (by decide) (Nat.le_of_ble_eq_true rfl) ?_
  refine j_iload_n d_B_requireWord_0 rfl ?_
  refine j_if_ltF (tgt := 10) d_B_requireWord_1 rfl (nI_pos (by omega)) ?_
  refine j_iload_n d_B_requireWord_4 rfl ?_
  refine j_bipush (v := 32) d_B_requireWord_5 (by decide) ?_
  refine j_icmp_ltT (tgt := 18) d_B_requireWord_7 rfl (show nI i < nI 32 from nI_lt hi (by omega)) ?_
  exact j_vret rfl d_B_requireWord_18 ⟨rfl, rfl⟩
theorem m_B_requireWord_x (K : jK) (d : Nat) (hd : 6 ≤ d) (h : jH) (w : Int32) (hw : badW w) : jM K M_B_requireWord d [.ref 32, .int w] (h) (rX 10 h) 0 0 := by
  refine jM.of (by decide) (Nat.le_of_ble_eq_true rfl) ?_
  refine j_iload_n d_B_requireWord_0 rfl ?_
  refine j_if_lt (tgt := 10) d_B_requireWord_1 rfl (fun h1 => ?_) (fun h1 => ?_)
  · exact j_throw d_B_requireWord_10 d_B_requireWord_13 d_B_requireWord_14 d_B_requireWord_17 x_B_51 rfl (by omega) (Nat.le_of_ble_eq_true rfl) ⟨rfl, rfl⟩
  · refine j_iload_n d_B_requireWord_4 rfl ?_
    refine j_bipush (v := 32) d_B_requireWord_5 (by decide) ?_
    refine j_icmp_ltF (tgt := 18) d_B_requireWord_7 rfl (hw.elim (fun q => absurd q h1) (fun q => Int32.not_lt.mpr q)) ?_
    exact j_throw d_B_requireWord_10 d_B_requireWord_13 d_B_requireWord_14 d_B_requireWord_17 x_B_51 rfl (by omega) (Nat.le_of_ble_eq_true rfl) ⟨rfl, rfl⟩
theorem m_B_requireField (K : jK) (d : Nat) (hd : 1 ≤ d) (S : jS) (J : jH) (c : Int32) (n : Nat) (hn : S.1 2 = nI n) (h6 : n ≤ 6) (hf : ¬ ixOf (S.2.1 0) c n 0 = -1) : jM K M_B_requireField d [.ref 32, .int c] (lay S ++ J) (rI (ixOf (S.2.1 0) c n 0) (lay S ++ J)) 0 0 := by
  refine jM.of (by decide) (Nat.le_of_ble_eq_true rfl) ?_
  refine j_aload_n d_B_requireField_0 rfl ?_
  refine j_getf d_B_requireField_1 f_B_12 rfl rfl ?_
  refine j_iload_n d_B_requireField_4 rfl ?_
  refine j_retI (j_callV d_B_requireField_5 v_F_indexOf l_B_175 rfl rfl (m_F_indexOf K (d - 1) S J c n hn h6) (by omega) (by decide) (Nat.le_of_ble_eq_true rfl) rfl) rfl ?_
  refine j_istore_n d_B_requireField_8 (by decide) ?_
  refine j_iload_n d_B_requireField_9 rfl ?_
  refine j_iconst (v := -1) d_B_requireField_10 rfl ?_
  refine j_icmp_neT (tgt := 22) d_B_requireField_11 rfl (hf) ?_
  refine j_iload_n d_B_requireField_22 rfl ?_
  exact j_iret rfl d_B_requireField_23 ⟨rfl, rfl⟩
theorem m_B_requireField_x (K : jK) (d : Nat) (hd : 6 ≤ d) (S : jS) (J : jH) (c : Int32) (n : Nat) (hn : S.1 2 = nI n) (h6 : n ≤ 6) (hf : ixOf (S.2.1 0) c n 0 = -1) : jM K M_B_requireField d [.ref 32, .int c] (lay S ++ J) (rX 10 (lay S ++ J)) 0 0 := by
  refine jM.of (by decide) (Nat.le_of_ble_eq_true rfl) ?_
  refine j_aload_n d_B_requireField_0 rfl ?_
  refine j_getf d_B_requireField_1 f_B_12 rfl rfl ?_
  refine j_iload_n d_B_requireField_4 rfl ?_
  refine j_retI (j_callV d_B_requireField_5 v_F_indexOf l_B_175 rfl rfl (m_F_indexOf K (d - 1) S J c n hn h6) (by omega) (by decide) (Nat.le_of_ble_eq_true rfl) rfl) rfl ?_
  refine j_istore_n d_B_requireField_8 (by decide) ?_
  refine j_iload_n d_B_requireField_9 rfl ?_
  refine j_iconst (v := -1) d_B_requireField_10 rfl ?_
  refine j_icmp_neF (tgt := 22) d_B_requireField_11 rfl (hf) ?_
  exact j_throw d_B_requireField_14 d_B_requireField_17 d_B_requireField_18 d_B_requireField_21 x_B_51 rfl (by omega) (Nat.le_of_ble_eq_true rfl) ⟨rfl, rfl⟩
theorem m_B_requireInUse (K : jK) (d : Nat) (hd : 1 ≤ d) (S : jS) (J : jH) (i : Nat) (hi : i < 32) (hu : bt (S.1 4) i = true) : jM K M_B_requireInUse d [.ref 32, .int (nI i)] (lay S ++ J) (rV (lay S ++ J)) 0 0 := by
  refine jM.of (by decide) (Nat.le_of_ble_eq_true rfl) ?_
  refine j_aload_n d_B_requireInUse_0 rfl ?_
  refine j_getf d_B_requireInUse_1 f_B_19 rfl rfl ?_
  refine j_retI (j_callV d_B_requireInUse_4 v_W_inUse l_B_114 rfl rfl (m_W_inUse K (d - 1) S J) (by omega) (by decide) (Nat.le_of_ble_eq_true rfl) rfl) rfl ?_
  refine j_iload_n d_B_requireInUse_7 rfl ?_
  refine j_retI (j_callS d_B_requireInUse_8 s_W_holds l_B_133 rfl (m_W_holds K (d - 1) _ _ i (by omega)) (by omega) (by decide) (Nat.le_of_ble_eq_true rfl) rfl) rfl ?_
  rw [hu]
  refine j_if_neT (tgt := 22) d_B_requireInUse_11 rfl (by decide) ?_
  exact j_vret rfl d_B_requireInUse_22 ⟨rfl, rfl⟩
theorem m_B_requireInUse_x (K : jK) (d : Nat) (hd : 6 ≤ d) (S : jS) (J : jH) (i : Nat) (hi : i < 32) (hu : bt (S.1 4) i = false) : jM K M_B_requireInUse d [.ref 32, .int (nI i)] (lay S ++ J) (rX 11 (lay S ++ J)) 0 0 := by
  refine jM.of (by decide) (Nat.le_of_ble_eq_true rfl) ?_
  refine j_aload_n d_B_requireInUse_0 rfl ?_
  refine j_getf d_B_requireInUse_1 f_B_19 rfl rfl ?_
  refine j_retI (j_callV d_B_requireInUse_4 v_W_inUse l_B_114 rfl rfl (m_W_inUse K (d - 1) S J) (by omega) (by decide) (Nat.le_of_ble_eq_true rfl) rfl) rfl ?_
  refine j_iload_n d_B_requireInUse_7 rfl ?_
  refine j_retI (j_callS d_B_requireInUse_8 s_W_holds l_B_133 rfl (m_W_holds K (d - 1) _ _ i (by omega)) (by omega) (by decide) (Nat.le_of_ble_eq_true rfl) rfl) rfl ?_
  rw [hu]
  refine j_if_neF (tgt := 22) d_B_requireInUse_11 rfl (rfl) ?_
  exact j_throw d_B_requireInUse_14 d_B_requireInUse_17 d_B_requireInUse_18 d_B_requireInUse_21 x_B_73 rfl (by omega) (Nat.le_of_ble_eq_true rfl) ⟨rfl, rfl⟩
theorem m_B_field_x1 (K : jK) (d : Nat) (hd : 6 ≤ d) (S : jS) (J : jH) (c a w z : Int32) (n : Nat) (hn : S.1 2 = nI n) (h6 : n ≤ 6) (hx : newNm (S.2.1 0) n c = 0 ∨ opnG (S.1 3) a w = 0) : jM K M_B_field d [.ref 32, .int c, .int a, .int w, .int z] (lay S ++ J) (rX 10 (lay S ++ J)) 0 0 := by
  refine jM.of (by decide) (Nat.le_of_ble_eq_true rfl) ?_
  refine j_aload_n d_B_field_0 rfl ?_
  refine j_getf d_B_field_1 f_B_12 rfl rfl ?_
  refine j_iload_n d_B_field_4 rfl ?_
  refine j_retI (j_callV d_B_field_5 v_F_isNewName l_B_43 rfl rfl (m_F_isNewName K (d - 1) (by omega) S J c n hn h6) (by omega) (by decide) (Nat.le_of_ble_eq_true rfl) rfl) rfl ?_
  refine j_if_eq (tgt := 23) d_B_field_8 rfl (fun h8 => ?_) (fun h8 => ?_)
  · exact j_throw d_B_field_23 d_B_field_26 d_B_field_27 d_B_field_30 x_B_51 rfl (by omega) (Nat.le_of_ble_eq_true rfl) ⟨rfl, rfl⟩
  · refine j_aload_n d_B_field_11 rfl ?_
    refine j_getf d_B_field_12 f_B_12 rfl rfl ?_
    refine j_iload_n d_B_field_15 rfl ?_
    refine j_iload_n d_B_field_16 rfl ?_
    refine j_retI (j_callV d_B_field_17 v_F_isOpenGround l_B_47 rfl rfl (m_F_isOpenGround K (d - 1) (by omega) S J a w) (by omega) (by decide) (Nat.le_of_ble_eq_true rfl) rfl) rfl ?_
    refine j_if_neF (tgt := 31) d_B_field_20 rfl ((by rcases hx with hx | hx; exact absurd hx h8; exact hx)) ?_
    exact j_throw d_B_field_23 d_B_field_26 d_B_field_27 d_B_field_30 x_B_51 rfl (by omega) (Nat.le_of_ble_eq_true rfl) ⟨rfl, rfl⟩
theorem m_B_field_x2 (K : jK) (d : Nat) (hd : 6 ≤ d) (S : jS) (J : jH) (c a w z : Int32) (n : Nat) (hn : S.1 2 = nI n) (h6 : n ≤ 6) (hx : ¬ newNm (S.2.1 0) n c = 0) (hy : ¬ opnG (S.1 3) a w = 0) (hz : n = 6) : jM K M_B_field d [.ref 32, .int c, .int a, .int w, .int z] (lay S ++ J) (rX 12 (lay S ++ J)) 0 0 := by
  refine jM.of (by decide) (Nat.le_of_ble_eq_true rfl) ?_
  refine j_aload_n d_B_field_0 rfl ?_
  refine j_getf d_B_field_1 f_B_12 rfl rfl ?_
  refine j_iload_n d_B_field_4 rfl ?_
  refine j_retI (j_callV d_B_field_5 v_F_isNewName l_B_43 rfl rfl (m_F_isNewName K (d - 1) (by omega) S J c n hn h6) (by omega) (by decide) (Nat.le_of_ble_eq_true rfl) rfl) rfl ?_
  refine j_if_eqF (tgt := 23) d_B_field_8 rfl (hx) ?_
  refine j_aload_n d_B_field_11 rfl ?_
  refine j_getf d_B_field_12 f_B_12 rfl rfl ?_
  refine j_iload_n d_B_field_15 rfl ?_
  refine j_iload_n d_B_field_16 rfl ?_
  refine j_retI (j_callV d_B_field_17 v_F_isOpenGround l_B_47 rfl rfl (m_F_isOpenGround K (d - 1) (by omega) S J a w) (by omega) (by decide) (Nat.le_of_ble_eq_true rfl) rfl) rfl ?_
  refine j_if_neT (tgt := 31) d_B_field_20 rfl (hy) ?_
  refine j_aload_n d_B_field_31 rfl ?_
  refine j_getf d_B_field_32 f_B_12 rfl rfl ?_
  refine j_retI (j_callV d_B_field_35 v_F_isFull l_B_54 rfl rfl (m_F_isFull K (d - 1) S J) (by omega) (by decide) (Nat.le_of_ble_eq_true rfl) rfl) rfl ?_
  refine j_if_eqF (tgt := 49) d_B_field_38 rfl (by rw [hn, hz]; decide) ?_
  exact j_throw d_B_field_41 d_B_field_44 d_B_field_45 d_B_field_48 x_B_58 rfl (by omega) (Nat.le_of_ble_eq_true rfl) ⟨rfl, rfl⟩
theorem m_B_field (K : jK) (d : Nat) (hd : 6 ≤ d) (S : jS) (J : jH) (c a w z : Int32) (n : Nat) (hn : S.1 2 = nI n) (h6 : n ≤ 6) (hx : ¬ newNm (S.2.1 0) n c = 0) (hy : ¬ opnG (S.1 3) a w = 0) (hz : n < 6) (hcc : narrow .char (.int c) = .int c) (hzz : narrow .boolean (.int z) = .int z) : jM K M_B_field d [.ref 32, .int c, .int a, .int w, .int z] (lay S ++ J) (rV (lay (s1 (s1 (s2 (s2 (s2 (s2 S 0 (upd (S.2.1 0) n c)) 1 (upd (S.2.1 1) n a)) 2 (upd (S.2.1 2) n w)) 3 (upd (S.2.1 3) n z)) 2 (nI (n + 1))) 3 (S.1 3 ||| grd a w)) ++ J)) 0 0 := by
  refine jM.of (by decide) (Nat.le_of_ble_eq_true rfl) ?_
  refine j_aload_n d_B_field_0 rfl ?_
  refine j_getf d_B_field_1 f_B_12 rfl rfl ?_
  refine j_iload_n d_B_field_4 rfl ?_
  refine j_retI (j_callV d_B_field_5 v_F_isNewName l_B_43 rfl rfl (m_F_isNewName K (d - 1) (by omega) S J c n hn h6) (by omega) (by decide) (Nat.le_of_ble_eq_true rfl) rfl) rfl ?_
  refine j_if_eqF (tgt := 23) d_B_field_8 rfl (hx) ?_
  refine j_aload_n d_B_field_11 rfl ?_
  refine j_getf d_B_field_12 f_B_12 rfl rfl ?_
  refine j_iload_n d_B_field_15 rfl ?_
  refine j_iload_n d_B_field_16 rfl ?_
  refine j_retI (j_callV d_B_field_17 v_F_isOpenGround l_B_47 rfl rfl (m_F_isOpenGround K (d - 1) (by omega) S J a w) (by omega) (by decide) (Nat.le_of_ble_eq_true rfl) rfl) rfl ?_
  refine j_if_neT (tgt := 31) d_B_field_20 rfl (hy) ?_
  refine j_aload_n d_B_field_31 rfl ?_
  refine j_getf d_B_field_32 f_B_12 rfl rfl ?_
  refine j_retI (j_callV d_B_field_35 v_F_isFull l_B_54 rfl rfl (m_F_isFull K (d - 1) S J) (by omega) (by decide) (Nat.le_of_ble_eq_true rfl) rfl) rfl ?_
  refine j_if_eqT (tgt := 49) d_B_field_38 rfl (by rw [hn]; exact if_neg (show ¬ nI 6 ≤ nI n from nI_ge hz (by omega))) ?_
  refine j_aload_n d_B_field_49 rfl ?_
  refine j_getf d_B_field_50 f_B_12 rfl rfl ?_
  refine j_iload_n d_B_field_53 rfl ?_
  refine j_iload_n d_B_field_54 rfl ?_
  refine j_iload_n d_B_field_55 rfl ?_
  refine j_iload d_B_field_56 rfl ?_
  refine j_retV (j_callV d_B_field_58 v_F_append l_B_61 rfl rfl (m_F_append K (d - 1) (by omega) S J c a w z n hn hz hcc hzz) (by omega) (by decide) (Nat.le_of_ble_eq_true rfl) rfl) rfl ?_
  exact j_vret rfl d_B_field_61 ⟨rfl, rfl⟩
theorem m_B_insert_x (K : jK) (d : Nat) (hd : 6 ≤ d) (S : jS) (J : jH) (hx : lowF (S.1 4 ^^^ (-1)) 32 0 = -1) : jM K M_B_insert d [.ref 32] (lay S ++ J) (rX 11 (lay S ++ J)) 0 0 := by
  refine jM.of (by decide) (Nat.le_of_ble_eq_true rfl) ?_
  refine j_aload_n d_B_insert_0 rfl ?_
  refine j_getf d_B_insert_1 f_B_19 rfl rfl ?_
  refine j_retI (j_callV d_B_insert_4 v_W_free l_B_65 rfl rfl (m_W_free K (d - 1) S J) (by omega) (by decide) (Nat.le_of_ble_eq_true rfl) rfl) rfl ?_
  refine j_retI (j_callS d_B_insert_7 s_W_lowestOf l_B_69 rfl (m_W_lowestOf K (d - 1) (by omega) _ _) (by omega) (by decide) (Nat.le_of_ble_eq_true rfl) rfl) rfl ?_
  refine j_istore_n d_B_insert_10 (by decide) ?_
  refine j_iload_n d_B_insert_11 rfl ?_
  refine j_iconst (v := -1) d_B_insert_12 rfl ?_
  refine j_icmp_neF (tgt := 24) d_B_insert_13 rfl (hx) ?_
  exact j_throw d_B_insert_16 d_B_insert_19 d_B_insert_20 d_B_insert_23 x_B_73 rfl (by omega) (Nat.le_of_ble_eq_true rfl) ⟨rfl, rfl⟩
theorem m_B_insert (K : jK) (d : Nat) (hd : 6 ≤ d) (S : jS) (J : jH) (i : Nat) (hi : i < 32) (hx : lowF (S.1 4 ^^^ (-1)) 32 0 = nI i) : jM K M_B_insert d [.ref 32] (lay S ++ J) (rI (nI i) (lay (s1 S 4 (S.1 4 ||| ((1 : Int32) <<< (nI i &&& 31)))) ++ J)) 0 0 := by
  refine jM.of (by decide) (Nat.le_of_ble_eq_true rfl) ?_
  refine j_aload_n d_B_insert_0 rfl ?_
  refine j_getf d_B_insert_1 f_B_19 rfl rfl ?_
  refine j_retI (j_callV d_B_insert_4 v_W_free l_B_65 rfl rfl (m_W_free K (d - 1) S J) (by omega) (by decide) (Nat.le_of_ble_eq_true rfl) rfl) rfl ?_
  refine j_retI (j_callS d_B_insert_7 s_W_lowestOf l_B_69 rfl (m_W_lowestOf K (d - 1) (by omega) _ _) (by omega) (by decide) (Nat.le_of_ble_eq_true rfl) rfl) rfl ?_
  rw [hx]
  refine j_istore_n d_B_insert_10 (by decide) ?_
  refine j_iload_n d_B_insert_11 rfl ?_
  refine j_iconst (v := -1) d_B_insert_12 rfl ?_
  refine j_icmp_neT (tgt := 24) d_B_insert_13 rfl (nI_m1 hi) ?_
  refine j_aload_n d_B_insert_24 rfl ?_
  refine j_getf d_B_insert_25 f_B_19 rfl rfl ?_
  refine j_iload_n d_B_insert_28 rfl ?_
  refine j_retV (j_callV d_B_insert_29 v_W_occupy l_B_76 rfl rfl (m_W_occupy K (d - 1) S J i) (by omega) (by decide) (Nat.le_of_ble_eq_true rfl) rfl) rfl ?_
  refine j_iload_n d_B_insert_32 rfl ?_
  exact j_iret rfl d_B_insert_33 ⟨rfl, rfl⟩
theorem m_B_remove_x1 (K : jK) (d : Nat) (hd : 8 ≤ d) (S : jS) (J : jH) (w : Int32) (hw : badW w) : jM K M_B_remove d [.ref 32, .int w] (lay S ++ J) (rX 10 (lay S ++ J)) 0 0 := by
  refine jM.of (by decide) (Nat.le_of_ble_eq_true rfl) ?_
  refine j_aload_n d_B_remove_0 rfl ?_
  refine j_iload_n d_B_remove_1 rfl ?_
  exact j_retX (j_callV d_B_remove_2 v_B_requireWord l_B_80 rfl rfl (m_B_requireWord_x K (d - 1) (by omega) _ w hw) (by omega) (by decide) (Nat.le_of_ble_eq_true rfl) rfl) rfl ⟨rfl, rfl⟩
theorem m_B_remove_x2 (K : jK) (d : Nat) (hd : 8 ≤ d) (S : jS) (J : jH) (i : Nat) (hi : i < 32) (hu : bt (S.1 4) i = false) : jM K M_B_remove d [.ref 32, .int (nI i)] (lay S ++ J) (rX 11 (lay S ++ J)) 0 0 := by
  refine jM.of (by decide) (Nat.le_of_ble_eq_true rfl) ?_
  refine j_aload_n d_B_remove_0 rfl ?_
  refine j_iload_n d_B_remove_1 rfl ?_
  refine j_retV (j_callV d_B_remove_2 v_B_requireWord l_B_80 rfl rfl (m_B_requireWord K (d - 1) _ i (by omega)) (by omega) (by decide) (Nat.le_of_ble_eq_true rfl) rfl) rfl ?_
  refine j_aload_n d_B_remove_5 rfl ?_
  refine j_iload_n d_B_remove_6 rfl ?_
  exact j_retX (j_callV d_B_remove_7 v_B_requireInUse l_B_83 rfl rfl (m_B_requireInUse_x K (d - 1) (by omega) S J i (by omega) hu) (by omega) (by decide) (Nat.le_of_ble_eq_true rfl) rfl) rfl ⟨rfl, rfl⟩
theorem m_B_remove (K : jK) (d : Nat) (hd : 8 ≤ d) (S : jS) (J : jH) (i : Nat) (hi : i < 32) (hu : bt (S.1 4) i = true) : jM K M_B_remove d [.ref 32, .int (nI i)] (lay S ++ J) (rV (lay (s2 (s1 (s1 S 4 (S.1 4 &&& (((1 : Int32) <<< (nI i &&& 31)) ^^^ (-1)))) 5 (S.1 5 &&& (((1 : Int32) <<< (nI i &&& 31)) ^^^ (-1)))) 4 (upd (S.2.1 4) i 0)) ++ J)) 0 0 := by
  refine jM.of (by decide) (Nat.le_of_ble_eq_true rfl) ?_
  refine j_aload_n d_B_remove_0 rfl ?_
  refine j_iload_n d_B_remove_1 rfl ?_
  refine j_retV (j_callV d_B_remove_2 v_B_requireWord l_B_80 rfl rfl (m_B_requireWord K (d - 1) _ i (by omega)) (by omega) (by decide) (Nat.le_of_ble_eq_true rfl) rfl) rfl ?_
  refine j_aload_n d_B_remove_5 rfl ?_
  refine j_iload_n d_B_remove_6 rfl ?_
  refine j_retV (j_callV d_B_remove_7 v_B_requireInUse l_B_83 rfl rfl (m_B_requireInUse K (d - 1) (by omega) S J i (by omega) hu) (by omega) (by decide) (Nat.le_of_ble_eq_true rfl) rfl) rfl ?_
  refine j_aload_n d_B_remove_10 rfl ?_
  refine j_getf d_B_remove_11 f_B_19 rfl rfl ?_
  refine j_iload_n d_B_remove_14 rfl ?_
  refine j_retV (j_callV d_B_remove_15 v_W_release l_B_86 rfl rfl (m_W_release K (d - 1) S J i hi) (by omega) (by decide) (Nat.le_of_ble_eq_true rfl) rfl) rfl ?_
  exact j_vret rfl d_B_remove_18 ⟨rfl, rfl⟩
theorem m_B_put_x1 (K : jK) (d : Nat) (hd : 8 ≤ d) (S : jS) (J : jH) (w c v : Int32) (hw : badW w) : jM K M_B_put d [.ref 32, .int w, .int c, .int v] (lay S ++ J) (rX 10 (lay S ++ J)) 0 0 := by
  refine jM.of (by decide) (Nat.le_of_ble_eq_true rfl) ?_
  refine j_aload_n d_B_put_0 rfl ?_
  refine j_iload_n d_B_put_1 rfl ?_
  exact j_retX (j_callV d_B_put_2 v_B_requireWord l_B_80 rfl rfl (m_B_requireWord_x K (d - 1) (by omega) _ w hw) (by omega) (by decide) (Nat.le_of_ble_eq_true rfl) rfl) rfl ⟨rfl, rfl⟩
theorem m_B_put_x2 (K : jK) (d : Nat) (hd : 8 ≤ d) (S : jS) (J : jH) (i : Nat) (hi : i < 32) (c v : Int32) (n : Nat) (hn : S.1 2 = nI n) (h6 : n ≤ 6) (hf : ixOf (S.2.1 0) c n 0 = -1) : jM K M_B_put d [.ref 32, .int (nI i), .int c, .int v] (lay S ++ J) (rX 10 (lay S ++ J)) 0 0 := by
  refine jM.of (by decide) (Nat.le_of_ble_eq_true rfl) ?_
  refine j_aload_n d_B_put_0 rfl ?_
  refine j_iload_n d_B_put_1 rfl ?_
  refine j_retV (j_callV d_B_put_2 v_B_requireWord l_B_80 rfl rfl (m_B_requireWord K (d - 1) _ i (by omega)) (by omega) (by decide) (Nat.le_of_ble_eq_true rfl) rfl) rfl ?_
  refine j_aload_n d_B_put_5 rfl ?_
  refine j_iload_n d_B_put_6 rfl ?_
  exact j_retX (j_callV d_B_put_7 v_B_requireField l_B_89 rfl rfl (m_B_requireField_x K (d - 1) (by omega) S J c n hn h6 hf) (by omega) (by decide) (Nat.le_of_ble_eq_true rfl) rfl) rfl ⟨rfl, rfl⟩
theorem m_B_put_x3 (K : jK) (d : Nat) (hd : 8 ≤ d) (S : jS) (J : jH) (i : Nat) (hi : i < 32) (c v : Int32) (n : Nat) (hn : S.1 2 = nI n) (h6 : n ≤ 6)(f : Nat) (hf6 : f < 6) (hf : ixOf (S.2.1 0) c n 0 = nI f) (hu : bt (S.1 4) i = false) : jM K M_B_put d [.ref 32, .int (nI i), .int c, .int v] (lay S ++ J) (rX 11 (lay S ++ J)) 0 0 := by
  refine jM.of (by decide) (Nat.le_of_ble_eq_true rfl) ?_
  refine j_aload_n d_B_put_0 rfl ?_
  refine j_iload_n d_B_put_1 rfl ?_
  refine j_retV (j_callV d_B_put_2 v_B_requireWord l_B_80 rfl rfl (m_B_requireWord K (d - 1) _ i (by omega)) (by omega) (by decide) (Nat.le_of_ble_eq_true rfl) rfl) rfl ?_
  refine j_aload_n d_B_put_5 rfl ?_
  refine j_iload_n d_B_put_6 rfl ?_
  refine j_retI (j_callV d_B_put_7 v_B_requireField l_B_89 rfl rfl (m_B_requireField K (d - 1) (by omega) S J c n hn h6 (by rw [hf]; exact nI_m1 (by omega))) (by omega) (by decide) (Nat.le_of_ble_eq_true rfl) rfl) rfl ?_
  rw [hf]
  refine j_istore d_B_put_10 (by decide) ?_
  refine j_aload_n d_B_put_12 rfl ?_
  refine j_iload_n d_B_put_13 rfl ?_
  exact j_retX (j_callV d_B_put_14 v_B_requireInUse l_B_83 rfl rfl (m_B_requireInUse_x K (d - 1) (by omega) S J i (by omega) hu) (by omega) (by decide) (Nat.le_of_ble_eq_true rfl) rfl) rfl ⟨rfl, rfl⟩
theorem m_B_put_x4 (K : jK) (d : Nat) (hd : 8 ≤ d) (S : jS) (J : jH) (i : Nat) (hi : i < 32) (c v : Int32) (n : Nat) (hn : S.1 2 = nI n) (h6 : n ≤ 6)(f : Nat) (hf6 : f < 6) (hf : ixOf (S.2.1 0) c n 0 = nI f) (hu : bt (S.1 4) i = true) (hv : vfit (S.2.1 2 f) (S.2.1 3 f) v = 0) : jM K M_B_put d [.ref 32, .int (nI i), .int c, .int v] (lay S ++ J) (rX 12 (lay S ++ J)) 0 0 := by
  refine jM.of (by decide) (Nat.le_of_ble_eq_true rfl) ?_
  refine j_aload_n d_B_put_0 rfl ?_
  refine j_iload_n d_B_put_1 rfl ?_
  refine j_retV (j_callV d_B_put_2 v_B_requireWord l_B_80 rfl rfl (m_B_requireWord K (d - 1) _ i (by omega)) (by omega) (by decide) (Nat.le_of_ble_eq_true rfl) rfl) rfl ?_
  refine j_aload_n d_B_put_5 rfl ?_
  refine j_iload_n d_B_put_6 rfl ?_
  refine j_retI (j_callV d_B_put_7 v_B_requireField l_B_89 rfl rfl (m_B_requireField K (d - 1) (by omega) S J c n hn h6 (by rw [hf]; exact nI_m1 (by omega))) (by omega) (by decide) (Nat.le_of_ble_eq_true rfl) rfl) rfl ?_
  rw [hf]
  refine j_istore d_B_put_10 (by decide) ?_
  refine j_aload_n d_B_put_12 rfl ?_
  refine j_iload_n d_B_put_13 rfl ?_
  refine j_retV (j_callV d_B_put_14 v_B_requireInUse l_B_83 rfl rfl (m_B_requireInUse K (d - 1) (by omega) S J i (by omega) hu) (by omega) (by decide) (Nat.le_of_ble_eq_true rfl) rfl) rfl ?_
  refine j_aload_n d_B_put_17 rfl ?_
  refine j_getf d_B_put_18 f_B_12 rfl rfl ?_
  refine j_iload d_B_put_21 rfl ?_
  refine j_iload_n d_B_put_23 rfl ?_
  refine j_retI (j_callV d_B_put_24 v_F_fits l_B_93 rfl rfl (m_F_fits K (d - 1) S J f v hf6) (by omega) (by decide) (Nat.le_of_ble_eq_true rfl) rfl) rfl ?_
  refine j_if_neF (tgt := 38) d_B_put_27 rfl (hv) ?_
  exact j_throw d_B_put_30 d_B_put_33 d_B_put_34 d_B_put_37 x_B_58 rfl (by omega) (Nat.le_of_ble_eq_true rfl) ⟨rfl, rfl⟩
theorem m_B_put (K : jK) (d : Nat) (hd : 8 ≤ d) (S : jS) (J : jH) (i : Nat) (hi : i < 32) (c v : Int32) (n : Nat) (hn : S.1 2 = nI n) (h6 : n ≤ 6)(f : Nat) (hf6 : f < 6) (hf : ixOf (S.2.1 0) c n 0 = nI f) (hu : bt (S.1 4) i = true) (hv : ¬ vfit (S.2.1 2 f) (S.2.1 3 f) v = 0) : jM K M_B_put d [.ref 32, .int (nI i), .int c, .int v] (lay S ++ J) (rV (lay (s2 S 4 (upd (S.2.1 4) i (vput (S.2.1 1 f) (S.2.1 2 f) (S.2.1 4 i) v))) ++ J)) 0 0 := by
  refine jM.of (by decide) (Nat.le_of_ble_eq_true rfl) ?_
  refine j_aload_n d_B_put_0 rfl ?_
  refine j_iload_n d_B_put_1 rfl ?_
  refine j_retV (j_callV d_B_put_2 v_B_requireWord l_B_80 rfl rfl (m_B_requireWord K (d - 1) _ i (by omega)) (by omega) (by decide) (Nat.le_of_ble_eq_true rfl) rfl) rfl ?_
  refine j_aload_n d_B_put_5 rfl ?_
  refine j_iload_n d_B_put_6 rfl ?_
  refine j_retI (j_callV d_B_put_7 v_B_requireField l_B_89 rfl rfl (m_B_requireField K (d - 1) (by omega) S J c n hn h6 (by rw [hf]; exact nI_m1 (by omega))) (by omega) (by decide) (Nat.le_of_ble_eq_true rfl) rfl) rfl ?_
  rw [hf]
  refine j_istore d_B_put_10 (by decide) ?_
  refine j_aload_n d_B_put_12 rfl ?_
  refine j_iload_n d_B_put_13 rfl ?_
  refine j_retV (j_callV d_B_put_14 v_B_requireInUse l_B_83 rfl rfl (m_B_requireInUse K (d - 1) (by omega) S J i (by omega) hu) (by omega) (by decide) (Nat.le_of_ble_eq_true rfl) rfl) rfl ?_
  refine j_aload_n d_B_put_17 rfl ?_
  refine j_getf d_B_put_18 f_B_12 rfl rfl ?_
  refine j_iload d_B_put_21 rfl ?_
  refine j_iload_n d_B_put_23 rfl ?_
  refine j_retI (j_callV d_B_put_24 v_F_fits l_B_93 rfl rfl (m_F_fits K (d - 1) S J f v hf6) (by omega) (by decide) (Nat.le_of_ble_eq_true rfl) rfl) rfl ?_
  refine j_if_neT (tgt := 38) d_B_put_27 rfl (hv) ?_
  refine j_aload_n d_B_put_38 rfl ?_
  refine j_getf d_B_put_39 f_B_19 rfl rfl ?_
  refine j_iload_n d_B_put_42 rfl ?_
  refine j_aload_n d_B_put_43 rfl ?_
  refine j_getf d_B_put_44 f_B_12 rfl rfl ?_
  refine j_iload d_B_put_47 rfl ?_
  refine j_aload_n d_B_put_49 rfl ?_
  refine j_getf d_B_put_50 f_B_19 rfl rfl ?_
  refine j_iload_n d_B_put_53 rfl ?_
  refine j_retI (j_callV d_B_put_54 v_W_bitsOf l_B_96 rfl rfl (m_W_bitsOf K (d - 1) S J i hi) (by omega) (by decide) (Nat.le_of_ble_eq_true rfl) rfl) rfl ?_
  refine j_iload_n d_B_put_57 rfl ?_
  refine j_retI (j_callV d_B_put_58 v_F_withValue l_B_99 rfl rfl (m_F_withValue K (d - 1) (by omega) S J f _ v hf6) (by omega) (by decide) (Nat.le_of_ble_eq_true rfl) rfl) rfl ?_
  refine j_retV (j_callV d_B_put_61 v_W_replace l_B_103 rfl rfl (m_W_replace K (d - 1) S J i hi _) (by omega) (by decide) (Nat.le_of_ble_eq_true rfl) rfl) rfl ?_
  exact j_vret rfl d_B_put_64 ⟨rfl, rfl⟩
theorem m_B_get_x1 (K : jK) (d : Nat) (hd : 8 ≤ d) (S : jS) (J : jH) (w c : Int32) (hw : badW w) : jM K M_B_get d [.ref 32, .int w, .int c] (lay S ++ J) (rX 10 (lay S ++ J)) 0 0 := by
  refine jM.of (by decide) (Nat.le_of_ble_eq_true rfl) ?_
  refine j_aload_n d_B_get_0 rfl ?_
  refine j_iload_n d_B_get_1 rfl ?_
  exact j_retX (j_callV d_B_get_2 v_B_requireWord l_B_80 rfl rfl (m_B_requireWord_x K (d - 1) (by omega) _ w hw) (by omega) (by decide) (Nat.le_of_ble_eq_true rfl) rfl) rfl ⟨rfl, rfl⟩
theorem m_B_get_x2 (K : jK) (d : Nat) (hd : 8 ≤ d) (S : jS) (J : jH) (i : Nat) (hi : i < 32) (c : Int32) (n : Nat) (hn : S.1 2 = nI n) (h6 : n ≤ 6) (hf : ixOf (S.2.1 0) c n 0 = -1) : jM K M_B_get d [.ref 32, .int (nI i), .int c] (lay S ++ J) (rX 10 (lay S ++ J)) 0 0 := by
  refine jM.of (by decide) (Nat.le_of_ble_eq_true rfl) ?_
  refine j_aload_n d_B_get_0 rfl ?_
  refine j_iload_n d_B_get_1 rfl ?_
  refine j_retV (j_callV d_B_get_2 v_B_requireWord l_B_80 rfl rfl (m_B_requireWord K (d - 1) _ i (by omega)) (by omega) (by decide) (Nat.le_of_ble_eq_true rfl) rfl) rfl ?_
  refine j_aload_n d_B_get_5 rfl ?_
  refine j_iload_n d_B_get_6 rfl ?_
  exact j_retX (j_callV d_B_get_7 v_B_requireField l_B_89 rfl rfl (m_B_requireField_x K (d - 1) (by omega) S J c n hn h6 hf) (by omega) (by decide) (Nat.le_of_ble_eq_true rfl) rfl) rfl ⟨rfl, rfl⟩
theorem m_B_get_x3 (K : jK) (d : Nat) (hd : 8 ≤ d) (S : jS) (J : jH) (i : Nat) (hi : i < 32) (c : Int32) (n : Nat) (hn : S.1 2 = nI n) (h6 : n ≤ 6)(f : Nat) (hf6 : f < 6) (hf : ixOf (S.2.1 0) c n 0 = nI f) (hu : bt (S.1 4) i = false) : jM K M_B_get d [.ref 32, .int (nI i), .int c] (lay S ++ J) (rX 11 (lay S ++ J)) 0 0 := by
  refine jM.of (by decide) (Nat.le_of_ble_eq_true rfl) ?_
  refine j_aload_n d_B_get_0 rfl ?_
  refine j_iload_n d_B_get_1 rfl ?_
  refine j_retV (j_callV d_B_get_2 v_B_requireWord l_B_80 rfl rfl (m_B_requireWord K (d - 1) _ i (by omega)) (by omega) (by decide) (Nat.le_of_ble_eq_true rfl) rfl) rfl ?_
  refine j_aload_n d_B_get_5 rfl ?_
  refine j_iload_n d_B_get_6 rfl ?_
  refine j_retI (j_callV d_B_get_7 v_B_requireField l_B_89 rfl rfl (m_B_requireField K (d - 1) (by omega) S J c n hn h6 (by rw [hf]; exact nI_m1 (by omega))) (by omega) (by decide) (Nat.le_of_ble_eq_true rfl) rfl) rfl ?_
  rw [hf]
  refine j_istore_n d_B_get_10 (by decide) ?_
  refine j_aload_n d_B_get_11 rfl ?_
  refine j_iload_n d_B_get_12 rfl ?_
  exact j_retX (j_callV d_B_get_13 v_B_requireInUse l_B_83 rfl rfl (m_B_requireInUse_x K (d - 1) (by omega) S J i (by omega) hu) (by omega) (by decide) (Nat.le_of_ble_eq_true rfl) rfl) rfl ⟨rfl, rfl⟩
theorem m_B_get (K : jK) (d : Nat) (hd : 8 ≤ d) (S : jS) (J : jH) (i : Nat) (hi : i < 32) (c : Int32) (n : Nat) (hn : S.1 2 = nI n) (h6 : n ≤ 6)(f : Nat) (hf6 : f < 6) (hf : ixOf (S.2.1 0) c n 0 = nI f) (hu : bt (S.1 4) i = true) : jM K M_B_get d [.ref 32, .int (nI i), .int c] (lay S ++ J) (rI (vval (S.2.1 1 f) (S.2.1 2 f) (S.2.1 3 f) (S.2.1 4 i)) (lay S ++ J)) 0 0 := by
  refine jM.of (by decide) (Nat.le_of_ble_eq_true rfl) ?_
  refine j_aload_n d_B_get_0 rfl ?_
  refine j_iload_n d_B_get_1 rfl ?_
  refine j_retV (j_callV d_B_get_2 v_B_requireWord l_B_80 rfl rfl (m_B_requireWord K (d - 1) _ i (by omega)) (by omega) (by decide) (Nat.le_of_ble_eq_true rfl) rfl) rfl ?_
  refine j_aload_n d_B_get_5 rfl ?_
  refine j_iload_n d_B_get_6 rfl ?_
  refine j_retI (j_callV d_B_get_7 v_B_requireField l_B_89 rfl rfl (m_B_requireField K (d - 1) (by omega) S J c n hn h6 (by rw [hf]; exact nI_m1 (by omega))) (by omega) (by decide) (Nat.le_of_ble_eq_true rfl) rfl) rfl ?_
  rw [hf]
  refine j_istore_n d_B_get_10 (by decide) ?_
  refine j_aload_n d_B_get_11 rfl ?_
  refine j_iload_n d_B_get_12 rfl ?_
  refine j_retV (j_callV d_B_get_13 v_B_requireInUse l_B_83 rfl rfl (m_B_requireInUse K (d - 1) (by omega) S J i (by omega) hu) (by omega) (by decide) (Nat.le_of_ble_eq_true rfl) rfl) rfl ?_
  refine j_aload_n d_B_get_16 rfl ?_
  refine j_getf d_B_get_17 f_B_12 rfl rfl ?_
  refine j_iload_n d_B_get_20 rfl ?_
  refine j_aload_n d_B_get_21 rfl ?_
  refine j_getf d_B_get_22 f_B_19 rfl rfl ?_
  refine j_iload_n d_B_get_25 rfl ?_
  refine j_retI (j_callV d_B_get_26 v_W_bitsOf l_B_96 rfl rfl (m_W_bitsOf K (d - 1) S J i hi) (by omega) (by decide) (Nat.le_of_ble_eq_true rfl) rfl) rfl ?_
  refine j_retI (j_callV d_B_get_29 v_F_valueIn l_B_107 rfl rfl (m_F_valueIn K (d - 1) S J f _ hf6) (by omega) (by decide) (Nat.le_of_ble_eq_true rfl) rfl) rfl ?_
  exact j_iret rfl d_B_get_32 ⟨rfl, rfl⟩
theorem m_B_bit_x1 (K : jK) (d : Nat) (hd : 8 ≤ d) (S : jS) (J : jH) (w k : Int32) (hw : badW w) : jM K M_B_bit d [.ref 32, .int w, .int k] (lay S ++ J) (rX 10 (lay S ++ J)) 0 0 := by
  refine jM.of (by decide) (Nat.le_of_ble_eq_true rfl) ?_
  refine j_aload_n d_B_bit_0 rfl ?_
  refine j_iload_n d_B_bit_1 rfl ?_
  exact j_retX (j_callV d_B_bit_2 v_B_requireWord l_B_80 rfl rfl (m_B_requireWord_x K (d - 1) (by omega) _ w hw) (by omega) (by decide) (Nat.le_of_ble_eq_true rfl) rfl) rfl ⟨rfl, rfl⟩
theorem m_B_bit_x2 (K : jK) (d : Nat) (hd : 8 ≤ d) (S : jS) (J : jH) (i : Nat) (hi : i < 32) (k : Int32) (hk : badW k) : jM K M_B_bit d [.ref 32, .int (nI i), .int k] (lay S ++ J) (rX 10 (lay S ++ J)) 0 0 := by
  refine jM.of (by decide) (Nat.le_of_ble_eq_true rfl) ?_
  refine j_aload_n d_B_bit_0 rfl ?_
  refine j_iload_n d_B_bit_1 rfl ?_
  refine j_retV (j_callV d_B_bit_2 v_B_requireWord l_B_80 rfl rfl (m_B_requireWord K (d - 1) _ i (by omega)) (by omega) (by decide) (Nat.le_of_ble_eq_true rfl) rfl) rfl ?_
  refine j_iload_n d_B_bit_5 rfl ?_
  refine j_if_lt (tgt := 15) d_B_bit_6 rfl (fun h6 => ?_) (fun h6 => ?_)
  · exact j_throw d_B_bit_15 d_B_bit_18 d_B_bit_19 d_B_bit_22 x_B_51 rfl (by omega) (Nat.le_of_ble_eq_true rfl) ⟨rfl, rfl⟩
  · refine j_iload_n d_B_bit_9 rfl ?_
    refine j_bipush (v := 32) d_B_bit_10 (by decide) ?_
    refine j_icmp_ltF (tgt := 23) d_B_bit_12 rfl (hk.elim (fun q => absurd q h6) (fun q => Int32.not_lt.mpr q)) ?_
    exact j_throw d_B_bit_15 d_B_bit_18 d_B_bit_19 d_B_bit_22 x_B_51 rfl (by omega) (Nat.le_of_ble_eq_true rfl) ⟨rfl, rfl⟩
theorem m_B_bit (K : jK) (d : Nat) (hd : 8 ≤ d) (S : jS) (J : jH) (i k : Nat) (hi : i < 32) (hk : k < 32) : jM K M_B_bit d [.ref 32, .int (nI i), .int (nI k)] (lay S ++ J) (rI (b2i (bt (S.2.1 4 i) k)) (lay S ++ J)) 0 0 := by
  refine jM.of (by decide) (Nat.le_of_ble_eq_true rfl) ?_
  refine j_aload_n d_B_bit_0 rfl ?_
  refine j_iload_n d_B_bit_1 rfl ?_
  refine j_retV (j_callV d_B_bit_2 v_B_requireWord l_B_80 rfl rfl (m_B_requireWord K (d - 1) _ i (by omega)) (by omega) (by decide) (Nat.le_of_ble_eq_true rfl) rfl) rfl ?_
  refine j_iload_n d_B_bit_5 rfl ?_
  refine j_if_ltF (tgt := 15) d_B_bit_6 rfl (nI_pos (by omega)) ?_
  refine j_iload_n d_B_bit_9 rfl ?_
  refine j_bipush (v := 32) d_B_bit_10 (by decide) ?_
  refine j_icmp_ltT (tgt := 23) d_B_bit_12 rfl (show nI k < nI 32 from nI_lt hk (by omega)) ?_
  refine j_aload_n d_B_bit_23 rfl ?_
  refine j_getf d_B_bit_24 f_B_19 rfl rfl ?_
  refine j_iload_n d_B_bit_27 rfl ?_
  refine j_retI (j_callV d_B_bit_28 v_W_bitsOf l_B_96 rfl rfl (m_W_bitsOf K (d - 1) S J i hi) (by omega) (by decide) (Nat.le_of_ble_eq_true rfl) rfl) rfl ?_
  refine j_iload_n d_B_bit_31 rfl ?_
  refine j_iushr d_B_bit_32 ?_
  refine j_iconst (v := 1) d_B_bit_33 rfl ?_
  refine j_iand d_B_bit_34 ?_
  refine j_iconst (v := 1) d_B_bit_35 rfl ?_
  refine j_icmp_ne (tgt := 43) d_B_bit_36 rfl (fun h36 => ?_) (fun h36 => ?_)
  · refine j_iconst (v := 0) d_B_bit_43 rfl ?_
    exact j_zret rfl rfl d_B_bit_44 ⟨by first | (rw [show bt (S.2.1 4 i) k = true from (hb_iff _ hk).mp h36]; rfl) | (rw [show bt (S.2.1 4 i) k = false from Bool.eq_false_iff.mpr (fun q => h36 ((hb_iff _ hk).mpr q))]; rfl), rfl⟩
  · refine j_iconst (v := 1) d_B_bit_39 rfl ?_
    refine j_goto (tgt := 44) d_B_bit_40 rfl ?_
    exact j_zret rfl rfl d_B_bit_44 ⟨by first | (rw [show bt (S.2.1 4 i) k = true from (hb_iff _ hk).mp h36]; rfl) | (rw [show bt (S.2.1 4 i) k = false from Bool.eq_false_iff.mpr (fun q => h36 ((hb_iff _ hk).mpr q))]; rfl), rfl⟩
theorem m_B_multi_x (K : jK) (d : Nat) (hd : 8 ≤ d) (S : jS) (J : jH) (m p : Int32) (hm : ¬ m &&& 16777215 = 0) : jM K M_B_multi d [.ref 32, .int m, .int p] (lay S ++ J) (rX 10 (lay S ++ J)) 0 0 := by
  refine jM.of (by decide) (Nat.le_of_ble_eq_true rfl) ?_
  refine j_iload_n d_B_multi_0 rfl ?_
  refine j_ldc d_B_multi_1 c_B_128 ?_
  refine j_iand d_B_multi_3 ?_
  refine j_if_eqF (tgt := 15) d_B_multi_4 rfl (hm) ?_
  exact j_throw d_B_multi_7 d_B_multi_10 d_B_multi_11 d_B_multi_14 x_B_51 rfl (by omega) (Nat.le_of_ble_eq_true rfl) ⟨rfl, rfl⟩
theorem m_B_multi (K : jK) (d : Nat) (hd : 8 ≤ d) (S : jS) (J : jH) (m p : Int32) (hm : m &&& 16777215 = 0) : jM K M_B_multi d [.ref 32, .int m, .int p] (lay S ++ J) (rV (lay (s2 S 4 (ovF (S.2.1 4) (S.1 5) m p 32)) ++ J)) 0 0 := by
  refine jM.of (by decide) (Nat.le_of_ble_eq_true rfl) ?_
  refine j_iload_n d_B_multi_0 rfl ?_
  refine j_ldc d_B_multi_1 c_B_128 ?_
  refine j_iand d_B_multi_3 ?_
  refine j_if_eqT (tgt := 15) d_B_multi_4 rfl (hm) ?_
  refine j_aload_n d_B_multi_15 rfl ?_
  refine j_getf d_B_multi_16 f_B_19 rfl rfl ?_
  refine j_aload_n d_B_multi_19 rfl ?_
  refine j_getf d_B_multi_20 f_B_19 rfl rfl ?_
  refine j_retI (j_callV d_B_multi_23 v_W_responding l_B_111 rfl rfl (m_W_responding K (d - 1) S J) (by omega) (by decide) (Nat.le_of_ble_eq_true rfl) rfl) rfl ?_
  refine j_iload_n d_B_multi_26 rfl ?_
  refine j_iload_n d_B_multi_27 rfl ?_
  refine j_retV (j_callV d_B_multi_28 v_W_overwrite l_B_129 rfl rfl (m_W_overwrite K (d - 1) (by omega) S J _ m p) (by omega) (by decide) (Nat.le_of_ble_eq_true rfl) rfl) rfl ?_
  exact j_vret rfl d_B_multi_31 ⟨rfl, rfl⟩
theorem m_B_responds_x (K : jK) (d : Nat) (hd : 8 ≤ d) (S : jS) (J : jH) (w : Int32) (hw : badW w) : jM K M_B_responds d [.ref 32, .int w] (lay S ++ J) (rX 10 (lay S ++ J)) 0 0 := by
  refine jM.of (by decide) (Nat.le_of_ble_eq_true rfl) ?_
  refine j_aload_n d_B_responds_0 rfl ?_
  refine j_iload_n d_B_responds_1 rfl ?_
  exact j_retX (j_callV d_B_responds_2 v_B_requireWord l_B_80 rfl rfl (m_B_requireWord_x K (d - 1) (by omega) _ w hw) (by omega) (by decide) (Nat.le_of_ble_eq_true rfl) rfl) rfl ⟨rfl, rfl⟩
theorem m_B_responds (K : jK) (d : Nat) (hd : 8 ≤ d) (S : jS) (J : jH) (i : Nat) (hi : i < 32) : jM K M_B_responds d [.ref 32, .int (nI i)] (lay S ++ J) (rI (b2i (bt (S.1 5) i)) (lay S ++ J)) 0 0 := by
  refine jM.of (by decide) (Nat.le_of_ble_eq_true rfl) ?_
  refine j_aload_n d_B_responds_0 rfl ?_
  refine j_iload_n d_B_responds_1 rfl ?_
  refine j_retV (j_callV d_B_responds_2 v_B_requireWord l_B_80 rfl rfl (m_B_requireWord K (d - 1) _ i (by omega)) (by omega) (by decide) (Nat.le_of_ble_eq_true rfl) rfl) rfl ?_
  refine j_aload_n d_B_responds_5 rfl ?_
  refine j_getf d_B_responds_6 f_B_19 rfl rfl ?_
  refine j_retI (j_callV d_B_responds_9 v_W_responding l_B_111 rfl rfl (m_W_responding K (d - 1) S J) (by omega) (by decide) (Nat.le_of_ble_eq_true rfl) rfl) rfl ?_
  refine j_iload_n d_B_responds_12 rfl ?_
  refine j_retI (j_callS d_B_responds_13 s_W_holds l_B_133 rfl (m_W_holds K (d - 1) _ _ i hi) (by omega) (by decide) (Nat.le_of_ble_eq_true rfl) rfl) rfl ?_
  exact j_zret rfl (b2i_nar _) d_B_responds_16 ⟨rfl, rfl⟩
theorem m_B_first_n (K : jK) (d : Nat) (hd : 8 ≤ d) (S : jS) (J : jH) (hx : lowF (S.1 5) 32 0 = -1) : jM K M_B_first d [.ref 32] (lay S ++ J) (rI (-1) (lay S ++ J)) 0 0 := by
  refine jM.of (by decide) (Nat.le_of_ble_eq_true rfl) ?_
  refine j_aload_n d_B_first_0 rfl ?_
  refine j_getf d_B_first_1 f_B_19 rfl rfl ?_
  refine j_retI (j_callV d_B_first_4 v_W_responding l_B_111 rfl rfl (m_W_responding K (d - 1) S J) (by omega) (by decide) (Nat.le_of_ble_eq_true rfl) rfl) rfl ?_
  refine j_retI (j_callS d_B_first_7 s_W_lowestOf l_B_69 rfl (m_W_lowestOf K (d - 1) (by omega) _ _) (by omega) (by decide) (Nat.le_of_ble_eq_true rfl) rfl) rfl ?_
  rw [hx]
  refine j_istore_n d_B_first_10 (by decide) ?_
  refine j_iload_n d_B_first_11 rfl ?_
  refine j_iconst (v := -1) d_B_first_12 rfl ?_
  refine j_icmp_eqT (tgt := 36) d_B_first_13 rfl (rfl) ?_
  refine j_iload_n d_B_first_36 rfl ?_
  exact j_iret rfl d_B_first_37 ⟨rfl, rfl⟩
theorem m_B_first (K : jK) (d : Nat) (hd : 8 ≤ d) (S : jS) (J : jH) (i : Nat) (hi : i < 32) (hx : lowF (S.1 5) 32 0 = nI i) : jM K M_B_first d [.ref 32] (lay S ++ J) (rI (nI i) (lay (s1 S 5 (S.1 5 &&& (((1 : Int32) <<< (nI i &&& 31)) ^^^ (-1)))) ++ J)) 0 0 := by
  refine jM.of (by decide) (Nat.le_of_ble_eq_true rfl) ?_
  refine j_aload_n d_B_first_0 rfl ?_
  refine j_getf d_B_first_1 f_B_19 rfl rfl ?_
  refine j_retI (j_callV d_B_first_4 v_W_responding l_B_111 rfl rfl (m_W_responding K (d - 1) S J) (by omega) (by decide) (Nat.le_of_ble_eq_true rfl) rfl) rfl ?_
  refine j_retI (j_callS d_B_first_7 s_W_lowestOf l_B_69 rfl (m_W_lowestOf K (d - 1) (by omega) _ _) (by omega) (by decide) (Nat.le_of_ble_eq_true rfl) rfl) rfl ?_
  rw [hx]
  refine j_istore_n d_B_first_10 (by decide) ?_
  refine j_iload_n d_B_first_11 rfl ?_
  refine j_iconst (v := -1) d_B_first_12 rfl ?_
  refine j_icmp_eqF (tgt := 36) d_B_first_13 rfl (nI_m1 hi) ?_
  refine j_aload_n d_B_first_16 rfl ?_
  refine j_getf d_B_first_17 f_B_19 rfl rfl ?_
  refine j_aload_n d_B_first_20 rfl ?_
  refine j_getf d_B_first_21 f_B_19 rfl rfl ?_
  refine j_retI (j_callV d_B_first_24 v_W_responding l_B_111 rfl rfl (m_W_responding K (d - 1) S J) (by omega) (by decide) (Nat.le_of_ble_eq_true rfl) rfl) rfl ?_
  refine j_iconst (v := 1) d_B_first_27 rfl ?_
  refine j_iload_n d_B_first_28 rfl ?_
  refine j_ishl d_B_first_29 ?_
  refine j_iconst (v := -1) d_B_first_30 rfl ?_
  refine j_ixor d_B_first_31 ?_
  refine j_iand d_B_first_32 ?_
  refine j_retV (j_callV d_B_first_33 v_W_respondOnly l_B_120 rfl rfl (m_W_respondOnly K (d - 1) S J _) (by omega) (by decide) (Nat.le_of_ble_eq_true rfl) rfl) rfl ?_
  refine j_iload_n d_B_first_36 rfl ?_
  exact j_iret rfl d_B_first_37 ⟨rfl, rfl⟩
theorem m_B_write_n (K : jK) (d : Nat) (hd : 8 ≤ d) (S : jS) (J : jH) (x : Int64) (n : Nat) (hn : S.1 6 = nI n) (h100 : n ≤ 100) (hx : canT x n = 0) : jM K M_B_write d [.ref 32, .long x] (lay S ++ J) (rI 0 (lay S ++ J)) 0 0 := by
  refine jM.of (by decide) (Nat.le_of_ble_eq_true rfl) ?_
  refine j_aload_n d_B_write_0 rfl ?_
  refine j_getf d_B_write_1 f_B_26 rfl rfl ?_
  refine j_lload_n d_B_write_4 rfl ?_
  refine j_retI (j_callV d_B_write_5 v_T_canTake l_B_136 rfl rfl (m_T_canTake K (d - 1) (by omega) S J x n hn h100) (by omega) (by decide) (Nat.le_of_ble_eq_true rfl) rfl) rfl ?_
  refine j_if_neF (tgt := 13) d_B_write_8 rfl (hx) ?_
  refine j_iconst (v := 0) d_B_write_11 rfl ?_
  exact j_zret rfl rfl d_B_write_12 ⟨rfl, rfl⟩
theorem m_B_write (K : jK) (d : Nat) (hd : 8 ≤ d) (S : jS) (J : jH) (x : Int64) (n : Nat) (hn : S.1 6 = nI n) (h100 : n ≤ 100) (hx : ¬ canT x n = 0) : jM K M_B_write d [.ref 32, .long x] (lay S ++ J) (rI 1 (lay (s1 (s2 S 5 (apT x 8 0 (n, S.2.1 5)).2) 6 (nI (apT x 8 0 (n, S.2.1 5)).1)) ++ J)) 0 0 := by
  refine jM.of (by decide) (Nat.le_of_ble_eq_true rfl) ?_
  refine j_aload_n d_B_write_0 rfl ?_
  refine j_getf d_B_write_1 f_B_26 rfl rfl ?_
  refine j_lload_n d_B_write_4 rfl ?_
  refine j_retI (j_callV d_B_write_5 v_T_canTake l_B_136 rfl rfl (m_T_canTake K (d - 1) (by omega) S J x n hn h100) (by omega) (by decide) (Nat.le_of_ble_eq_true rfl) rfl) rfl ?_
  refine j_if_neT (tgt := 13) d_B_write_8 rfl (hx) ?_
  refine j_aload_n d_B_write_13 rfl ?_
  refine j_getf d_B_write_14 f_B_26 rfl rfl ?_
  refine j_lload_n d_B_write_17 rfl ?_
  refine j_retV (j_callV d_B_write_18 v_T_append l_B_140 rfl rfl (m_T_append K (d - 1) (by omega) S J x n hn h100) (by omega) (by decide) (Nat.le_of_ble_eq_true rfl) rfl) rfl ?_
  refine j_iconst (v := 1) d_B_write_21 rfl ?_
  exact j_zret rfl rfl d_B_write_22 ⟨rfl, rfl⟩
theorem m_B_wipe (K : jK) (d : Nat) (hd : 8 ≤ d) (S : jS) (J : jH) : jM K M_B_wipe d [.ref 32] (lay S ++ J) (rI (S.1 6) (lay (s1 S 6 0) ++ J)) 0 0 := by
  refine jM.of (by decide) (Nat.le_of_ble_eq_true rfl) ?_
  refine j_aload_n d_B_wipe_0 rfl ?_
  refine j_getf d_B_wipe_1 f_B_26 rfl rfl ?_
  refine j_retI (j_callV d_B_wipe_4 v_T_length l_B_143 rfl rfl (m_T_length K (d - 1) S J) (by omega) (by decide) (Nat.le_of_ble_eq_true rfl) rfl) rfl ?_
  refine j_istore_n d_B_wipe_7 (by decide) ?_
  refine j_aload_n d_B_wipe_8 rfl ?_
  refine j_getf d_B_wipe_9 f_B_26 rfl rfl ?_
  refine j_retV (j_callV d_B_wipe_12 v_T_clear l_B_146 rfl rfl (m_T_clear K (d - 1) S J) (by omega) (by decide) (Nat.le_of_ble_eq_true rfl) rfl) rfl ?_
  refine j_iload_n d_B_wipe_15 rfl ?_
  exact j_iret rfl d_B_wipe_16 ⟨rfl, rfl⟩
theorem m_B_refused (K : jK) (d : Nat) (S : jS) (J : jH) : jM K M_B_refused d [.ref 32] (lay S ++ J) (rI (S.1 1) (lay S ++ J)) 0 0 := by
  refine jM.of (by decide) (Nat.le_of_ble_eq_true rfl) ?_
  refine j_aload_n d_B_refused_0 rfl ?_
  refine j_getf d_B_refused_1 f_B_165 rfl rfl ?_
  exact j_iret rfl d_B_refused_4 ⟨rfl, rfl⟩
theorem m_B_listed_x (K : jK) (d : Nat) (hd : 8 ≤ d) (S : jS) (J : jH) (w : Int32) (hw : w < 0 ∨ S.1 0 ≤ w) : jM K M_B_listed d [.ref 32, .int w] (lay S ++ J) (rX 13 (lay S ++ J)) 0 0 := by
  refine jM.of (by decide) (Nat.le_of_ble_eq_true rfl) ?_
  refine j_iload_n d_B_listed_0 rfl ?_
  refine j_if_lt (tgt := 12) d_B_listed_1 rfl (fun h1 => ?_) (fun h1 => ?_)
  · exact j_throw d_B_listed_12 d_B_listed_15 d_B_listed_16 d_B_listed_19 x_B_172 rfl (by omega) (Nat.le_of_ble_eq_true rfl) ⟨rfl, rfl⟩
  · refine j_iload_n d_B_listed_4 rfl ?_
    refine j_aload_n d_B_listed_5 rfl ?_
    refine j_getf d_B_listed_6 f_B_169 rfl rfl ?_
    refine j_icmp_ltF (tgt := 20) d_B_listed_9 rfl (hw.elim (fun q => absurd q h1) (fun q => Int32.not_lt.mpr q)) ?_
    exact j_throw d_B_listed_12 d_B_listed_15 d_B_listed_16 d_B_listed_19 x_B_172 rfl (by omega) (Nat.le_of_ble_eq_true rfl) ⟨rfl, rfl⟩
theorem m_B_listed (K : jK) (d : Nat) (S : jS) (J : jH) (i n : Nat) (hn : S.1 0 = nI n) (h32 : n ≤ 32) (hi : i < n) : jM K M_B_listed d [.ref 32, .int (nI i)] (lay S ++ J) (rI (S.2.1 9 i) (lay S ++ J)) 0 0 := by
  refine jM.of (by decide) (Nat.le_of_ble_eq_true rfl) ?_
  refine j_iload_n d_B_listed_0 rfl ?_
  refine j_if_ltF (tgt := 12) d_B_listed_1 rfl (nI_pos (by omega)) ?_
  refine j_iload_n d_B_listed_4 rfl ?_
  refine j_aload_n d_B_listed_5 rfl ?_
  refine j_getf d_B_listed_6 f_B_169 rfl rfl ?_
  refine j_icmp_ltT (tgt := 20) d_B_listed_9 rfl (by rw [hn]; exact nI_lt hi (by omega)) ?_
  refine j_aload_n d_B_listed_20 rfl ?_
  refine j_getf d_B_listed_21 f_B_39 rfl rfl ?_
  refine j_iload_n d_B_listed_24 rfl ?_
  refine j_iald d_B_listed_25 rfl (show i < 32 by omega) (by decide) ?_
  exact j_iret rfl d_B_listed_26 ⟨rfl, rfl⟩
theorem m_B_valueOf (K : jK) (d : Nat) (hd : 1 ≤ d) (S : jS) (J : jH) (f i : Nat) (hf : f < 6) (hi : i < 32) : jM K M_B_valueOf d [.ref 32, .int (nI f), .int (nI i)] (lay S ++ J) (rI (vval (S.2.1 1 f) (S.2.1 2 f) (S.2.1 3 f) (S.2.1 4 i)) (lay S ++ J)) 0 0 := by
  refine jM.of (by decide) (Nat.le_of_ble_eq_true rfl) ?_
  refine j_aload_n d_B_valueOf_0 rfl ?_
  refine j_getf d_B_valueOf_1 f_B_12 rfl rfl ?_
  refine j_iload_n d_B_valueOf_4 rfl ?_
  refine j_aload_n d_B_valueOf_5 rfl ?_
  refine j_getf d_B_valueOf_6 f_B_19 rfl rfl ?_
  refine j_iload_n d_B_valueOf_9 rfl ?_
  refine j_retI (j_callV d_B_valueOf_10 v_W_bitsOf l_B_96 rfl rfl (m_W_bitsOf K (d - 1) S J i hi) (by omega) (by decide) (Nat.le_of_ble_eq_true rfl) rfl) rfl ?_
  refine j_retI (j_callV d_B_valueOf_13 v_F_valueIn l_B_107 rfl rfl (m_F_valueIn K (d - 1) S J f _ hf) (by omega) (by decide) (Nat.le_of_ble_eq_true rfl) rfl) rfl ?_
  exact j_iret rfl d_B_valueOf_16 ⟨rfl, rfl⟩
end
section
/-! the JDK: Integer.compare, Integer.bitCount, Math.max, Math.min; BitLoom$Operand, Pair, Change -/
def cmpJ (x y : Int32) : Int32 := if y ≤ x then (if x = y then 0 else 1) else -1
theorem m_JInteger_compare (K : jK) (d : Nat) (h : jH) (x y : Int32) : jM K M_JInteger_compare d [.int x, .int y] (h) (rI (cmpJ x y) h) 0 0 := by
  refine jM.of (by decide) (Nat.le_of_ble_eq_true rfl) ?_
  refine j_iload_n d_JInteger_compare_0 rfl ?_
  refine j_iload_n d_JInteger_compare_1 rfl ?_
  refine j_icmp_ge (tgt := 9) d_JInteger_compare_2 rfl (fun h2 => ?_) (fun h2 => ?_)
  · refine j_iload_n d_JInteger_compare_9 rfl ?_
    refine j_iload_n d_JInteger_compare_10 rfl ?_
    refine j_icmp_ne (tgt := 18) d_JInteger_compare_11 rfl (fun h11 => ?_) (fun h11 => ?_)
    · refine j_iconst (v := 1) d_JInteger_compare_18 rfl ?_
      exact j_iret rfl d_JInteger_compare_19 ⟨by first | (simp only [cmpJ, h2, h11, ↓reduceIte]; done) | (simp [cmpJ, h2, h11]; done), rfl⟩
    · refine j_iconst (v := 0) d_JInteger_compare_14 rfl ?_
      refine j_goto (tgt := 19) d_JInteger_compare_15 rfl ?_
      exact j_iret rfl d_JInteger_compare_19 ⟨by first | (simp only [cmpJ, h2, h11, ↓reduceIte]; done) | (simp [cmpJ, h2, h11]; done), rfl⟩
  · refine j_iconst (v := -1) d_JInteger_compare_5 rfl ?_
    refine j_goto (tgt := 19) d_JInteger_compare_6 rfl ?_
    exact j_iret rfl d_JInteger_compare_19 ⟨by first | (simp only [cmpJ, h2, ↓reduceIte]; done) | (simp [cmpJ, h2]; done), rfl⟩
def us (x : Int32) (k : Int32) : Int32 := (x.toUInt32 >>> (k.toUInt32 &&& Int32.toUInt32 31)).toInt32
def bc1 (x : Int32) : Int32 := x - (us x 1 &&& 1431655765)
def bc2 (x : Int32) : Int32 := (x &&& 858993459) + (us x 2 &&& 858993459)
def bc3 (x : Int32) : Int32 := (x + us x 4) &&& 252645135
def bc4 (x : Int32) : Int32 := x + us x 8
def bc5 (x : Int32) : Int32 := x + us x 16
def bcJ (x : Int32) : Int32 := bc5 (bc4 (bc3 (bc2 (bc1 x)))) &&& 63
theorem m_JInteger_bitCount (K : jK) (d : Nat) (h : jH) (x : Int32) : jM K M_JInteger_bitCount d [.int x] (h) (rI (bcJ x) h) 0 0 := by
  refine jM.of (by decide) (Nat.le_of_ble_eq_true rfl) ?_
  refine j_iload_n d_JInteger_bitCount_0 rfl ?_
  refine j_iload_n d_JInteger_bitCount_1 rfl ?_
  refine j_iconst (v := 1) d_JInteger_bitCount_2 rfl ?_
  refine j_iushr d_JInteger_bitCount_3 ?_
  refine j_ldcw d_JInteger_bitCount_4 c_JInteger_265 ?_
  refine j_iand d_JInteger_bitCount_7 ?_
  refine j_isub d_JInteger_bitCount_8 ?_
  refine j_istore_n d_JInteger_bitCount_9 (by decide) ?_
  refine j_iload_n d_JInteger_bitCount_10 rfl ?_
  refine j_ldcw d_JInteger_bitCount_11 c_JInteger_266 ?_
  refine j_iand d_JInteger_bitCount_14 ?_
  refine j_iload_n d_JInteger_bitCount_15 rfl ?_
  refine j_iconst (v := 2) d_JInteger_bitCount_16 rfl ?_
  refine j_iushr d_JInteger_bitCount_17 ?_
  refine j_ldcw d_JInteger_bitCount_18 c_JInteger_266 ?_
  refine j_iand d_JInteger_bitCount_21 ?_
  refine j_iadd d_JInteger_bitCount_22 ?_
  refine j_istore_n d_JInteger_bitCount_23 (by decide) ?_
  refine j_iload_n d_JInteger_bitCount_24 rfl ?_
  refine j_iload_n d_JInteger_bitCount_25 rfl ?_
  refine j_iconst (v := 4) d_JInteger_bitCount_26 rfl ?_
  refine j_iushr d_JInteger_bitCount_27 ?_
  refine j_iadd d_JInteger_bitCount_28 ?_
  refine j_ldcw d_JInteger_bitCount_29 c_JInteger_267 ?_
  refine j_iand d_JInteger_bitCount_32 ?_
  refine j_istore_n d_JInteger_bitCount_33 (by decide) ?_
  refine j_iload_n d_JInteger_bitCount_34 rfl ?_
  refine j_iload_n d_JInteger_bitCount_35 rfl ?_
  refine j_bipush (v := 8) d_JInteger_bitCount_36 (by decide) ?_
  refine j_iushr d_JInteger_bitCount_38 ?_
  refine j_iadd d_JInteger_bitCount_39 ?_
  refine j_istore_n d_JInteger_bitCount_40 (by decide) ?_
  refine j_iload_n d_JInteger_bitCount_41 rfl ?_
  refine j_iload_n d_JInteger_bitCount_42 rfl ?_
  refine j_bipush (v := 16) d_JInteger_bitCount_43 (by decide) ?_
  refine j_iushr d_JInteger_bitCount_45 ?_
  refine j_iadd d_JInteger_bitCount_46 ?_
  refine j_istore_n d_JInteger_bitCount_47 (by decide) ?_
  refine j_iload_n d_JInteger_bitCount_48 rfl ?_
  refine j_bipush (v := 63) d_JInteger_bitCount_49 (by decide) ?_
  refine j_iand d_JInteger_bitCount_51 ?_
  exact j_iret rfl d_JInteger_bitCount_52 ⟨rfl, rfl⟩
def maxJ (x y : Int32) : Int32 := if x < y then y else x
def minJ (x y : Int32) : Int32 := if y < x then y else x
theorem m_JMath_max (K : jK) (d : Nat) (h : jH) (x y : Int32) : jM K M_JMath_max d [.int x, .int y] (h) (rI (maxJ x y) h) 0 0 := by
  refine jM.of (by decide +kernel) (Nat.le_of_ble_eq_true rfl) ?_
  refine j_iload_n d_JMath_max_0 rfl ?_
  refine j_iload_n d_JMath_max_1 rfl ?_
  refine j_icmp_lt (tgt := 9) d_JMath_max_2 rfl (fun h2 => ?_) (fun h2 => ?_)
  · refine j_iload_n d_JMath_max_9 rfl ?_
    exact j_iret rfl d_JMath_max_10 ⟨by first | (rw [maxJ, if_pos h2]; done) | (rw [maxJ, if_neg h2]; done) | (rw [maxJ, if_neg (Int32.not_lt.mpr h2)]; done) | (rw [maxJ, if_pos (Int32.not_le.mp h2)]; done), rfl⟩
  · refine j_iload_n d_JMath_max_5 rfl ?_
    refine j_goto (tgt := 10) d_JMath_max_6 rfl ?_
    exact j_iret rfl d_JMath_max_10 ⟨by first | (rw [maxJ, if_pos h2]; done) | (rw [maxJ, if_neg h2]; done) | (rw [maxJ, if_neg (Int32.not_lt.mpr h2)]; done) | (rw [maxJ, if_pos (Int32.not_le.mp h2)]; done), rfl⟩
theorem m_JMath_min (K : jK) (d : Nat) (h : jH) (x y : Int32) : jM K M_JMath_min d [.int x, .int y] (h) (rI (minJ x y) h) 0 0 := by
  refine jM.of (by decide +kernel) (Nat.le_of_ble_eq_true rfl) ?_
  refine j_iload_n d_JMath_min_0 rfl ?_
  refine j_iload_n d_JMath_min_1 rfl ?_
  refine j_icmp_gt (tgt := 9) d_JMath_min_2 rfl (fun h2 => ?_) (fun h2 => ?_)
  · refine j_iload_n d_JMath_min_9 rfl ?_
    exact j_iret rfl d_JMath_min_10 ⟨by first | (rw [minJ, if_pos h2]; done) | (rw [minJ, if_neg h2]; done) | (rw [minJ, if_neg (Int32.not_lt.mpr h2)]; done) | (rw [minJ, if_pos (Int32.not_le.mp h2)]; done), rfl⟩
  · refine j_iload_n d_JMath_min_5 rfl ?_
    refine j_goto (tgt := 10) d_JMath_min_6 rfl ?_
    exact j_iret rfl d_JMath_min_10 ⟨by first | (rw [minJ, if_pos h2]; done) | (rw [minJ, if_neg h2]; done) | (rw [minJ, if_neg (Int32.not_lt.mpr h2)]; done) | (rw [minJ, if_pos (Int32.not_le.mp h2)]; done), rfl⟩
theorem vfit_nar (w z v : Int32) : narrow .boolean (.int (vfit w z v)) = .int (vfit w z v) := by
  unfold vfit
  split
  · rfl
  · split <;> rfl
/-- an operand: a field by its number, or a number -/
def okO (S : jS) (f : Nat) : Prop := S.1 f = -1 ∨ ∃ j : Nat, j < 6 ∧ S.1 f = nI j
def fval (S : jS) (j : Nat) (b : Int32) : Int32 := vval (S.2.1 1 j) (S.2.1 2 j) (S.2.1 3 j) b
def opv (S : jS) (f n : Nat) (b : Int32) : Int32 := if S.1 f = -1 then S.1 n else fval S (S.1 f).toNatClampNeg b
def tru (s x y : Int32) : Int32 := if s = 60 then (if x < y then 1 else 0) else if s = 62 then (if y < x then 1 else 0) else if x = y then 1 else 0
def res (s x y : Int32) : Int32 := if s = 43 then x + y else if s = 45 then x - y else if s = 42 then x * y else x
theorem cmp_lt (x y : Int32) : 0 ≤ cmpJ x y ↔ ¬ x < y := by
  unfold cmpJ
  by_cases h : y ≤ x
  · rw [if_pos h]
    by_cases h2 : x = y
    · rw [if_pos h2]; exact ⟨fun _ => Int32.not_lt.mpr h, fun _ => by decide⟩
    · rw [if_neg h2]; exact ⟨fun _ => Int32.not_lt.mpr h, fun _ => by decide⟩
  · rw [if_neg h]; exact ⟨fun q => absurd q (by decide), fun q => absurd (Int32.not_lt.mp q) h⟩
theorem cmp_gt (x y : Int32) : cmpJ x y ≤ 0 ↔ ¬ y < x := by
  unfold cmpJ
  by_cases h : y ≤ x
  · rw [if_pos h]
    by_cases h2 : x = y
    · rw [if_pos h2, h2]; exact ⟨fun _ => Int32.lt_irrefl, fun _ => by decide⟩
    · rw [if_neg h2]
      exact ⟨fun q => absurd q (by decide), fun q => absurd (Int32.le_antisymm (Int32.not_lt.mp q) h) h2⟩
  · rw [if_neg h]; exact ⟨fun _ q => h (Int32.le_of_lt q), fun _ => by decide⟩
theorem cmp_eq (x y : Int32) : cmpJ x y = 0 ↔ x = y := by
  unfold cmpJ
  by_cases h : y ≤ x
  · rw [if_pos h]
    by_cases h2 : x = y
    · rw [if_pos h2]; exact ⟨fun _ => h2, fun _ => rfl⟩
    · rw [if_neg h2]; exact ⟨fun q => absurd q (by decide), fun q => absurd q h2⟩
  · rw [if_neg h]; exact ⟨fun q => absurd q (by decide), fun q => absurd (by rw [q]; exact Int32.le_refl y) h⟩
theorem m_O_becomeField_48 (K : jK) (d : Nat) (S : jS) (J : jH) (v : Int32) : jM K M_O_becomeField d [.ref 48, .int v] (lay S ++ J) (rV (lay (s1 S 14 v) ++ J)) 0 0 := by
  refine jM.of (by decide) (Nat.le_of_ble_eq_true rfl) ?_
  refine j_aload_n d_O_becomeField_0 rfl ?_
  refine j_iload_n d_O_becomeField_1 rfl ?_
  refine j_putf d_O_becomeField_2 f_O_15 rfl (Nat.le_of_ble_eq_true rfl) rfl rfl rfl ?_
  exact j_vret rfl d_O_becomeField_5 ⟨rfl, rfl⟩
theorem m_O_becomeNumber_48 (K : jK) (d : Nat) (S : jS) (J : jH) (v : Int32) : jM K M_O_becomeNumber d [.ref 48, .int v] (lay S ++ J) (rV (lay (s1 (s1 S 14 (-1)) 15 v) ++ J)) 0 0 := by
  refine jM.of (by decide) (Nat.le_of_ble_eq_true rfl) ?_
  refine j_aload_n d_O_becomeNumber_0 rfl ?_
  refine j_iconst (v := -1) d_O_becomeNumber_1 rfl ?_
  refine j_putf d_O_becomeNumber_2 f_O_15 rfl (Nat.le_of_ble_eq_true rfl) rfl rfl rfl ?_
  refine j_aload_n d_O_becomeNumber_5 rfl ?_
  refine j_iload_n d_O_becomeNumber_6 rfl ?_
  refine j_putf d_O_becomeNumber_7 f_O_19 rfl (Nat.le_of_ble_eq_true rfl) rfl rfl rfl ?_
  exact j_vret rfl d_O_becomeNumber_10 ⟨rfl, rfl⟩
theorem m_O_valueIn_48 (K : jK) (d : Nat) (hd : 1 ≤ d) (S : jS) (J : jH) (b : Int32) (ho : okO S 14) : jM K M_O_valueIn d [.ref 48, .int b] (lay S ++ J) (rI (opv S 14 15 b) (lay S ++ J)) 0 0 := by
  refine jM.of (by decide) (Nat.le_of_ble_eq_true rfl) ?_
  refine j_aload_n d_O_valueIn_0 rfl ?_
  refine j_getf d_O_valueIn_1 f_O_15 rfl rfl ?_
  refine j_iconst (v := -1) d_O_valueIn_4 rfl ?_
  refine j_icmp_ne (tgt := 15) d_O_valueIn_5 rfl (fun h5 => ?_) (fun h5 => ?_)
  · refine j_aload_n d_O_valueIn_15 rfl ?_
    refine j_getf d_O_valueIn_16 f_O_9 rfl rfl ?_
    refine j_aload_n d_O_valueIn_19 rfl ?_
    refine j_getf d_O_valueIn_20 f_O_15 rfl rfl ?_
    obtain ⟨j, hj6, hj⟩ := ho.resolve_left h5
    refine j_top (w := .int (nI j)) (congrArg Value.int hj) ?_
    refine j_iload_n d_O_valueIn_23 rfl ?_
    refine j_retI (j_callV d_O_valueIn_24 v_F_valueIn l_O_22 rfl rfl (m_F_valueIn K (d - 1) S J j b hj6) (by omega) (by decide) (Nat.le_of_ble_eq_true rfl) rfl) rfl ?_
    exact j_iret rfl d_O_valueIn_27 ⟨by first | (rw [opv, if_pos h5]; done) | (rw [opv, if_neg h5, hj, nI_clamp (by omega)]; rfl), rfl⟩
  · refine j_aload_n d_O_valueIn_8 rfl ?_
    refine j_getf d_O_valueIn_9 f_O_19 rfl rfl ?_
    refine j_goto (tgt := 27) d_O_valueIn_12 rfl ?_
    exact j_iret rfl d_O_valueIn_27 ⟨by first | (rw [opv, if_pos h5]; done) | (rw [opv, if_neg h5, hj, nI_clamp (by omega)]; rfl), rfl⟩
theorem m_O_becomeField_49 (K : jK) (d : Nat) (S : jS) (J : jH) (v : Int32) : jM K M_O_becomeField d [.ref 49, .int v] (lay S ++ J) (rV (lay (s1 S 16 v) ++ J)) 0 0 := by
  refine jM.of (by decide) (Nat.le_of_ble_eq_true rfl) ?_
  refine j_aload_n d_O_becomeField_0 rfl ?_
  refine j_iload_n d_O_becomeField_1 rfl ?_
  refine j_putf d_O_becomeField_2 f_O_15 rfl (Nat.le_of_ble_eq_true rfl) rfl rfl rfl ?_
  exact j_vret rfl d_O_becomeField_5 ⟨rfl, rfl⟩
theorem m_O_becomeNumber_49 (K : jK) (d : Nat) (S : jS) (J : jH) (v : Int32) : jM K M_O_becomeNumber d [.ref 49, .int v] (lay S ++ J) (rV (lay (s1 (s1 S 16 (-1)) 17 v) ++ J)) 0 0 := by
  refine jM.of (by decide) (Nat.le_of_ble_eq_true rfl) ?_
  refine j_aload_n d_O_becomeNumber_0 rfl ?_
  refine j_iconst (v := -1) d_O_becomeNumber_1 rfl ?_
  refine j_putf d_O_becomeNumber_2 f_O_15 rfl (Nat.le_of_ble_eq_true rfl) rfl rfl rfl ?_
  refine j_aload_n d_O_becomeNumber_5 rfl ?_
  refine j_iload_n d_O_becomeNumber_6 rfl ?_
  refine j_putf d_O_becomeNumber_7 f_O_19 rfl (Nat.le_of_ble_eq_true rfl) rfl rfl rfl ?_
  exact j_vret rfl d_O_becomeNumber_10 ⟨rfl, rfl⟩
theorem m_O_valueIn_49 (K : jK) (d : Nat) (hd : 1 ≤ d) (S : jS) (J : jH) (b : Int32) (ho : okO S 16) : jM K M_O_valueIn d [.ref 49, .int b] (lay S ++ J) (rI (opv S 16 17 b) (lay S ++ J)) 0 0 := by
  refine jM.of (by decide) (Nat.le_of_ble_eq_true rfl) ?_
  refine j_aload_n d_O_valueIn_0 rfl ?_
  refine j_getf d_O_valueIn_1 f_O_15 rfl rfl ?_
  refine j_iconst (v := -1) d_O_valueIn_4 rfl ?_
  refine j_icmp_ne (tgt := 15) d_O_valueIn_5 rfl (fun h5 => ?_) (fun h5 => ?_)
  · refine j_aload_n d_O_valueIn_15 rfl ?_
    refine j_getf d_O_valueIn_16 f_O_9 rfl rfl ?_
    refine j_aload_n d_O_valueIn_19 rfl ?_
    refine j_getf d_O_valueIn_20 f_O_15 rfl rfl ?_
    obtain ⟨j, hj6, hj⟩ := ho.resolve_left h5
    refine j_top (w := .int (nI j)) (congrArg Value.int hj) ?_
    refine j_iload_n d_O_valueIn_23 rfl ?_
    refine j_retI (j_callV d_O_valueIn_24 v_F_valueIn l_O_22 rfl rfl (m_F_valueIn K (d - 1) S J j b hj6) (by omega) (by decide) (Nat.le_of_ble_eq_true rfl) rfl) rfl ?_
    exact j_iret rfl d_O_valueIn_27 ⟨by first | (rw [opv, if_pos h5]; done) | (rw [opv, if_neg h5, hj, nI_clamp (by omega)]; rfl), rfl⟩
  · refine j_aload_n d_O_valueIn_8 rfl ?_
    refine j_getf d_O_valueIn_9 f_O_19 rfl rfl ?_
    refine j_goto (tgt := 27) d_O_valueIn_12 rfl ?_
    exact j_iret rfl d_O_valueIn_27 ⟨by first | (rw [opv, if_pos h5]; done) | (rw [opv, if_neg h5, hj, nI_clamp (by omega)]; rfl), rfl⟩
theorem m_O_becomeField_52 (K : jK) (d : Nat) (S : jS) (J : jH) (v : Int32) : jM K M_O_becomeField d [.ref 52, .int v] (lay S ++ J) (rV (lay (s1 S 20 v) ++ J)) 0 0 := by
  refine jM.of (by decide) (Nat.le_of_ble_eq_true rfl) ?_
  refine j_aload_n d_O_becomeField_0 rfl ?_
  refine j_iload_n d_O_becomeField_1 rfl ?_
  refine j_putf d_O_becomeField_2 f_O_15 rfl (Nat.le_of_ble_eq_true rfl) rfl rfl rfl ?_
  exact j_vret rfl d_O_becomeField_5 ⟨rfl, rfl⟩
theorem m_O_becomeNumber_52 (K : jK) (d : Nat) (S : jS) (J : jH) (v : Int32) : jM K M_O_becomeNumber d [.ref 52, .int v] (lay S ++ J) (rV (lay (s1 (s1 S 20 (-1)) 21 v) ++ J)) 0 0 := by
  refine jM.of (by decide) (Nat.le_of_ble_eq_true rfl) ?_
  refine j_aload_n d_O_becomeNumber_0 rfl ?_
  refine j_iconst (v := -1) d_O_becomeNumber_1 rfl ?_
  refine j_putf d_O_becomeNumber_2 f_O_15 rfl (Nat.le_of_ble_eq_true rfl) rfl rfl rfl ?_
  refine j_aload_n d_O_becomeNumber_5 rfl ?_
  refine j_iload_n d_O_becomeNumber_6 rfl ?_
  refine j_putf d_O_becomeNumber_7 f_O_19 rfl (Nat.le_of_ble_eq_true rfl) rfl rfl rfl ?_
  exact j_vret rfl d_O_becomeNumber_10 ⟨rfl, rfl⟩
theorem m_O_valueIn_52 (K : jK) (d : Nat) (hd : 1 ≤ d) (S : jS) (J : jH) (b : Int32) (ho : okO S 20) : jM K M_O_valueIn d [.ref 52, .int b] (lay S ++ J) (rI (opv S 20 21 b) (lay S ++ J)) 0 0 := by
  refine jM.of (by decide) (Nat.le_of_ble_eq_true rfl) ?_
  refine j_aload_n d_O_valueIn_0 rfl ?_
  refine j_getf d_O_valueIn_1 f_O_15 rfl rfl ?_
  refine j_iconst (v := -1) d_O_valueIn_4 rfl ?_
  refine j_icmp_ne (tgt := 15) d_O_valueIn_5 rfl (fun h5 => ?_) (fun h5 => ?_)
  · refine j_aload_n d_O_valueIn_15 rfl ?_
    refine j_getf d_O_valueIn_16 f_O_9 rfl rfl ?_
    refine j_aload_n d_O_valueIn_19 rfl ?_
    refine j_getf d_O_valueIn_20 f_O_15 rfl rfl ?_
    obtain ⟨j, hj6, hj⟩ := ho.resolve_left h5
    refine j_top (w := .int (nI j)) (congrArg Value.int hj) ?_
    refine j_iload_n d_O_valueIn_23 rfl ?_
    refine j_retI (j_callV d_O_valueIn_24 v_F_valueIn l_O_22 rfl rfl (m_F_valueIn K (d - 1) S J j b hj6) (by omega) (by decide) (Nat.le_of_ble_eq_true rfl) rfl) rfl ?_
    exact j_iret rfl d_O_valueIn_27 ⟨by first | (rw [opv, if_pos h5]; done) | (rw [opv, if_neg h5, hj, nI_clamp (by omega)]; rfl), rfl⟩
  · refine j_aload_n d_O_valueIn_8 rfl ?_
    refine j_getf d_O_valueIn_9 f_O_19 rfl rfl ?_
    refine j_goto (tgt := 27) d_O_valueIn_12 rfl ?_
    exact j_iret rfl d_O_valueIn_27 ⟨by first | (rw [opv, if_pos h5]; done) | (rw [opv, if_neg h5, hj, nI_clamp (by omega)]; rfl), rfl⟩
theorem m_O_becomeField_53 (K : jK) (d : Nat) (S : jS) (J : jH) (v : Int32) : jM K M_O_becomeField d [.ref 53, .int v] (lay S ++ J) (rV (lay (s1 S 22 v) ++ J)) 0 0 := by
  refine jM.of (by decide) (Nat.le_of_ble_eq_true rfl) ?_
  refine j_aload_n d_O_becomeField_0 rfl ?_
  refine j_iload_n d_O_becomeField_1 rfl ?_
  refine j_putf d_O_becomeField_2 f_O_15 rfl (Nat.le_of_ble_eq_true rfl) rfl rfl rfl ?_
  exact j_vret rfl d_O_becomeField_5 ⟨rfl, rfl⟩
theorem m_O_becomeNumber_53 (K : jK) (d : Nat) (S : jS) (J : jH) (v : Int32) : jM K M_O_becomeNumber d [.ref 53, .int v] (lay S ++ J) (rV (lay (s1 (s1 S 22 (-1)) 23 v) ++ J)) 0 0 := by
  refine jM.of (by decide) (Nat.le_of_ble_eq_true rfl) ?_
  refine j_aload_n d_O_becomeNumber_0 rfl ?_
  refine j_iconst (v := -1) d_O_becomeNumber_1 rfl ?_
  refine j_putf d_O_becomeNumber_2 f_O_15 rfl (Nat.le_of_ble_eq_true rfl) rfl rfl rfl ?_
  refine j_aload_n d_O_becomeNumber_5 rfl ?_
  refine j_iload_n d_O_becomeNumber_6 rfl ?_
  refine j_putf d_O_becomeNumber_7 f_O_19 rfl (Nat.le_of_ble_eq_true rfl) rfl rfl rfl ?_
  exact j_vret rfl d_O_becomeNumber_10 ⟨rfl, rfl⟩
theorem m_O_valueIn_53 (K : jK) (d : Nat) (hd : 1 ≤ d) (S : jS) (J : jH) (b : Int32) (ho : okO S 22) : jM K M_O_valueIn d [.ref 53, .int b] (lay S ++ J) (rI (opv S 22 23 b) (lay S ++ J)) 0 0 := by
  refine jM.of (by decide) (Nat.le_of_ble_eq_true rfl) ?_
  refine j_aload_n d_O_valueIn_0 rfl ?_
  refine j_getf d_O_valueIn_1 f_O_15 rfl rfl ?_
  refine j_iconst (v := -1) d_O_valueIn_4 rfl ?_
  refine j_icmp_ne (tgt := 15) d_O_valueIn_5 rfl (fun h5 => ?_) (fun h5 => ?_)
  · refine j_aload_n d_O_valueIn_15 rfl ?_
    refine j_getf d_O_valueIn_16 f_O_9 rfl rfl ?_
    refine j_aload_n d_O_valueIn_19 rfl ?_
    refine j_getf d_O_valueIn_20 f_O_15 rfl rfl ?_
    obtain ⟨j, hj6, hj⟩ := ho.resolve_left h5
    refine j_top (w := .int (nI j)) (congrArg Value.int hj) ?_
    refine j_iload_n d_O_valueIn_23 rfl ?_
    refine j_retI (j_callV d_O_valueIn_24 v_F_valueIn l_O_22 rfl rfl (m_F_valueIn K (d - 1) S J j b hj6) (by omega) (by decide) (Nat.le_of_ble_eq_true rfl) rfl) rfl ?_
    exact j_iret rfl d_O_valueIn_27 ⟨by first | (rw [opv, if_pos h5]; done) | (rw [opv, if_neg h5, hj, nI_clamp (by omega)]; rfl), rfl⟩
  · refine j_aload_n d_O_valueIn_8 rfl ?_
    refine j_getf d_O_valueIn_9 f_O_19 rfl rfl ?_
    refine j_goto (tgt := 27) d_O_valueIn_12 rfl ?_
    exact j_iret rfl d_O_valueIn_27 ⟨by first | (rw [opv, if_pos h5]; done) | (rw [opv, if_neg h5, hj, nI_clamp (by omega)]; rfl), rfl⟩
theorem m_O_becomeField_56 (K : jK) (d : Nat) (S : jS) (J : jH) (v : Int32) : jM K M_O_becomeField d [.ref 56, .int v] (lay S ++ J) (rV (lay (s1 S 26 v) ++ J)) 0 0 := by
  refine jM.of (by decide) (Nat.le_of_ble_eq_true rfl) ?_
  refine j_aload_n d_O_becomeField_0 rfl ?_
  refine j_iload_n d_O_becomeField_1 rfl ?_
  refine j_putf d_O_becomeField_2 f_O_15 rfl (Nat.le_of_ble_eq_true rfl) rfl rfl rfl ?_
  exact j_vret rfl d_O_becomeField_5 ⟨rfl, rfl⟩
theorem m_O_becomeNumber_56 (K : jK) (d : Nat) (S : jS) (J : jH) (v : Int32) : jM K M_O_becomeNumber d [.ref 56, .int v] (lay S ++ J) (rV (lay (s1 (s1 S 26 (-1)) 27 v) ++ J)) 0 0 := by
  refine jM.of (by decide) (Nat.le_of_ble_eq_true rfl) ?_
  refine j_aload_n d_O_becomeNumber_0 rfl ?_
  refine j_iconst (v := -1) d_O_becomeNumber_1 rfl ?_
  refine j_putf d_O_becomeNumber_2 f_O_15 rfl (Nat.le_of_ble_eq_true rfl) rfl rfl rfl ?_
  refine j_aload_n d_O_becomeNumber_5 rfl ?_
  refine j_iload_n d_O_becomeNumber_6 rfl ?_
  refine j_putf d_O_becomeNumber_7 f_O_19 rfl (Nat.le_of_ble_eq_true rfl) rfl rfl rfl ?_
  exact j_vret rfl d_O_becomeNumber_10 ⟨rfl, rfl⟩
theorem m_O_valueIn_56 (K : jK) (d : Nat) (hd : 1 ≤ d) (S : jS) (J : jH) (b : Int32) (ho : okO S 26) : jM K M_O_valueIn d [.ref 56, .int b] (lay S ++ J) (rI (opv S 26 27 b) (lay S ++ J)) 0 0 := by
  refine jM.of (by decide) (Nat.le_of_ble_eq_true rfl) ?_
  refine j_aload_n d_O_valueIn_0 rfl ?_
  refine j_getf d_O_valueIn_1 f_O_15 rfl rfl ?_
  refine j_iconst (v := -1) d_O_valueIn_4 rfl ?_
  refine j_icmp_ne (tgt := 15) d_O_valueIn_5 rfl (fun h5 => ?_) (fun h5 => ?_)
  · refine j_aload_n d_O_valueIn_15 rfl ?_
    refine j_getf d_O_valueIn_16 f_O_9 rfl rfl ?_
    refine j_aload_n d_O_valueIn_19 rfl ?_
    refine j_getf d_O_valueIn_20 f_O_15 rfl rfl ?_
    obtain ⟨j, hj6, hj⟩ := ho.resolve_left h5
    refine j_top (w := .int (nI j)) (congrArg Value.int hj) ?_
    refine j_iload_n d_O_valueIn_23 rfl ?_
    refine j_retI (j_callV d_O_valueIn_24 v_F_valueIn l_O_22 rfl rfl (m_F_valueIn K (d - 1) S J j b hj6) (by omega) (by decide) (Nat.le_of_ble_eq_true rfl) rfl) rfl ?_
    exact j_iret rfl d_O_valueIn_27 ⟨by first | (rw [opv, if_pos h5]; done) | (rw [opv, if_neg h5, hj, nI_clamp (by omega)]; rfl), rfl⟩
  · refine j_aload_n d_O_valueIn_8 rfl ?_
    refine j_getf d_O_valueIn_9 f_O_19 rfl rfl ?_
    refine j_goto (tgt := 27) d_O_valueIn_12 rfl ?_
    exact j_iret rfl d_O_valueIn_27 ⟨by first | (rw [opv, if_pos h5]; done) | (rw [opv, if_neg h5, hj, nI_clamp (by omega)]; rfl), rfl⟩
theorem m_O_becomeField_57 (K : jK) (d : Nat) (S : jS) (J : jH) (v : Int32) : jM K M_O_becomeField d [.ref 57, .int v] (lay S ++ J) (rV (lay (s1 S 28 v) ++ J)) 0 0 := by
  refine jM.of (by decide) (Nat.le_of_ble_eq_true rfl) ?_
  refine j_aload_n d_O_becomeField_0 rfl ?_
  refine j_iload_n d_O_becomeField_1 rfl ?_
  refine j_putf d_O_becomeField_2 f_O_15 rfl (Nat.le_of_ble_eq_true rfl) rfl rfl rfl ?_
  exact j_vret rfl d_O_becomeField_5 ⟨rfl, rfl⟩
theorem m_O_becomeNumber_57 (K : jK) (d : Nat) (S : jS) (J : jH) (v : Int32) : jM K M_O_becomeNumber d [.ref 57, .int v] (lay S ++ J) (rV (lay (s1 (s1 S 28 (-1)) 29 v) ++ J)) 0 0 := by
  refine jM.of (by decide) (Nat.le_of_ble_eq_true rfl) ?_
  refine j_aload_n d_O_becomeNumber_0 rfl ?_
  refine j_iconst (v := -1) d_O_becomeNumber_1 rfl ?_
  refine j_putf d_O_becomeNumber_2 f_O_15 rfl (Nat.le_of_ble_eq_true rfl) rfl rfl rfl ?_
  refine j_aload_n d_O_becomeNumber_5 rfl ?_
  refine j_iload_n d_O_becomeNumber_6 rfl ?_
  refine j_putf d_O_becomeNumber_7 f_O_19 rfl (Nat.le_of_ble_eq_true rfl) rfl rfl rfl ?_
  exact j_vret rfl d_O_becomeNumber_10 ⟨rfl, rfl⟩
theorem m_O_valueIn_57 (K : jK) (d : Nat) (hd : 1 ≤ d) (S : jS) (J : jH) (b : Int32) (ho : okO S 28) : jM K M_O_valueIn d [.ref 57, .int b] (lay S ++ J) (rI (opv S 28 29 b) (lay S ++ J)) 0 0 := by
  refine jM.of (by decide) (Nat.le_of_ble_eq_true rfl) ?_
  refine j_aload_n d_O_valueIn_0 rfl ?_
  refine j_getf d_O_valueIn_1 f_O_15 rfl rfl ?_
  refine j_iconst (v := -1) d_O_valueIn_4 rfl ?_
  refine j_icmp_ne (tgt := 15) d_O_valueIn_5 rfl (fun h5 => ?_) (fun h5 => ?_)
  · refine j_aload_n d_O_valueIn_15 rfl ?_
    refine j_getf d_O_valueIn_16 f_O_9 rfl rfl ?_
    refine j_aload_n d_O_valueIn_19 rfl ?_
    refine j_getf d_O_valueIn_20 f_O_15 rfl rfl ?_
    obtain ⟨j, hj6, hj⟩ := ho.resolve_left h5
    refine j_top (w := .int (nI j)) (congrArg Value.int hj) ?_
    refine j_iload_n d_O_valueIn_23 rfl ?_
    refine j_retI (j_callV d_O_valueIn_24 v_F_valueIn l_O_22 rfl rfl (m_F_valueIn K (d - 1) S J j b hj6) (by omega) (by decide) (Nat.le_of_ble_eq_true rfl) rfl) rfl ?_
    exact j_iret rfl d_O_valueIn_27 ⟨by first | (rw [opv, if_pos h5]; done) | (rw [opv, if_neg h5, hj, nI_clamp (by omega)]; rfl), rfl⟩
  · refine j_aload_n d_O_valueIn_8 rfl ?_
    refine j_getf d_O_valueIn_9 f_O_19 rfl rfl ?_
    refine j_goto (tgt := 27) d_O_valueIn_12 rfl ?_
    exact j_iret rfl d_O_valueIn_27 ⟨by first | (rw [opv, if_pos h5]; done) | (rw [opv, if_neg h5, hj, nI_clamp (by omega)]; rfl), rfl⟩
theorem m_P_isTrueIn (K : jK) (d : Nat) (hd : 2 ≤ d) (S : jS) (J : jH) (b : Int32) (hl : okO S 14) (hr : okO S 16) : jM K M_P_isTrueIn d [.ref 47, .int b] (lay S ++ J) (rI (tru (S.1 13) (opv S 14 15 b) (opv S 16 17 b)) (lay S ++ J)) 0 0 := by
  refine jM.of (by decide) (Nat.le_of_ble_eq_true rfl) ?_
  refine j_aload_n d_P_isTrueIn_0 rfl ?_
  refine j_getf d_P_isTrueIn_1 f_P_12 rfl rfl ?_
  refine j_iload_n d_P_isTrueIn_4 rfl ?_
  refine j_retI (j_callV d_P_isTrueIn_5 v_O_valueIn l_P_25 rfl rfl (m_O_valueIn_48 K (d - 1) (by omega) S J b hl) (by omega) (by decide) (Nat.le_of_ble_eq_true rfl) rfl) rfl ?_
  refine j_aload_n d_P_isTrueIn_8 rfl ?_
  refine j_getf d_P_isTrueIn_9 f_P_18 rfl rfl ?_
  refine j_iload_n d_P_isTrueIn_12 rfl ?_
  refine j_retI (j_callV d_P_isTrueIn_13 v_O_valueIn l_P_25 rfl rfl (m_O_valueIn_49 K (d - 1) (by omega) S J b hr) (by omega) (by decide) (Nat.le_of_ble_eq_true rfl) rfl) rfl ?_
  refine j_retI (j_callS d_P_isTrueIn_16 s_JInteger_compare l_P_29 rfl (m_JInteger_compare K (d - 1) _ _ _) (by omega) (by decide) (Nat.le_of_ble_eq_true rfl) rfl) rfl ?_
  refine j_istore_n d_P_isTrueIn_19 (by decide) ?_
  refine j_aload_n d_P_isTrueIn_20 rfl ?_
  refine j_getf d_P_isTrueIn_21 f_P_21 rfl rfl ?_
  refine j_bipush (v := 60) d_P_isTrueIn_24 (by decide) ?_
  refine j_icmp_ne (tgt := 39) d_P_isTrueIn_26 rfl (fun h26 => ?_) (fun h26 => ?_)
  · refine j_aload_n d_P_isTrueIn_39 rfl ?_
    refine j_getf d_P_isTrueIn_40 f_P_21 rfl rfl ?_
    refine j_bipush (v := 62) d_P_isTrueIn_43 (by decide) ?_
    refine j_icmp_ne (tgt := 60) d_P_isTrueIn_45 rfl (fun h45 => ?_) (fun h45 => ?_)
    · refine j_iload_n d_P_isTrueIn_60 rfl ?_
      refine j_if_ne (tgt := 68) d_P_isTrueIn_61 rfl (fun h61 => ?_) (fun h61 => ?_)
      · refine j_iconst (v := 0) d_P_isTrueIn_68 rfl ?_
        exact j_zret rfl rfl d_P_isTrueIn_69 ⟨by rw [tru, if_neg h26, if_neg h45]; first | (rw [if_pos ((cmp_eq _ _).mp h61)]; done) | (rw [if_neg (fun q => h61 ((cmp_eq _ _).mpr q))]; done), rfl⟩
      · refine j_iconst (v := 1) d_P_isTrueIn_64 rfl ?_
        refine j_goto (tgt := 69) d_P_isTrueIn_65 rfl ?_
        exact j_zret rfl rfl d_P_isTrueIn_69 ⟨by rw [tru, if_neg h26, if_neg h45]; first | (rw [if_pos ((cmp_eq _ _).mp h61)]; done) | (rw [if_neg (fun q => h61 ((cmp_eq _ _).mpr q))]; done), rfl⟩
    · refine j_iload_n d_P_isTrueIn_48 rfl ?_
      refine j_if_le (tgt := 56) d_P_isTrueIn_49 rfl (fun h49 => ?_) (fun h49 => ?_)
      · refine j_iconst (v := 0) d_P_isTrueIn_56 rfl ?_
        refine j_goto (tgt := 69) d_P_isTrueIn_57 rfl ?_
        exact j_zret rfl rfl d_P_isTrueIn_69 ⟨by rw [tru, if_neg h26, if_pos h45]; first | (rw [if_neg ((cmp_gt _ _).mp h49)]; done) | (rw [if_pos (Decidable.not_not.mp (fun q => h49 ((cmp_gt _ _).mpr q)))]; done), rfl⟩
      · refine j_iconst (v := 1) d_P_isTrueIn_52 rfl ?_
        refine j_goto (tgt := 69) d_P_isTrueIn_53 rfl ?_
        exact j_zret rfl rfl d_P_isTrueIn_69 ⟨by rw [tru, if_neg h26, if_pos h45]; first | (rw [if_neg ((cmp_gt _ _).mp h49)]; done) | (rw [if_pos (Decidable.not_not.mp (fun q => h49 ((cmp_gt _ _).mpr q)))]; done), rfl⟩
  · refine j_iload_n d_P_isTrueIn_29 rfl ?_
    refine j_if_ge (tgt := 37) d_P_isTrueIn_30 rfl (fun h30 => ?_) (fun h30 => ?_)
    · refine j_iconst (v := 0) d_P_isTrueIn_37 rfl ?_
      exact j_zret rfl rfl d_P_isTrueIn_38 ⟨by rw [tru, if_pos h26]; first | (rw [if_neg ((cmp_lt _ _).mp h30)]; done) | (rw [if_pos (Decidable.not_not.mp (fun q => h30 ((cmp_lt _ _).mpr q)))]; done), rfl⟩
    · refine j_iconst (v := 1) d_P_isTrueIn_33 rfl ?_
      refine j_goto (tgt := 38) d_P_isTrueIn_34 rfl ?_
      exact j_zret rfl rfl d_P_isTrueIn_38 ⟨by rw [tru, if_pos h26]; first | (rw [if_neg ((cmp_lt _ _).mp h30)]; done) | (rw [if_pos (Decidable.not_not.mp (fun q => h30 ((cmp_lt _ _).mpr q)))]; done), rfl⟩
theorem m_P_resultIn_51 (K : jK) (d : Nat) (hd : 2 ≤ d) (S : jS) (J : jH) (b : Int32) (hl : okO S 20) (hr : okO S 22 ∨ (¬ S.1 19 = 43 ∧ ¬ S.1 19 = 45 ∧ ¬ S.1 19 = 42)) : jM K M_P_resultIn d [.ref 51, .int b] (lay S ++ J) (rI (res (S.1 19) (opv S 20 21 b) (opv S 22 23 b)) (lay S ++ J)) 0 0 := by
  refine jM.of (by decide) (Nat.le_of_ble_eq_true rfl) ?_
  refine j_aload_n d_P_resultIn_0 rfl ?_
  refine j_getf d_P_resultIn_1 f_P_12 rfl rfl ?_
  refine j_iload_n d_P_resultIn_4 rfl ?_
  refine j_retI (j_callV d_P_resultIn_5 v_O_valueIn l_P_25 rfl rfl (m_O_valueIn_52 K (d - 1) (by omega) S J b hl) (by omega) (by decide) (Nat.le_of_ble_eq_true rfl) rfl) rfl ?_
  refine j_istore_n d_P_resultIn_8 (by decide) ?_
  refine j_aload_n d_P_resultIn_9 rfl ?_
  refine j_getf d_P_resultIn_10 f_P_21 rfl rfl ?_
  refine j_bipush (v := 43) d_P_resultIn_13 (by decide) ?_
  refine j_icmp_ne (tgt := 29) d_P_resultIn_15 rfl (fun h15 => ?_) (fun h15 => ?_)
  · refine j_aload_n d_P_resultIn_29 rfl ?_
    refine j_getf d_P_resultIn_30 f_P_21 rfl rfl ?_
    refine j_bipush (v := 45) d_P_resultIn_33 (by decide) ?_
    refine j_icmp_ne (tgt := 49) d_P_resultIn_35 rfl (fun h35 => ?_) (fun h35 => ?_)
    · refine j_aload_n d_P_resultIn_49 rfl ?_
      refine j_getf d_P_resultIn_50 f_P_21 rfl rfl ?_
      refine j_bipush (v := 42) d_P_resultIn_53 (by decide) ?_
      refine j_icmp_ne (tgt := 71) d_P_resultIn_55 rfl (fun h55 => ?_) (fun h55 => ?_)
      · refine j_iload_n d_P_resultIn_71 rfl ?_
        exact j_iret rfl d_P_resultIn_72 ⟨by first | (simp only [res, h15, h35, h55, ↓reduceIte]; done) | (simp [res, h15, h35, h55]; done), rfl⟩
      · refine j_iload_n d_P_resultIn_58 rfl ?_
        refine j_aload_n d_P_resultIn_59 rfl ?_
        refine j_getf d_P_resultIn_60 f_P_18 rfl rfl ?_
        refine j_iload_n d_P_resultIn_63 rfl ?_
        refine j_retI (j_callV d_P_resultIn_64 v_O_valueIn l_P_25 rfl rfl (m_O_valueIn_53 K (d - 1) (by omega) S J b (hr.resolve_right (fun q => q.2.2 h55))) (by omega) (by decide) (Nat.le_of_ble_eq_true rfl) rfl) rfl ?_
        refine j_imul d_P_resultIn_67 ?_
        refine j_goto (tgt := 72) d_P_resultIn_68 rfl ?_
        exact j_iret rfl d_P_resultIn_72 ⟨by first | (simp only [res, h15, h35, h55, ↓reduceIte]; done) | (simp [res, h15, h35, h55]; done), rfl⟩
    · refine j_iload_n d_P_resultIn_38 rfl ?_
      refine j_aload_n d_P_resultIn_39 rfl ?_
      refine j_getf d_P_resultIn_40 f_P_18 rfl rfl ?_
      refine j_iload_n d_P_resultIn_43 rfl ?_
      refine j_retI (j_callV d_P_resultIn_44 v_O_valueIn l_P_25 rfl rfl (m_O_valueIn_53 K (d - 1) (by omega) S J b (hr.resolve_right (fun q => q.2.1 h35))) (by omega) (by decide) (Nat.le_of_ble_eq_true rfl) rfl) rfl ?_
      refine j_isub d_P_resultIn_47 ?_
      exact j_iret rfl d_P_resultIn_48 ⟨by first | (simp only [res, h15, h35, ↓reduceIte]; done) | (simp [res, h15, h35]; done), rfl⟩
  · refine j_iload_n d_P_resultIn_18 rfl ?_
    refine j_aload_n d_P_resultIn_19 rfl ?_
    refine j_getf d_P_resultIn_20 f_P_18 rfl rfl ?_
    refine j_iload_n d_P_resultIn_23 rfl ?_
    refine j_retI (j_callV d_P_resultIn_24 v_O_valueIn l_P_25 rfl rfl (m_O_valueIn_53 K (d - 1) (by omega) S J b (hr.resolve_right (fun q => q.1 h15))) (by omega) (by decide) (Nat.le_of_ble_eq_true rfl) rfl) rfl ?_
    refine j_iadd d_P_resultIn_27 ?_
    exact j_iret rfl d_P_resultIn_28 ⟨by first | (simp only [res, h15, ↓reduceIte]; done) | (simp [res, h15]; done), rfl⟩
theorem m_P_resultIn_55 (K : jK) (d : Nat) (hd : 2 ≤ d) (S : jS) (J : jH) (b : Int32) (hl : okO S 26) (hr : okO S 28 ∨ (¬ S.1 25 = 43 ∧ ¬ S.1 25 = 45 ∧ ¬ S.1 25 = 42)) : jM K M_P_resultIn d [.ref 55, .int b] (lay S ++ J) (rI (res (S.1 25) (opv S 26 27 b) (opv S 28 29 b)) (lay S ++ J)) 0 0 := by
  refine jM.of (by decide) (Nat.le_of_ble_eq_true rfl) ?_
  refine j_aload_n d_P_resultIn_0 rfl ?_
  refine j_getf d_P_resultIn_1 f_P_12 rfl rfl ?_
  refine j_iload_n d_P_resultIn_4 rfl ?_
  refine j_retI (j_callV d_P_resultIn_5 v_O_valueIn l_P_25 rfl rfl (m_O_valueIn_56 K (d - 1) (by omega) S J b hl) (by omega) (by decide) (Nat.le_of_ble_eq_true rfl) rfl) rfl ?_
  refine j_istore_n d_P_resultIn_8 (by decide) ?_
  refine j_aload_n d_P_resultIn_9 rfl ?_
  refine j_getf d_P_resultIn_10 f_P_21 rfl rfl ?_
  refine j_bipush (v := 43) d_P_resultIn_13 (by decide) ?_
  refine j_icmp_ne (tgt := 29) d_P_resultIn_15 rfl (fun h15 => ?_) (fun h15 => ?_)
  · refine j_aload_n d_P_resultIn_29 rfl ?_
    refine j_getf d_P_resultIn_30 f_P_21 rfl rfl ?_
    refine j_bipush (v := 45) d_P_resultIn_33 (by decide) ?_
    refine j_icmp_ne (tgt := 49) d_P_resultIn_35 rfl (fun h35 => ?_) (fun h35 => ?_)
    · refine j_aload_n d_P_resultIn_49 rfl ?_
      refine j_getf d_P_resultIn_50 f_P_21 rfl rfl ?_
      refine j_bipush (v := 42) d_P_resultIn_53 (by decide) ?_
      refine j_icmp_ne (tgt := 71) d_P_resultIn_55 rfl (fun h55 => ?_) (fun h55 => ?_)
      · refine j_iload_n d_P_resultIn_71 rfl ?_
        exact j_iret rfl d_P_resultIn_72 ⟨by first | (simp only [res, h15, h35, h55, ↓reduceIte]; done) | (simp [res, h15, h35, h55]; done), rfl⟩
      · refine j_iload_n d_P_resultIn_58 rfl ?_
        refine j_aload_n d_P_resultIn_59 rfl ?_
        refine j_getf d_P_resultIn_60 f_P_18 rfl rfl ?_
        refine j_iload_n d_P_resultIn_63 rfl ?_
        refine j_retI (j_callV d_P_resultIn_64 v_O_valueIn l_P_25 rfl rfl (m_O_valueIn_57 K (d - 1) (by omega) S J b (hr.resolve_right (fun q => q.2.2 h55))) (by omega) (by decide) (Nat.le_of_ble_eq_true rfl) rfl) rfl ?_
        refine j_imul d_P_resultIn_67 ?_
        refine j_goto (tgt := 72) d_P_resultIn_68 rfl ?_
        exact j_iret rfl d_P_resultIn_72 ⟨by first | (simp only [res, h15, h35, h55, ↓reduceIte]; done) | (simp [res, h15, h35, h55]; done), rfl⟩
    · refine j_iload_n d_P_resultIn_38 rfl ?_
      refine j_aload_n d_P_resultIn_39 rfl ?_
      refine j_getf d_P_resultIn_40 f_P_18 rfl rfl ?_
      refine j_iload_n d_P_resultIn_43 rfl ?_
      refine j_retI (j_callV d_P_resultIn_44 v_O_valueIn l_P_25 rfl rfl (m_O_valueIn_57 K (d - 1) (by omega) S J b (hr.resolve_right (fun q => q.2.1 h35))) (by omega) (by decide) (Nat.le_of_ble_eq_true rfl) rfl) rfl ?_
      refine j_isub d_P_resultIn_47 ?_
      exact j_iret rfl d_P_resultIn_48 ⟨by first | (simp only [res, h15, h35, ↓reduceIte]; done) | (simp [res, h15, h35]; done), rfl⟩
  · refine j_iload_n d_P_resultIn_18 rfl ?_
    refine j_aload_n d_P_resultIn_19 rfl ?_
    refine j_getf d_P_resultIn_20 f_P_18 rfl rfl ?_
    refine j_iload_n d_P_resultIn_23 rfl ?_
    refine j_retI (j_callV d_P_resultIn_24 v_O_valueIn l_P_25 rfl rfl (m_O_valueIn_57 K (d - 1) (by omega) S J b (hr.resolve_right (fun q => q.1 h15))) (by omega) (by decide) (Nat.le_of_ble_eq_true rfl) rfl) rfl ?_
    refine j_iadd d_P_resultIn_27 ?_
    exact j_iret rfl d_P_resultIn_28 ⟨by first | (simp only [res, h15, ↓reduceIte]; done) | (simp [res, h15]; done), rfl⟩
theorem m_C_fitsIn_50 (K : jK) (d : Nat) (hd : 3 ≤ d) (S : jS) (J : jH) (b : Int32) (hl : okO S 20) (hr : okO S 22 ∨ (¬ S.1 19 = 43 ∧ ¬ S.1 19 = 45 ∧ ¬ S.1 19 = 42)) (j : Nat) (hj6 : j < 6) (hj : S.1 18 = nI j) : jM K M_C_fitsIn d [.ref 50, .int b] (lay S ++ J) (rI (vfit (S.2.1 2 j) (S.2.1 3 j) (res (S.1 19) (opv S 20 21 b) (opv S 22 23 b))) (lay S ++ J)) 0 0 := by
  refine jM.of (by decide) (Nat.le_of_ble_eq_true rfl) ?_
  refine j_aload_n d_C_fitsIn_0 rfl ?_
  refine j_getf d_C_fitsIn_1 f_C_7 rfl rfl ?_
  refine j_aload_n d_C_fitsIn_4 rfl ?_
  refine j_getf d_C_fitsIn_5 f_C_22 rfl rfl ?_
  refine j_top (w := .int (nI j)) (congrArg Value.int hj) ?_
  refine j_aload_n d_C_fitsIn_8 rfl ?_
  refine j_getf d_C_fitsIn_9 f_C_18 rfl rfl ?_
  refine j_iload_n d_C_fitsIn_12 rfl ?_
  refine j_retI (j_callV d_C_fitsIn_13 v_P_resultIn l_C_26 rfl rfl (m_P_resultIn_51 K (d - 1) (by omega) S J b hl hr) (by omega) (by decide) (Nat.le_of_ble_eq_true rfl) rfl) rfl ?_
  refine j_retI (j_callV d_C_fitsIn_16 v_F_fits l_C_30 rfl rfl (m_F_fits K (d - 1) S J j _ hj6) (by omega) (by decide) (Nat.le_of_ble_eq_true rfl) rfl) rfl ?_
  exact j_zret rfl (vfit_nar _ _ _) d_C_fitsIn_19 ⟨rfl, rfl⟩
theorem m_C_appliedTo_50 (K : jK) (d : Nat) (hd : 3 ≤ d) (S : jS) (J : jH) (b0 b : Int32) (hl : okO S 20) (hr : okO S 22 ∨ (¬ S.1 19 = 43 ∧ ¬ S.1 19 = 45 ∧ ¬ S.1 19 = 42)) (j : Nat) (hj6 : j < 6) (hj : S.1 18 = nI j) : jM K M_C_appliedTo d [.ref 50, .int b0, .int b] (lay S ++ J) (rI (vput (S.2.1 1 j) (S.2.1 2 j) b0 (res (S.1 19) (opv S 20 21 b) (opv S 22 23 b))) (lay S ++ J)) 0 0 := by
  refine jM.of (by decide) (Nat.le_of_ble_eq_true rfl) ?_
  refine j_aload_n d_C_appliedTo_0 rfl ?_
  refine j_getf d_C_appliedTo_1 f_C_7 rfl rfl ?_
  refine j_aload_n d_C_appliedTo_4 rfl ?_
  refine j_getf d_C_appliedTo_5 f_C_22 rfl rfl ?_
  refine j_top (w := .int (nI j)) (congrArg Value.int hj) ?_
  refine j_iload_n d_C_appliedTo_8 rfl ?_
  refine j_aload_n d_C_appliedTo_9 rfl ?_
  refine j_getf d_C_appliedTo_10 f_C_18 rfl rfl ?_
  refine j_iload_n d_C_appliedTo_13 rfl ?_
  refine j_retI (j_callV d_C_appliedTo_14 v_P_resultIn l_C_26 rfl rfl (m_P_resultIn_51 K (d - 1) (by omega) S J b hl hr) (by omega) (by decide) (Nat.le_of_ble_eq_true rfl) rfl) rfl ?_
  refine j_retI (j_callV d_C_appliedTo_17 v_F_withValue l_C_36 rfl rfl (m_F_withValue K (d - 1) (by omega) S J j _ _ hj6) (by omega) (by decide) (Nat.le_of_ble_eq_true rfl) rfl) rfl ?_
  exact j_iret rfl d_C_appliedTo_20 ⟨rfl, rfl⟩
theorem m_C_fitsIn_54 (K : jK) (d : Nat) (hd : 3 ≤ d) (S : jS) (J : jH) (b : Int32) (hl : okO S 26) (hr : okO S 28 ∨ (¬ S.1 25 = 43 ∧ ¬ S.1 25 = 45 ∧ ¬ S.1 25 = 42)) (j : Nat) (hj6 : j < 6) (hj : S.1 24 = nI j) : jM K M_C_fitsIn d [.ref 54, .int b] (lay S ++ J) (rI (vfit (S.2.1 2 j) (S.2.1 3 j) (res (S.1 25) (opv S 26 27 b) (opv S 28 29 b))) (lay S ++ J)) 0 0 := by
  refine jM.of (by decide) (Nat.le_of_ble_eq_true rfl) ?_
  refine j_aload_n d_C_fitsIn_0 rfl ?_
  refine j_getf d_C_fitsIn_1 f_C_7 rfl rfl ?_
  refine j_aload_n d_C_fitsIn_4 rfl ?_
  refine j_getf d_C_fitsIn_5 f_C_22 rfl rfl ?_
  refine j_top (w := .int (nI j)) (congrArg Value.int hj) ?_
  refine j_aload_n d_C_fitsIn_8 rfl ?_
  refine j_getf d_C_fitsIn_9 f_C_18 rfl rfl ?_
  refine j_iload_n d_C_fitsIn_12 rfl ?_
  refine j_retI (j_callV d_C_fitsIn_13 v_P_resultIn l_C_26 rfl rfl (m_P_resultIn_55 K (d - 1) (by omega) S J b hl hr) (by omega) (by decide) (Nat.le_of_ble_eq_true rfl) rfl) rfl ?_
  refine j_retI (j_callV d_C_fitsIn_16 v_F_fits l_C_30 rfl rfl (m_F_fits K (d - 1) S J j _ hj6) (by omega) (by decide) (Nat.le_of_ble_eq_true rfl) rfl) rfl ?_
  exact j_zret rfl (vfit_nar _ _ _) d_C_fitsIn_19 ⟨rfl, rfl⟩
theorem m_C_appliedTo_54 (K : jK) (d : Nat) (hd : 3 ≤ d) (S : jS) (J : jH) (b0 b : Int32) (hl : okO S 26) (hr : okO S 28 ∨ (¬ S.1 25 = 43 ∧ ¬ S.1 25 = 45 ∧ ¬ S.1 25 = 42)) (j : Nat) (hj6 : j < 6) (hj : S.1 24 = nI j) : jM K M_C_appliedTo d [.ref 54, .int b0, .int b] (lay S ++ J) (rI (vput (S.2.1 1 j) (S.2.1 2 j) b0 (res (S.1 25) (opv S 26 27 b) (opv S 28 29 b))) (lay S ++ J)) 0 0 := by
  refine jM.of (by decide) (Nat.le_of_ble_eq_true rfl) ?_
  refine j_aload_n d_C_appliedTo_0 rfl ?_
  refine j_getf d_C_appliedTo_1 f_C_7 rfl rfl ?_
  refine j_aload_n d_C_appliedTo_4 rfl ?_
  refine j_getf d_C_appliedTo_5 f_C_22 rfl rfl ?_
  refine j_top (w := .int (nI j)) (congrArg Value.int hj) ?_
  refine j_iload_n d_C_appliedTo_8 rfl ?_
  refine j_aload_n d_C_appliedTo_9 rfl ?_
  refine j_getf d_C_appliedTo_10 f_C_18 rfl rfl ?_
  refine j_iload_n d_C_appliedTo_13 rfl ?_
  refine j_retI (j_callV d_C_appliedTo_14 v_P_resultIn l_C_26 rfl rfl (m_P_resultIn_55 K (d - 1) (by omega) S J b hl hr) (by omega) (by decide) (Nat.le_of_ble_eq_true rfl) rfl) rfl ?_
  refine j_retI (j_callV d_C_appliedTo_17 v_F_withValue l_C_36 rfl rfl (m_F_withValue K (d - 1) (by omega) S J j _ _ hj6) (by omega) (by decide) (Nat.le_of_ble_eq_true rfl) rfl) rfl ?_
  exact j_iret rfl d_C_appliedTo_20 ⟨rfl, rfl⟩
end
section
/-! rows on what was there before: statics, constants, the text of Strings -/
theorem j_hq {K : jK} {h : jH} {H : Heap} {s : State} (hw : jW K h H) (hX : jX K s) : ∀ a : Nat, a < K.2.2.1.size → ¬ jA K a → H[a]? = K.2.2.1[a]? := fun a h1 h2 => hw.2.2 a (Nat.lt_of_not_le h2)
theorem j_adx (K : jK) {i : Nat} (hi : i < 32) : j_adr K i = j_x K i := by simp [j_adr, hi]
theorem j_vx (K : jK) {i : Nat} (hi : i < 32) : j_v K (.ref i) = .ref (j_x K i) := by show Value.ref (j_adr K i) = _; rw [j_adx K hi]
section JEXT
variable {K : jK} {M : jR} {d pc : Nat} {ls : List (Nat × Value)} {st st0 : List Value} {h : jH} {Q Q' : jO → jH → Prop} {mc ms : Nat} {M' : jR} {d' : Nat}
theorem j_getx {idx i : Nat} {o n de : String} {v : Value} (hd : decode M.2.1 pc = .ok (.getfield idx, 3)) (hlink : Cond.fieldLink M.1.cls idx o n de ∈ jt) (hE : ∀ s, jX K s → va_OF o n de (j_v K v) (j_adr K i) (jA K) s K.2.2.1) (kk : jE K M d (pc + 3) ls (v :: st) h Q mc ms) : jE K M d pc ls (.ref i :: st) h Q mc ms := by
  intro p e R s m as bl me c H lo ce sl la hC hc hs hl hw hL
  have hX := hC.2.2.2.2.2.2.2.2.2.2.2.2
  obtain ⟨cf, k, fi, f, cell, h1, h2, h3, h4, h5, h6⟩ := (hE s hX).kept (j_hq hw hX)
  exact W.getf hC.1 hC.2.1 hC.2.2.2.1 (hC.2.2.2.2.1 _ hlink) h1 h2 h3 h4 (v := j_v K v) h5 rfl rfl hd (kk p e R s m as bl me c H lo ce sl la hC hc hs hl hw hL)
theorem j_gets {idx : Nat} {C n de : String} {v : Value} (hd : decode M.2.1 pc = .ok (.getstatic idx, 3)) (hlink : Cond.fieldLink M.1.cls idx C n de ∈ jt ∨ ∃ host, Cond.fieldLinkNest M.1.cls idx C n de host ∈ jt) (hZ : ∀ s, jX K s → va_Z C n de (j_v K v) (jA K) s K.2.2.1) (kk : jE K M d (pc + 3) ls (v :: st) h Q mc ms) : jE K M d pc ls st h Q mc ms := by
  intro p e R s m as bl me c H lo ce sl la hC hc hs hl hw hL
  have hX := hC.2.2.2.2.2.2.2.2.2.2.2.2
  obtain ⟨cf, kf, fi, f, a, cell, h1, h2, h3, h4, h5, h6, h7, h8⟩ := (hZ s hX).kept (j_hq hw hX)
  have kk' := kk p e R s m as bl me c H lo ce sl la hC hc hs hl hw hL
  rcases hlink with hl0 | ⟨host, hl0⟩
  · exact W.gets hC.1 hC.2.1 hC.2.2.2.1 (hC.2.2.2.2.1 _ hl0) h1 h2 h3 h4 h5 (fun e => by rw [e] at h6; cases h6) (v := j_v K v) h7 (g := F0 m pc la (st.map (j_v K))) rfl hd kk'
  · exact va_WgetsN hC.1 hC.2.1 hC.2.2.2.1 (hC.2.2.2.2.1 _ hl0) h1 h2 h3 h4 h5 (fun e => by rw [e] at h6; cases h6) (v := j_v K v) h7 (g := F0 m pc la (st.map (j_v K))) rfl hd kk'
theorem j_xlen {i N : Nat} {ty : FieldType} {f : Nat → Value} (hd : decode M.2.1 pc = .ok (.arraylength, 1)) (hT : ∀ s, jX K s → va_T ty (j_adr K i) N f (jA K) s K.2.2.1) (kk : jE K M d (pc + 1) ls (.int (nI N) :: st) h Q mc ms) : jE K M d pc ls (.ref i :: st) h Q mc ms := by
  intro p e R s m as bl me c H lo ce sl la hC hc hs hl hw hL
  have hX := hC.2.2.2.2.2.2.2.2.2.2.2.2
  obtain ⟨cell, h1, h2, h3, h4, h5, h6, h7⟩ := (hT s hX).kept (j_hq hw hX)
  exact W.alen (n := nI N) hC.1 hC.2.1 h1 h2 h5 rfl rfl hd (kk p e R s m as bl me c H lo ce sl la hC hc hs hl hw hL)
theorem j_xin {cell : Cell} {j N : Nat} (hj : j < N) (hN : N < 2 ^ 31) (h4 : N ≤ cell.slots.size) : ¬ (nI j < 0 ∨ cell.slots.size ≤ (nI j).toNatClampNeg) := by
  rw [nI_clamp (Nat.lt_trans hj hN)]
  rintro (q | q)
  · exact nI_pos (Nat.lt_trans hj hN) q
  · omega
theorem j_xbald {i N j : Nat} {f : Nat → Value} {x : Int32} (hd : decode M.2.1 pc = .ok (.baload, 1)) (hT : ∀ s, jX K s → va_T .byte (j_adr K i) N f (jA K) s K.2.2.1) (hj : j < N) (hN : N < 2 ^ 31) (hv : f j = .int x) (kk : jE K M d (pc + 1) ls (.int x :: st) h Q mc ms) : jE K M d pc ls (.int (nI j) :: .ref i :: st) h Q mc ms := by
  intro p e R s m as bl me c H lo ce sl la hC hc hs hl hw hL
  have hX := hC.2.2.2.2.2.2.2.2.2.2.2.2
  obtain ⟨cell, h1, h2, h3, h4, h5, h6, h7⟩ := (hT s hX).kept (j_hq hw hX)
  exact W.bald (v := .int x) hC.1 hC.2.1 h1 h2 h3 (j_xin hj hN h4) (by rw [nI_clamp (Nat.lt_trans hj hN), h6 j hj, hv]) rfl rfl hd (kk p e R s m as bl me c H lo ce sl la hC hc hs hl hw hL)
theorem j_xiald {i N j : Nat} {f : Nat → Value} {x : Int32} (hd : decode M.2.1 pc = .ok (.iaload, 1)) (hT : ∀ s, jX K s → va_T .int (j_adr K i) N f (jA K) s K.2.2.1) (hj : j < N) (hN : N < 2 ^ 31) (hv : f j = .int x) (kk : jE K M d (pc + 1) ls (.int x :: st) h Q mc ms) : jE K M d pc ls (.int (nI j) :: .ref i :: st) h Q mc ms := by
  intro p e R s m as bl me c H lo ce sl la hC hc hs hl hw hL
  have hX := hC.2.2.2.2.2.2.2.2.2.2.2.2
  obtain ⟨cell, h1, h2, h3, h4, h5, h6, h7⟩ := (hT s hX).kept (j_hq hw hX)
  exact W.iald (v := .int x) hC.1 hC.2.1 h1 h2 h3 (j_xin hj hN h4) (by rw [nI_clamp (Nat.lt_trans hj hN), h6 j hj, hv]) rfl rfl hd (kk p e R s m as bl me c H lo ce sl la hC hc hs hl hw hL)
theorem j_xaald {i N j : Nat} {C : String} {f : Nat → Value} {v : Value} (hd : decode M.2.1 pc = .ok (.aaload, 1)) (hT : ∀ s, jX K s → va_T (.object C) (j_adr K i) N f (jA K) s K.2.2.1) (hj : j < N) (hN : N < 2 ^ 31) (hv : f j = j_v K v) (kk : jE K M d (pc + 1) ls (v :: st) h Q mc ms) : jE K M d pc ls (.int (nI j) :: .ref i :: st) h Q mc ms := by
  intro p e R s m as bl me c H lo ce sl la hC hc hs hl hw hL
  have hX := hC.2.2.2.2.2.2.2.2.2.2.2.2
  obtain ⟨cell, h1, h2, h3, h4, h5, h6, h7⟩ := (hT s hX).kept (j_hq hw hX)
  exact W.aald (v := j_v K v) (ty := .object C) hC.1 hC.2.1 h1 h2 rfl h3 (j_xin hj hN h4) (by rw [nI_clamp (Nat.lt_trans hj hN), h6 j hj, hv]) rfl rfl hd (kk p e R s m as bl me c H lo ce sl la hC hc hs hl hw hL)
theorem j_ldcs {idx i : Nat} {tx : String} (hd : decode M.2.1 pc = .ok (.ldc idx, 2)) (hR : ∀ s, jX K s → vk_R M.1.cls idx tx (j_adr K i) s) (kk : jE K M d (pc + 2) ls (.ref i :: st) h Q mc ms) : jE K M d pc ls st h Q mc ms := by
  intro p e R s m as bl me c H lo ce sl la hC hc hs hl hw hL
  have hX := hC.2.2.2.2.2.2.2.2.2.2.2.2
  exact va_ldcS hC.1 hC.2.1 hC.2.2.2.1 (hR s hX) hd (kk p e R s m as bl me c H lo ce sl la hC hc hs hl hw hL)
/-- two references that are compared -/
theorem j_acmp_eqT {i : Nat} {off : Int} {tgt : Nat} (hd : decode M.2.1 pc = .ok (.if_acmp .eq off, 3)) (ht : (pc : Int) + off = (tgt : Int)) (kt : jE K M d tgt ls st h Q mc ms) : jE K M d pc ls (.ref i :: .ref i :: st) h Q mc ms := by
  intro p e R s m as bl me c H lo ce sl la hC hc hs hl hw hL
  exact lv_acmp_eq (rx := some (j_adr K i)) (ry := some (j_adr K i)) hC.1 hC.2.1 hd ht (fun _ => kt p e R s m as bl me c H lo ce sl la hC hc hs hl hw hL) (fun q => absurd rfl q)
theorem j_acmp_eqF {i j : Nat} {off : Int} {tgt : Nat} (hd : decode M.2.1 pc = .ok (.if_acmp .eq off, 3)) (ht : (pc : Int) + off = (tgt : Int)) (hne : ∀ s, jX K s → j_adr K i ≠ j_adr K j) (kf : jE K M d (pc + 3) ls st h Q mc ms) : jE K M d pc ls (.ref j :: .ref i :: st) h Q mc ms := by
  intro p e R s m as bl me c H lo ce sl la hC hc hs hl hw hL
  have hX := hC.2.2.2.2.2.2.2.2.2.2.2.2
  exact lv_acmp_eq (rx := some (j_adr K i)) (ry := some (j_adr K j)) hC.1 hC.2.1 hd ht (fun q => absurd (Option.some.inj q) (hne s hX)) (fun _ => kf p e R s m as bl me c H lo ce sl la hC hc hs hl hw hL)
theorem j_acmp_neF {i : Nat} {off : Int} {tgt : Nat} (hd : decode M.2.1 pc = .ok (.if_acmp .ne off, 3)) (ht : (pc : Int) + off = (tgt : Int)) (kf : jE K M d (pc + 3) ls st h Q mc ms) : jE K M d pc ls (.ref i :: .ref i :: st) h Q mc ms := by
  intro p e R s m as bl me c H lo ce sl la hC hc hs hl hw hL
  exact lv_acmp_ne (rx := some (j_adr K i)) (ry := some (j_adr K i)) hC.1 hC.2.1 hd ht (fun q => absurd rfl q) (fun _ => kf p e R s m as bl me c H lo ce sl la hC hc hs hl hw hL)
theorem j_acmp_neT {i j : Nat} {off : Int} {tgt : Nat} (hd : decode M.2.1 pc = .ok (.if_acmp .ne off, 3)) (ht : (pc : Int) + off = (tgt : Int)) (hne : ∀ s, jX K s → j_adr K i ≠ j_adr K j) (kt : jE K M d tgt ls st h Q mc ms) : jE K M d pc ls (.ref j :: .ref i :: st) h Q mc ms := by
  intro p e R s m as bl me c H lo ce sl la hC hc hs hl hw hL
  have hX := hC.2.2.2.2.2.2.2.2.2.2.2.2
  exact lv_acmp_ne (rx := some (j_adr K i)) (ry := some (j_adr K j)) hC.1 hC.2.1 hd ht (fun _ => kt p e R s m as bl me c H lo ce sl la hC hc hs hl hw hL) (fun q => absurd (Option.some.inj q) (hne s hX))
/-- a call on an object that was there before -/
def jMX (M' : jR) (n : Nat) : Prop := Cond.instanceMethod M'.1 ∈ jt ∧ Cond.selects M'.1.cls M'.1 M'.1 ∈ jt ∧ j_code M' ∈ jt ∧ Cond.initialized M'.1.cls ∈ jt ∧ (M'.1.cls ≠ "java/lang/invoke/MethodHandle" ∧ M'.1.cls ≠ "java/lang/invoke/VarHandle") ∧ (parseMethodDescriptor M'.1.desc).map (fun d => d.parameters.length) = some n
theorem j_callX {idx i n : Nat} {as : List Value} (hd : decode M.2.1 pc = .ok (.invokevirtual idx, 3)) (hf : jMX M' n) (hlink : Cond.methodLink M.1.cls idx M'.1 ∈ jt) (hn : as.length = n) (hO : ∀ s, jX K s → va_O M'.1.cls (j_adr K i) (jA K) s K.2.2.1)
    (hM : jM K M' d' (.ref i :: as) h Q' mc ms) (hdd : d' + 1 ≤ d) (hL : M'.2.2.1 ≤ 45) (hst : (st.map fun v => v.category).sum ≤ 8) (h0 : st0 = as.reverse ++ .ref i :: st) : jCall K M d pc ls st0 st h Q' mc ms := by
  subst h0
  intro p e R s m args below meth c H locs cells slots la hC hc hs hl hw hLo T hT X
  obtain ⟨hinst, hsel, hcode, hini, hy, hpar⟩ := hf
  have hts := hC.2.2.2.2.1
  have hX := hC.2.2.2.2.2.2.2.2.2.2.2.2
  obtain ⟨mk, methM, hnamed, hmethM, hstM, habM⟩ := Cond.instanceMethod_spec (hts _ hinst)
  obtain ⟨methM', cM, hmethM', -, -, -, -, -, -, hsigM⟩ := j_code_spec hnamed (hts _ hcode)
  cases hmethM.symm.trans hmethM'
  obtain ⟨c2, r2, m2, q1, q2, q3, q4, kP, hkP, hkPi⟩ := Cond.selects_spec (hts _ hsel)
  obtain ⟨cellB, g2, g4, hcls, -⟩ := (hO s hX).kept (j_hq hw hX)
  cases hcls.symm.trans q1
  cases (State.methodFound?_of_named hnamed hy).symm.trans q2
  cases hnamed.symm.trans q3
  have hselP : selectMethod e.platform s.vm cellB.cls mk = .method mk := by rw [Launch.admits_selectMethod X.admits]; exact q4
  have hdg : decode c.code pc = .ok (.invokevirtual idx, 3) := by rw [hC.2.1]; exact hd
  obtain ⟨vm₁, X₁, hstep₁⟩ := X.invokevirtual hC.1 hC.2.2.2.1 (hts _ hlink) hnamed hmethM hstM hkP hkPi hy (a := j_adr K i) (cell := cellB) (by rw [hT]; exact g2)
    (fun z hz => by rw [hz] at g4; cases g4) hselP hmethM habM hkP hkPi (g := F0 m pc la ((as.reverse ++ .ref i :: st).map (j_v K))) rfl (argsL := as.map (j_v K)) (rest := st.map (j_v K)) (by rw [List.length_map, hn]; exact j_len hpar hsigM)
    (by show (as.reverse ++ .ref i :: st).map (j_v K) = _; rw [List.map_append, List.map_reverse]; rfl) hdg
  exact j_inv hM hdd hL hst hcode hini hC hc hs hl hw hLo hT X₁ hdg hnamed hstep₁
end JEXT
/-! the Strings 8 to 15 -/
theorem x_strO (K : jK) {i : Nat} (hi : i < 8) (s : State) (hX : jX K s) : va_O "java/lang/String" (j_adr K (8 + i)) (jA K) s K.2.2.1 := by
  obtain ⟨h1, h2, h3, h4, h5, h6, h7, h8, h9, h10, h11, h12, h13, h14, h15, h16, h17, h18⟩ := hX
  rw [j_adx K (by omega)]
  exact (h14.1 i hi).1
theorem x_strC (K : jK) {i : Nat} (hi : i < 8) (s : State) (hX : jX K s) : va_OF "java/lang/String" "coder" "B" (j_v K (.int 0)) (j_adr K (8 + i)) (jA K) s K.2.2.1 := by
  obtain ⟨h1, h2, h3, h4, h5, h6, h7, h8, h9, h10, h11, h12, h13, h14, h15, h16, h17, h18⟩ := hX
  rw [j_adx K (by omega)]
  exact (h14.1 i hi).2.1
theorem x_strV (K : jK) {i : Nat} (hi : i < 8) (s : State) (hX : jX K s) : va_OF "java/lang/String" "value" "[B" (j_v K (.ref (16 + i))) (j_adr K (8 + i)) (jA K) s K.2.2.1 := by
  obtain ⟨h1, h2, h3, h4, h5, h6, h7, h8, h9, h10, h11, h12, h13, h14, h15, h16, h17, h18⟩ := hX
  rw [j_adx K (by omega), j_vx K (by omega)]
  exact (h14.1 i hi).2.2.1
theorem x_strB (K : jK) {i : Nat} (hi : i < 8) (s : State) (hX : jX K s) : va_T .byte (j_adr K (16 + i)) (j_txL.getD i 0) (fun j => .int ((j_tx.getD i []).getD j 0)) (jA K) s K.2.2.1 := by
  obtain ⟨h1, h2, h3, h4, h5, h6, h7, h8, h9, h10, h11, h12, h13, h14, h15, h16, h17, h18⟩ := hX
  rw [j_adx K (by omega)]
  exact (h14.1 i hi).2.2.2
theorem x_cmp (K : jK) (s : State) (hX : jX K s) : va_Z "java/lang/String" "COMPACT_STRINGS" "Z" (j_v K (.int 1)) (jA K) s K.2.2.1 := hX.2.2.2.2.2.1
end
section
/-! java.lang.String, on the constants 8 to 15 -/
theorem xf_JString_indexOf0 : jMX M_JString_indexOf0 1 := ⟨j_in 577 (by decide +kernel) rfl, j_in 578 (by decide +kernel) rfl, j_in 579 (by decide +kernel) rfl, j_in 20 (by decide +kernel) rfl, ⟨by decide, by decide⟩, by decide +kernel⟩
theorem xf_JString_indexOf1 : jMX M_JString_indexOf1 2 := ⟨j_in 581 (by decide +kernel) rfl, j_in 582 (by decide +kernel) rfl, j_in 583 (by decide +kernel) rfl, j_in 20 (by decide +kernel) rfl, ⟨by decide, by decide⟩, by decide +kernel⟩
theorem xf_JString_isLatin1 : jMX M_JString_isLatin1 0 := ⟨j_in 585 (by decide +kernel) rfl, j_in 586 (by decide +kernel) rfl, j_in 587 (by decide +kernel) rfl, j_in 20 (by decide +kernel) rfl, ⟨by decide, by decide⟩, by decide +kernel⟩
theorem xf_JString_length : jMX M_JString_length 0 := ⟨j_in 591 (by decide +kernel) rfl, j_in 592 (by decide +kernel) rfl, j_in 593 (by decide +kernel) rfl, j_in 20 (by decide +kernel) rfl, ⟨by decide, by decide⟩, by decide +kernel⟩
theorem xf_JString_coder : jMX M_JString_coder 0 := ⟨j_in 595 (by decide +kernel) rfl, j_in 596 (by decide +kernel) rfl, j_in 597 (by decide +kernel) rfl, j_in 20 (by decide +kernel) rfl, ⟨by decide, by decide⟩, by decide +kernel⟩
theorem xf_JString_charAt : jMX M_JString_charAt 1 := ⟨j_in 670 (by decide +kernel) rfl, j_in 671 (by decide +kernel) rfl, j_in 672 (by decide +kernel) rfl, j_in 20 (by decide +kernel) rfl, ⟨by decide, by decide⟩, by decide +kernel⟩
theorem xf_A_word : jMX M_A_word 0 := ⟨j_in 788 (by decide +kernel) rfl, j_in 789 (by decide +kernel) rfl, j_in 790 (by decide +kernel) rfl, j_in 11 (by decide +kernel) rfl, ⟨by decide, by decide⟩, by decide +kernel⟩
theorem fx_c : Cond.fieldLink "java/lang/String" 15 "java/lang/String" "coder" "B" ∈ jt := j_in 1262 (by decide +kernel) rfl
theorem fx_v : Cond.fieldLink "java/lang/String" 9 "java/lang/String" "value" "[B" ∈ jt := j_in 1263 (by decide +kernel) rfl
theorem fx_z : Cond.fieldLink "java/lang/String" 38 "java/lang/String" "COMPACT_STRINGS" "Z" ∈ jt := j_in 588 (by decide +kernel) rfl
theorem fx_f : Cond.fieldLink "java/lang/String" 1053 "jdk/internal/util/Preconditions" "SIOOBE_FORMATTER" "Ljava/util/function/BiFunction;" ∈ jt := j_in 631 (by decide +kernel) rfl
theorem m_JString_coder (K : jK) (d : Nat) (h : jH) (i : Nat) (hi : i < 8) : jM K M_JString_coder d [.ref (8 + i)] (h) (rI 0 h) 0 0 := by
  refine jM.of (by decide +kernel) (Nat.le_of_ble_eq_true rfl) ?_
  refine j_gets (v := .int 1) d_JString_coder_0 (Or.inl fx_z) (x_cmp K) ?_
  refine j_if_eqF (tgt := 13) d_JString_coder_3 rfl (by decide) ?_
  refine j_aload_n d_JString_coder_6 rfl ?_
  refine j_getx (v := .int 0) d_JString_coder_7 fx_c (x_strC K hi) ?_
  refine j_goto (tgt := 14) d_JString_coder_10 rfl ?_
  exact j_zret rfl rfl d_JString_coder_14 ⟨rfl, rfl⟩
theorem m_JString_isLatin1 (K : jK) (d : Nat) (h : jH) (i : Nat) (hi : i < 8) : jM K M_JString_isLatin1 d [.ref (8 + i)] (h) (rI 1 h) 0 0 := by
  refine jM.of (by decide +kernel) (Nat.le_of_ble_eq_true rfl) ?_
  refine j_gets (v := .int 1) d_JString_isLatin1_0 (Or.inl fx_z) (x_cmp K) ?_
  refine j_if_eqF (tgt := 17) d_JString_isLatin1_3 rfl (by decide) ?_
  refine j_aload_n d_JString_isLatin1_6 rfl ?_
  refine j_getx (v := .int 0) d_JString_isLatin1_7 fx_c (x_strC K hi) ?_
  refine j_if_neF (tgt := 17) d_JString_isLatin1_10 rfl (rfl) ?_
  refine j_iconst (v := 1) d_JString_isLatin1_13 rfl ?_
  refine j_goto (tgt := 18) d_JString_isLatin1_14 rfl ?_
  exact j_zret rfl rfl d_JString_isLatin1_18 ⟨rfl, rfl⟩
theorem m_JString_length (K : jK) (d : Nat) (hd : 1 ≤ d) (h : jH) (i : Nat) (hi : i < 8) : jM K M_JString_length d [.ref (8 + i)] (h) (rI (nI (j_txL.getD i 0)) h) 0 0 := by
  refine jM.of (by decide +kernel) (Nat.le_of_ble_eq_true rfl) ?_
  refine j_aload_n d_JString_length_0 rfl ?_
  refine j_getx (v := .ref (16 + i)) d_JString_length_1 fx_v (x_strV K hi) ?_
  refine j_xlen d_JString_length_4 (x_strB K hi) ?_
  refine j_aload_n d_JString_length_5 rfl ?_
  refine j_retI (j_callX d_JString_length_6 xf_JString_coder l_JString_335 rfl (x_strO K hi) (m_JString_coder K (d - 1) h i hi) (by omega) (by decide) (Nat.le_of_ble_eq_true rfl) rfl) rfl ?_
  refine j_ishr d_JString_length_9 ?_
  exact j_iret rfl d_JString_length_10 ⟨by rw [sb_shr0], rfl⟩
theorem m_JPreconditions_checkIndex (K : jK) (d : Nat) (h : jH) (j n : Nat) (hj : j < n) (hn : n < 2 ^ 31) (v : Value) (hv : v.category = 1) : jM K M_JPreconditions_checkIndex d [.int (nI j), .int (nI n), v] (h) (rI (nI j) h) 0 0 := by
  refine jM.of (by decide +kernel) (by simp only [lg_sl, List.flatMap_cons, List.flatMap_nil, hv]; exact Nat.le_of_ble_eq_true rfl) ?_
  refine j_loc' [(0, .int (nI j)), (1, .int (nI n))] ⟨rfl, rfl, trivial⟩ ?_
  refine j_iload_n d_JPreconditions_checkIndex_0 rfl ?_
  refine j_if_ltF (tgt := 9) d_JPreconditions_checkIndex_1 rfl (nI_pos (by omega)) ?_
  refine j_iload_n d_JPreconditions_checkIndex_4 rfl ?_
  refine j_iload_n d_JPreconditions_checkIndex_5 rfl ?_
  refine j_icmp_ltT (tgt := 16) d_JPreconditions_checkIndex_6 rfl (nI_lt hj hn) ?_
  refine j_iload_n d_JPreconditions_checkIndex_16 rfl ?_
  exact j_iret rfl d_JPreconditions_checkIndex_17 ⟨rfl, rfl⟩
theorem j_getsF {K : jK} {M : jR} {d pc : Nat} {ls : List (Nat × Value)} {st : List Value} {h : jH} {Q : jO → jH → Prop} {mc ms : Nat} (hd : decode M.2.1 pc = .ok (.getstatic 1053, 3)) (hM : M.1.cls = "java/lang/String") (kk : ∀ v : Value, (v = .null ∨ v = .ref 25) → jE K M d (pc + 3) ls (v :: st) h Q mc ms) : jE K M d pc ls st h Q mc ms := by
  intro p e R s m as bl me c H lo ce sl la hC
  have hX := hC.2.2.2.2.2.2.2.2.2.2.2.2
  have hlk : Cond.fieldLink M.1.cls 1053 "jdk/internal/util/Preconditions" "SIOOBE_FORMATTER" "Ljava/util/function/BiFunction;" ∈ jt := by rw [hM]; exact fx_f
  have h7 := hX.2.2.2.2.2.2.1
  intro hc hs hl hw hL
  rcases h7 with h7 | h7
  · obtain ⟨cf, kf, fi, f, a, cell, h1, h2, h3, h4, h5, h6, h7, h8⟩ := h7.kept (j_hq hw hX)
    exact W.gets hC.1 hC.2.1 hC.2.2.2.1 (hC.2.2.2.2.1 _ hlk) h1 h2 h3 h4 h5 (fun e => by rw [e] at h6; cases h6) (v := .null) h7 (g := F0 m pc la (st.map (j_v K))) rfl hd (kk .null (Or.inl rfl) p e R s m as bl me c H lo ce sl la hC hc hs hl hw hL)
  · obtain ⟨cf, kf, fi, f, a, cell, h1, h2, h3, h4, h5, h6, h7, h8⟩ := h7.kept (j_hq hw hX)
    exact W.gets hC.1 hC.2.1 hC.2.2.2.1 (hC.2.2.2.2.1 _ hlk) h1 h2 h3 h4 h5 (fun e => by rw [e] at h6; cases h6) (v := .ref (j_x K 25)) h7 (g := F0 m pc la (st.map (j_v K))) rfl hd (kk (.ref 25) (Or.inr rfl) p e R s m as bl me c H lo ce sl la hC hc hs hl hw hL)
theorem m_JString_checkIndex (K : jK) (d : Nat) (hd : 1 ≤ d) (h : jH) (j n : Nat) (hj : j < n) (hn : n < 2 ^ 31) : jM K M_JString_checkIndex d [.int (nI j), .int (nI n)] h (rV h) 0 0 := by
  refine jM.of (by decide +kernel) (Nat.le_of_ble_eq_true rfl) ?_
  refine j_iload_n d_JString_checkIndex_0 rfl ?_
  refine j_iload_n d_JString_checkIndex_1 rfl ?_
  refine j_getsF (M := M_JString_checkIndex) d_JString_checkIndex_2 rfl (fun v hv => ?_)
  refine j_retI (j_callS d_JString_checkIndex_5 s_JPreconditions_checkIndex l_JString_1059 rfl (m_JPreconditions_checkIndex K (d - 1) h j n hj hn v (by rcases hv with rfl | rfl <;> rfl)) (by omega) (by decide) (Nat.le_of_ble_eq_true rfl) rfl) rfl ?_
  refine j_pop d_JString_checkIndex_8 rfl ?_
  exact j_vret rfl d_JString_checkIndex_9 ⟨rfl, rfl⟩
/-- the character at a place of a constant's text -/
def txc (i j : Nat) : Int32 := (j_tx.getD i []).getD j 0
theorem txc_ok : ∀ i, i < 8 → ∀ j, j < j_txL.getD i 0 → ((txc i j &&& 255).toUInt32 % 65536).toInt32 = txc i j ∧ narrow .char (.int (txc i j)) = .int (txc i j) := by decide +kernel
theorem txL_lt : ∀ i, i < 8 → j_txL.getD i 0 < 2 ^ 31 := by decide
theorem m_JStringLatin1_charAt (K : jK) (d : Nat) (hd : 2 ≤ d) (h : jH) (i j : Nat) (hi : i < 8) (hj : j < j_txL.getD i 0) : jM K M_JStringLatin1_charAt d [.ref (16 + i), .int (nI j)] (h) (rI (txc i j) h) 0 0 := by
  refine jM.of (by decide +kernel) (Nat.le_of_ble_eq_true rfl) ?_
  refine j_iload_n d_JStringLatin1_charAt_0 rfl ?_
  refine j_aload_n d_JStringLatin1_charAt_1 rfl ?_
  refine j_xlen d_JStringLatin1_charAt_2 (x_strB K hi) ?_
  refine j_retV (j_callS d_JStringLatin1_charAt_3 s_JString_checkIndex l_JStringLatin1_9 rfl (m_JString_checkIndex K (d - 1) (by omega) h j _ hj (txL_lt i hi)) (by omega) (by decide) (Nat.le_of_ble_eq_true rfl) rfl) rfl ?_
  refine j_aload_n d_JStringLatin1_charAt_6 rfl ?_
  refine j_iload_n d_JStringLatin1_charAt_7 rfl ?_
  refine j_xbald (x := txc i j) d_JStringLatin1_charAt_8 (x_strB K hi) hj (txL_lt i hi) rfl ?_
  refine j_sipush (v := 255) d_JStringLatin1_charAt_9 (by decide) ?_
  refine j_iand d_JStringLatin1_charAt_12 ?_
  refine j_i2c d_JStringLatin1_charAt_13 ?_
  refine j_top (w := .int (txc i j)) (congrArg Value.int (txc_ok i hi j hj).1) ?_
  exact j_zret rfl (txc_ok i hi j hj).2 d_JStringLatin1_charAt_14 ⟨rfl, rfl⟩
theorem m_JString_charAt (K : jK) (d : Nat) (hd : 3 ≤ d) (h : jH) (i j : Nat) (hi : i < 8) (hj : j < j_txL.getD i 0) : jM K M_JString_charAt d [.ref (8 + i), .int (nI j)] (h) (rI (txc i j) h) 0 0 := by
  refine jM.of (by decide +kernel) (Nat.le_of_ble_eq_true rfl) ?_
  refine j_aload_n d_JString_charAt_0 rfl ?_
  refine j_retI (j_callX d_JString_charAt_1 xf_JString_isLatin1 l_JString_492 rfl (x_strO K hi) (m_JString_isLatin1 K (d - 1) h i hi) (by omega) (by decide) (Nat.le_of_ble_eq_true rfl) rfl) rfl ?_
  refine j_if_eqF (tgt := 16) d_JString_charAt_4 rfl (by decide) ?_
  refine j_aload_n d_JString_charAt_7 rfl ?_
  refine j_getx (v := .ref (16 + i)) d_JString_charAt_8 fx_v (x_strV K hi) ?_
  refine j_iload_n d_JString_charAt_11 rfl ?_
  refine j_retI (j_callS d_JString_charAt_12 s_JStringLatin1_charAt l_JString_495 rfl (m_JStringLatin1_charAt K (d - 1) (by omega) h i j hi hj) (by omega) (by decide) (Nat.le_of_ble_eq_true rfl) rfl) rfl ?_
  exact j_zret rfl (txc_ok i hi j hj).2 d_JString_charAt_15 ⟨rfl, rfl⟩
theorem m_JStringLatin1_canEncode (K : jK) (d : Nat) (h : jH) (c : Int32) (h1 : ¬ c < 0) (h2 : ¬ 255 < c) : jM K M_JStringLatin1_canEncode d [.int c] (h) (rI 1 h) 0 0 := by
  refine jM.of (by decide +kernel) (Nat.le_of_ble_eq_true rfl) ?_
  refine j_iload_n d_JStringLatin1_canEncode_0 rfl ?_
  refine j_if_ltF (tgt := 15) d_JStringLatin1_canEncode_1 rfl (h1) ?_
  refine j_iload_n d_JStringLatin1_canEncode_4 rfl ?_
  refine j_sipush (v := 255) d_JStringLatin1_canEncode_5 (by decide) ?_
  refine j_icmp_gtF (tgt := 15) d_JStringLatin1_canEncode_8 rfl (h2) ?_
  refine j_iconst (v := 1) d_JStringLatin1_canEncode_11 rfl ?_
  refine j_goto (tgt := 16) d_JStringLatin1_canEncode_12 rfl ?_
  exact j_zret rfl rfl d_JStringLatin1_canEncode_16 ⟨rfl, rfl⟩
theorem m_JStringLatin1_indexOfChar (K : jK) (d : Nat) (h : jH) (i : Nat) (hi : i < 8) (c : Int32) : jM K M_JStringLatin1_indexOfChar d [.ref (16 + i), .int c, .int 0, .int (nI (j_txL.getD i 0))] h (rI (ixOf (txc i) c.toInt8.toInt32 (j_txL.getD i 0) 0) h) 0 0 := by
  refine jM.of (by decide +kernel) (Nat.le_of_ble_eq_true rfl) ?_
  have hN := txL_lt i hi
  have loop : ∀ k j, j + k = j_txL.getD i 0 → jE K M_JStringLatin1_indexOfChar d 7 [(0, .ref (16 + i)), (3, .int (nI (j_txL.getD i 0))), (4, .int c.toInt8.toInt32), (5, .int (nI j))] [] h (rI (ixOf (txc i) c.toInt8.toInt32 k j) h) 0 0 := by
    intro k
    induction k with
    | zero =>
      intro j hj
      refine j_iload d_JStringLatin1_indexOfChar_7 rfl ?_
      refine j_iload_n d_JStringLatin1_indexOfChar_9 rfl ?_
      refine j_icmp_geT (tgt := 31) d_JStringLatin1_indexOfChar_10 rfl (nI_le (by omega) (by omega)) ?_
      refine j_iconst (v := -1) d_JStringLatin1_indexOfChar_31 rfl ?_
      exact j_iret rfl d_JStringLatin1_indexOfChar_32 ⟨rfl, rfl⟩
    | succ k ih =>
      intro j hj
      refine j_iload d_JStringLatin1_indexOfChar_7 rfl ?_
      refine j_iload_n d_JStringLatin1_indexOfChar_9 rfl ?_
      refine j_icmp_geF (tgt := 31) d_JStringLatin1_indexOfChar_10 rfl (nI_ge (by omega) (by omega)) ?_
      refine j_aload_n d_JStringLatin1_indexOfChar_13 rfl ?_
      refine j_iload d_JStringLatin1_indexOfChar_14 rfl ?_
      refine j_xbald (x := txc i j) d_JStringLatin1_indexOfChar_16 (x_strB K hi) (by omega) hN rfl ?_
      refine j_iload d_JStringLatin1_indexOfChar_17 rfl ?_
      refine j_icmp_ne (tgt := 25) d_JStringLatin1_indexOfChar_19 rfl (fun hc => ?_) (fun hc => ?_)
      · refine j_iincN d_JStringLatin1_indexOfChar_25 rfl (by decide) ?_
        refine j_goto (tgt := 7) d_JStringLatin1_indexOfChar_28 rfl ?_
        refine j_loc' [(0, .ref (16 + i)), (3, .int (nI (j_txL.getD i 0))), (4, .int c.toInt8.toInt32), (5, .int (nI (j + 1)))] ⟨rfl, rfl, rfl, rfl, trivial⟩ ?_
        rw [show ixOf (txc i) c.toInt8.toInt32 (k + 1) j = ixOf (txc i) c.toInt8.toInt32 k (j + 1) by rw [ixOf, if_neg hc]]
        exact ih (j + 1) (by omega)
      · refine j_iload d_JStringLatin1_indexOfChar_22 rfl ?_
        exact j_iret rfl d_JStringLatin1_indexOfChar_24 ⟨by rw [ixOf, if_pos hc], rfl⟩
  refine j_iload_n d_JStringLatin1_indexOfChar_0 rfl ?_
  refine j_i2b d_JStringLatin1_indexOfChar_1 ?_
  refine j_istore d_JStringLatin1_indexOfChar_2 (by decide) ?_
  refine j_iload_n d_JStringLatin1_indexOfChar_4 rfl ?_
  refine j_istore d_JStringLatin1_indexOfChar_5 (by decide) ?_
  exact j_loc' [(0, .ref (16 + i)), (3, .int (nI (j_txL.getD i 0))), (4, .int c.toInt8.toInt32), (5, .int (nI 0))] ⟨rfl, rfl, rfl, rfl, trivial⟩ (loop _ 0 (by omega))
theorem m_JStringLatin1_indexOf (K : jK) (d : Nat) (hd : 1 ≤ d) (h : jH) (i : Nat) (hi : i < 8) (c : Int32) (h1 : ¬ c < 0) (h2 : ¬ 255 < c) (h0 : 0 < j_txL.getD i 0) : jM K M_JStringLatin1_indexOf d [.ref (16 + i), .int c, .int 0, .int (nI (j_txL.getD i 0))] (h) (rI (ixOf (txc i) c.toInt8.toInt32 (j_txL.getD i 0) 0) h) 0 0 := by
  refine jM.of (by decide +kernel) (Nat.le_of_ble_eq_true rfl) ?_
  refine j_iload_n d_JStringLatin1_indexOf_0 rfl ?_
  refine j_retI (j_callS d_JStringLatin1_indexOf_1 s_JStringLatin1_canEncode l_JStringLatin1_88 rfl (m_JStringLatin1_canEncode K (d - 1) h c h1 h2) (by omega) (by decide) (Nat.le_of_ble_eq_true rfl) rfl) rfl ?_
  refine j_if_neT (tgt := 9) d_JStringLatin1_indexOf_4 rfl (by decide) ?_
  refine j_iload_n d_JStringLatin1_indexOf_9 rfl ?_
  refine j_iconst (v := 0) d_JStringLatin1_indexOf_10 rfl ?_
  refine j_retI (j_callS d_JStringLatin1_indexOf_11 s_JMath_max l_JStringLatin1_92 rfl (m_JMath_max K (d - 1) h _ _) (by omega) (by decide) (Nat.le_of_ble_eq_true rfl) rfl) rfl ?_
  refine j_istore_n d_JStringLatin1_indexOf_14 (by decide) ?_
  refine j_iload_n d_JStringLatin1_indexOf_15 rfl ?_
  refine j_aload_n d_JStringLatin1_indexOf_16 rfl ?_
  refine j_xlen d_JStringLatin1_indexOf_17 (x_strB K hi) ?_
  refine j_retI (j_callS d_JStringLatin1_indexOf_18 s_JMath_min l_JStringLatin1_38 rfl (m_JMath_min K (d - 1) h _ _) (by omega) (by decide) (Nat.le_of_ble_eq_true rfl) rfl) rfl ?_
  refine j_top (w := .int (nI (j_txL.getD i 0))) (congrArg Value.int (by rw [minJ]; split <;> rfl)) ?_
  refine j_istore_n d_JStringLatin1_indexOf_21 (by decide) ?_
  refine j_iload_n d_JStringLatin1_indexOf_22 rfl ?_
  refine j_iload_n d_JStringLatin1_indexOf_23 rfl ?_
  refine j_icmp_ltT (tgt := 29) d_JStringLatin1_indexOf_24 rfl (show maxJ 0 0 < _ from (show nI 0 < nI (j_txL.getD i 0) from nI_lt h0 (txL_lt i hi))) ?_
  refine j_aload_n d_JStringLatin1_indexOf_29 rfl ?_
  refine j_iload_n d_JStringLatin1_indexOf_30 rfl ?_
  refine j_iload_n d_JStringLatin1_indexOf_31 rfl ?_
  refine j_iload_n d_JStringLatin1_indexOf_32 rfl ?_
  refine j_retI (j_callS d_JStringLatin1_indexOf_33 s_JStringLatin1_indexOfChar l_JStringLatin1_95 rfl (m_JStringLatin1_indexOfChar K (d - 1) h i hi c) (by omega) (by decide) (Nat.le_of_ble_eq_true rfl) rfl) rfl ?_
  exact j_iret rfl d_JStringLatin1_indexOf_36 ⟨rfl, rfl⟩
theorem m_JString_indexOf1 (K : jK) (d : Nat) (hd : 2 ≤ d) (h : jH) (i : Nat) (hi : i < 8) (c : Int32) (h1 : ¬ c < 0) (h2 : ¬ 255 < c) (h0 : 0 < j_txL.getD i 0) : jM K M_JString_indexOf1 d [.ref (8 + i), .int c, .int 0] (h) (rI (ixOf (txc i) c.toInt8.toInt32 (j_txL.getD i 0) 0) h) 0 0 := by
  refine jM.of (by decide +kernel) (Nat.le_of_ble_eq_true rfl) ?_
  refine j_aload_n d_JString_indexOf1_0 rfl ?_
  refine j_retI (j_callX d_JString_indexOf1_1 xf_JString_isLatin1 l_JString_492 rfl (x_strO K hi) (m_JString_isLatin1 K (d - 1) h i hi) (by omega) (by decide) (Nat.le_of_ble_eq_true rfl) rfl) rfl ?_
  refine j_if_eqF (tgt := 23) d_JString_indexOf1_4 rfl (by decide) ?_
  refine j_aload_n d_JString_indexOf1_7 rfl ?_
  refine j_getx (v := .ref (16 + i)) d_JString_indexOf1_8 fx_v (x_strV K hi) ?_
  refine j_iload_n d_JString_indexOf1_11 rfl ?_
  refine j_iload_n d_JString_indexOf1_12 rfl ?_
  refine j_aload_n d_JString_indexOf1_13 rfl ?_
  refine j_retI (j_callX d_JString_indexOf1_14 xf_JString_length l_JString_505 rfl (x_strO K hi) (m_JString_length K (d - 1) (by omega) h i hi) (by omega) (by decide) (Nat.le_of_ble_eq_true rfl) rfl) rfl ?_
  refine j_retI (j_callS d_JString_indexOf1_17 s_JStringLatin1_indexOf l_JString_637 rfl (m_JStringLatin1_indexOf K (d - 1) (by omega) h i hi c h1 h2 h0) (by omega) (by decide) (Nat.le_of_ble_eq_true rfl) rfl) rfl ?_
  refine j_goto (tgt := 36) d_JString_indexOf1_20 rfl ?_
  exact j_iret rfl d_JString_indexOf1_36 ⟨rfl, rfl⟩
theorem m_JString_indexOf0 (K : jK) (d : Nat) (hd : 3 ≤ d) (h : jH) (i : Nat) (hi : i < 8) (c : Int32) (h1 : ¬ c < 0) (h2 : ¬ 255 < c) (h0 : 0 < j_txL.getD i 0) : jM K M_JString_indexOf0 d [.ref (8 + i), .int c] (h) (rI (ixOf (txc i) c.toInt8.toInt32 (j_txL.getD i 0) 0) h) 0 0 := by
  refine jM.of (by decide +kernel) (Nat.le_of_ble_eq_true rfl) ?_
  refine j_aload_n d_JString_indexOf0_0 rfl ?_
  refine j_iload_n d_JString_indexOf0_1 rfl ?_
  refine j_iconst (v := 0) d_JString_indexOf0_2 rfl ?_
  refine j_retI (j_callX d_JString_indexOf0_3 xf_JString_indexOf1 l_JString_633 rfl (x_strO K hi) (m_JString_indexOf1 K (d - 1) (by omega) h i hi c h1 h2 h0) (by omega) (by decide) (Nat.le_of_ble_eq_true rfl) rfl) rfl ?_
  exact j_iret rfl d_JString_indexOf0_6 ⟨rfl, rfl⟩
end
section
/-! tokens: kind, begin, end -/
abbrev Tok : Type := Int32 × Nat × Nat
def btw (lo c hi : Int32) : Bool := decide (lo ≤ c) && decide (c ≤ hi)
abbrev isL (c : Int32) : Bool := btw 97 c 122
abbrev isD (c : Int32) : Bool := btw 48 c 57
def isSg (c : Int32) : Bool := decide (0 ≤ ixOf (txc 7) c.toInt8.toInt32 12 0)
def tEnd (P : Int32 → Bool) (T : Nat → Int32) : Nat → Nat → Nat
  | 0, i => i
  | k + 1, i => if P (T i) then tEnd P T k (i + 1) else i
theorem tEnd_ge (P : Int32 → Bool) (T : Nat → Int32) : ∀ k i, i ≤ tEnd P T k i
  | 0, i => Nat.le_refl i
  | k + 1, i => by
    unfold tEnd
    split
    · exact Nat.le_trans (Nat.le_succ i) (tEnd_ge P T k (i + 1))
    · exact Nat.le_refl i
theorem tEnd_le (P : Int32 → Bool) (T : Nat → Int32) : ∀ k i, tEnd P T k i ≤ i + k
  | 0, i => Nat.le_refl i
  | k + 1, i => by
    unfold tEnd
    split
    · have := tEnd_le P T k (i + 1); omega
    · omega
def tokE (T : Nat → Int32) (n i : Nat) : Nat := if isL (T i) then tEnd isL T (n - i) i else if isD (T i) then tEnd isD T (n - i) i else i + 1
def tokK (T : Nat → Int32) (n i : Nat) : Int32 := if isL (T i) then 97 else if isD (T i) then (if tokE T n i - i ≤ 3 then 48 else 63) else if isSg (T i) then T i else 63
theorem tEnd_gt (P : Int32 → Bool) (T : Nat → Int32) {k i : Nat} (hk : 0 < k) (h : P (T i) = true) : i < tEnd P T k i := by
  cases k with
  | zero => omega
  | succ k =>
    unfold tEnd
    rw [if_pos h]
    exact tEnd_ge P T k (i + 1)
theorem tokE_gt (T : Nat → Int32) {n i : Nat} (h : i < n) : i < tokE T n i := by
  unfold tokE
  split
  · rename_i hl; exact tEnd_gt _ _ (by omega) hl
  · split
    · rename_i hd; exact tEnd_gt _ _ (by omega) hd
    · omega
theorem tokE_le (T : Nat → Int32) {n i : Nat} (h : i < n) : tokE T n i ≤ n := by
  unfold tokE
  split
  · have := tEnd_le isL T (n - i) i; omega
  · split
    · have := tEnd_le isD T (n - i) i; omega
    · omega
/-- the tokens from i on; the last is the end -/
def tokL (T : Nat → Int32) (n i : Nat) : List Tok :=
  if h : n ≤ i then [(46, n, n)] else if T i = 32 then tokL T n (i + 1) else
    have : i < tokE T n i := tokE_gt T (Nat.lt_of_not_le h)
    (tokK T n i, i, tokE T n i) :: tokL T n (tokE T n i)
termination_by n - i
theorem tokL_end (T : Nat → Int32) {n i : Nat} (h : n ≤ i) : tokL T n i = [(46, n, n)] := by rw [tokL, dif_pos h]
theorem tokL_blank (T : Nat → Int32) {n i : Nat} (h : i < n) (hb : T i = 32) : tokL T n i = tokL T n (i + 1) := by rw [tokL, dif_neg (by omega), if_pos hb]
theorem tokL_tok (T : Nat → Int32) {n i : Nat} (h : i < n) (hb : ¬ T i = 32) : tokL T n i = (tokK T n i, i, tokE T n i) :: tokL T n (tokE T n i) := by rw [tokL, dif_neg (by omega), if_neg hb]
theorem tokL_len (T : Nat → Int32) (n : Nat) : ∀ (k i : Nat), n - i ≤ k → i ≤ n → (tokL T n i).length ≤ n - i + 1
  | 0, i, hk, hi => by rw [tokL_end T (by omega)]; simp
  | k + 1, i, hk, hi => by
    by_cases h : i < n
    · by_cases hb : T i = 32
      · rw [tokL_blank T h hb]
        have := tokL_len T n k (i + 1) (by omega) (by omega)
        omega
      · rw [tokL_tok T h hb]
        have h1 := tokE_gt T h
        have h2 := tokE_le T h
        have := tokL_len T n k (tokE T n i) (by omega) h2
        simp only [List.length_cons]
        omega
    · rw [tokL_end T (by omega)]; simp
/-- the arrays hold these tokens -/
def TokA (L : List Tok) (f6 f7 f8 : Nat → Int32) : Prop := ∀ j q, L[j]? = some q → f6 j = q.1 ∧ f7 j = nI q.2.1 ∧ f8 j = nI q.2.2
theorem TokA.app {P : List Tok} {f6 f7 f8 : Nat → Int32} (h : TokA P f6 f7 f8) (q : Tok) : TokA (P ++ [q]) (upd f6 P.length q.1) (upd f7 P.length (nI q.2.1)) (upd f8 P.length (nI q.2.2)) := by
  intro j r hr
  by_cases hj : j < P.length
  · rw [List.getElem?_append_left hj] at hr
    have hne : j ≠ P.length := by omega
    simpa [upd, hne] using h j r hr
  · rw [List.getElem?_append_right (by omega)] at hr
    have hlt := (List.getElem?_eq_some_iff.mp hr).1
    simp at hlt
    have e : j = P.length := by omega
    subst e
    simp at hr
    subst hr
    simp [upd]
/-- the text's characters -/
def txOk (T : Nat → Int32) (n : Nat) : Prop := ∀ j, j < n → ∃ m : Nat, 32 ≤ m ∧ m ≤ 126 ∧ T j = nI m
end
section
/-! BitLoom$Tokens -/
theorem m_K_isBetween (K : jK) (d : Nat) (h : jH) (lo c hi : Int32) : jM K M_K_isBetween d [.int lo, .int c, .int hi] (h) (rI (b2i (btw lo c hi)) h) 0 0 := by
  refine jM.of (by decide) (Nat.le_of_ble_eq_true rfl) ?_
  refine j_iload_n d_K_isBetween_0 rfl ?_
  refine j_iload_n d_K_isBetween_1 rfl ?_
  refine j_icmp_gt (tgt := 14) d_K_isBetween_2 rfl (fun h2 => ?_) (fun h2 => ?_)
  · refine j_iconst (v := 0) d_K_isBetween_14 rfl ?_
    exact j_zret rfl rfl d_K_isBetween_15 ⟨by first | (rw [show btw lo c hi = false by simp [btw]; intro q; exact absurd h2 (Int32.not_lt.mpr q)]; rfl) | (rw [show btw lo c hi = false by simp [btw]; intro _; exact h7]; rfl) | (rw [show btw lo c hi = true by simp [btw]; exact ⟨Int32.not_lt.mp h2, Int32.not_lt.mp h7⟩]; rfl), rfl⟩
  · refine j_iload_n d_K_isBetween_5 rfl ?_
    refine j_iload_n d_K_isBetween_6 rfl ?_
    refine j_icmp_gt (tgt := 14) d_K_isBetween_7 rfl (fun h7 => ?_) (fun h7 => ?_)
    · refine j_iconst (v := 0) d_K_isBetween_14 rfl ?_
      exact j_zret rfl rfl d_K_isBetween_15 ⟨by first | (rw [show btw lo c hi = false by simp [btw]; intro q; exact absurd h2 (Int32.not_lt.mpr q)]; rfl) | (rw [show btw lo c hi = false by simp [btw]; intro _; exact h7]; rfl) | (rw [show btw lo c hi = true by simp [btw]; exact ⟨Int32.not_lt.mp h2, Int32.not_lt.mp h7⟩]; rfl), rfl⟩
    · refine j_iconst (v := 1) d_K_isBetween_10 rfl ?_
      refine j_goto (tgt := 15) d_K_isBetween_11 rfl ?_
      exact j_zret rfl rfl d_K_isBetween_15 ⟨by first | (rw [show btw lo c hi = false by simp [btw]; intro q; exact absurd h2 (Int32.not_lt.mpr q)]; rfl) | (rw [show btw lo c hi = false by simp [btw]; intro _; exact h7]; rfl) | (rw [show btw lo c hi = true by simp [btw]; exact ⟨Int32.not_lt.mp h2, Int32.not_lt.mp h7⟩]; rfl), rfl⟩
theorem m_K_endOf (K : jK) (d : Nat) (hd : 1 ≤ d) (S : jS) (J : jH) (lo hi : Int32) (n : Nat) (hn : S.1 6 = nI n) (h100 : n ≤ 100) (hc : chOk (S.2.1 5)) (i : Nat) (hin : i ≤ n) : jM K M_K_endOf d [.ref 43, .int (nI i), .int lo, .int hi] (lay S ++ J) (rI (nI (tEnd (fun c => btw lo c hi) (S.2.1 5) (n - i) i)) (lay S ++ J)) 0 0 := by
  refine jM.of (by decide) (Nat.le_of_ble_eq_true rfl) ?_
  have loop : ∀ k j, j + k = n → jE K M_K_endOf d 3 [(0, .ref 43), (2, .int lo), (3, .int hi), (4, .int (nI j))] [] (lay S ++ J) (rI (nI (tEnd (fun c => btw lo c hi) (S.2.1 5) k j)) (lay S ++ J)) 0 0 := by
    intro k
    induction k with
    | zero =>
      intro j hj
      refine j_iload d_K_endOf_3 rfl ?_
      refine j_aload_n d_K_endOf_5 rfl ?_
      refine j_getf d_K_endOf_6 f_K_9 rfl rfl ?_
      refine j_retI (j_callV d_K_endOf_9 v_T_length l_K_33 rfl rfl (m_T_length K (d - 1) S J) (by omega) (by decide) (Nat.le_of_ble_eq_true rfl) rfl) rfl ?_
      refine j_top (w := .int (nI n)) (congrArg Value.int hn) ?_
      refine j_icmp_geT (tgt := 38) d_K_endOf_12 rfl (nI_le (by omega) (by omega)) ?_
      refine j_iload d_K_endOf_38 rfl ?_
      exact j_iret rfl d_K_endOf_40 ⟨rfl, rfl⟩
    | succ k ih =>
      intro j hj
      refine j_iload d_K_endOf_3 rfl ?_
      refine j_aload_n d_K_endOf_5 rfl ?_
      refine j_getf d_K_endOf_6 f_K_9 rfl rfl ?_
      refine j_retI (j_callV d_K_endOf_9 v_T_length l_K_33 rfl rfl (m_T_length K (d - 1) S J) (by omega) (by decide) (Nat.le_of_ble_eq_true rfl) rfl) rfl ?_
      refine j_top (w := .int (nI n)) (congrArg Value.int hn) ?_
      refine j_icmp_geF (tgt := 38) d_K_endOf_12 rfl (nI_ge (by omega) (by omega)) ?_
      refine j_iload_n d_K_endOf_15 rfl ?_
      refine j_aload_n d_K_endOf_16 rfl ?_
      refine j_getf d_K_endOf_17 f_K_9 rfl rfl ?_
      refine j_iload d_K_endOf_20 rfl ?_
      refine j_retI (j_callV d_K_endOf_22 v_T_at l_K_39 rfl rfl (m_T_at K (d - 1) S J n j hn h100 (by omega) hc) (by omega) (by decide) (Nat.le_of_ble_eq_true rfl) rfl) rfl ?_
      rw [if_pos (show j < n by omega)]
      refine j_iload_n d_K_endOf_25 rfl ?_
      refine j_retI (j_callS d_K_endOf_26 s_K_isBetween l_K_56 rfl (m_K_isBetween K (d - 1) _ lo _ hi) (by omega) (by decide) (Nat.le_of_ble_eq_true rfl) rfl) rfl ?_
      cases hb : btw lo (S.2.1 5 j) hi with
      | false =>
        refine j_if_eqT (tgt := 38) d_K_endOf_29 rfl rfl ?_
        refine j_iload d_K_endOf_38 rfl ?_
        exact j_iret rfl d_K_endOf_40 ⟨by rw [tEnd, hb]; rfl, rfl⟩
      | true =>
        refine j_if_eqF (tgt := 38) d_K_endOf_29 rfl (by decide) ?_
        refine j_iincN d_K_endOf_32 rfl (by decide) ?_
        refine j_goto (tgt := 3) d_K_endOf_35 rfl ?_
        refine j_loc' [(0, .ref 43), (2, .int lo), (3, .int hi), (4, .int (nI (j + 1)))] ⟨rfl, rfl, rfl, rfl, trivial⟩ ?_
        rw [show tEnd (fun c => btw lo c hi) (S.2.1 5) (k + 1) j = tEnd (fun c => btw lo c hi) (S.2.1 5) k (j + 1) by rw [tEnd]; simp [hb]]
        exact ih (j + 1) (by omega)
  refine j_iload_n d_K_endOf_0 rfl ?_
  refine j_istore d_K_endOf_1 (by decide) ?_
  exact j_loc' [(0, .ref 43), (2, .int lo), (3, .int hi), (4, .int (nI i))] ⟨rfl, rfl, rfl, rfl, trivial⟩ (loop (n - i) i (by omega))
theorem m_K_append (K : jK) (d : Nat) (S : jS) (J : jH) (k st en : Int32) (c : Nat) (hc : S.1 11 = nI c) (h101 : c < 101) (hk : narrow .char (.int k) = .int k) : jM K M_K_append d [.ref 43, .int k, .int st, .int en] (lay S ++ J) (rI en (lay (s2 (s2 (s2 (s1 S 11 (nI (c + 1))) 6 (upd (S.2.1 6) c k)) 7 (upd (S.2.1 7) c st)) 8 (upd (S.2.1 8) c en)) ++ J)) 0 0 := by
  refine jM.of (by decide) (Nat.le_of_ble_eq_true rfl) ?_
  refine j_aload_n d_K_append_0 rfl ?_
  refine j_getf d_K_append_1 f_K_26 rfl rfl ?_
  refine j_top (w := .int (nI c)) (congrArg Value.int hc) ?_
  refine j_bipush (v := 101) d_K_append_4 (by decide) ?_
  refine j_icmp_geF (tgt := 49) d_K_append_6 rfl (show ¬ nI 101 ≤ nI c from nI_ge h101 (by omega)) ?_
  refine j_aload_n d_K_append_9 rfl ?_
  refine j_getf d_K_append_10 f_K_15 rfl rfl ?_
  refine j_aload_n d_K_append_13 rfl ?_
  refine j_getf d_K_append_14 f_K_26 rfl rfl ?_
  refine j_top (w := .int (nI c)) (congrArg Value.int hc) ?_
  refine j_iload_n d_K_append_17 rfl ?_
  refine j_cast d_K_append_18 rfl h101 (by decide) hk rfl ?_
  refine j_aload_n d_K_append_19 rfl ?_
  refine j_getf d_K_append_20 f_K_19 rfl rfl ?_
  refine j_aload_n d_K_append_23 rfl ?_
  refine j_getf d_K_append_24 f_K_26 rfl rfl ?_
  refine j_top (w := .int (nI c)) (congrArg Value.int hc) ?_
  refine j_iload_n d_K_append_27 rfl ?_
  refine j_iast d_K_append_28 rfl h101 (by decide) rfl ?_
  refine j_aload_n d_K_append_29 rfl ?_
  refine j_getf d_K_append_30 f_K_23 rfl rfl ?_
  refine j_aload_n d_K_append_33 rfl ?_
  refine j_getf d_K_append_34 f_K_26 rfl rfl ?_
  refine j_top (w := .int (nI c)) (congrArg Value.int hc) ?_
  refine j_iload_n d_K_append_37 rfl ?_
  refine j_iast d_K_append_38 rfl h101 (by decide) rfl ?_
  refine j_aload_n d_K_append_39 rfl ?_
  refine j_dup d_K_append_40 rfl ?_
  refine j_getf d_K_append_41 f_K_26 rfl rfl ?_
  refine j_top (w := .int (nI c)) (congrArg Value.int hc) ?_
  refine j_iconst (v := 1) d_K_append_44 rfl ?_
  refine j_iadd d_K_append_45 ?_
  refine j_top (w := .int (nI (c + 1))) (by rw [nI_succ]) ?_
  refine j_putf d_K_append_46 f_K_26 rfl (Nat.le_of_ble_eq_true rfl) rfl rfl rfl ?_
  refine j_iload_n d_K_append_49 rfl ?_
  exact j_iret rfl d_K_append_50 ⟨rfl, rfl⟩
theorem sg_ok : ∀ m, m < 127 → ¬ (nI m < 0) ∧ ¬ (255 < nI m) ∧ narrow .char (.int (nI m)) = .int (nI m) := by decide +kernel
theorem m_K_cutOne (K : jK) (d : Nat) (hd : 4 ≤ d) (S : jS) (J : jH) (n : Nat) (hn : S.1 6 = nI n) (h100 : n ≤ 100) (hc : chOk (S.2.1 5)) (ht : txOk (S.2.1 5) n) (i : Nat) (hin : i < n) (c : Nat) (hcc : S.1 11 = nI c) (h101 : c < 101) :
    jM K M_K_cutOne d [.ref 43, .int (nI i)] (lay S ++ J) (rI (nI (tokE (S.2.1 5) n i)) (lay (s2 (s2 (s2 (s1 S 11 (nI (c + 1))) 6 (upd (S.2.1 6) c (tokK (S.2.1 5) n i))) 7 (upd (S.2.1 7) c (nI i))) 8 (upd (S.2.1 8) c (nI (tokE (S.2.1 5) n i)))) ++ J)) 0 0 := by
  refine jM.of (by decide) (Nat.le_of_ble_eq_true rfl) ?_
  obtain ⟨m, hm1, hm2, hm⟩ := ht i hin
  have hsg := sg_ok m (by omega)
  rw [← hm] at hsg
  refine j_aload_n d_K_cutOne_0 rfl ?_
  refine j_getf d_K_cutOne_1 f_K_9 rfl rfl ?_
  refine j_iload_n d_K_cutOne_4 rfl ?_
  refine j_retI (j_callV d_K_cutOne_5 v_T_at l_K_39 rfl rfl (m_T_at K (d - 1) S J n i hn h100 (by omega) hc) (by omega) (by decide) (Nat.le_of_ble_eq_true rfl) rfl) rfl ?_
  rw [if_pos hin]
  refine j_istore_n d_K_cutOne_8 (by decide) ?_
  refine j_bipush (v := 97) d_K_cutOne_9 (by decide) ?_
  refine j_iload_n d_K_cutOne_11 rfl ?_
  refine j_bipush (v := 122) d_K_cutOne_12 (by decide) ?_
  refine j_retI (j_callS d_K_cutOne_14 s_K_isBetween l_K_56 rfl (m_K_isBetween K (d - 1) _ 97 _ 122) (by omega) (by decide) (Nat.le_of_ble_eq_true rfl) rfl) rfl ?_
  cases hl0 : btw 97 (S.2.1 5 i) 122 with
  | true =>
    have hl : isL (S.2.1 5 i) = true := hl0
    refine j_if_eqF (tgt := 37) d_K_cutOne_17 rfl (by decide) ?_
    refine j_aload_n d_K_cutOne_20 rfl ?_
    refine j_bipush (v := 97) d_K_cutOne_21 (by decide) ?_
    refine j_iload_n d_K_cutOne_23 rfl ?_
    refine j_aload_n d_K_cutOne_24 rfl ?_
    refine j_iload_n d_K_cutOne_25 rfl ?_
    refine j_bipush (v := 97) d_K_cutOne_26 (by decide) ?_
    refine j_bipush (v := 122) d_K_cutOne_28 (by decide) ?_
    refine j_retI (j_callV d_K_cutOne_30 v_K_endOf l_K_60 rfl rfl (m_K_endOf K (d - 1) (by omega) S J 97 122 n hn h100 hc i (by omega)) (by omega) (by decide) (Nat.le_of_ble_eq_true rfl) rfl) rfl ?_
    have e1 : tokE (S.2.1 5) n i = tEnd (fun c => btw 97 c 122) (S.2.1 5) (n - i) i := by rw [tokE, hl]; rfl
    have e2 : tokK (S.2.1 5) n i = 97 := by rw [tokK, hl]; rfl
    rw [e1, e2]
    refine j_retI (j_callV d_K_cutOne_33 v_K_append l_K_46 rfl rfl (m_K_append K (d - 1) S J 97 (nI i) _ c hcc h101 rfl) (by omega) (by decide) (Nat.le_of_ble_eq_true rfl) rfl) rfl ?_
    exact j_iret rfl d_K_cutOne_36 ⟨rfl, rfl⟩
  | false =>
    have hl : isL (S.2.1 5 i) = false := hl0
    refine j_if_eqT (tgt := 37) d_K_cutOne_17 rfl rfl ?_
    refine j_bipush (v := 48) d_K_cutOne_37 (by decide) ?_
    refine j_iload_n d_K_cutOne_39 rfl ?_
    refine j_bipush (v := 57) d_K_cutOne_40 (by decide) ?_
    refine j_retI (j_callS d_K_cutOne_42 s_K_isBetween l_K_56 rfl (m_K_isBetween K (d - 1) _ 48 _ 57) (by omega) (by decide) (Nat.le_of_ble_eq_true rfl) rfl) rfl ?_
    cases hdg0 : btw 48 (S.2.1 5 i) 57 with
    | true =>
      have hdg : isD (S.2.1 5 i) = true := hdg0
      refine j_if_eqF (tgt := 79) d_K_cutOne_45 rfl (by decide) ?_
      refine j_aload_n d_K_cutOne_48 rfl ?_
      refine j_iload_n d_K_cutOne_49 rfl ?_
      refine j_bipush (v := 48) d_K_cutOne_50 (by decide) ?_
      refine j_bipush (v := 57) d_K_cutOne_52 (by decide) ?_
      refine j_retI (j_callV d_K_cutOne_54 v_K_endOf l_K_60 rfl rfl (m_K_endOf K (d - 1) (by omega) S J 48 57 n hn h100 hc i (by omega)) (by omega) (by decide) (Nat.le_of_ble_eq_true rfl) rfl) rfl ?_
      have e1 : tokE (S.2.1 5) n i = tEnd (fun c => btw 48 c 57) (S.2.1 5) (n - i) i := by rw [tokE, hl, hdg]; rfl
      have hge := tEnd_ge (fun c => btw 48 c 57) (S.2.1 5) (n - i) i
      have hle := tEnd_le (fun c => btw 48 c 57) (S.2.1 5) (n - i) i
      refine j_istore_n d_K_cutOne_57 (by decide) ?_
      refine j_aload_n d_K_cutOne_58 rfl ?_
      refine j_iload_n d_K_cutOne_59 rfl ?_
      refine j_iload_n d_K_cutOne_60 rfl ?_
      refine j_isub d_K_cutOne_61 ?_
      refine j_top (w := .int (nI (tokE (S.2.1 5) n i - i))) (by rw [e1, pk_sub hge]) ?_
      refine j_iconst (v := 3) d_K_cutOne_62 rfl ?_
      by_cases h3 : tokE (S.2.1 5) n i - i ≤ 3
      · have e2 : tokK (S.2.1 5) n i = 48 := by rw [tokK, hl, hdg]; simp [h3]
        refine j_icmp_gtF (tgt := 71) d_K_cutOne_63 rfl (show ¬ nI 3 < nI (tokE (S.2.1 5) n i - i) from nI_nlt h3 (by omega)) ?_
        refine j_bipush (v := 48) d_K_cutOne_66 (by decide) ?_
        refine j_goto (tgt := 73) d_K_cutOne_68 rfl ?_
        refine j_iload_n d_K_cutOne_73 rfl ?_
        refine j_iload_n d_K_cutOne_74 rfl ?_
        rw [e1, e2]
        refine j_retI (j_callV d_K_cutOne_75 v_K_append l_K_46 rfl rfl (m_K_append K (d - 1) S J 48 (nI i) _ c hcc h101 rfl) (by omega) (by decide) (Nat.le_of_ble_eq_true rfl) rfl) rfl ?_
        exact j_iret rfl d_K_cutOne_78 ⟨rfl, rfl⟩
      · have e2 : tokK (S.2.1 5) n i = 63 := by rw [tokK, hl, hdg]; simp [h3]
        refine j_icmp_gtT (tgt := 71) d_K_cutOne_63 rfl (show nI 3 < nI (tokE (S.2.1 5) n i - i) from nI_lt (by omega) (by omega)) ?_
        refine j_bipush (v := 63) d_K_cutOne_71 (by decide) ?_
        refine j_iload_n d_K_cutOne_73 rfl ?_
        refine j_iload_n d_K_cutOne_74 rfl ?_
        rw [e1, e2]
        refine j_retI (j_callV d_K_cutOne_75 v_K_append l_K_46 rfl rfl (m_K_append K (d - 1) S J 63 (nI i) _ c hcc h101 rfl) (by omega) (by decide) (Nat.le_of_ble_eq_true rfl) rfl) rfl ?_
        exact j_iret rfl d_K_cutOne_78 ⟨rfl, rfl⟩
    | false =>
      have hdg : isD (S.2.1 5 i) = false := hdg0
      refine j_if_eqT (tgt := 79) d_K_cutOne_45 rfl rfl ?_
      refine j_aload_n d_K_cutOne_79 rfl ?_
      refine j_ldcs (i := 15) d_K_cutOne_80 (fun s hX => by rw [j_adx K (by omega)]; exact hX.2.2.2.2.2.2.2.2.2.2.2.2.2.2.2.1) ?_
      refine j_iload_n d_K_cutOne_82 rfl ?_
      refine j_retI (j_callX d_K_cutOne_83 xf_JString_indexOf0 l_K_66 rfl (x_strO K (i := 7) (by omega)) (m_JString_indexOf0 K (d - 1) (by omega) _ 7 (by omega) _ hsg.1 hsg.2.1 (by decide)) (by omega) (by decide) (Nat.le_of_ble_eq_true rfl) rfl) rfl ?_
      have e1 : tokE (S.2.1 5) n i = i + 1 := by rw [tokE, hl, hdg]; rfl
      cases hs : isSg (S.2.1 5 i) with
      | true =>
        have e2 : tokK (S.2.1 5) n i = S.2.1 5 i := by rw [tokK, hl, hdg, hs]; rfl
        refine j_if_ltF (tgt := 93) d_K_cutOne_86 rfl (Int32.not_lt.mpr (of_decide_eq_true hs)) ?_
        refine j_iload_n d_K_cutOne_89 rfl ?_
        refine j_goto (tgt := 95) d_K_cutOne_90 rfl ?_
        refine j_iload_n d_K_cutOne_95 rfl ?_
        refine j_iload_n d_K_cutOne_96 rfl ?_
        refine j_iconst (v := 1) d_K_cutOne_97 rfl ?_
        refine j_iadd d_K_cutOne_98 ?_
        refine j_top (w := .int (nI (i + 1))) (by rw [nI_succ]) ?_
        rw [e1, e2]
        refine j_retI (j_callV d_K_cutOne_99 v_K_append l_K_46 rfl rfl (m_K_append K (d - 1) S J _ (nI i) _ c hcc h101 hsg.2.2) (by omega) (by decide) (Nat.le_of_ble_eq_true rfl) rfl) rfl ?_
        exact j_iret rfl d_K_cutOne_102 ⟨rfl, rfl⟩
      | false =>
        have e2 : tokK (S.2.1 5) n i = 63 := by rw [tokK, hl, hdg, hs]; rfl
        refine j_if_ltT (tgt := 93) d_K_cutOne_86 rfl (Int32.not_le.mp (of_decide_eq_false hs)) ?_
        refine j_bipush (v := 63) d_K_cutOne_93 (by decide) ?_
        refine j_iload_n d_K_cutOne_95 rfl ?_
        refine j_iload_n d_K_cutOne_96 rfl ?_
        refine j_iconst (v := 1) d_K_cutOne_97 rfl ?_
        refine j_iadd d_K_cutOne_98 ?_
        refine j_top (w := .int (nI (i + 1))) (by rw [nI_succ]) ?_
        rw [e1, e2]
        refine j_retI (j_callV d_K_cutOne_99 v_K_append l_K_46 rfl rfl (m_K_append K (d - 1) S J 63 (nI i) _ c hcc h101 rfl) (by omega) (by decide) (Nat.le_of_ble_eq_true rfl) rfl) rfl ?_
        exact j_iret rfl d_K_cutOne_102 ⟨rfl, rfl⟩
end
section
/-! BitLoom$Tokens.cut, and what is asked of the token that is looked at -/
/-- the state with these tokens, looked at from the first -/
abbrev tkS (S : jS) (c a : Int32) (f6 f7 f8 : Nat → Int32) : jS := s2 (s2 (s2 (s1 (s1 S 11 c) 12 a) 6 f6) 7 f7) 8 f8
def cutQ (S : jS) (J : jH) (n : Nat) : jO → jH → Prop := fun o h => o = .inl none ∧ ∃ f6 f7 f8, h = lay (tkS S (nI (tokL (S.2.1 5) n 0).length) 0 f6 f7 f8) ++ J ∧ TokA (tokL (S.2.1 5) n 0) f6 f7 f8
theorem m_K_cut (K : jK) (d : Nat) (hd : 5 ≤ d) (S : jS) (J : jH) (n : Nat) (hn : S.1 6 = nI n) (h100 : n ≤ 100) (hc : chOk (S.2.1 5)) (ht : txOk (S.2.1 5) n) : jM K M_K_cut d [.ref 43] (lay S ++ J) (cutQ S J n) 0 0 := by
  refine jM.of (by decide) (Nat.le_of_ble_eq_true rfl) ?_
  have fin : ∀ (P : List Tok) (f6 f7 f8 : Nat → Int32) (ls : List (Nat × Value)), j_lg ls 0 = some (.ref 43) → P ++ [(46, n, n)] = tokL (S.2.1 5) n 0 → P.length ≤ 100 → TokA P f6 f7 f8 → jE K M_K_cut d 62 ls [] (lay (tkS S (nI P.length) 0 f6 f7 f8) ++ J) (cutQ S J n) 0 0 := by
    intro P f6 f7 f8 ls hls hP hlen hA
    refine j_aload_n d_K_cut_62 hls ?_
    refine j_bipush (v := 46) d_K_cut_63 (by decide) ?_
    refine j_aload_n d_K_cut_65 hls ?_
    refine j_getf d_K_cut_66 f_K_9 rfl rfl ?_
    refine j_retI (j_callV d_K_cut_69 v_T_length l_K_33 rfl rfl (m_T_length K (d - 1) (tkS S (nI P.length) 0 f6 f7 f8) J) (by omega) (by decide) (Nat.le_of_ble_eq_true rfl) rfl) rfl ?_
    refine j_top (w := .int (nI n)) (congrArg Value.int hn) ?_
    refine j_aload_n d_K_cut_72 hls ?_
    refine j_getf d_K_cut_73 f_K_9 rfl rfl ?_
    refine j_retI (j_callV d_K_cut_76 v_T_length l_K_33 rfl rfl (m_T_length K (d - 1) (tkS S (nI P.length) 0 f6 f7 f8) J) (by omega) (by decide) (Nat.le_of_ble_eq_true rfl) rfl) rfl ?_
    refine j_top (w := .int (nI n)) (congrArg Value.int hn) ?_
    refine j_retI (j_callV d_K_cut_79 v_K_append l_K_46 rfl rfl (m_K_append K (d - 1) (tkS S (nI P.length) 0 f6 f7 f8) J 46 (nI n) (nI n) P.length rfl (by omega) rfl) (by omega) (by decide) (Nat.le_of_ble_eq_true rfl) rfl) rfl ?_
    refine j_pop d_K_cut_82 rfl ?_
    refine j_vret rfl d_K_cut_83 ⟨rfl, upd f6 P.length 46, upd f7 P.length (nI n), upd f8 P.length (nI n), ?_, ?_⟩
    · rw [← hP]
      simp only [List.length_append, List.length_cons, List.length_nil]
      rfl
    · rw [← hP]
      exact hA.app (46, n, n)
  have loop : ∀ k i m (P : List Tok) (f6 f7 f8 : Nat → Int32), n - i ≤ k → i ≤ n → m ≤ i → P.length ≤ i → P ++ tokL (S.2.1 5) n i = tokL (S.2.1 5) n 0 → TokA P f6 f7 f8 →
      jE K M_K_cut d 14 [(0, .ref 43), (1, .int (nI i)), (2, .int (nI m))] [] (lay (tkS S (nI P.length) 0 f6 f7 f8) ++ J) (cutQ S J n) 0 0 := by
    intro k
    induction k with
    | zero =>
      intro i m P f6 f7 f8 hk hi hm hPi hP hA
      have hin : i = n := by omega
      subst hin
      rw [tokL_end _ (Nat.le_refl _)] at hP
      refine j_iload_n d_K_cut_14 rfl ?_
      refine j_bipush (v := 100) d_K_cut_15 (by decide) ?_
      by_cases hm100 : 100 ≤ m
      · refine j_icmp_geT (tgt := 62) d_K_cut_17 rfl (show nI 100 ≤ nI m from nI_le hm100 (by omega)) ?_
        exact fin P f6 f7 f8 _ rfl hP (by omega) hA
      · refine j_icmp_geF (tgt := 62) d_K_cut_17 rfl (show ¬ nI 100 ≤ nI m from nI_ge (by omega) (by omega)) ?_
        refine j_iload_n d_K_cut_20 rfl ?_
        refine j_aload_n d_K_cut_21 rfl ?_
        refine j_getf d_K_cut_22 f_K_9 rfl rfl ?_
        refine j_retI (j_callV d_K_cut_25 v_T_length l_K_33 rfl rfl (m_T_length K (d - 1) (tkS S (nI P.length) 0 f6 f7 f8) J) (by omega) (by decide) (Nat.le_of_ble_eq_true rfl) rfl) rfl ?_
        refine j_top (w := .int (nI i)) (congrArg Value.int hn) ?_
        refine j_icmp_geT (tgt := 62) d_K_cut_28 rfl (nI_le (by omega) (by omega)) ?_
        exact fin P f6 f7 f8 _ rfl hP (by omega) hA
    | succ k ih =>
      intro i m P f6 f7 f8 hk hi hm hPi hP hA
      by_cases hin : i < n
      · refine j_iload_n d_K_cut_14 rfl ?_
        refine j_bipush (v := 100) d_K_cut_15 (by decide) ?_
        refine j_icmp_geF (tgt := 62) d_K_cut_17 rfl (show ¬ nI 100 ≤ nI m from nI_ge (by omega) (by omega)) ?_
        refine j_iload_n d_K_cut_20 rfl ?_
        refine j_aload_n d_K_cut_21 rfl ?_
        refine j_getf d_K_cut_22 f_K_9 rfl rfl ?_
        refine j_retI (j_callV d_K_cut_25 v_T_length l_K_33 rfl rfl (m_T_length K (d - 1) (tkS S (nI P.length) 0 f6 f7 f8) J) (by omega) (by decide) (Nat.le_of_ble_eq_true rfl) rfl) rfl ?_
        refine j_top (w := .int (nI n)) (congrArg Value.int hn) ?_
        refine j_icmp_geF (tgt := 62) d_K_cut_28 rfl (nI_ge (by omega) (by omega)) ?_
        refine j_aload_n d_K_cut_31 rfl ?_
        refine j_getf d_K_cut_32 f_K_9 rfl rfl ?_
        refine j_iload_n d_K_cut_35 rfl ?_
        refine j_retI (j_callV d_K_cut_36 v_T_at l_K_39 rfl rfl (m_T_at K (d - 1) (tkS S (nI P.length) 0 f6 f7 f8) J n i hn h100 (by omega) hc) (by omega) (by decide) (Nat.le_of_ble_eq_true rfl) rfl) rfl ?_
        rw [if_pos hin]
        refine j_top (w := .int (S.2.1 5 i)) rfl ?_
        refine j_bipush (v := 32) d_K_cut_39 (by decide) ?_
        refine j_icmp_ne (tgt := 50) d_K_cut_41 rfl (fun hb => ?_) (fun hb => ?_)
        · refine j_aload_n d_K_cut_50 rfl ?_
          refine j_iload_n d_K_cut_51 rfl ?_
          refine j_retI (j_callV d_K_cut_52 v_K_cutOne l_K_42 rfl rfl (m_K_cutOne K (d - 1) (by omega) (tkS S (nI P.length) 0 f6 f7 f8) J n hn h100 hc ht i hin P.length rfl (by omega)) (by omega) (by decide) (Nat.le_of_ble_eq_true rfl) rfl) rfl ?_
          refine j_istore_n d_K_cut_55 (by decide) ?_
          refine j_iincN d_K_cut_56 rfl (by decide) ?_
          refine j_goto (tgt := 14) d_K_cut_59 rfl ?_
          have hgt := tokE_gt (S.2.1 5) hin
          have hle := tokE_le (S.2.1 5) hin
          refine j_loc' [(0, .ref 43), (1, .int (nI (tokE (S.2.1 5) n i))), (2, .int (nI (m + 1)))] ⟨rfl, rfl, rfl, trivial⟩ ?_
          refine j_hp (h' := lay (tkS S (nI (P ++ [(tokK (S.2.1 5) n i, i, tokE (S.2.1 5) n i)]).length) 0 (upd f6 P.length (tokK (S.2.1 5) n i)) (upd f7 P.length (nI i)) (upd f8 P.length (nI (tokE (S.2.1 5) n i)))) ++ J) (by simp only [List.length_append, List.length_cons, List.length_nil]; rfl) ?_
          refine ih (tokE (S.2.1 5) n i) (m + 1) (P ++ [(tokK (S.2.1 5) n i, i, tokE (S.2.1 5) n i)]) _ _ _ (by omega) hle (by omega) (by simp; omega) ?_ (hA.app (tokK (S.2.1 5) n i, i, tokE (S.2.1 5) n i))
          rw [← hP, tokL_tok _ hin hb, List.append_assoc]
          rfl
        · refine j_iload_n d_K_cut_44 rfl ?_
          refine j_iconst (v := 1) d_K_cut_45 rfl ?_
          refine j_iadd d_K_cut_46 ?_
          refine j_top (w := .int (nI (i + 1))) (by rw [nI_succ]) ?_
          refine j_goto (tgt := 55) d_K_cut_47 rfl ?_
          refine j_istore_n d_K_cut_55 (by decide) ?_
          refine j_iincN d_K_cut_56 rfl (by decide) ?_
          refine j_goto (tgt := 14) d_K_cut_59 rfl ?_
          refine j_loc' [(0, .ref 43), (1, .int (nI (i + 1))), (2, .int (nI (m + 1)))] ⟨rfl, rfl, rfl, trivial⟩ ?_
          refine ih (i + 1) (m + 1) P f6 f7 f8 (by omega) (by omega) (by omega) (by omega) ?_ hA
          rw [← hP, tokL_blank _ hin hb]
      · have hin2 : i = n := by omega
        subst hin2
        rw [tokL_end _ (Nat.le_refl _)] at hP
        refine j_iload_n d_K_cut_14 rfl ?_
        refine j_bipush (v := 100) d_K_cut_15 (by decide) ?_
        by_cases hm100 : 100 ≤ m
        · refine j_icmp_geT (tgt := 62) d_K_cut_17 rfl (show nI 100 ≤ nI m from nI_le hm100 (by omega)) ?_
          exact fin P f6 f7 f8 _ rfl hP (by omega) hA
        · refine j_icmp_geF (tgt := 62) d_K_cut_17 rfl (show ¬ nI 100 ≤ nI m from nI_ge (by omega) (by omega)) ?_
          refine j_iload_n d_K_cut_20 rfl ?_
          refine j_aload_n d_K_cut_21 rfl ?_
          refine j_getf d_K_cut_22 f_K_9 rfl rfl ?_
          refine j_retI (j_callV d_K_cut_25 v_T_length l_K_33 rfl rfl (m_T_length K (d - 1) (tkS S (nI P.length) 0 f6 f7 f8) J) (by omega) (by decide) (Nat.le_of_ble_eq_true rfl) rfl) rfl ?_
          refine j_top (w := .int (nI i)) (congrArg Value.int hn) ?_
          refine j_icmp_geT (tgt := 62) d_K_cut_28 rfl (nI_le (by omega) (by omega)) ?_
          exact fin P f6 f7 f8 _ rfl hP (by omega) hA
  refine j_aload_n d_K_cut_0 rfl ?_
  refine j_iconst (v := 0) d_K_cut_1 rfl ?_
  refine j_putf d_K_cut_2 f_K_26 rfl (Nat.le_of_ble_eq_true rfl) rfl rfl rfl ?_
  refine j_aload_n d_K_cut_5 rfl ?_
  refine j_iconst (v := 0) d_K_cut_6 rfl ?_
  refine j_putf d_K_cut_7 f_K_30 rfl (Nat.le_of_ble_eq_true rfl) rfl rfl rfl ?_
  refine j_iconst (v := 0) d_K_cut_10 rfl ?_
  refine j_istore_n d_K_cut_11 (by decide) ?_
  refine j_iconst (v := 0) d_K_cut_12 rfl ?_
  refine j_istore_n d_K_cut_13 (by decide) ?_
  refine j_loc' [(0, .ref 43), (1, .int (nI 0)), (2, .int (nI 0))] ⟨rfl, rfl, rfl, trivial⟩ ?_
  refine j_hp (h' := lay (tkS S (nI ([] : List Tok).length) 0 (S.2.1 6) (S.2.1 7) (S.2.1 8)) ++ J) rfl ?_
  exact loop n 0 0 [] _ _ _ (by omega) (by omega) (by omega) (by simp) rfl (fun j q hq => by simp at hq)
theorem m_K_start (K : jK) (d : Nat) (S : jS) (J : jH) (a : Nat) (ha : S.1 12 = nI a) (h101 : a < 101) : jM K M_K_start d [.ref 43] (lay S ++ J) (rI (S.2.1 7 a) (lay S ++ J)) 0 0 := by
  refine jM.of (by decide) (Nat.le_of_ble_eq_true rfl) ?_
  refine j_aload_n d_K_start_0 rfl ?_
  refine j_getf d_K_start_1 f_K_19 rfl rfl ?_
  refine j_aload_n d_K_start_4 rfl ?_
  refine j_getf d_K_start_5 f_K_30 rfl rfl ?_
  refine j_top (w := .int (nI a)) (congrArg Value.int ha) ?_
  refine j_iald d_K_start_8 rfl h101 (by decide) ?_
  exact j_iret rfl d_K_start_9 ⟨rfl, rfl⟩
theorem m_K_isEnd (K : jK) (d : Nat) (S : jS) (J : jH) (a : Nat) (ha : S.1 12 = nI a) (h101 : a < 101) : jM K M_K_isEnd d [.ref 43] (lay S ++ J) (rI (b2i (decide (S.2.1 6 a = 46))) (lay S ++ J)) 0 0 := by
  refine jM.of (by decide) (Nat.le_of_ble_eq_true rfl) ?_
  refine j_aload_n d_K_isEnd_0 rfl ?_
  refine j_getf d_K_isEnd_1 f_K_15 rfl rfl ?_
  refine j_aload_n d_K_isEnd_4 rfl ?_
  refine j_getf d_K_isEnd_5 f_K_30 rfl rfl ?_
  refine j_top (w := .int (nI a)) (congrArg Value.int ha) ?_
  refine j_cald d_K_isEnd_8 rfl h101 (by decide) ?_
  refine j_bipush (v := 46) d_K_isEnd_9 (by decide) ?_
  refine j_icmp_ne (tgt := 18) d_K_isEnd_11 rfl (fun h11 => ?_) (fun h11 => ?_)
  · refine j_iconst (v := 0) d_K_isEnd_18 rfl ?_
    exact j_zret rfl rfl d_K_isEnd_19 ⟨by first | (rw [show decide (S.2.1 6 a = 46) = true from decide_eq_true (by first | exact h11 | exact h10)]; rfl) | (rw [show decide (S.2.1 6 a = 46) = false from decide_eq_false (by first | exact h11 | exact h10)]; rfl), rfl⟩
  · refine j_iconst (v := 1) d_K_isEnd_14 rfl ?_
    refine j_goto (tgt := 19) d_K_isEnd_15 rfl ?_
    exact j_zret rfl rfl d_K_isEnd_19 ⟨by first | (rw [show decide (S.2.1 6 a = 46) = true from decide_eq_true (by first | exact h11 | exact h10)]; rfl) | (rw [show decide (S.2.1 6 a = 46) = false from decide_eq_false (by first | exact h11 | exact h10)]; rfl), rfl⟩
theorem m_K_isNumber (K : jK) (d : Nat) (S : jS) (J : jH) (a : Nat) (ha : S.1 12 = nI a) (h101 : a < 101) : jM K M_K_isNumber d [.ref 43] (lay S ++ J) (rI (b2i (decide (S.2.1 6 a = 48))) (lay S ++ J)) 0 0 := by
  refine jM.of (by decide) (Nat.le_of_ble_eq_true rfl) ?_
  refine j_aload_n d_K_isNumber_0 rfl ?_
  refine j_getf d_K_isNumber_1 f_K_15 rfl rfl ?_
  refine j_aload_n d_K_isNumber_4 rfl ?_
  refine j_getf d_K_isNumber_5 f_K_30 rfl rfl ?_
  refine j_top (w := .int (nI a)) (congrArg Value.int ha) ?_
  refine j_cald d_K_isNumber_8 rfl h101 (by decide) ?_
  refine j_bipush (v := 48) d_K_isNumber_9 (by decide) ?_
  refine j_icmp_ne (tgt := 18) d_K_isNumber_11 rfl (fun h11 => ?_) (fun h11 => ?_)
  · refine j_iconst (v := 0) d_K_isNumber_18 rfl ?_
    exact j_zret rfl rfl d_K_isNumber_19 ⟨by first | (rw [show decide (S.2.1 6 a = 48) = true from decide_eq_true (by first | exact h11 | exact h10)]; rfl) | (rw [show decide (S.2.1 6 a = 48) = false from decide_eq_false (by first | exact h11 | exact h10)]; rfl), rfl⟩
  · refine j_iconst (v := 1) d_K_isNumber_14 rfl ?_
    refine j_goto (tgt := 19) d_K_isNumber_15 rfl ?_
    exact j_zret rfl rfl d_K_isNumber_19 ⟨by first | (rw [show decide (S.2.1 6 a = 48) = true from decide_eq_true (by first | exact h11 | exact h10)]; rfl) | (rw [show decide (S.2.1 6 a = 48) = false from decide_eq_false (by first | exact h11 | exact h10)]; rfl), rfl⟩
theorem m_K_isSign (K : jK) (d : Nat) (S : jS) (J : jH) (c : Int32) (a : Nat) (ha : S.1 12 = nI a) (h101 : a < 101) : jM K M_K_isSign d [.ref 43, .int c] (lay S ++ J) (rI (b2i (decide (S.2.1 6 a = c))) (lay S ++ J)) 0 0 := by
  refine jM.of (by decide) (Nat.le_of_ble_eq_true rfl) ?_
  refine j_aload_n d_K_isSign_0 rfl ?_
  refine j_getf d_K_isSign_1 f_K_15 rfl rfl ?_
  refine j_aload_n d_K_isSign_4 rfl ?_
  refine j_getf d_K_isSign_5 f_K_30 rfl rfl ?_
  refine j_top (w := .int (nI a)) (congrArg Value.int ha) ?_
  refine j_cald d_K_isSign_8 rfl h101 (by decide) ?_
  refine j_iload_n d_K_isSign_9 rfl ?_
  refine j_icmp_ne (tgt := 17) d_K_isSign_10 rfl (fun h10 => ?_) (fun h10 => ?_)
  · refine j_iconst (v := 0) d_K_isSign_17 rfl ?_
    exact j_zret rfl rfl d_K_isSign_18 ⟨by first | (rw [show decide (S.2.1 6 a = c) = true from decide_eq_true (by first | exact h11 | exact h10)]; rfl) | (rw [show decide (S.2.1 6 a = c) = false from decide_eq_false (by first | exact h11 | exact h10)]; rfl), rfl⟩
  · refine j_iconst (v := 1) d_K_isSign_13 rfl ?_
    refine j_goto (tgt := 18) d_K_isSign_14 rfl ?_
    exact j_zret rfl rfl d_K_isSign_18 ⟨by first | (rw [show decide (S.2.1 6 a = c) = true from decide_eq_true (by first | exact h11 | exact h10)]; rfl) | (rw [show decide (S.2.1 6 a = c) = false from decide_eq_false (by first | exact h11 | exact h10)]; rfl), rfl⟩
theorem m_K_advance (K : jK) (d : Nat) (S : jS) (J : jH) (a : Nat) (ha : S.1 12 = nI a) (h101 : a < 101) (c : Nat) (hc : S.1 11 = nI c) (hac : a + 1 < c) (hc2 : c ≤ 101) : jM K M_K_advance d [.ref 43] (lay S ++ J) (rV (lay (s1 S 12 (nI (a + 1))) ++ J)) 0 0 := by
  refine jM.of (by decide) (Nat.le_of_ble_eq_true rfl) ?_
  refine j_aload_n d_K_advance_0 rfl ?_
  refine j_getf d_K_advance_1 f_K_30 rfl rfl ?_
  refine j_top (w := .int (nI a)) (congrArg Value.int ha) ?_
  refine j_aload_n d_K_advance_4 rfl ?_
  refine j_getf d_K_advance_5 f_K_26 rfl rfl ?_
  refine j_top (w := .int (nI c)) (congrArg Value.int hc) ?_
  refine j_iconst (v := 1) d_K_advance_8 rfl ?_
  refine j_isub d_K_advance_9 ?_
  refine j_top (w := .int (nI (c - 1))) (by show Value.int (nI c - nI 1) = _; rw [pk_sub (by omega)]) ?_
  refine j_icmp_geF (tgt := 23) d_K_advance_10 rfl (nI_ge (by omega) (by omega)) ?_
  refine j_aload_n d_K_advance_13 rfl ?_
  refine j_dup d_K_advance_14 rfl ?_
  refine j_getf d_K_advance_15 f_K_30 rfl rfl ?_
  refine j_top (w := .int (nI a)) (congrArg Value.int ha) ?_
  refine j_iconst (v := 1) d_K_advance_18 rfl ?_
  refine j_iadd d_K_advance_19 ?_
  refine j_top (w := .int (nI (a + 1))) (by rw [nI_succ]) ?_
  refine j_putf d_K_advance_20 f_K_30 rfl (Nat.le_of_ble_eq_true rfl) rfl rfl rfl ?_
  exact j_vret rfl d_K_advance_23 ⟨rfl, rfl⟩
def isLt (k : Int32) (s e : Nat) : Bool := decide (k = 97) && decide (e - s = 1)
theorem isLt_a {k : Int32} (s e : Nat) (h : ¬ k = 97) : b2i (isLt k s e) = 0 := by rw [isLt, decide_eq_false h]; rfl
theorem isLt_b {k : Int32} {s e : Nat} (h : k = 97) (g : ¬ nI (e - s) = 1) : b2i (isLt k s e) = 0 := by
  rw [isLt, decide_eq_false (p := e - s = 1) (fun q => g (by rw [q]; rfl)), Bool.and_false]; rfl
theorem isLt_c {k : Int32} {s e : Nat} (h2 : e ≤ 100) (h : k = 97) (g : nI (e - s) = 1) : b2i (isLt k s e) = 1 := by
  rw [isLt, decide_eq_true h, decide_eq_true (p := e - s = 1) ((nI_eq (by omega) (by omega)).mp (show nI (e - s) = nI 1 from g))]; rfl
theorem m_K_isLetter (K : jK) (d : Nat) (S : jS) (J : jH) (a : Nat) (ha : S.1 12 = nI a) (h101 : a < 101) (s e : Nat) (hs : S.2.1 7 a = nI s) (he : S.2.1 8 a = nI e) (hse : s ≤ e) (he2 : e ≤ 100) : jM K M_K_isLetter d [.ref 43] (lay S ++ J) (rI (b2i (isLt (S.2.1 6 a) s e)) (lay S ++ J)) 0 0 := by
  refine jM.of (by decide) (Nat.le_of_ble_eq_true rfl) ?_
  refine j_aload_n d_K_isLetter_0 rfl ?_
  refine j_getf d_K_isLetter_1 f_K_15 rfl rfl ?_
  refine j_aload_n d_K_isLetter_4 rfl ?_
  refine j_getf d_K_isLetter_5 f_K_30 rfl rfl ?_
  refine j_top (w := .int (nI a)) (congrArg Value.int ha) ?_
  refine j_cald d_K_isLetter_8 rfl h101 (by decide) ?_
  refine j_bipush (v := 97) d_K_isLetter_9 (by decide) ?_
  refine j_icmp_ne (tgt := 41) d_K_isLetter_11 rfl (fun h11 => ?_) (fun h11 => ?_)
  · refine j_iconst (v := 0) d_K_isLetter_41 rfl ?_
    exact j_zret rfl rfl d_K_isLetter_42 ⟨by first | (rw [isLt_a s e h11]; done) | (rw [isLt_b h11 h34]; done) | (rw [isLt_c he2 h11 h34]; done), rfl⟩
  · refine j_aload_n d_K_isLetter_14 rfl ?_
    refine j_getf d_K_isLetter_15 f_K_23 rfl rfl ?_
    refine j_aload_n d_K_isLetter_18 rfl ?_
    refine j_getf d_K_isLetter_19 f_K_30 rfl rfl ?_
    refine j_top (w := .int (nI a)) (congrArg Value.int ha) ?_
    refine j_iald d_K_isLetter_22 rfl h101 (by decide) ?_
    refine j_top (w := .int (nI e)) (congrArg Value.int he) ?_
    refine j_aload_n d_K_isLetter_23 rfl ?_
    refine j_getf d_K_isLetter_24 f_K_19 rfl rfl ?_
    refine j_aload_n d_K_isLetter_27 rfl ?_
    refine j_getf d_K_isLetter_28 f_K_30 rfl rfl ?_
    refine j_top (w := .int (nI a)) (congrArg Value.int ha) ?_
    refine j_iald d_K_isLetter_31 rfl h101 (by decide) ?_
    refine j_top (w := .int (nI s)) (congrArg Value.int hs) ?_
    refine j_isub d_K_isLetter_32 ?_
    refine j_top (w := .int (nI (e - s))) (by rw [pk_sub hse]) ?_
    refine j_iconst (v := 1) d_K_isLetter_33 rfl ?_
    refine j_icmp_ne (tgt := 41) d_K_isLetter_34 rfl (fun h34 => ?_) (fun h34 => ?_)
    · refine j_iconst (v := 0) d_K_isLetter_41 rfl ?_
      exact j_zret rfl rfl d_K_isLetter_42 ⟨by first | (rw [isLt_a s e h11]; done) | (rw [isLt_b h11 h34]; done) | (rw [isLt_c he2 h11 h34]; done), rfl⟩
    · refine j_iconst (v := 1) d_K_isLetter_37 rfl ?_
      refine j_goto (tgt := 42) d_K_isLetter_38 rfl ?_
      exact j_zret rfl rfl d_K_isLetter_42 ⟨by first | (rw [isLt_a s e h11]; done) | (rw [isLt_b h11 h34]; done) | (rw [isLt_c he2 h11 h34]; done), rfl⟩
theorem m_K_letter (K : jK) (d : Nat) (hd : 1 ≤ d) (S : jS) (J : jH) (a : Nat) (ha : S.1 12 = nI a) (h101 : a < 101) (n : Nat) (hn : S.1 6 = nI n) (h100 : n ≤ 100) (hc : chOk (S.2.1 5)) (s : Nat) (hs : S.2.1 7 a = nI s) (hsn : s < n) : jM K M_K_letter d [.ref 43] (lay S ++ J) (rI (S.2.1 5 s) (lay S ++ J)) 0 0 := by
  refine jM.of (by decide) (Nat.le_of_ble_eq_true rfl) ?_
  refine j_aload_n d_K_letter_0 rfl ?_
  refine j_getf d_K_letter_1 f_K_9 rfl rfl ?_
  refine j_aload_n d_K_letter_4 rfl ?_
  refine j_getf d_K_letter_5 f_K_19 rfl rfl ?_
  refine j_aload_n d_K_letter_8 rfl ?_
  refine j_getf d_K_letter_9 f_K_30 rfl rfl ?_
  refine j_top (w := .int (nI a)) (congrArg Value.int ha) ?_
  refine j_iald d_K_letter_12 rfl h101 (by decide) ?_
  refine j_top (w := .int (nI s)) (congrArg Value.int hs) ?_
  refine j_retI (j_callV d_K_letter_13 v_T_at l_K_39 rfl rfl (m_T_at K (d - 1) S J n s hn h100 (by omega) hc) (by omega) (by decide) (Nat.le_of_ble_eq_true rfl) rfl) rfl ?_
  rw [if_pos hsn]
  exact j_zret rfl (hc s) d_K_letter_16 ⟨rfl, rfl⟩
def numV (T : Nat → Int32) : Nat → Nat → Int32 → Int32
  | 0, _, v => v
  | k + 1, i, v => numV T k (i + 1) (10 * v + (T i - 48))
theorem m_K_number (K : jK) (d : Nat) (hd : 1 ≤ d) (S : jS) (J : jH) (a : Nat) (ha : S.1 12 = nI a) (h101 : a < 101) (n : Nat) (hn : S.1 6 = nI n) (h100 : n ≤ 100) (hc : chOk (S.2.1 5)) (s e : Nat) (hs : S.2.1 7 a = nI s) (he : S.2.1 8 a = nI e) (hse : s ≤ e) (he2 : e ≤ 100) (hen : e ≤ n) : jM K M_K_number d [.ref 43] (lay S ++ J) (rI (numV (S.2.1 5) (e - s) s 0) (lay S ++ J)) 0 0 := by
  refine jM.of (by decide) (Nat.le_of_ble_eq_true rfl) ?_
  have loop : ∀ k i v, i + k = e → jE K M_K_number d 12 [(0, .ref 43), (1, .int v), (2, .int (nI i))] [] (lay S ++ J) (rI (numV (S.2.1 5) k i v) (lay S ++ J)) 0 0 := by
    intro k
    induction k with
    | zero =>
      intro i v hi
      refine j_iload_n d_K_number_12 rfl ?_
      refine j_aload_n d_K_number_13 rfl ?_
      refine j_getf d_K_number_14 f_K_23 rfl rfl ?_
      refine j_aload_n d_K_number_17 rfl ?_
      refine j_getf d_K_number_18 f_K_30 rfl rfl ?_
      refine j_top (w := .int (nI a)) (congrArg Value.int ha) ?_
      refine j_iald d_K_number_21 rfl h101 (by decide) ?_
      refine j_top (w := .int (nI e)) (congrArg Value.int he) ?_
      refine j_icmp_geT (tgt := 48) d_K_number_22 rfl (nI_le (by omega) (by omega)) ?_
      refine j_iload_n d_K_number_48 rfl ?_
      exact j_iret rfl d_K_number_49 ⟨rfl, rfl⟩
    | succ k ih =>
      intro i v hi
      refine j_iload_n d_K_number_12 rfl ?_
      refine j_aload_n d_K_number_13 rfl ?_
      refine j_getf d_K_number_14 f_K_23 rfl rfl ?_
      refine j_aload_n d_K_number_17 rfl ?_
      refine j_getf d_K_number_18 f_K_30 rfl rfl ?_
      refine j_top (w := .int (nI a)) (congrArg Value.int ha) ?_
      refine j_iald d_K_number_21 rfl h101 (by decide) ?_
      refine j_top (w := .int (nI e)) (congrArg Value.int he) ?_
      refine j_icmp_geF (tgt := 48) d_K_number_22 rfl (nI_ge (by omega) (by omega)) ?_
      refine j_bipush (v := 10) d_K_number_25 (by decide) ?_
      refine j_iload_n d_K_number_27 rfl ?_
      refine j_imul d_K_number_28 ?_
      refine j_aload_n d_K_number_29 rfl ?_
      refine j_getf d_K_number_30 f_K_9 rfl rfl ?_
      refine j_iload_n d_K_number_33 rfl ?_
      refine j_retI (j_callV d_K_number_34 v_T_at l_K_39 rfl rfl (m_T_at K (d - 1) S J n i hn h100 (by omega) hc) (by omega) (by decide) (Nat.le_of_ble_eq_true rfl) rfl) rfl ?_
      rw [if_pos (show i < n by omega)]
      refine j_bipush (v := 48) d_K_number_37 (by decide) ?_
      refine j_isub d_K_number_39 ?_
      refine j_iadd d_K_number_40 ?_
      refine j_istore_n d_K_number_41 (by decide) ?_
      refine j_iincN d_K_number_42 rfl (by decide) ?_
      refine j_goto (tgt := 12) d_K_number_45 rfl ?_
      exact j_loc' [(0, .ref 43), (1, .int (10 * v + (S.2.1 5 i - 48))), (2, .int (nI (i + 1)))] ⟨rfl, rfl, rfl, trivial⟩ (ih (i + 1) _ (by omega))
  refine j_iconst (v := 0) d_K_number_0 rfl ?_
  refine j_istore_n d_K_number_1 (by decide) ?_
  refine j_aload_n d_K_number_2 rfl ?_
  refine j_getf d_K_number_3 f_K_19 rfl rfl ?_
  refine j_aload_n d_K_number_6 rfl ?_
  refine j_getf d_K_number_7 f_K_30 rfl rfl ?_
  refine j_top (w := .int (nI a)) (congrArg Value.int ha) ?_
  refine j_iald d_K_number_10 rfl h101 (by decide) ?_
  refine j_top (w := .int (nI s)) (congrArg Value.int hs) ?_
  refine j_istore_n d_K_number_11 (by decide) ?_
  exact j_loc' [(0, .ref 43), (1, .int 0), (2, .int (nI s))] ⟨rfl, rfl, rfl, trivial⟩ (loop (e - s) s 0 (by omega))
/-- the token is the constant's text -/
def wdEq (T : Nat → Int32) (i s : Nat) : Nat → Nat → Bool
  | 0, _ => true
  | k + 1, j => decide (T (s + j) = txc i j) && wdEq T i s k (j + 1)
def isWd (T : Nat → Int32) (i : Nat) (k : Int32) (s e : Nat) : Bool := decide (k = 97) && (decide (e - s = j_txL.getD i 0) && wdEq T i s (j_txL.getD i 0) 0)
theorem m_K_isWord (K : jK) (d : Nat) (hd : 4 ≤ d) (S : jS) (J : jH) (a : Nat) (ha : S.1 12 = nI a) (h101 : a < 101) (n : Nat) (hn : S.1 6 = nI n) (h100 : n ≤ 100) (hc : chOk (S.2.1 5)) (s e : Nat) (hs : S.2.1 7 a = nI s) (he : S.2.1 8 a = nI e) (hse : s ≤ e) (he2 : e ≤ 100) (hen : e ≤ n) (i : Nat) (hi : i < 8) : jM K M_K_isWord d [.ref 43, .ref (8 + i)] (lay S ++ J) (rI (b2i (isWd (S.2.1 5) i (S.2.1 6 a) s e)) (lay S ++ J)) 0 0 := by
  refine jM.of (by decide) (Nat.le_of_ble_eq_true rfl) ?_
  have hN := txL_lt i hi
  refine j_aload_n d_K_isWord_0 rfl ?_
  refine j_getf d_K_isWord_1 f_K_15 rfl rfl ?_
  refine j_aload_n d_K_isWord_4 rfl ?_
  refine j_getf d_K_isWord_5 f_K_30 rfl rfl ?_
  refine j_top (w := .int (nI a)) (congrArg Value.int ha) ?_
  refine j_cald d_K_isWord_8 rfl h101 (by decide) ?_
  refine j_bipush (v := 97) d_K_isWord_9 (by decide) ?_
  refine j_icmp_ne (tgt := 40) d_K_isWord_11 rfl (fun hk => ?_) (fun hk => ?_)
  · refine j_iconst (v := 0) d_K_isWord_40 rfl ?_
    exact j_zret rfl rfl d_K_isWord_41 ⟨by rw [show isWd (S.2.1 5) i (S.2.1 6 a) s e = false by rw [isWd, decide_eq_false hk, Bool.false_and]]; rfl, rfl⟩
  · refine j_aload_n d_K_isWord_14 rfl ?_
    refine j_getf d_K_isWord_15 f_K_23 rfl rfl ?_
    refine j_aload_n d_K_isWord_18 rfl ?_
    refine j_getf d_K_isWord_19 f_K_30 rfl rfl ?_
    refine j_top (w := .int (nI a)) (congrArg Value.int ha) ?_
    refine j_iald d_K_isWord_22 rfl h101 (by decide) ?_
    refine j_top (w := .int (nI e)) (congrArg Value.int he) ?_
    refine j_aload_n d_K_isWord_23 rfl ?_
    refine j_getf d_K_isWord_24 f_K_19 rfl rfl ?_
    refine j_aload_n d_K_isWord_27 rfl ?_
    refine j_getf d_K_isWord_28 f_K_30 rfl rfl ?_
    refine j_top (w := .int (nI a)) (congrArg Value.int ha) ?_
    refine j_iald d_K_isWord_31 rfl h101 (by decide) ?_
    refine j_top (w := .int (nI s)) (congrArg Value.int hs) ?_
    refine j_isub d_K_isWord_32 ?_
    refine j_top (w := .int (nI (e - s))) (by rw [pk_sub hse]) ?_
    refine j_aload_n d_K_isWord_33 rfl ?_
    refine j_retI (j_callX d_K_isWord_34 xf_JString_length l_K_50 rfl (x_strO K hi) (m_JString_length K (d - 1) (by omega) _ i hi) (by omega) (by decide) (Nat.le_of_ble_eq_true rfl) rfl) rfl ?_
    by_cases hl : e - s = j_txL.getD i 0
    · refine j_icmp_eqT (tgt := 42) d_K_isWord_37 rfl (congrArg nI hl) ?_
      have loop : ∀ k j, j + k = j_txL.getD i 0 → jE K M_K_isWord d 44 [(0, .ref 43), (1, .ref (8 + i)), (2, .int (nI j))] [] (lay S ++ J) (rI (b2i (wdEq (S.2.1 5) i s k j)) (lay S ++ J)) 0 0 := by
        intro k
        induction k with
        | zero =>
          intro j hj
          refine j_iload_n d_K_isWord_44 rfl ?_
          refine j_aload_n d_K_isWord_45 rfl ?_
          refine j_retI (j_callX d_K_isWord_46 xf_JString_length l_K_50 rfl (x_strO K hi) (m_JString_length K (d - 1) (by omega) _ i hi) (by omega) (by decide) (Nat.le_of_ble_eq_true rfl) rfl) rfl ?_
          refine j_icmp_geT (tgt := 86) d_K_isWord_49 rfl (nI_le (by omega) (by omega)) ?_
          refine j_iconst (v := 1) d_K_isWord_86 rfl ?_
          exact j_zret rfl rfl d_K_isWord_87 ⟨rfl, rfl⟩
        | succ k ih =>
          intro j hj
          refine j_iload_n d_K_isWord_44 rfl ?_
          refine j_aload_n d_K_isWord_45 rfl ?_
          refine j_retI (j_callX d_K_isWord_46 xf_JString_length l_K_50 rfl (x_strO K hi) (m_JString_length K (d - 1) (by omega) _ i hi) (by omega) (by decide) (Nat.le_of_ble_eq_true rfl) rfl) rfl ?_
          refine j_icmp_geF (tgt := 86) d_K_isWord_49 rfl (nI_ge (by omega) (by omega)) ?_
          refine j_aload_n d_K_isWord_52 rfl ?_
          refine j_getf d_K_isWord_53 f_K_9 rfl rfl ?_
          refine j_aload_n d_K_isWord_56 rfl ?_
          refine j_getf d_K_isWord_57 f_K_19 rfl rfl ?_
          refine j_aload_n d_K_isWord_60 rfl ?_
          refine j_getf d_K_isWord_61 f_K_30 rfl rfl ?_
          refine j_top (w := .int (nI a)) (congrArg Value.int ha) ?_
          refine j_iald d_K_isWord_64 rfl h101 (by decide) ?_
          refine j_top (w := .int (nI s)) (congrArg Value.int hs) ?_
          refine j_iload_n d_K_isWord_65 rfl ?_
          refine j_iadd d_K_isWord_66 ?_
          refine j_top (w := .int (nI (s + j))) (by rw [nI_add]) ?_
          refine j_retI (j_callV d_K_isWord_67 v_T_at l_K_39 rfl rfl (m_T_at K (d - 1) S J n (s + j) hn h100 (by omega) hc) (by omega) (by decide) (Nat.le_of_ble_eq_true rfl) rfl) rfl ?_
          rw [if_pos (show s + j < n by omega)]
          refine j_aload_n d_K_isWord_70 rfl ?_
          refine j_iload_n d_K_isWord_71 rfl ?_
          refine j_retI (j_callX d_K_isWord_72 xf_JString_charAt l_K_53 rfl (x_strO K hi) (m_JString_charAt K (d - 1) (by omega) _ i j hi (by omega)) (by omega) (by decide) (Nat.le_of_ble_eq_true rfl) rfl) rfl ?_
          refine j_icmp_eq (tgt := 80) d_K_isWord_75 rfl (fun hq => ?_) (fun hq => ?_)
          · refine j_iincN d_K_isWord_80 rfl (by decide) ?_
            refine j_goto (tgt := 44) d_K_isWord_83 rfl ?_
            refine j_loc' [(0, .ref 43), (1, .ref (8 + i)), (2, .int (nI (j + 1)))] ⟨rfl, rfl, rfl, trivial⟩ ?_
            rw [show wdEq (S.2.1 5) i s (k + 1) j = wdEq (S.2.1 5) i s k (j + 1) by rw [wdEq, decide_eq_true hq, Bool.true_and]]
            exact ih (j + 1) (by omega)
          · refine j_iconst (v := 0) d_K_isWord_78 rfl ?_
            exact j_zret rfl rfl d_K_isWord_79 ⟨by rw [wdEq, decide_eq_false hq, Bool.false_and]; rfl, rfl⟩
      refine j_iconst (v := 0) d_K_isWord_42 rfl ?_
      refine j_istore_n d_K_isWord_43 (by decide) ?_
      refine j_loc' [(0, .ref 43), (1, .ref (8 + i)), (2, .int (nI 0))] ⟨rfl, rfl, rfl, trivial⟩ ?_
      rw [show isWd (S.2.1 5) i (S.2.1 6 a) s e = wdEq (S.2.1 5) i s (j_txL.getD i 0) 0 by rw [isWd, decide_eq_true hk, decide_eq_true hl, Bool.true_and, Bool.true_and]]
      exact loop _ 0 (by omega)
    · refine j_icmp_eqF (tgt := 42) d_K_isWord_37 rfl (fun q => hl ((nI_eq (by omega) (by omega)).mp q)) ?_
      refine j_iconst (v := 0) d_K_isWord_40 rfl ?_
      exact j_zret rfl rfl d_K_isWord_41 ⟨by rw [show isWd (S.2.1 5) i (S.2.1 6 a) s e = false by rw [isWd, decide_eq_false hl, Bool.false_and, Bool.and_false]]; rfl, rfl⟩
end
section
/-! the reader's stand before the tokens that are left; what it reads -/
theorem j_une {α : Type} {f : Nat → α} {i j : Nat} {v : α} (h : ¬ j = i) : va_up f i v j = f j := by unfold va_up; exact if_neg h
theorem j_ueq {α : Type} (f : Nat → α) (i : Nat) (v : α) : va_up f i v i = v := by unfold va_up; exact if_pos rfl
theorem isSg_46 {x : Int32} (h : isSg x = true) : ¬ x = 46 := by
  intro e; subst e
  exact absurd h (by decide)
theorem tokK_46 (T : Nat → Int32) (n i : Nat) : ¬ tokK T n i = 46 := by
  unfold tokK
  split
  · decide
  · split
    · split <;> decide
    · split
      · rename_i h; exact isSg_46 h
      · decide
/-- what a token of the text is -/
theorem tokL_all (T : Nat → Int32) (n : Nat) : ∀ (k i : Nat), n - i ≤ k → i ≤ n → ∀ q ∈ tokL T n i, q.2.1 ≤ q.2.2 ∧ q.2.2 ≤ n ∧ (¬ q.1 = 46 → q.2.1 < n)
  | 0, i, hk, hi => by
    rw [tokL_end T (by omega)]
    intro q hq
    rw [List.mem_singleton.mp hq]
    exact ⟨Nat.le_refl _, Nat.le_refl _, fun h => absurd rfl h⟩
  | k + 1, i, hk, hi => by
    by_cases h : i < n
    · by_cases hb : T i = 32
      · rw [tokL_blank T h hb]; exact tokL_all T n k (i + 1) (by omega) (by omega)
      · rw [tokL_tok T h hb]
        have h1 := tokE_gt T h
        have h2 := tokE_le T h
        intro q hq
        rcases List.mem_cons.mp hq with e | e
        · subst e; exact ⟨Nat.le_of_lt h1, h2, fun _ => h⟩
        · exact tokL_all T n k (tokE T n i) (by omega) h2 q e
    · rw [tokL_end T (by omega)]
      intro q hq
      rw [List.mem_singleton.mp hq]
      exact ⟨Nat.le_refl _, Nat.le_refl _, fun h => absurd rfl h⟩
theorem tokL_ne (T : Nat → Int32) (n : Nat) : ∀ (k i : Nat), n - i ≤ k → i ≤ n → ¬ tokL T n i = []
  | 0, i, hk, hi => by rw [tokL_end T (by omega)]; exact fun e => by cases e
  | k + 1, i, hk, hi => by
    by_cases h0 : i < n
    · by_cases hb : T i = 32
      · rw [tokL_blank T h0 hb]; exact tokL_ne T n k (i + 1) (by omega) (by omega)
      · rw [tokL_tok T h0 hb]; exact fun e => by cases e
    · rw [tokL_end T (by omega)]; exact fun e => by cases e
/-- only the last token is the end -/
theorem tokL_last (T : Nat → Int32) (n : Nat) : ∀ (k i : Nat), n - i ≤ k → i ≤ n → ∀ (a : Nat) (q : Tok) (r : List Tok), (tokL T n i).drop a = q :: r → (q.1 = 46 ↔ r = [])
  | 0, i, hk, hi, a, q, r, h => by
    rw [tokL_end T (by omega)] at h
    cases a with
    | zero => cases h; exact ⟨fun _ => rfl, fun _ => rfl⟩
    | succ a => simp at h
  | k + 1, i, hk, hi, a, q, r, h => by
    by_cases h0 : i < n
    · by_cases hb : T i = 32
      · rw [tokL_blank T h0 hb] at h; exact tokL_last T n k (i + 1) (by omega) (by omega) a q r h
      · rw [tokL_tok T h0 hb] at h
        have h1 := tokE_gt T h0
        have h2 := tokE_le T h0
        cases a with
        | zero =>
          simp only [List.drop_zero, List.cons.injEq] at h
          obtain ⟨rfl, rfl⟩ := h
          refine ⟨fun e => absurd e (tokK_46 T n i), fun e => ?_⟩
          exact absurd e (tokL_ne T n (n - tokE T n i) (tokE T n i) (Nat.le_refl _) h2)
        | succ a => exact tokL_last T n k (tokE T n i) (by omega) h2 a q r (by simpa using h)
    · rw [tokL_end T (by omega)] at h
      cases a with
      | zero => cases h; exact ⟨fun _ => rfl, fun _ => rfl⟩
      | succ a => simp at h
/-- the same but for these numbers -/
def frm (X : List Nat) (S S' : jS) : Prop := (∀ i, ¬ i ∈ X → S'.1 i = S.1 i) ∧ S'.2 = S.2
theorem frm.rf (X : List Nat) (S : jS) : frm X S S := ⟨fun _ _ => rfl, rfl⟩
theorem frm.tr {X : List Nat} {A B C : jS} (h : frm X A B) (g : frm X B C) : frm X A C := ⟨fun i hi => (g.1 i hi).trans (h.1 i hi), g.2.trans h.2⟩
theorem frm.up {X Y : List Nat} {A B : jS} (hs : ∀ i, i ∈ X → i ∈ Y) (h : frm X A B) : frm Y A B := ⟨fun i hi => h.1 i (fun q => hi (hs i q)), h.2⟩
theorem frm.s1 {X : List Nat} {A B : jS} (h : frm X A B) {i : Nat} (hi : i ∈ X) (v : Int32) : frm X A (s1 B i v) := ⟨fun j hj => (j_une (i := i) (j := j) (fun e => hj (by rw [e]; exact hi))).trans (h.1 j hj), h.2⟩
/-- the reader stands before r -/
def Rdr (S : jS) (n c : Nat) (r : List Tok) : Prop :=
  S.1 6 = nI n ∧ n ≤ 100 ∧ chOk (S.2.1 5) ∧ txOk (S.2.1 5) n ∧ S.1 2 = nI c ∧ c ≤ 6 ∧ S.1 11 = nI (tokL (S.2.1 5) n 0).length ∧ TokA (tokL (S.2.1 5) n 0) (S.2.1 6) (S.2.1 7) (S.2.1 8) ∧
  ∃ a, S.1 12 = nI a ∧ (tokL (S.2.1 5) n 0).drop a = r ∧ a < (tokL (S.2.1 5) n 0).length
theorem Rdr.keep {S S' : jS} {n c : Nat} {r : List Tok} {X : List Nat} (h : Rdr S n c r) (f : frm X S S') (hX : (X.contains 6 || X.contains 2 || X.contains 11 || X.contains 12) = false) : Rdr S' n c r := by
  obtain ⟨h1, h2, h3, h4, h5, h6, h7, h8, a, h9, h10, h11⟩ := h
  obtain ⟨f1, f2⟩ := f
  simp only [Bool.or_eq_false_iff, List.contains_eq_mem, decide_eq_false_iff_not] at hX
  obtain ⟨⟨⟨x6, x2⟩, x11⟩, x12⟩ := hX
  unfold Rdr
  rw [f2, f1 6 x6, f1 2 x2, f1 11 x11, f1 12 x12]
  exact ⟨h1, h2, h3, h4, h5, h6, h7, h8, a, h9, h10, h11⟩
/-- what the reader sees -/
theorem Rdr.cur {S : jS} {n c : Nat} {r : List Tok} (h : Rdr S n c r) : ∃ (a : Nat) (k : Int32) (s e : Nat) (r1 : List Tok), r = (k, s, e) :: r1 ∧ S.1 12 = nI a ∧ a < 101 ∧ S.2.1 6 a = k ∧ S.2.1 7 a = nI s ∧ S.2.1 8 a = nI e ∧ s ≤ e ∧ e ≤ n ∧ (¬ k = 46 → s < n ∧ a + 1 < (tokL (S.2.1 5) n 0).length ∧ Rdr (s1 S 12 (nI (a + 1))) n c r1) := by
  obtain ⟨h1, h2, h3, h4, h5, h6, h7, h8, a, h9, h10, h11⟩ := h
  have hl := tokL_len (S.2.1 5) n (n - 0) 0 (Nat.le_refl _) (Nat.zero_le _)
  obtain ⟨q, hq⟩ : ∃ q, (tokL (S.2.1 5) n 0)[a]? = some q := ⟨_, List.getElem?_eq_getElem h11⟩
  have hd : (tokL (S.2.1 5) n 0).drop a = q :: (tokL (S.2.1 5) n 0).drop (a + 1) := by
    rw [List.drop_eq_getElem_cons h11]
    rw [List.getElem?_eq_getElem h11] at hq
    rw [Option.some.inj hq]
  obtain ⟨k, s, e⟩ := q
  obtain ⟨g1, g2, g3⟩ := h8 a _ hq
  obtain ⟨t1, t2, t3⟩ := tokL_all (S.2.1 5) n (n - 0) 0 (Nat.le_refl _) (Nat.zero_le _) _ (List.mem_of_getElem? hq)
  refine ⟨a, k, s, e, (tokL (S.2.1 5) n 0).drop (a + 1), by rw [← h10, hd], h9, by omega, g1, g2, g3, t1, t2, fun hk => ⟨t3 hk, ?_, ?_⟩⟩
  · have hn : ¬ (tokL (S.2.1 5) n 0).drop (a + 1) = [] := fun e => hk ((tokL_last (S.2.1 5) n (n - 0) 0 (Nat.le_refl _) (Nat.zero_le _) a _ _ hd).mpr e)
    have := List.length_pos_iff.mpr hn
    rw [List.length_drop] at this
    omega
  · have hn : ¬ (tokL (S.2.1 5) n 0).drop (a + 1) = [] := fun e => hk ((tokL_last (S.2.1 5) n (n - 0) 0 (Nat.le_refl _) (Nat.zero_le _) a _ _ hd).mpr e)
    have := List.length_pos_iff.mpr hn
    rw [List.length_drop] at this
    exact ⟨h1, h2, h3, h4, h5, h6, h7, h8, a + 1, rfl, rfl, show a + 1 < (tokL (S.2.1 5) n 0).length by omega⟩
theorem ixOf_two (f : Nat → Int32) (c : Int32) : ∀ (k i : Nat), ixOf f c k i = -1 ∨ ∃ j : Nat, i ≤ j ∧ j < i + k ∧ ixOf f c k i = nI j
  | 0, i => .inl rfl
  | k + 1, i => by
    unfold ixOf
    split
    · exact .inr ⟨i, Nat.le_refl _, by omega, rfl⟩
    · rcases ixOf_two f c k (i + 1) with h | ⟨j, h1, h2, h3⟩
      · exact .inl h
      · exact .inr ⟨j, by omega, by omega, h3⟩
abbrev Rs (α : Type) : Type := (α × List Tok) ⊕ Nat
abbrev Opd : Type := Nat ⊕ Int32
/-- a field: its number -/
def pFld (T N : Nat → Int32) (c : Nat) : List Tok → Rs Nat
  | [] => .inr 0
  | (k, s, e) :: r => if isLt k s e = true then (if ixOf N (T s) c 0 = -1 then .inr s else .inl ((ixOf N (T s) c 0).toNatClampNeg, r)) else .inr s
def pOpd (T N : Nat → Int32) (c : Nat) : List Tok → Rs Opd
  | [] => .inr 0
  | (k, s, e) :: r =>
    if k = 45 then (match r with
      | [] => .inr 0
      | (k2, s2, e2) :: r2 => if k2 = 48 then .inl (.inr (-(numV T (e2 - s2) s2 0)), r2) else .inr s2)
    else if k = 48 then .inl (.inr (numV T (e - s) s 0), r)
    else (match pFld T N c ((k, s, e) :: r) with | .inl (f, r1) => .inl (.inl f, r1) | .inr p => .inr p)
/-- how a piece of reading ends: what is read and what is left, or where it is wrong -/
def pst {α : Type} (n c : Nat) (X : List Nat) (S : jS) (J : jH) (Y : α → jO → jS → Prop) (x : Rs α) (o : jO) (h : jH) : Prop :=
  match x with
  | .inl (a, r) => ∃ S', h = lay S' ++ J ∧ frm X S S' ∧ Rdr S' n c r ∧ Y a o S'
  | .inr p => o = .inr 10 ∧ ∃ S', h = lay S' ++ J ++ [.inr (10, [])] ∧ frm (10 :: X) S S' ∧ S'.1 10 = nI p
section PST
variable {K : jK} {M : jR} {d pc : Nat} {ls : List (Nat × Value)} {st st0 : List Value} {h : jH} {Q : jO → jH → Prop} {mc ms : Nat}
theorem j_pst {α : Type} {n c : Nat} {X : List Nat} {S : jS} {J : jH} {Y : α → jO → jS → Prop} {x : Rs α} (hcall : jCall K M d pc ls st0 st h (pst n c X S J Y x) 0 0) (hh : M.2.2.2.2 = [])
    (hY : ∀ a k S', ¬ Y a (.inr k) S') (kr : ∀ a r v S', x = .inl (a, r) → frm X S S' → Rdr S' n c r → Y a (.inl v) S' → jE K M d (pc + 3) ls (v.toList ++ st) (lay S' ++ J) Q mc ms)
    (kt : ∀ p S', x = .inr p → frm (10 :: X) S S' → S'.1 10 = nI p → Q (.inr 10) (lay S' ++ J ++ [.inr (10, [])])) : jE K M d pc ls st0 h Q mc ms := by
  refine j_ret0 hcall hh (fun v g hq => ?_) (fun k g hq => ?_)
  · unfold pst at hq
    split at hq
    · obtain ⟨S', rfl, h1, h2, h3⟩ := hq
      exact kr _ _ v S' rfl h1 h2 h3
    · cases hq.1
  · unfold pst at hq
    split at hq
    · obtain ⟨S', rfl, h1, h2, h3⟩ := hq
      exact absurd h3 (hY _ _ _)
    · obtain ⟨h0, S', rfl, h1, h2⟩ := hq
      cases h0
      exact kt _ S' rfl h1 h2
end PST
end
section
/-! BitLoom$Statement: refuse, readSign, passSign, readField, readOperand -/
theorem m_S_refuse (K : jK) (d : Nat) (hd : 6 ≤ d) (S : jS) (J : jH) (a : Nat) (ha : S.1 12 = nI a) (h101 : a < 101) (s : Nat) (hs : S.2.1 7 a = nI s) : jM K M_S_refuse d [.ref 42] (lay S ++ J) (rX 10 (lay (s1 S 10 (nI s)) ++ J)) 0 0 := by
  refine jM.of (by decide) (Nat.le_of_ble_eq_true rfl) ?_
  refine j_aload_n d_S_refuse_0 rfl ?_
  refine j_aload_n d_S_refuse_1 rfl ?_
  refine j_getf d_S_refuse_2 f_S_24 rfl rfl ?_
  refine j_retI (j_callV d_S_refuse_5 v_K_start l_S_116 rfl rfl (m_K_start K (d - 1) S J a ha h101) (by omega) (by decide) (Nat.le_of_ble_eq_true rfl) rfl) rfl ?_
  refine j_top (w := .int (nI s)) (congrArg Value.int hs) ?_
  refine j_putf d_S_refuse_8 f_S_56 rfl (Nat.le_of_ble_eq_true rfl) rfl rfl rfl ?_
  exact j_throw d_S_refuse_11 d_S_refuse_14 d_S_refuse_15 d_S_refuse_18 x_S_119 rfl (by omega) (Nat.le_of_ble_eq_true rfl) ⟨rfl, rfl⟩
def yI {α : Type} (f : α → Int32) : α → jO → jS → Prop := fun a o _ => o = .inl (some (.int (f a)))
theorem b2i_ne {b : Bool} (h : ¬ b2i b = 0) : b = true := by cases b; exact absurd rfl h; rfl
theorem b2i_ze {b : Bool} (h : b2i b = 0) : b = false := by cases b; rfl; exact absurd h (by decide)
theorem nI_ne1 {i : Nat} (h : i < 101) : ¬ nI i = -1 := by
  intro q
  have := congrArg Int32.toInt q
  rw [nI_toInt (by omega)] at this
  have h2 : (-1 : Int32).toInt = -1 := by decide
  omega
theorem isLt_97 {k : Int32} {s e : Nat} (h : isLt k s e = true) : k = 97 := by
  unfold isLt at h
  exact of_decide_eq_true (Bool.and_eq_true _ _ ▸ h).1
theorem tx_letter {S : jS} {n c : Nat} {r : List Tok} (h : Rdr S n c r) : c ≤ 6 := h.2.2.2.2.2.1
theorem m_S_readField (K : jK) (d : Nat) (hd : 7 ≤ d) (S : jS) (J : jH) (n c : Nat) (r : List Tok) (hR : Rdr S n c r) : jM K M_S_readField d [.ref 42] (lay S ++ J) (pst n c [12] S J (yI fun f => nI f) (pFld (S.2.1 5) (S.2.1 0) c r)) 0 0 := by
  refine jM.of (by decide) (Nat.le_of_ble_eq_true rfl) ?_
  obtain ⟨a, k, s, e, r1, rfl, ha, h101, hk, hs, he, hse, hen, hnx⟩ := hR.cur
  have hR0 := hR
  obtain ⟨hn, h100, hc, ht, hf, h6, hl, hA, -⟩ := hR0
  have hll := tokL_len (S.2.1 5) n (n - 0) 0 (Nat.le_refl _) (Nat.zero_le _)
  refine j_aload_n d_S_readField_0 rfl ?_
  refine j_getf d_S_readField_1 f_S_24 rfl rfl ?_
  refine j_retI (j_callV d_S_readField_4 v_K_isLetter l_S_206 rfl rfl (m_K_isLetter K (d - 1) S J a ha h101 s e hs he hse (by omega)) (by omega) (by decide) (Nat.le_of_ble_eq_true rfl) rfl) rfl ?_
  rw [hk]
  refine j_if_eq (tgt := 27) d_S_readField_7 rfl (fun h7 => ?_) (fun h7 => ?_)
  · refine j_iconst (v := -1) d_S_readField_27 rfl ?_
    refine j_istore_n d_S_readField_28 (by decide) ?_
    refine j_iload_n d_S_readField_29 rfl ?_
    refine j_iconst (v := -1) d_S_readField_30 rfl ?_
    refine j_icmp_neF (tgt := 38) d_S_readField_31 rfl rfl ?_
    refine j_aload_n d_S_readField_34 rfl ?_
    refine j_retX (j_callV d_S_readField_35 v_S_refuse l_S_113 rfl rfl (m_S_refuse K (d - 1) (by omega) S J a ha h101 s hs) (by omega) (by decide) (Nat.le_of_ble_eq_true rfl) rfl) rfl ?_
    rw [show pFld (S.2.1 5) (S.2.1 0) c ((k, s, e) :: r1) = .inr s by rw [pFld, b2i_ze h7]; rfl]
    exact ⟨rfl, _, rfl, (frm.rf _ S).s1 (by decide) _, rfl⟩
  · have hT := b2i_ne h7
    have hx := hnx (by rw [isLt_97 hT]; decide)
    refine j_aload_n d_S_readField_10 rfl ?_
    refine j_getf d_S_readField_11 f_S_9 rfl rfl ?_
    refine j_aload_n d_S_readField_14 rfl ?_
    refine j_getf d_S_readField_15 f_S_24 rfl rfl ?_
    refine j_retI (j_callV d_S_readField_18 v_K_letter l_S_209 rfl rfl (m_K_letter K (d - 1) (by omega) S J a ha h101 n hn h100 hc s hs hx.1) (by omega) (by decide) (Nat.le_of_ble_eq_true rfl) rfl) rfl ?_
    refine j_retI (j_callV d_S_readField_21 v_F_indexOf l_S_213 rfl rfl (m_F_indexOf K (d - 1) S J (S.2.1 5 s) c hf h6) (by omega) (by decide) (Nat.le_of_ble_eq_true rfl) rfl) rfl ?_
    rcases ixOf_two (S.2.1 0) (S.2.1 5 s) c 0 with hi | ⟨j, -, hj, hi⟩
    · rw [hi]
      refine j_goto (tgt := 28) d_S_readField_24 rfl ?_
      refine j_istore_n d_S_readField_28 (by decide) ?_
      refine j_iload_n d_S_readField_29 rfl ?_
      refine j_iconst (v := -1) d_S_readField_30 rfl ?_
      refine j_icmp_neF (tgt := 38) d_S_readField_31 rfl rfl ?_
      refine j_aload_n d_S_readField_34 rfl ?_
      refine j_retX (j_callV d_S_readField_35 v_S_refuse l_S_113 rfl rfl (m_S_refuse K (d - 1) (by omega) S J a ha h101 s hs) (by omega) (by decide) (Nat.le_of_ble_eq_true rfl) rfl) rfl ?_
      rw [show pFld (S.2.1 5) (S.2.1 0) c ((k, s, e) :: r1) = .inr s by rw [pFld, if_pos hT, if_pos hi]]
      exact ⟨rfl, _, rfl, (frm.rf _ S).s1 (by decide) _, rfl⟩
    · have hj2 : j < 6 := by omega
      rw [show pFld (S.2.1 5) (S.2.1 0) c ((k, s, e) :: r1) = .inl (j, r1) by rw [pFld, if_pos hT, hi, if_neg (nI_ne1 (by omega)), nI_clamp (by omega)]]
      rw [hi]
      refine j_goto (tgt := 28) d_S_readField_24 rfl ?_
      refine j_istore_n d_S_readField_28 (by decide) ?_
      refine j_iload_n d_S_readField_29 rfl ?_
      refine j_iconst (v := -1) d_S_readField_30 rfl ?_
      refine j_icmp_neT (tgt := 38) d_S_readField_31 rfl (nI_ne1 (by omega)) ?_
      refine j_aload_n d_S_readField_38 rfl ?_
      refine j_getf d_S_readField_39 f_S_24 rfl rfl ?_
      refine j_retV (j_callV d_S_readField_42 v_K_advance l_S_99 rfl rfl (m_K_advance K (d - 1) S J a ha h101 _ hl hx.2.1 (by omega)) (by omega) (by decide) (Nat.le_of_ble_eq_true rfl) rfl) rfl ?_
      refine j_iload_n d_S_readField_45 rfl ?_
      exact j_iret rfl d_S_readField_46 ⟨_, rfl, (frm.rf _ S).s1 (by decide) _, hx.2.2, rfl⟩
def yU {α : Type} : α → jO → jS → Prop := fun _ o _ => o = .inl none
def pPass (x : Int32) : List Tok → Rs Unit
  | [] => .inr 0
  | (k, s, e) :: r => if k = x then .inl ((), r) else .inr s
def pSgn (x y z : Int32) : List Tok → Rs Int32
  | [] => .inr 0
  | (k, s, e) :: r => if k = x ∨ k = y ∨ k = z then .inl (k, r) else .inl (32, (k, s, e) :: r)
theorem b2i_dT {p : Prop} [Decidable p] (h : p) : b2i (decide p) = 1 := by rw [decide_eq_true h]; rfl
theorem b2i_dF {p : Prop} [Decidable p] (h : ¬ p) : b2i (decide p) = 0 := by rw [decide_eq_false h]; rfl
theorem m_S_passSign (K : jK) (d : Nat) (hd : 7 ≤ d) (S : jS) (J : jH) (n c : Nat) (r : List Tok) (hR : Rdr S n c r) (x : Int32) (hx46 : ¬ x = 46) : jM K M_S_passSign d [.ref 42, .int x] (lay S ++ J) (pst n c [12] S J yU (pPass x r)) 0 0 := by
  refine jM.of (by decide) (Nat.le_of_ble_eq_true rfl) ?_
  obtain ⟨a, k, s, e, r1, rfl, ha, h101, hk, hs, he, hse, hen, hnx⟩ := hR.cur
  have hR0 := hR
  obtain ⟨hn, h100, hc, ht, hf, h6, hl, hA, -⟩ := hR0
  have hll := tokL_len (S.2.1 5) n (n - 0) 0 (Nat.le_refl _) (Nat.zero_le _)
  refine j_aload_n d_S_passSign_0 rfl ?_
  refine j_getf d_S_passSign_1 f_S_24 rfl rfl ?_
  refine j_iload_n d_S_passSign_4 rfl ?_
  refine j_retI (j_callV d_S_passSign_5 v_K_isSign l_S_125 rfl rfl (m_K_isSign K (d - 1) S J x a ha h101) (by omega) (by decide) (Nat.le_of_ble_eq_true rfl) rfl) rfl ?_
  rw [hk]
  by_cases hkx : k = x
  · rw [b2i_dT hkx, show pPass x ((k, s, e) :: r1) = .inl ((), r1) by rw [pPass, if_pos hkx]]
    have hx := hnx (by rw [hkx]; exact hx46)
    refine j_if_neT (tgt := 15) d_S_passSign_8 rfl (by decide) ?_
    refine j_aload_n d_S_passSign_15 rfl ?_
    refine j_getf d_S_passSign_16 f_S_24 rfl rfl ?_
    refine j_retV (j_callV d_S_passSign_19 v_K_advance l_S_99 rfl rfl (m_K_advance K (d - 1) S J a ha h101 _ hl hx.2.1 (by omega)) (by omega) (by decide) (Nat.le_of_ble_eq_true rfl) rfl) rfl ?_
    exact j_vret rfl d_S_passSign_22 ⟨_, rfl, (frm.rf _ S).s1 (by decide) _, hx.2.2, rfl⟩
  · rw [b2i_dF hkx, show pPass x ((k, s, e) :: r1) = .inr s by rw [pPass, if_neg hkx]]
    refine j_if_neF (tgt := 15) d_S_passSign_8 rfl rfl ?_
    refine j_aload_n d_S_passSign_11 rfl ?_
    refine j_retX (j_callV d_S_passSign_12 v_S_refuse l_S_113 rfl rfl (m_S_refuse K (d - 1) (by omega) S J a ha h101 s hs) (by omega) (by decide) (Nat.le_of_ble_eq_true rfl) rfl) rfl ?_
    exact ⟨rfl, _, rfl, (frm.rf _ S).s1 (by decide) _, rfl⟩
theorem m_S_readSign (K : jK) (d : Nat) (hd : 7 ≤ d) (S : jS) (J : jH) (n c : Nat) (r : List Tok) (hR : Rdr S n c r) (x y z : Int32) (hx46 : ¬ x = 46 ∧ ¬ y = 46 ∧ ¬ z = 46) (hx32 : ¬ x = 32 ∧ ¬ y = 32 ∧ ¬ z = 32) (hnr : narrow .char (.int x) = .int x ∧ narrow .char (.int y) = .int y ∧ narrow .char (.int z) = .int z) : jM K M_S_readSign d [.ref 42, .int x, .int y, .int z] (lay S ++ J) (pst n c [12] S J (yI fun v => v) (pSgn x y z r)) 0 0 := by
  refine jM.of (by decide) (Nat.le_of_ble_eq_true rfl) ?_
  obtain ⟨a, k, s, e, r1, rfl, ha, h101, hk, hs, he, hse, hen, hnx⟩ := hR.cur
  have hR0 := hR
  obtain ⟨hn, h100, hc, ht, hf, h6, hl, hA, -⟩ := hR0
  have hll := tokL_len (S.2.1 5) n (n - 0) 0 (Nat.le_refl _) (Nat.zero_le _)
  have fin : ∀ ls, (k = x ∨ k = y ∨ k = z) → j_lg ls 0 = some (.ref 42) → j_lg ls 4 = some (.int k) → jE K M_S_readSign d 52 ls [] (lay S ++ J) (pst n c [12] S J (yI fun v => v) (pSgn x y z ((k, s, e) :: r1))) 0 0 := by
    intro ls hor l0 l4
    have k46 : ¬ k = 46 := by rcases hor with q | q | q <;> rw [q]; exact hx46.1; exact hx46.2.1; exact hx46.2.2
    have k32 : ¬ k = 32 := by rcases hor with q | q | q <;> rw [q]; exact hx32.1; exact hx32.2.1; exact hx32.2.2
    have knr : narrow .char (.int k) = .int k := by rcases hor with q | q | q <;> rw [q]; exact hnr.1; exact hnr.2.1; exact hnr.2.2
    have hx := hnx k46
    rw [show pSgn x y z ((k, s, e) :: r1) = .inl (k, r1) by rw [pSgn, if_pos hor]]
    refine j_iload d_S_readSign_52 l4 ?_
    refine j_bipush (v := 32) d_S_readSign_54 (by decide) ?_
    refine j_icmp_eqF (tgt := 66) d_S_readSign_56 rfl k32 ?_
    refine j_aload_n d_S_readSign_59 l0 ?_
    refine j_getf d_S_readSign_60 f_S_24 rfl rfl ?_
    refine j_retV (j_callV d_S_readSign_63 v_K_advance l_S_99 rfl rfl (m_K_advance K (d - 1) S J a ha h101 _ hl hx.2.1 (by omega)) (by omega) (by decide) (Nat.le_of_ble_eq_true rfl) rfl) rfl ?_
    refine j_iload d_S_readSign_66 l4 ?_
    exact j_zret rfl knr d_S_readSign_68 ⟨_, rfl, (frm.rf _ S).s1 (by decide) _, hx.2.2, rfl⟩
  refine j_bipush (v := 32) d_S_readSign_0 (by decide) ?_
  refine j_istore d_S_readSign_2 (by decide) ?_
  refine j_aload_n d_S_readSign_4 rfl ?_
  refine j_getf d_S_readSign_5 f_S_24 rfl rfl ?_
  refine j_iload_n d_S_readSign_8 rfl ?_
  refine j_retI (j_callV d_S_readSign_9 v_K_isSign l_S_125 rfl rfl (m_K_isSign K (d - 1) S J x a ha h101) (by omega) (by decide) (Nat.le_of_ble_eq_true rfl) rfl) rfl ?_
  rw [hk]
  by_cases h1 : k = x
  · rw [b2i_dT h1]
    refine j_if_eqF (tgt := 21) d_S_readSign_12 rfl (by decide) ?_
    refine j_iload_n d_S_readSign_15 rfl ?_
    refine j_istore d_S_readSign_16 (by decide) ?_
    refine j_goto (tgt := 52) d_S_readSign_18 rfl ?_
    exact fin _ (.inl h1) rfl (congrArg (fun v => some (Value.int v)) h1.symm)
  · rw [b2i_dF h1]
    refine j_if_eqT (tgt := 21) d_S_readSign_12 rfl rfl ?_
    refine j_aload_n d_S_readSign_21 rfl ?_
    refine j_getf d_S_readSign_22 f_S_24 rfl rfl ?_
    refine j_iload_n d_S_readSign_25 rfl ?_
    refine j_retI (j_callV d_S_readSign_26 v_K_isSign l_S_125 rfl rfl (m_K_isSign K (d - 1) S J y a ha h101) (by omega) (by decide) (Nat.le_of_ble_eq_true rfl) rfl) rfl ?_
    rw [hk]
    by_cases h2 : k = y
    · rw [b2i_dT h2]
      refine j_if_eqF (tgt := 38) d_S_readSign_29 rfl (by decide) ?_
      refine j_iload_n d_S_readSign_32 rfl ?_
      refine j_istore d_S_readSign_33 (by decide) ?_
      refine j_goto (tgt := 52) d_S_readSign_35 rfl ?_
      exact fin _ (.inr (.inl h2)) rfl (congrArg (fun v => some (Value.int v)) h2.symm)
    · rw [b2i_dF h2]
      refine j_if_eqT (tgt := 38) d_S_readSign_29 rfl rfl ?_
      refine j_aload_n d_S_readSign_38 rfl ?_
      refine j_getf d_S_readSign_39 f_S_24 rfl rfl ?_
      refine j_iload_n d_S_readSign_42 rfl ?_
      refine j_retI (j_callV d_S_readSign_43 v_K_isSign l_S_125 rfl rfl (m_K_isSign K (d - 1) S J z a ha h101) (by omega) (by decide) (Nat.le_of_ble_eq_true rfl) rfl) rfl ?_
      rw [hk]
      by_cases h3 : k = z
      · rw [b2i_dT h3]
        refine j_if_eqF (tgt := 52) d_S_readSign_46 rfl (by decide) ?_
        refine j_iload_n d_S_readSign_49 rfl ?_
        refine j_istore d_S_readSign_50 (by decide) ?_
        exact fin _ (.inr (.inr h3)) rfl (congrArg (fun v => some (Value.int v)) h3.symm)
      · rw [b2i_dF h3]
        refine j_if_eqT (tgt := 52) d_S_readSign_46 rfl rfl ?_
        rw [show pSgn x y z ((k, s, e) :: r1) = .inl (32, (k, s, e) :: r1) by rw [pSgn, if_neg (by rintro (q | q | q); exact h1 q; exact h2 q; exact h3 q)]]
        refine j_iload d_S_readSign_52 rfl ?_
        refine j_bipush (v := 32) d_S_readSign_54 (by decide) ?_
        refine j_icmp_eqT (tgt := 66) d_S_readSign_56 rfl rfl ?_
        refine j_iload d_S_readSign_66 rfl ?_
        exact j_zret rfl rfl d_S_readSign_68 ⟨_, rfl, frm.rf _ S, hR, rfl⟩
end
