section
-- ===== PART A: goes FIRST, ahead of the names: the tables' words, and 'selects' of the private methods out of them =====
/-- a private method of a class that the tables say can be made, by its rows of tables_1 -/
def lw_okq (q : MethodName × Nat) : Prop := (q.1.cls ≠ "java/lang/invoke/MethodHandle" ∧ q.1.cls ≠ "java/lang/invoke/VarHandle") ∧ Cond.instantiable q.1.cls q.2 ∈ tables_1 ∧ Cond.privateMethod q.1 ∈ tables_1 ∧ Cond.instanceMethod q.1 ∈ tables_1
theorem lw_p0 : lw_okq (⟨"java/lang/Throwable", "fillInStackTrace", "(I)Ljava/lang/Throwable;"⟩, 6) := ⟨⟨by decide +kernel, by decide +kernel⟩, List.mem_of_getElem? (i := 377) (by decide +kernel), List.mem_of_getElem? (i := 375) (by decide +kernel), List.mem_of_getElem? (i := 376) (by decide +kernel)⟩
theorem lw_p1 : lw_okq (⟨"BitLoom", "requireWord", "(I)V"⟩, 7) := ⟨⟨by decide +kernel, by decide +kernel⟩, List.mem_of_getElem? (i := 29) (by decide +kernel), List.mem_of_getElem? (i := 463) (by decide +kernel), List.mem_of_getElem? (i := 464) (by decide +kernel)⟩
theorem lw_p2 : lw_okq (⟨"BitLoom", "requireInUse", "(I)V"⟩, 7) := ⟨⟨by decide +kernel, by decide +kernel⟩, List.mem_of_getElem? (i := 29) (by decide +kernel), List.mem_of_getElem? (i := 467) (by decide +kernel), List.mem_of_getElem? (i := 468) (by decide +kernel)⟩
theorem lw_p3 : lw_okq (⟨"BitLoom", "requireField", "(C)I"⟩, 7) := ⟨⟨by decide +kernel, by decide +kernel⟩, List.mem_of_getElem? (i := 29) (by decide +kernel), List.mem_of_getElem? (i := 483) (by decide +kernel), List.mem_of_getElem? (i := 484) (by decide +kernel)⟩
theorem lw_p4 : lw_okq (⟨"BitLoom$Tokens", "cutOne", "(I)I"⟩, 6) := ⟨⟨by decide +kernel, by decide +kernel⟩, List.mem_of_getElem? (i := 100) (by decide +kernel), List.mem_of_getElem? (i := 561) (by decide +kernel), List.mem_of_getElem? (i := 562) (by decide +kernel)⟩
theorem lw_p5 : lw_okq (⟨"BitLoom$Tokens", "endOf", "(ICC)I"⟩, 6) := ⟨⟨by decide +kernel, by decide +kernel⟩, List.mem_of_getElem? (i := 100) (by decide +kernel), List.mem_of_getElem? (i := 568) (by decide +kernel), List.mem_of_getElem? (i := 569) (by decide +kernel)⟩
theorem lw_p6 : lw_okq (⟨"BitLoom$Tokens", "append", "(CII)I"⟩, 6) := ⟨⟨by decide +kernel, by decide +kernel⟩, List.mem_of_getElem? (i := 100) (by decide +kernel), List.mem_of_getElem? (i := 572) (by decide +kernel), List.mem_of_getElem? (i := 573) (by decide +kernel)⟩
theorem lw_p7 : lw_okq (⟨"BitLoom$Statement", "readCondition", "(I)I"⟩, 11) := ⟨⟨by decide +kernel, by decide +kernel⟩, List.mem_of_getElem? (i := 94) (by decide +kernel), List.mem_of_getElem? (i := 694) (by decide +kernel), List.mem_of_getElem? (i := 695) (by decide +kernel)⟩
theorem lw_p8 : lw_okq (⟨"BitLoom$Statement", "readClause", "(I)I"⟩, 11) := ⟨⟨by decide +kernel, by decide +kernel⟩, List.mem_of_getElem? (i := 94) (by decide +kernel), List.mem_of_getElem? (i := 698) (by decide +kernel), List.mem_of_getElem? (i := 699) (by decide +kernel)⟩
theorem lw_p9 : lw_okq (⟨"BitLoom$Statement", "readOne", "(I)I"⟩, 11) := ⟨⟨by decide +kernel, by decide +kernel⟩, List.mem_of_getElem? (i := 94) (by decide +kernel), List.mem_of_getElem? (i := 702) (by decide +kernel), List.mem_of_getElem? (i := 703) (by decide +kernel)⟩
theorem lw_p10 : lw_okq (⟨"BitLoom$Statement", "readComparison", "()I"⟩, 11) := ⟨⟨by decide +kernel, by decide +kernel⟩, List.mem_of_getElem? (i := 94) (by decide +kernel), List.mem_of_getElem? (i := 710) (by decide +kernel), List.mem_of_getElem? (i := 711) (by decide +kernel)⟩
theorem lw_p11 : lw_okq (⟨"BitLoom$Statement", "readOperand", "(LBitLoom$Operand;)V"⟩, 11) := ⟨⟨by decide +kernel, by decide +kernel⟩, List.mem_of_getElem? (i := 94) (by decide +kernel), List.mem_of_getElem? (i := 714) (by decide +kernel), List.mem_of_getElem? (i := 715) (by decide +kernel)⟩
theorem lw_p12 : lw_okq (⟨"BitLoom$Statement", "refuse", "()V"⟩, 11) := ⟨⟨by decide +kernel, by decide +kernel⟩, List.mem_of_getElem? (i := 94) (by decide +kernel), List.mem_of_getElem? (i := 730) (by decide +kernel), List.mem_of_getElem? (i := 731) (by decide +kernel)⟩
theorem lw_p13 : lw_okq (⟨"BitLoom$Statement", "readField", "()I"⟩, 11) := ⟨⟨by decide +kernel, by decide +kernel⟩, List.mem_of_getElem? (i := 94) (by decide +kernel), List.mem_of_getElem? (i := 740) (by decide +kernel), List.mem_of_getElem? (i := 741) (by decide +kernel)⟩
theorem lw_p14 : lw_okq (⟨"BitLoom$Statement", "readSign", "(CCC)C"⟩, 11) := ⟨⟨by decide +kernel, by decide +kernel⟩, List.mem_of_getElem? (i := 94) (by decide +kernel), List.mem_of_getElem? (i := 757) (by decide +kernel), List.mem_of_getElem? (i := 758) (by decide +kernel)⟩
theorem lw_p15 : lw_okq (⟨"BitLoom$Statement", "passSign", "(C)V"⟩, 11) := ⟨⟨by decide +kernel, by decide +kernel⟩, List.mem_of_getElem? (i := 94) (by decide +kernel), List.mem_of_getElem? (i := 774) (by decide +kernel), List.mem_of_getElem? (i := 775) (by decide +kernel)⟩
def lw_privs_1 : List (MethodName × Nat) := [(⟨"java/lang/Throwable", "fillInStackTrace", "(I)Ljava/lang/Throwable;"⟩, 6), (⟨"BitLoom", "requireWord", "(I)V"⟩, 7), (⟨"BitLoom", "requireInUse", "(I)V"⟩, 7), (⟨"BitLoom", "requireField", "(C)I"⟩, 7), (⟨"BitLoom$Tokens", "cutOne", "(I)I"⟩, 6), (⟨"BitLoom$Tokens", "endOf", "(ICC)I"⟩, 6), (⟨"BitLoom$Tokens", "append", "(CII)I"⟩, 6), (⟨"BitLoom$Statement", "readCondition", "(I)I"⟩, 11), (⟨"BitLoom$Statement", "readClause", "(I)I"⟩, 11), (⟨"BitLoom$Statement", "readOne", "(I)I"⟩, 11), (⟨"BitLoom$Statement", "readComparison", "()I"⟩, 11), (⟨"BitLoom$Statement", "readOperand", "(LBitLoom$Operand;)V"⟩, 11), (⟨"BitLoom$Statement", "refuse", "()V"⟩, 11), (⟨"BitLoom$Statement", "readField", "()I"⟩, 11), (⟨"BitLoom$Statement", "readSign", "(CCC)C"⟩, 11), (⟨"BitLoom$Statement", "passSign", "(C)V"⟩, 11)]
theorem lw_r1 : ∀ q ∈ lw_privs_1, lw_okq q := List.forall_mem_cons.mpr ⟨lw_p0, List.forall_mem_cons.mpr ⟨lw_p1, List.forall_mem_cons.mpr ⟨lw_p2, List.forall_mem_cons.mpr ⟨lw_p3, List.forall_mem_cons.mpr ⟨lw_p4, List.forall_mem_cons.mpr ⟨lw_p5, List.forall_mem_cons.mpr ⟨lw_p6, List.forall_mem_cons.mpr ⟨lw_p7, List.forall_mem_cons.mpr ⟨lw_p8, List.forall_mem_cons.mpr ⟨lw_p9, List.forall_mem_cons.mpr ⟨lw_p10, List.forall_mem_cons.mpr ⟨lw_p11, List.forall_mem_cons.mpr ⟨lw_p12, List.forall_mem_cons.mpr ⟨lw_p13, List.forall_mem_cons.mpr ⟨lw_p14, List.forall_mem_cons.mpr ⟨lw_p15, fun _ h => absurd h List.not_mem_nil⟩⟩⟩⟩⟩⟩⟩⟩⟩⟩⟩⟩⟩⟩⟩⟩
theorem lw_p16 : lw_okq (⟨"BitLoom$Statement", "readAction", "()V"⟩, 11) := ⟨⟨by decide +kernel, by decide +kernel⟩, List.mem_of_getElem? (i := 94) (by decide +kernel), List.mem_of_getElem? (i := 778) (by decide +kernel), List.mem_of_getElem? (i := 779) (by decide +kernel)⟩
theorem lw_p17 : lw_okq (⟨"BitLoom$Statement", "readVerb", "()V"⟩, 11) := ⟨⟨by decide +kernel, by decide +kernel⟩, List.mem_of_getElem? (i := 94) (by decide +kernel), List.mem_of_getElem? (i := 782) (by decide +kernel), List.mem_of_getElem? (i := 783) (by decide +kernel)⟩
theorem lw_p18 : lw_okq (⟨"BitLoom$Statement", "readChange", "(LBitLoom$Change;)V"⟩, 11) := ⟨⟨by decide +kernel, by decide +kernel⟩, List.mem_of_getElem? (i := 94) (by decide +kernel), List.mem_of_getElem? (i := 794) (by decide +kernel), List.mem_of_getElem? (i := 795) (by decide +kernel)⟩
theorem lw_p19 : lw_okq (⟨"BitLoom", "carryOut", "(I)I"⟩, 7) := ⟨⟨by decide +kernel, by decide +kernel⟩, List.mem_of_getElem? (i := 29) (by decide +kernel), List.mem_of_getElem? (i := 814) (by decide +kernel), List.mem_of_getElem? (i := 815) (by decide +kernel)⟩
theorem lw_p20 : lw_okq (⟨"BitLoom", "changeAll", "(I)I"⟩, 7) := ⟨⟨by decide +kernel, by decide +kernel⟩, List.mem_of_getElem? (i := 29) (by decide +kernel), List.mem_of_getElem? (i := 834) (by decide +kernel), List.mem_of_getElem? (i := 835) (by decide +kernel)⟩
theorem lw_p21 : lw_okq (⟨"BitLoom", "greatest", "(II)I"⟩, 7) := ⟨⟨by decide +kernel, by decide +kernel⟩, List.mem_of_getElem? (i := 29) (by decide +kernel), List.mem_of_getElem? (i := 860) (by decide +kernel), List.mem_of_getElem? (i := 861) (by decide +kernel)⟩
theorem lw_p22 : lw_okq (⟨"BitLoom", "valueOf", "(II)I"⟩, 7) := ⟨⟨by decide +kernel, by decide +kernel⟩, List.mem_of_getElem? (i := 29) (by decide +kernel), List.mem_of_getElem? (i := 864) (by decide +kernel), List.mem_of_getElem? (i := 865) (by decide +kernel)⟩
theorem lw_p23 : lw_okq (⟨"BitLoom", "least", "(II)I"⟩, 7) := ⟨⟨by decide +kernel, by decide +kernel⟩, List.mem_of_getElem? (i := 29) (by decide +kernel), List.mem_of_getElem? (i := 869) (by decide +kernel), List.mem_of_getElem? (i := 870) (by decide +kernel)⟩
theorem lw_p24 : lw_okq (⟨"BitLoom", "total", "(II)I"⟩, 7) := ⟨⟨by decide +kernel, by decide +kernel⟩, List.mem_of_getElem? (i := 29) (by decide +kernel), List.mem_of_getElem? (i := 874) (by decide +kernel), List.mem_of_getElem? (i := 875) (by decide +kernel)⟩
theorem lw_p25 : lw_okq (⟨"BitLoom", "listAll", "(II)I"⟩, 7) := ⟨⟨by decide +kernel, by decide +kernel⟩, List.mem_of_getElem? (i := 29) (by decide +kernel), List.mem_of_getElem? (i := 878) (by decide +kernel), List.mem_of_getElem? (i := 879) (by decide +kernel)⟩
theorem lw_p26 : lw_okq (⟨"BitLoom", "sortIn", "(II)V"⟩, 7) := ⟨⟨by decide +kernel, by decide +kernel⟩, List.mem_of_getElem? (i := 29) (by decide +kernel), List.mem_of_getElem? (i := 882) (by decide +kernel), List.mem_of_getElem? (i := 883) (by decide +kernel)⟩
theorem lw_p27 : lw_okq (⟨"BitLoomModel", "fieldOf", "(C)I"⟩, 38) := ⟨⟨by decide +kernel, by decide +kernel⟩, List.mem_of_getElem? (i := 911) (by decide +kernel), List.mem_of_getElem? (i := 1040) (by decide +kernel), List.mem_of_getElem? (i := 1041) (by decide +kernel)⟩
theorem lw_p28 : lw_okq (⟨"BitLoomModel", "fits", "(II)Z"⟩, 38) := ⟨⟨by decide +kernel, by decide +kernel⟩, List.mem_of_getElem? (i := 911) (by decide +kernel), List.mem_of_getElem? (i := 1059) (by decide +kernel), List.mem_of_getElem? (i := 1060) (by decide +kernel)⟩
theorem lw_p29 : lw_okq (⟨"BitLoomModel", "setValue", "(III)V"⟩, 38) := ⟨⟨by decide +kernel, by decide +kernel⟩, List.mem_of_getElem? (i := 911) (by decide +kernel), List.mem_of_getElem? (i := 1063) (by decide +kernel), List.mem_of_getElem? (i := 1064) (by decide +kernel)⟩
theorem lw_p30 : lw_okq (⟨"BitLoomModel", "valueOf", "(II)I"⟩, 38) := ⟨⟨by decide +kernel, by decide +kernel⟩, List.mem_of_getElem? (i := 911) (by decide +kernel), List.mem_of_getElem? (i := 1071) (by decide +kernel), List.mem_of_getElem? (i := 1072) (by decide +kernel)⟩
theorem lw_p31 : lw_okq (⟨"BitLoomModel", "readText", "()I"⟩, 38) := ⟨⟨by decide +kernel, by decide +kernel⟩, List.mem_of_getElem? (i := 911) (by decide +kernel), List.mem_of_getElem? (i := 1109) (by decide +kernel), List.mem_of_getElem? (i := 1110) (by decide +kernel)⟩
def lw_privs_2 : List (MethodName × Nat) := [(⟨"BitLoom$Statement", "readAction", "()V"⟩, 11), (⟨"BitLoom$Statement", "readVerb", "()V"⟩, 11), (⟨"BitLoom$Statement", "readChange", "(LBitLoom$Change;)V"⟩, 11), (⟨"BitLoom", "carryOut", "(I)I"⟩, 7), (⟨"BitLoom", "changeAll", "(I)I"⟩, 7), (⟨"BitLoom", "greatest", "(II)I"⟩, 7), (⟨"BitLoom", "valueOf", "(II)I"⟩, 7), (⟨"BitLoom", "least", "(II)I"⟩, 7), (⟨"BitLoom", "total", "(II)I"⟩, 7), (⟨"BitLoom", "listAll", "(II)I"⟩, 7), (⟨"BitLoom", "sortIn", "(II)V"⟩, 7), (⟨"BitLoomModel", "fieldOf", "(C)I"⟩, 38), (⟨"BitLoomModel", "fits", "(II)Z"⟩, 38), (⟨"BitLoomModel", "setValue", "(III)V"⟩, 38), (⟨"BitLoomModel", "valueOf", "(II)I"⟩, 38), (⟨"BitLoomModel", "readText", "()I"⟩, 38)]
theorem lw_r2 : ∀ q ∈ lw_privs_2, lw_okq q := List.forall_mem_cons.mpr ⟨lw_p16, List.forall_mem_cons.mpr ⟨lw_p17, List.forall_mem_cons.mpr ⟨lw_p18, List.forall_mem_cons.mpr ⟨lw_p19, List.forall_mem_cons.mpr ⟨lw_p20, List.forall_mem_cons.mpr ⟨lw_p21, List.forall_mem_cons.mpr ⟨lw_p22, List.forall_mem_cons.mpr ⟨lw_p23, List.forall_mem_cons.mpr ⟨lw_p24, List.forall_mem_cons.mpr ⟨lw_p25, List.forall_mem_cons.mpr ⟨lw_p26, List.forall_mem_cons.mpr ⟨lw_p27, List.forall_mem_cons.mpr ⟨lw_p28, List.forall_mem_cons.mpr ⟨lw_p29, List.forall_mem_cons.mpr ⟨lw_p30, List.forall_mem_cons.mpr ⟨lw_p31, fun _ h => absurd h List.not_mem_nil⟩⟩⟩⟩⟩⟩⟩⟩⟩⟩⟩⟩⟩⟩⟩⟩
theorem lw_p32 : lw_okq (⟨"BitLoomModel", "scan", "(I)V"⟩, 38) := ⟨⟨by decide +kernel, by decide +kernel⟩, List.mem_of_getElem? (i := 911) (by decide +kernel), List.mem_of_getElem? (i := 1113) (by decide +kernel), List.mem_of_getElem? (i := 1114) (by decide +kernel)⟩
theorem lw_p33 : lw_okq (⟨"BitLoomModel", "see", "(I)C"⟩, 38) := ⟨⟨by decide +kernel, by decide +kernel⟩, List.mem_of_getElem? (i := 911) (by decide +kernel), List.mem_of_getElem? (i := 1117) (by decide +kernel), List.mem_of_getElem? (i := 1118) (by decide +kernel)⟩
theorem lw_p34 : lw_okq (⟨"BitLoomModel", "next", "(I)I"⟩, 38) := ⟨⟨by decide +kernel, by decide +kernel⟩, List.mem_of_getElem? (i := 911) (by decide +kernel), List.mem_of_getElem? (i := 1131) (by decide +kernel), List.mem_of_getElem? (i := 1132) (by decide +kernel)⟩
theorem lw_p35 : lw_okq (⟨"BitLoomModel", "start", "()I"⟩, 38) := ⟨⟨by decide +kernel, by decide +kernel⟩, List.mem_of_getElem? (i := 911) (by decide +kernel), List.mem_of_getElem? (i := 1135) (by decide +kernel), List.mem_of_getElem? (i := 1136) (by decide +kernel)⟩
theorem lw_p36 : lw_okq (⟨"BitLoomModel", "emit", "(II)V"⟩, 38) := ⟨⟨by decide +kernel, by decide +kernel⟩, List.mem_of_getElem? (i := 911) (by decide +kernel), List.mem_of_getElem? (i := 1140) (by decide +kernel), List.mem_of_getElem? (i := 1141) (by decide +kernel)⟩
theorem lw_p37 : lw_okq (⟨"BitLoomModel", "act", "()I"⟩, 38) := ⟨⟨by decide +kernel, by decide +kernel⟩, List.mem_of_getElem? (i := 911) (by decide +kernel), List.mem_of_getElem? (i := 1144) (by decide +kernel), List.mem_of_getElem? (i := 1145) (by decide +kernel)⟩
theorem lw_p38 : lw_okq (⟨"BitLoomModel", "one", "()I"⟩, 38) := ⟨⟨by decide +kernel, by decide +kernel⟩, List.mem_of_getElem? (i := 911) (by decide +kernel), List.mem_of_getElem? (i := 1157) (by decide +kernel), List.mem_of_getElem? (i := 1158) (by decide +kernel)⟩
theorem lw_p39 : lw_okq (⟨"BitLoomModel", "isIt", "(C)Z"⟩, 38) := ⟨⟨by decide +kernel, by decide +kernel⟩, List.mem_of_getElem? (i := 911) (by decide +kernel), List.mem_of_getElem? (i := 1161) (by decide +kernel), List.mem_of_getElem? (i := 1162) (by decide +kernel)⟩
theorem lw_p40 : lw_okq (⟨"BitLoomModel", "push", "(I)V"⟩, 38) := ⟨⟨by decide +kernel, by decide +kernel⟩, List.mem_of_getElem? (i := 911) (by decide +kernel), List.mem_of_getElem? (i := 1165) (by decide +kernel), List.mem_of_getElem? (i := 1166) (by decide +kernel)⟩
theorem lw_p41 : lw_okq (⟨"BitLoomModel", "operand", "(II)I"⟩, 38) := ⟨⟨by decide +kernel, by decide +kernel⟩, List.mem_of_getElem? (i := 911) (by decide +kernel), List.mem_of_getElem? (i := 1169) (by decide +kernel), List.mem_of_getElem? (i := 1170) (by decide +kernel)⟩
theorem lw_p42 : lw_okq (⟨"BitLoomModel", "wholeOne", "()I"⟩, 38) := ⟨⟨by decide +kernel, by decide +kernel⟩, List.mem_of_getElem? (i := 911) (by decide +kernel), List.mem_of_getElem? (i := 1173) (by decide +kernel), List.mem_of_getElem? (i := 1174) (by decide +kernel)⟩
theorem lw_p43 : lw_okq (⟨"BitLoomModel", "denied", "()V"⟩, 38) := ⟨⟨by decide +kernel, by decide +kernel⟩, List.mem_of_getElem? (i := 911) (by decide +kernel), List.mem_of_getElem? (i := 1177) (by decide +kernel), List.mem_of_getElem? (i := 1178) (by decide +kernel)⟩
theorem lw_p44 : lw_okq (⟨"BitLoomModel", "upper", "()I"⟩, 38) := ⟨⟨by decide +kernel, by decide +kernel⟩, List.mem_of_getElem? (i := 911) (by decide +kernel), List.mem_of_getElem? (i := 1181) (by decide +kernel), List.mem_of_getElem? (i := 1182) (by decide +kernel)⟩
theorem lw_p45 : lw_okq (⟨"BitLoomModel", "named", "()I"⟩, 38) := ⟨⟨by decide +kernel, by decide +kernel⟩, List.mem_of_getElem? (i := 911) (by decide +kernel), List.mem_of_getElem? (i := 1185) (by decide +kernel), List.mem_of_getElem? (i := 1186) (by decide +kernel)⟩
theorem lw_p46 : lw_okq (⟨"BitLoomModel", "negative", "(I)I"⟩, 38) := ⟨⟨by decide +kernel, by decide +kernel⟩, List.mem_of_getElem? (i := 911) (by decide +kernel), List.mem_of_getElem? (i := 1189) (by decide +kernel), List.mem_of_getElem? (i := 1190) (by decide +kernel)⟩
theorem lw_p47 : lw_okq (⟨"BitLoomModel", "relate", "()I"⟩, 38) := ⟨⟨by decide +kernel, by decide +kernel⟩, List.mem_of_getElem? (i := 911) (by decide +kernel), List.mem_of_getElem? (i := 1193) (by decide +kernel), List.mem_of_getElem? (i := 1194) (by decide +kernel)⟩
def lw_privs_3 : List (MethodName × Nat) := [(⟨"BitLoomModel", "scan", "(I)V"⟩, 38), (⟨"BitLoomModel", "see", "(I)C"⟩, 38), (⟨"BitLoomModel", "next", "(I)I"⟩, 38), (⟨"BitLoomModel", "start", "()I"⟩, 38), (⟨"BitLoomModel", "emit", "(II)V"⟩, 38), (⟨"BitLoomModel", "act", "()I"⟩, 38), (⟨"BitLoomModel", "one", "()I"⟩, 38), (⟨"BitLoomModel", "isIt", "(C)Z"⟩, 38), (⟨"BitLoomModel", "push", "(I)V"⟩, 38), (⟨"BitLoomModel", "operand", "(II)I"⟩, 38), (⟨"BitLoomModel", "wholeOne", "()I"⟩, 38), (⟨"BitLoomModel", "denied", "()V"⟩, 38), (⟨"BitLoomModel", "upper", "()I"⟩, 38), (⟨"BitLoomModel", "named", "()I"⟩, 38), (⟨"BitLoomModel", "negative", "(I)I"⟩, 38), (⟨"BitLoomModel", "relate", "()I"⟩, 38)]
theorem lw_r3 : ∀ q ∈ lw_privs_3, lw_okq q := List.forall_mem_cons.mpr ⟨lw_p32, List.forall_mem_cons.mpr ⟨lw_p33, List.forall_mem_cons.mpr ⟨lw_p34, List.forall_mem_cons.mpr ⟨lw_p35, List.forall_mem_cons.mpr ⟨lw_p36, List.forall_mem_cons.mpr ⟨lw_p37, List.forall_mem_cons.mpr ⟨lw_p38, List.forall_mem_cons.mpr ⟨lw_p39, List.forall_mem_cons.mpr ⟨lw_p40, List.forall_mem_cons.mpr ⟨lw_p41, List.forall_mem_cons.mpr ⟨lw_p42, List.forall_mem_cons.mpr ⟨lw_p43, List.forall_mem_cons.mpr ⟨lw_p44, List.forall_mem_cons.mpr ⟨lw_p45, List.forall_mem_cons.mpr ⟨lw_p46, List.forall_mem_cons.mpr ⟨lw_p47, fun _ h => absurd h List.not_mem_nil⟩⟩⟩⟩⟩⟩⟩⟩⟩⟩⟩⟩⟩⟩⟩⟩
theorem lw_p48 : lw_okq (⟨"BitLoomModel", "afterOne", "()I"⟩, 38) := ⟨⟨by decide +kernel, by decide +kernel⟩, List.mem_of_getElem? (i := 911) (by decide +kernel), List.mem_of_getElem? (i := 1197) (by decide +kernel), List.mem_of_getElem? (i := 1198) (by decide +kernel)⟩
theorem lw_p49 : lw_okq (⟨"BitLoomModel", "settle", "(II)V"⟩, 38) := ⟨⟨by decide +kernel, by decide +kernel⟩, List.mem_of_getElem? (i := 911) (by decide +kernel), List.mem_of_getElem? (i := 1201) (by decide +kernel), List.mem_of_getElem? (i := 1202) (by decide +kernel)⟩
theorem lw_p50 : lw_okq (⟨"BitLoomModel", "pick", "(I)I"⟩, 38) := ⟨⟨by decide +kernel, by decide +kernel⟩, List.mem_of_getElem? (i := 911) (by decide +kernel), List.mem_of_getElem? (i := 1205) (by decide +kernel), List.mem_of_getElem? (i := 1206) (by decide +kernel)⟩
theorem lw_p51 : lw_okq (⟨"BitLoomModel", "part", "(ZZII)I"⟩, 38) := ⟨⟨by decide +kernel, by decide +kernel⟩, List.mem_of_getElem? (i := 911) (by decide +kernel), List.mem_of_getElem? (i := 1209) (by decide +kernel), List.mem_of_getElem? (i := 1210) (by decide +kernel)⟩
theorem lw_p52 : lw_okq (⟨"BitLoomModel", "afterFirst", "()I"⟩, 38) := ⟨⟨by decide +kernel, by decide +kernel⟩, List.mem_of_getElem? (i := 911) (by decide +kernel), List.mem_of_getElem? (i := 1213) (by decide +kernel), List.mem_of_getElem? (i := 1214) (by decide +kernel)⟩
theorem lw_p53 : lw_okq (⟨"BitLoomModel", "afterChange", "()I"⟩, 38) := ⟨⟨by decide +kernel, by decide +kernel⟩, List.mem_of_getElem? (i := 911) (by decide +kernel), List.mem_of_getElem? (i := 1217) (by decide +kernel), List.mem_of_getElem? (i := 1218) (by decide +kernel)⟩
theorem lw_p54 : lw_okq (⟨"BitLoomModel", "isTaken", "(I)Z"⟩, 38) := ⟨⟨by decide +kernel, by decide +kernel⟩, List.mem_of_getElem? (i := 911) (by decide +kernel), List.mem_of_getElem? (i := 1221) (by decide +kernel), List.mem_of_getElem? (i := 1222) (by decide +kernel)⟩
theorem lw_p55 : lw_okq (⟨"BitLoomModel", "changeAll", "()I"⟩, 38) := ⟨⟨by decide +kernel, by decide +kernel⟩, List.mem_of_getElem? (i := 911) (by decide +kernel), List.mem_of_getElem? (i := 1228) (by decide +kernel), List.mem_of_getElem? (i := 1229) (by decide +kernel)⟩
theorem lw_p56 : lw_okq (⟨"BitLoomModel", "change", "(I)Z"⟩, 38) := ⟨⟨by decide +kernel, by decide +kernel⟩, List.mem_of_getElem? (i := 911) (by decide +kernel), List.mem_of_getElem? (i := 1232) (by decide +kernel), List.mem_of_getElem? (i := 1233) (by decide +kernel)⟩
theorem lw_p57 : lw_okq (⟨"BitLoomModel", "resultOf", "(II)I"⟩, 38) := ⟨⟨by decide +kernel, by decide +kernel⟩, List.mem_of_getElem? (i := 911) (by decide +kernel), List.mem_of_getElem? (i := 1236) (by decide +kernel), List.mem_of_getElem? (i := 1237) (by decide +kernel)⟩
theorem lw_p58 : lw_okq (⟨"BitLoomModel", "listAll", "()I"⟩, 38) := ⟨⟨by decide +kernel, by decide +kernel⟩, List.mem_of_getElem? (i := 911) (by decide +kernel), List.mem_of_getElem? (i := 1240) (by decide +kernel), List.mem_of_getElem? (i := 1241) (by decide +kernel)⟩
theorem lw_p59 : lw_okq (⟨"BitLoomModel", "gather", "()I"⟩, 38) := ⟨⟨by decide +kernel, by decide +kernel⟩, List.mem_of_getElem? (i := 911) (by decide +kernel), List.mem_of_getElem? (i := 1244) (by decide +kernel), List.mem_of_getElem? (i := 1245) (by decide +kernel)⟩
def lw_privs_4 : List (MethodName × Nat) := [(⟨"BitLoomModel", "afterOne", "()I"⟩, 38), (⟨"BitLoomModel", "settle", "(II)V"⟩, 38), (⟨"BitLoomModel", "pick", "(I)I"⟩, 38), (⟨"BitLoomModel", "part", "(ZZII)I"⟩, 38), (⟨"BitLoomModel", "afterFirst", "()I"⟩, 38), (⟨"BitLoomModel", "afterChange", "()I"⟩, 38), (⟨"BitLoomModel", "isTaken", "(I)Z"⟩, 38), (⟨"BitLoomModel", "changeAll", "()I"⟩, 38), (⟨"BitLoomModel", "change", "(I)Z"⟩, 38), (⟨"BitLoomModel", "resultOf", "(II)I"⟩, 38), (⟨"BitLoomModel", "listAll", "()I"⟩, 38), (⟨"BitLoomModel", "gather", "()I"⟩, 38)]
theorem lw_r4 : ∀ q ∈ lw_privs_4, lw_okq q := List.forall_mem_cons.mpr ⟨lw_p48, List.forall_mem_cons.mpr ⟨lw_p49, List.forall_mem_cons.mpr ⟨lw_p50, List.forall_mem_cons.mpr ⟨lw_p51, List.forall_mem_cons.mpr ⟨lw_p52, List.forall_mem_cons.mpr ⟨lw_p53, List.forall_mem_cons.mpr ⟨lw_p54, List.forall_mem_cons.mpr ⟨lw_p55, List.forall_mem_cons.mpr ⟨lw_p56, List.forall_mem_cons.mpr ⟨lw_p57, List.forall_mem_cons.mpr ⟨lw_p58, List.forall_mem_cons.mpr ⟨lw_p59, fun _ h => absurd h List.not_mem_nil⟩⟩⟩⟩⟩⟩⟩⟩⟩⟩⟩⟩
def lw_privs : List (MethodName × Nat) := lw_privs_1 ++ (lw_privs_2 ++ (lw_privs_3 ++ (lw_privs_4)))
def lw_tbl : List Cond := k2_sels lw_privs ++ tables_1
theorem lw_privs_ok : ∀ q ∈ lw_privs, lw_okq q := by
  show ∀ q ∈ lw_privs_1 ++ (lw_privs_2 ++ (lw_privs_3 ++ (lw_privs_4))), lw_okq q
  exact List.forall_mem_append.mpr ⟨lw_r1, List.forall_mem_append.mpr ⟨lw_r2, List.forall_mem_append.mpr ⟨lw_r3, lw_r4⟩⟩⟩
end
section
/-! classes, fields, methods, by program out of the Statement -/
def R_B : String := "BitLoom"
def T_B : u_T := fun k => match k with
  | 0 => ("BitLoom", "fields", "LBitLoom$Fields;", true)
  | 1 => ("BitLoom", "words", "LBitLoom$Words;", true)
  | 2 => ("BitLoom", "text", "LBitLoom$Text;", true)
  | 3 => ("BitLoom", "statement", "LBitLoom$Statement;", true)
  | 4 => ("BitLoom", "list", "[I", true)
  | 5 => ("BitLoom", "listLength", "I", false)
  | _ => ("BitLoom", "refusals", "I", false)
def ty_B : Nat → FieldType := fun k => match k with
  | 0 => (.object "BitLoom$Fields")
  | 1 => (.object "BitLoom$Words")
  | 2 => (.object "BitLoom$Text")
  | 3 => (.object "BitLoom$Statement")
  | 4 => (.array .int)
  | 5 => .int
  | _ => .int
theorem nm_B : ∀ a, a < 7 → ∀ b, b < 7 → a ≠ b → (T_B a).2.1 ≠ (T_B b).2.1 := by decide +kernel
theorem tk_B : ∀ k, k < 7 → parseFieldDescriptor (T_B k).2.2.1 = some (ty_B k) := by decide +kernel
def R_F : String := "BitLoom$Fields"
def T_F : u_T := fun k => match k with
  | 0 => ("BitLoom$Fields", "names", "[C", true)
  | 1 => ("BitLoom$Fields", "firsts", "[I", true)
  | 2 => ("BitLoom$Fields", "widths", "[I", true)
  | 3 => ("BitLoom$Fields", "signs", "[Z", true)
  | 4 => ("BitLoom$Fields", "count", "I", false)
  | _ => ("BitLoom$Fields", "covered", "I", false)
def ty_F : Nat → FieldType := fun k => match k with
  | 0 => (.array .char)
  | 1 => (.array .int)
  | 2 => (.array .int)
  | 3 => (.array .boolean)
  | 4 => .int
  | _ => .int
theorem nm_F : ∀ a, a < 6 → ∀ b, b < 6 → a ≠ b → (T_F a).2.1 ≠ (T_F b).2.1 := by decide +kernel
theorem tk_F : ∀ k, k < 6 → parseFieldDescriptor (T_F k).2.2.1 = some (ty_F k) := by decide +kernel
def R_W : String := "BitLoom$Words"
def T_W : u_T := fun k => match k with
  | 0 => ("BitLoom$Words", "bits", "[I", true)
  | 1 => ("BitLoom$Words", "inUse", "I", false)
  | _ => ("BitLoom$Words", "responding", "I", false)
def ty_W : Nat → FieldType := fun k => match k with
  | 0 => (.array .int)
  | 1 => .int
  | _ => .int
theorem nm_W : ∀ a, a < 3 → ∀ b, b < 3 → a ≠ b → (T_W a).2.1 ≠ (T_W b).2.1 := by decide +kernel
theorem tk_W : ∀ k, k < 3 → parseFieldDescriptor (T_W k).2.2.1 = some (ty_W k) := by decide +kernel
def R_T : String := "BitLoom$Text"
def T_T : u_T := fun k => match k with
  | 0 => ("BitLoom$Text", "characters", "[C", true)
  | _ => ("BitLoom$Text", "length", "I", false)
def ty_T : Nat → FieldType := fun k => match k with
  | 0 => (.array .char)
  | _ => .int
theorem nm_T : ∀ a, a < 2 → ∀ b, b < 2 → a ≠ b → (T_T a).2.1 ≠ (T_T b).2.1 := by decide +kernel
theorem tk_T : ∀ k, k < 2 → parseFieldDescriptor (T_T k).2.2.1 = some (ty_T k) := by decide +kernel
def R_K : String := "BitLoom$Tokens"
def T_K : u_T := fun k => match k with
  | 0 => ("BitLoom$Tokens", "text", "LBitLoom$Text;", true)
  | 1 => ("BitLoom$Tokens", "kinds", "[C", true)
  | 2 => ("BitLoom$Tokens", "starts", "[I", true)
  | 3 => ("BitLoom$Tokens", "ends", "[I", true)
  | 4 => ("BitLoom$Tokens", "count", "I", false)
  | _ => ("BitLoom$Tokens", "at", "I", false)
def ty_K : Nat → FieldType := fun k => match k with
  | 0 => (.object "BitLoom$Text")
  | 1 => (.array .char)
  | 2 => (.array .int)
  | 3 => (.array .int)
  | 4 => .int
  | _ => .int
theorem nm_K : ∀ a, a < 6 → ∀ b, b < 6 → a ≠ b → (T_K a).2.1 ≠ (T_K b).2.1 := by decide +kernel
theorem tk_K : ∀ k, k < 6 → parseFieldDescriptor (T_K k).2.2.1 = some (ty_K k) := by decide +kernel
def R_O : String := "BitLoom$Operand"
def T_O : u_T := fun k => match k with
  | 0 => ("BitLoom$Operand", "fields", "LBitLoom$Fields;", true)
  | 1 => ("BitLoom$Operand", "field", "I", false)
  | _ => ("BitLoom$Operand", "number", "I", false)
def ty_O : Nat → FieldType := fun k => match k with
  | 0 => (.object "BitLoom$Fields")
  | 1 => .int
  | _ => .int
theorem nm_O : ∀ a, a < 3 → ∀ b, b < 3 → a ≠ b → (T_O a).2.1 ≠ (T_O b).2.1 := by decide +kernel
theorem tk_O : ∀ k, k < 3 → parseFieldDescriptor (T_O k).2.2.1 = some (ty_O k) := by decide +kernel
def R_P : String := "BitLoom$Pair"
def T_P : u_T := fun k => match k with
  | 0 => ("BitLoom$Pair", "left", "LBitLoom$Operand;", true)
  | 1 => ("BitLoom$Pair", "right", "LBitLoom$Operand;", true)
  | _ => ("BitLoom$Pair", "sign", "C", false)
def ty_P : Nat → FieldType := fun k => match k with
  | 0 => (.object "BitLoom$Operand")
  | 1 => (.object "BitLoom$Operand")
  | _ => .char
theorem nm_P : ∀ a, a < 3 → ∀ b, b < 3 → a ≠ b → (T_P a).2.1 ≠ (T_P b).2.1 := by decide +kernel
theorem tk_P : ∀ k, k < 3 → parseFieldDescriptor (T_P k).2.2.1 = some (ty_P k) := by decide +kernel
def R_C : String := "BitLoom$Change"
def T_C : u_T := fun k => match k with
  | 0 => ("BitLoom$Change", "fields", "LBitLoom$Fields;", true)
  | 1 => ("BitLoom$Change", "operands", "LBitLoom$Pair;", true)
  | _ => ("BitLoom$Change", "target", "I", false)
def ty_C : Nat → FieldType := fun k => match k with
  | 0 => (.object "BitLoom$Fields")
  | 1 => (.object "BitLoom$Pair")
  | _ => .int
theorem nm_C : ∀ a, a < 3 → ∀ b, b < 3 → a ≠ b → (T_C a).2.1 ≠ (T_C b).2.1 := by decide +kernel
theorem tk_C : ∀ k, k < 3 → parseFieldDescriptor (T_C k).2.2.1 = some (ty_C k) := by decide +kernel
def R_S : String := "BitLoom$Statement"
def T_S : u_T := fun k => match k with
  | 0 => ("BitLoom$Statement", "fields", "LBitLoom$Fields;", true)
  | 1 => ("BitLoom$Statement", "words", "LBitLoom$Words;", true)
  | 2 => ("BitLoom$Statement", "tokens", "LBitLoom$Tokens;", true)
  | 3 => ("BitLoom$Statement", "compared", "LBitLoom$Pair;", true)
  | 4 => ("BitLoom$Statement", "change", "LBitLoom$Change;", true)
  | 5 => ("BitLoom$Statement", "secondChange", "LBitLoom$Change;", true)
  | 6 => ("BitLoom$Statement", "hasSecondChange", "Z", false)
  | 7 => ("BitLoom$Statement", "action", "LBitLoom$Action;", false)
  | 8 => ("BitLoom$Statement", "subject", "I", false)
  | 9 => ("BitLoom$Statement", "taken", "I", false)
  | _ => ("BitLoom$Statement", "wrongAt", "I", false)
def ty_S : Nat → FieldType := fun k => match k with
  | 0 => (.object "BitLoom$Fields")
  | 1 => (.object "BitLoom$Words")
  | 2 => (.object "BitLoom$Tokens")
  | 3 => (.object "BitLoom$Pair")
  | 4 => (.object "BitLoom$Change")
  | 5 => (.object "BitLoom$Change")
  | 6 => .boolean
  | 7 => (.object "BitLoom$Action")
  | 8 => .int
  | 9 => .int
  | _ => .int
theorem nm_S : ∀ a, a < 11 → ∀ b, b < 11 → a ≠ b → (T_S a).2.1 ≠ (T_S b).2.1 := by decide +kernel
theorem tk_S : ∀ k, k < 11 → parseFieldDescriptor (T_S k).2.2.1 = some (ty_S k) := by decide +kernel
def R_M : String := "BitLoomModel"
def T_M : u_T := fun k => match k with
  | 0 => ("BitLoomModel", "code", "I", false)
  | 1 => ("BitLoomModel", "used", "[Z", true)
  | 2 => ("BitLoomModel", "bits", "[I", true)
  | 3 => ("BitLoomModel", "responds", "[Z", true)
  | 4 => ("BitLoomModel", "fields", "I", false)
  | 5 => ("BitLoomModel", "names", "[C", true)
  | 6 => ("BitLoomModel", "lows", "[I", true)
  | 7 => ("BitLoomModel", "widths", "[I", true)
  | 8 => ("BitLoomModel", "signs", "[Z", true)
  | 9 => ("BitLoomModel", "typed", "I", false)
  | 10 => ("BitLoomModel", "text", "[C", true)
  | 11 => ("BitLoomModel", "place", "I", false)
  | 12 => ("BitLoomModel", "refused", "I", false)
  | 13 => ("BitLoomModel", "many", "I", false)
  | 14 => ("BitLoomModel", "list", "[I", true)
  | 15 => ("BitLoomModel", "kind", "I", false)
  | 16 => ("BitLoomModel", "begin", "I", false)
  | 17 => ("BitLoomModel", "end", "I", false)
  | 18 => ("BitLoomModel", "amount", "I", false)
  | 19 => ("BitLoomModel", "letters", "J", false)
  | 20 => ("BitLoomModel", "length", "I", false)
  | 21 => ("BitLoomModel", "order", "[I", true)
  | 22 => ("BitLoomModel", "arg", "[I", true)
  | 23 => ("BitLoomModel", "open", "I", false)
  | 24 => ("BitLoomModel", "pile", "[I", true)
  | 25 => ("BitLoomModel", "nested", "I", false)
  | 26 => ("BitLoomModel", "relation", "I", false)
  | 27 => ("BitLoomModel", "action", "I", false)
  | 28 => ("BitLoomModel", "of", "I", false)
  | 29 => ("BitLoomModel", "changes", "I", false)
  | 30 => ("BitLoomModel", "target", "[I", true)
  | 31 => ("BitLoomModel", "oneField", "[I", true)
  | 32 => ("BitLoomModel", "oneNumber", "[I", true)
  | 33 => ("BitLoomModel", "how", "[I", true)
  | 34 => ("BitLoomModel", "twoField", "[I", true)
  | 35 => ("BitLoomModel", "twoNumber", "[I", true)
  | 36 => ("BitLoomModel", "high", "I", false)
  | _ => ("BitLoomModel", "stack", "[I", true)
def ty_M : Nat → FieldType := fun k => match k with
  | 0 => .int
  | 1 => (.array .boolean)
  | 2 => (.array .int)
  | 3 => (.array .boolean)
  | 4 => .int
  | 5 => (.array .char)
  | 6 => (.array .int)
  | 7 => (.array .int)
  | 8 => (.array .boolean)
  | 9 => .int
  | 10 => (.array .char)
  | 11 => .int
  | 12 => .int
  | 13 => .int
  | 14 => (.array .int)
  | 15 => .int
  | 16 => .int
  | 17 => .int
  | 18 => .int
  | 19 => .long
  | 20 => .int
  | 21 => (.array .int)
  | 22 => (.array .int)
  | 23 => .int
  | 24 => (.array .int)
  | 25 => .int
  | 26 => .int
  | 27 => .int
  | 28 => .int
  | 29 => .int
  | 30 => (.array .int)
  | 31 => (.array .int)
  | 32 => (.array .int)
  | 33 => (.array .int)
  | 34 => (.array .int)
  | 35 => (.array .int)
  | 36 => .int
  | _ => (.array .int)
theorem nm_M : ∀ a, a < 38 → ∀ b, b < 38 → a ≠ b → (T_M a).2.1 ≠ (T_M b).2.1 := by decide +kernel
theorem tk_M : ∀ k, k < 38 → parseFieldDescriptor (T_M k).2.2.1 = some (ty_M k) := by decide +kernel
def R_XA : String := "java/lang/IllegalArgumentException"
def T_XA : u_T := fun k => match k with
  | _ => ("", "", "", false)
def ty_XA : Nat → FieldType := fun k => match k with
  | _ => .int
theorem nm_XA : ∀ a, a < 0 → ∀ b, b < 0 → a ≠ b → (T_XA a).2.1 ≠ (T_XA b).2.1 := by decide +kernel
theorem tk_XA : ∀ k, k < 0 → parseFieldDescriptor (T_XA k).2.2.1 = some (ty_XA k) := by decide +kernel
def R_XN : String := "java/util/NoSuchElementException"
def T_XN : u_T := fun k => match k with
  | _ => ("", "", "", false)
def ty_XN : Nat → FieldType := fun k => match k with
  | _ => .int
theorem nm_XN : ∀ a, a < 0 → ∀ b, b < 0 → a ≠ b → (T_XN a).2.1 ≠ (T_XN b).2.1 := by decide +kernel
theorem tk_XN : ∀ k, k < 0 → parseFieldDescriptor (T_XN k).2.2.1 = some (ty_XN k) := by decide +kernel
def R_XS : String := "java/lang/IllegalStateException"
def T_XS : u_T := fun k => match k with
  | _ => ("", "", "", false)
def ty_XS : Nat → FieldType := fun k => match k with
  | _ => .int
theorem nm_XS : ∀ a, a < 0 → ∀ b, b < 0 → a ≠ b → (T_XS a).2.1 ≠ (T_XS b).2.1 := by decide +kernel
theorem tk_XS : ∀ k, k < 0 → parseFieldDescriptor (T_XS k).2.2.1 = some (ty_XS k) := by decide +kernel
def R_XI : String := "java/lang/IndexOutOfBoundsException"
def T_XI : u_T := fun k => match k with
  | _ => ("", "", "", false)
def ty_XI : Nat → FieldType := fun k => match k with
  | _ => .int
theorem nm_XI : ∀ a, a < 0 → ∀ b, b < 0 → a ≠ b → (T_XI a).2.1 ≠ (T_XI b).2.1 := by decide +kernel
theorem tk_XI : ∀ k, k < 0 → parseFieldDescriptor (T_XI k).2.2.1 = some (ty_XI k) := by decide +kernel
/-- the classes whose objects the worlds hold, by number -/
abbrev classes : List vw_C := [(R_B, T_B, 7), (R_F, T_F, 6), (R_W, T_W, 3), (R_T, T_T, 2), (R_K, T_K, 6), (R_O, T_O, 3), (R_P, T_P, 3), (R_C, T_C, 3), (R_S, T_S, 11), (R_M, T_M, 38), (R_XA, T_XA, 0), (R_XN, T_XN, 0), (R_XS, T_XS, 0), (R_XI, T_XI, 0)]
/-- words that stay true of warmer tables, whatever the heap -/
def j_ok (w : Cond) : Bool := match w with
  | .arrayClass _ => true
  | .fieldLinkNest .. => true
  | .methodLinkNest .. => true
  | w => w.onTables && w.keepsFace
def jt : List Cond := lw_tbl.filter j_ok
theorem j_in (i : Nat) {w : Cond} (h : tables_1[i]? = some w) (hok : j_ok w = true) : w ∈ jt := List.mem_filter.mpr ⟨List.mem_append_right _ (List.mem_of_getElem? h), hok⟩
theorem j_ip (i : Nat) {y : MethodName} {n : Nat} (h : lw_privs[i]? = some (y, n)) : Cond.selects y.cls y y ∈ jt := List.mem_filter.mpr ⟨List.mem_append_left _ (List.mem_map.mpr ⟨(y, n), List.mem_of_getElem? h, rfl⟩), rfl⟩
end
section
/-! THE MINI MACHINE. A world is a list of cells, told by number: the cell j lies at the address N0 + j, and a reference to it is '.ref (32 + j)'; the numbers below 32 name cells that were there before (constants). Everything later speaks of these numbers alone. -/
abbrev jH : Type := List va_E
/-- how a method ends: it returned, or it threw an object of the class with that number, which is the world's last cell -/
abbrev jO : Type := Option Value ⊕ Nat
/-- launch; first new address; the heap at the law's start; class numbers; array classes; addresses of the constants; the script's length and ints -/
abbrev jK : Type := Launch × Nat × Heap × va_G × (Nat → ClassId) × (Nat → Nat) × Nat × (Nat → Int32)
/-- a method: name, code, locals, result, handlers -/
abbrev jR : Type := MethodName × ByteArray × Nat × Option FieldType × List (Nat × Nat × Nat × Nat)
def j_adr (K : jK) (i : Nat) : Nat := if i < 32 then K.2.2.2.2.2.1 i else K.2.1 + (i - 32)
def j_v (K : jK) (v : Value) : Value := match v with
  | .ref i => .ref (j_adr K i)
  | x => x
def j_l (K : jK) (q : Nat × Value) : Nat × Value := (q.1, j_v K q.2)
def j_e (K : jK) (x : va_E) : va_E := match x with
  | .inl a => .inl (K.2.2.2.2.1 a.1, a.2)
  | .inr o => .inr (o.1, o.2.map (j_v K))
abbrev j_ty (K : jK) : List (ClassId × FieldType) := [(K.2.2.2.2.1 0, .int), (K.2.2.2.2.1 1, .char), (K.2.2.2.2.1 2, .boolean), (K.2.2.2.2.1 3, .long)]
/-! what was there before, and never changes: told by numbers below 32. 0: the script; 1: BitLoom.ACTIONS; 2 to 7: the Actions by ordinal; 8 to 13: their words; 14: "where"; 15: the signs; 16 to 23: the bytes of 8 to 15; 24: the switch's table -/
abbrev jA (K : jK) : Nat → Prop := fun q => K.2.1 ≤ q
abbrev j_x (K : jK) (i : Nat) : Nat := K.2.2.2.2.2.1 i
def j_nA : String := "java/lang/IllegalArgumentException"
def j_nN : String := "java/util/NoSuchElementException"
def j_nS : String := "java/lang/IllegalStateException"
def j_nI : String := "java/lang/IndexOutOfBoundsException"
def jnc : List (String × String) := [(j_nS, j_nA), (j_nN, j_nA), (j_nI, j_nA), (j_nA, j_nS), (j_nN, j_nS), (j_nI, j_nS), (j_nA, j_nN), (j_nS, j_nN), (j_nI, j_nN), (j_nA, j_nI), (j_nS, j_nI), (j_nN, j_nI)]
def j_txL : List Nat := [3, 3, 3, 3, 4, 5, 5, 12]
def j_tx : List (List Int32) := [[115, 101, 116], [109, 97, 120], [109, 105, 110], [115, 117, 109], [108, 105, 115, 116], [99, 111, 117, 110, 116], [119, 104, 101, 114, 101], [60, 61, 62, 38, 124, 33, 40, 41, 44, 43, 45, 42]]
def j_sw : List Int32 := [1, 2, 3, 4, 5, 0]
/-- a static that was laid before and holds a reference or null -/
def jLS (K : jK) (C n d : String) (U : State) : Prop := ∃ (c : ClassId) (k : Class) (i : Nat) (f : Field) (a : Nat) (cell : Cell), U.vm.findClass C = some c ∧ U.fieldFound? C n d = some (c, k, i, f) ∧ f.isStatic = true ∧ k.statics = some a ∧ K.2.2.1[a]? = some cell ∧ cell.vm.isStatics = true ∧ cell.cls = c ∧
  f.slot < cell.slots.size ∧ k.staticTypes[f.slot]? = some f.type ∧ (cell.slots[f.slot]? = some .null ∨ ∃ t : Nat, cell.slots[f.slot]? = some (.ref t))
theorem jLS.moved {K : jK} {C n d : String} {u U : State} (hvm : u.vm.Alike U.vm) (h : jLS K C n d u) : jLS K C n d U := by
  obtain ⟨c, k, i, f, a, cell, h1, h2, h3, h4, h5, h6, h7, h8, h9, h10⟩ := h
  obtain ⟨k', hi', he⟩ := State.fieldFound?_setVm hvm h2
  exact ⟨c, k', i, f, a, cell, by rw [hvm.findClass]; exact h1, hi', h3, by rw [he]; exact h4, h5, h6, h7, h8, by rw [he]; exact h9, h10⟩
def jX (K : jK) (U : State) : Prop :=
  K.1.flags = flags0 ∧ K.2.1 = K.2.2.1.size ∧ (∀ q ∈ jnc, va_Nc q.1 q.2 U) ∧ jLS K "java/lang/Throwable" "UNASSIGNED_STACK" "[Ljava/lang/StackTraceElement;" U ∧ jLS K "java/lang/Throwable" "SUPPRESSED_SENTINEL" "Ljava/util/List;" U ∧
  va_Z "java/lang/String" "COMPACT_STRINGS" "Z" (.int 1) (jA K) U K.2.2.1 ∧ va_Zq "jdk/internal/util/Preconditions" "SIOOBE_FORMATTER" "Ljava/util/function/BiFunction;" (jA K) U K.2.2.1 ∧
  va_Z "BitLoom" "ACTIONS" "[LBitLoom$Action;" (.ref (j_x K 1)) (jA K) U K.2.2.1 ∧ va_T (.object "BitLoom$Action") (j_x K 1) 6 (fun j => .ref (j_x K (2 + j))) (jA K) U K.2.2.1 ∧
  va_En "BitLoom$Action" "LBitLoom$Action;" ["SET", "MAX", "MIN", "SUM", "LIST", "COUNT"] [("java/lang/Enum", "ordinal", "I", [0, 1, 2, 3, 4, 5])] (fun i => j_x K (2 + i)) (jA K) U K.2.2.1 ∧
  (∀ i, i < 6 → va_OF "BitLoom$Action" "word" "Ljava/lang/String;" (.ref (j_x K (8 + i))) (j_x K (2 + i)) (jA K) U K.2.2.1) ∧
  va_Z "BitLoom$1" "$SwitchMap$BitLoom$Action" "[I" (.ref (j_x K 24)) (jA K) U K.2.2.1 ∧ va_T .int (j_x K 24) 6 (fun j => .int (j_sw.getD j 0)) (jA K) U K.2.2.1 ∧
  vk_S 8 j_txL j_tx (fun i => j_x K (8 + i)) (fun i => j_x K (16 + i)) (jA K) U K.2.2.1 ∧ vk_R "BitLoom$Statement" 93 "where" (j_x K 14) U ∧ vk_R "BitLoom$Tokens" 64 "<=>&|!(),+-*" (j_x K 15) U ∧
  va_X (j_x K 0) K.2.2.2.2.2.2.1 K.2.2.2.2.2.2.2 U K.2.2.1 ∧ j_x K 0 < K.2.1
theorem jX.warm {K : jK} {s U : State} (hW : s.WarmedH U.vm) (h : jX K s) : jX K U := by
  have ha := hW.alike
  obtain ⟨h1, h2, h3, h4, h5, h6, h7, h8, h9, h10, h11, h12, h13, h14, h15, h16, h17, h18⟩ := h
  exact ⟨h1, h2, fun q hq => (h3 q hq).moved ha, h4.moved ha, h5.moved ha, h6.moved ha, h7.moved ha, h8.moved ha, h9.moved ha, h10.moved ha, fun i hi => (h11 i hi).moved ha, h12.moved ha, h13.moved ha, h14.moved ha, h15.warm hW, h16.warm hW, h17.moved ha, h18⟩
theorem j_okT {w : Cond} (h : j_ok w = true) {A A' : Array Value} {u U : State} (hv : u.vm = U.vm) (hb : w.before A u = true) : w.before A' U = true := by
  have hU : U = U.setVm u.vm := by rw [hv]; rfl
  cases w
  case arrayClass ty =>
    have e : (Cond.arrayClass ty).before A u = (Cond.arrayClass ty).before A' (U.setVm u.vm) := rfl
    rw [hU, ← e]
    exact hb
  all_goals
    refine va_tabs ?_ hv hb
    simp only [j_ok, Bool.and_eq_true] at h
    first | exact h.1 | rfl
theorem j_okW {w : Cond} (h : j_ok w = true) {A A' : Array Value} {s U : State} (hW : s.WarmedH U.vm) (hb : w.before A s = true) : w.before A' U = true := by
  have key : w.before A (s.setVm U.vm) = true := by
    cases w
    case fieldLinkNest a i b n d hh => exact Cond.fieldLinkNest_warmed hW hb
    case methodLinkNest a i x hh => exact Cond.methodLinkNest_warmed hW hb
    case arrayClass ty => exact Cond.before_shiftedFace (State.Shifted.of_warmed hW) _ rfl hb
    all_goals
      refine Cond.before_shiftedFace (State.Shifted.of_warmed hW) _ ?_ hb
      simp only [j_ok, Bool.and_eq_true] at h
      exact h.2
  exact j_okT h (u := s.setVm U.vm) rfl key
theorem j_jt {w : Cond} (h : w ∈ jt) : j_ok w = true := (List.mem_filter.mp h).2
def jU (K : jK) (U : State) : Prop := (∀ w ∈ jt, w.before #[] U = true) ∧ va_K K.2.2.2.1 classes (j_ty K) U ∧ jX K U
theorem jU.warm {K : jK} {s U : State} (hW : s.WarmedH U.vm) (h : jU K s) : jU K U := ⟨fun w hw => j_okW (j_jt hw) hW (h.1 w hw), h.2.1.moved hW.alike, h.2.2.warm hW⟩
def j_get (h : jH) (i : Nat) : Option va_E := if i < 32 then none else h[i - 32]?
def j_set (h : jH) (i : Nat) (x : va_E) : jH := h.set (i - 32) x
def jW (K : jK) (h : jH) (H : Heap) : Prop := (∀ (j : Nat) (x : va_E), h[j]? = some x → va_at K.2.2.2.1 classes (K.2.1 + j, j_e K x) H) ∧ H.size = K.2.1 + h.length ∧ ∀ q : Nat, q < K.2.1 → H[q]? = K.2.2.1[q]?
def j_oc (K : jK) (h : jH) (mo : jO) (o : Outcome) : Prop := match mo with
  | .inl v => o = .returned (v.map (j_v K))
  | .inr k => ∃ n : Nat, h.length = n + 1 ∧ h[n]? = some (.inr (k, [])) ∧ o = .threw (K.2.1 + n)
def j_xc (mo : jO) : Nat := match mo with
  | .inl _ => 0
  | .inr _ => 1
def jZ (K : jK) (below : List Frame) (s : State) (C S : Nat) (Q : jO → jH → Prop) : State → Prop := fun t =>
  ∃ (o : Outcome) (mo : jO) (h : jH) (L : List Loc), t.status = .running ∧ Ended t below o ∧ j_oc K h mo o ∧ Q mo h ∧ jW K h t.heap ∧ s.WarmedH t.vm ∧ s.sameButNew ({ t with vm := s.vm } : State) L (C + j_xc mo) (S + 6 * j_xc mo) ∧ ∀ q ∈ L, K.2.1 ≤ q.base
def jC (K : jK) (M : jR) (d : Nat) (p : Program) (R : Room) (s : State) (m : MethodId) (args : Array Value) (meth : Method) (c : Code) : Prop :=
  p.tables.exec = Jvm.exec ∧ c.code = M.2.1 ∧ c.maxLocals = M.2.2.1 ∧ s.vm.findClass M.1.cls = some m.cls ∧ (∀ w ∈ jt, w.before args s = true) ∧ meth.sig.returnType = M.2.2.2.1 ∧ meth.locks = false ∧ meth.name = M.1.name ∧ c.exceptionTable.toList = tableOf M.2.2.2.2 ∧ d ≤ R.frames ∧ 64 * d ≤ R.locals ∧ va_K K.2.2.2.1 classes (j_ty K) s ∧ jX K s
/-- from here, with these locals, this stack, this world: the method ends, and Q; at most mc cells of ms slots more are made (a throw makes one more, of six) -/
def jE (K : jK) (M : jR) (d pc : Nat) (ls : List (Nat × Value)) (st : List Value) (h : jH) (Q : jO → jH → Prop) (mc ms : Nat) : Prop :=
  ∀ (p : Program) (e : Env) (R : Room) (s : State) (m : MethodId) (args : Array Value) (below : List Frame) (meth : Method) (c : Code) (H : Heap) (locs : List Loc) (cells slots : Nat) (la : Array Slot),
    jC K M d p R s m args meth c → cells + mc + 1 ≤ R.cells → slots + ms + 6 ≤ R.slots → lv_has la M.2.2.1 (ls.map (j_l K)) → jW K h H → (∀ q ∈ locs, K.2.1 ≤ q.base) →
    W p K.1 e R s m args below meth c H locs cells slots (jZ K below s (cells + mc) (slots + ms) Q) (F0 m pc la (st.map (j_v K)))
theorem j_cat (K : jK) (v : Value) : (j_v K v).category = v.category := by cases v <;> rfl
def j_lg : List (Nat × Value) → Nat → Option Value
  | [], _ => none
  | q :: r, i => if q.1 = i then some q.2 else j_lg r i
theorem j_lg_at {K : jK} {la : Array Slot} {n : Nat} {ls : List (Nat × Value)} (hl : lv_has la n (ls.map (j_l K))) {i : Nat} {v : Value} (h : j_lg ls i = some v) : la[i]? = some (.val (j_v K v)) := by
  have key : ∀ r : List (Nat × Value), j_lg r i = some v → (i, v) ∈ r := by
    intro r
    induction r with
    | nil => intro h; cases h
    | cons q r ih =>
      intro h
      unfold j_lg at h
      split at h
      · rename_i hq
        cases h
        rw [← hq]
        exact List.mem_cons_self
      · exact List.mem_cons_of_mem _ (ih h)
  have hm := key ls h
  exact hl.2.2 (i, j_v K v) (List.mem_map.mpr ⟨(i, v), hm, rfl⟩)
def j_ls (ls : List (Nat × Value)) (i : Nat) (v : Value) : List (Nat × Value) := (i, v) :: ls.filter (fun q => !(q.1 == i) && !(q.1 + 1 == i && q.2.category == 2))
def j_ls2 (ls : List (Nat × Value)) (i : Nat) (v : Value) : List (Nat × Value) := (i, v) :: ls.filter (fun q => !(q.1 == i) && (!(q.1 == i + 1) && !(q.1 + 1 == i && q.2.category == 2)))
theorem j_ls_map (K : jK) (ls : List (Nat × Value)) (i : Nat) (v : Value) : (i, j_v K v) :: (ls.map (j_l K)).filter (fun q => !(q.1 == i) && !(q.1 + 1 == i && q.2.category == 2)) = (j_ls ls i v).map (j_l K) := by
  unfold j_ls
  rw [List.map_cons, List.filter_map]
  have e : ((fun q : Nat × Value => !(q.1 == i) && !(q.1 + 1 == i && q.2.category == 2)) ∘ j_l K) = (fun q : Nat × Value => !(q.1 == i) && !(q.1 + 1 == i && q.2.category == 2)) := by
    funext q
    simp [Function.comp, j_l, j_cat]
  rw [e]
  rfl
theorem j_ls2_map (K : jK) (ls : List (Nat × Value)) (i : Nat) (v : Value) : (i, j_v K v) :: (ls.map (j_l K)).filter (fun q => !(q.1 == i) && (!(q.1 == i + 1) && !(q.1 + 1 == i && q.2.category == 2))) = (j_ls2 ls i v).map (j_l K) := by
  unfold j_ls2
  rw [List.map_cons, List.filter_map]
  have e : ((fun q : Nat × Value => !(q.1 == i) && (!(q.1 == i + 1) && !(q.1 + 1 == i && q.2.category == 2))) ∘ j_l K) = (fun q : Nat × Value => !(q.1 == i) && (!(q.1 == i + 1) && !(q.1 + 1 == i && q.2.category == 2))) := by
    funext q
    simp [Function.comp, j_l, j_cat]
  rw [e]
  rfl
theorem j_mono {p : Program} {l : Launch} {e : Env} {R : Room} {s : State} {m : MethodId} {args : Array Value} {below : List Frame} {meth : Method} {c : Code} {H : Heap} {locs : List Loc} {cells slots : Nat} {Q Q' : State → Prop} {g : JFrame} (hQ : ∀ t, Q t → Q' t)
    (k : W p l e R s m args below meth c H locs cells slots Q g) : W p l e R s m args below meth c H locs cells slots Q' g := fun T hT X => by
  obtain ⟨t, a, b⟩ := k T hT X
  exact ⟨t, a, hQ t b⟩
section JROWS
variable {K : jK} {M : jR} {d pc : Nat} {ls : List (Nat × Value)} {st : List Value} {h : jH} {Q : jO → jH → Prop} {mc ms : Nat}
theorem j_iconst {n : Int} {v : Int32} (hd : decode M.2.1 pc = .ok (.iconst n, 1)) (hv : Int32.ofInt n = v) (k : jE K M d (pc + 1) ls (.int v :: st) h Q mc ms) : jE K M d pc ls (st) h Q mc ms :=
  fun p e R s m as bl me c H lo ce sl la hC hc hs hl hw hL => lv_iconst hC.1 hC.2.1 hd hv (k p e R s m as bl me c H lo ce sl la hC hc hs hl hw hL)
theorem j_bipush {n : Int} {v : Int32} (hd : decode M.2.1 pc = .ok (.bipush n, 2)) (hv : (Int8.ofInt n).toInt32 = v) (k : jE K M d (pc + 2) ls (.int v :: st) h Q mc ms) : jE K M d pc ls (st) h Q mc ms :=
  fun p e R s m as bl me c H lo ce sl la hC hc hs hl hw hL => lv_bipush hC.1 hC.2.1 hd hv (k p e R s m as bl me c H lo ce sl la hC hc hs hl hw hL)
theorem j_sipush {n : Int} {v : Int32} (hd : decode M.2.1 pc = .ok (.sipush n, 3)) (hv : (Int16.ofInt n).toInt32 = v) (k : jE K M d (pc + 3) ls (.int v :: st) h Q mc ms) : jE K M d pc ls (st) h Q mc ms :=
  fun p e R s m as bl me c H lo ce sl la hC hc hs hl hw hL => lv_sipush hC.1 hC.2.1 hd hv (k p e R s m as bl me c H lo ce sl la hC hc hs hl hw hL)
theorem j_lconst {n : Fin 2} {v : Int64} (hd : decode M.2.1 pc = .ok (.lconst n, 1)) (hv : Int64.ofNat (n : Nat) = v) (k : jE K M d (pc + 1) ls (.long v :: st) h Q mc ms) : jE K M d pc ls (st) h Q mc ms :=
  fun p e R s m as bl me c H lo ce sl la hC hc hs hl hw hL => lv_lconst hC.1 hC.2.1 hd hv (k p e R s m as bl me c H lo ce sl la hC hc hs hl hw hL)
theorem j_iload_n {k : Fin 4} {x : Int32} (hd : decode M.2.1 pc = .ok (.iload_n k, 1)) (hg : j_lg ls k = some (.int x)) (k : jE K M d (pc + 1) ls (.int x :: st) h Q mc ms) : jE K M d pc ls (st) h Q mc ms :=
  fun p e R s m as bl me c H lo ce sl la hC hc hs hl hw hL => lv_iload_n hC.1 hC.2.1 hd rfl (j_lg_at hl hg) (k p e R s m as bl me c H lo ce sl la hC hc hs hl hw hL)
theorem j_iload {i : Nat} {x : Int32} (hd : decode M.2.1 pc = .ok (.iload i, 2)) (hg : j_lg ls i = some (.int x)) (k : jE K M d (pc + 2) ls (.int x :: st) h Q mc ms) : jE K M d pc ls (st) h Q mc ms :=
  fun p e R s m as bl me c H lo ce sl la hC hc hs hl hw hL => lv_iload hC.1 hC.2.1 hd (j_lg_at hl hg) (k p e R s m as bl me c H lo ce sl la hC hc hs hl hw hL)
theorem j_istore_n {k : Fin 4} {x : Int32} (hd : decode M.2.1 pc = .ok (.istore_n k, 1)) (hn : (k : Nat) < M.2.2.1) (k : jE K M d (pc + 1) (j_ls ls k (.int x)) st h Q mc ms) : jE K M d pc ls (.int x :: st) h Q mc ms :=
  fun p e R s m as bl me c H lo ce sl la hC hc hs hl hw hL => lv_istore_n hC.1 hC.2.1 hd rfl hl hn (j_ls_map K ls _ (.int x)) (fun la' hl' => k p e R s m as bl me c H lo ce sl la' hC hc hs hl' hw hL)
theorem j_istore {i : Nat} {x : Int32} (hd : decode M.2.1 pc = .ok (.istore i, 2)) (hn : i < M.2.2.1) (k : jE K M d (pc + 2) (j_ls ls i (.int x)) st h Q mc ms) : jE K M d pc ls (.int x :: st) h Q mc ms :=
  fun p e R s m as bl me c H lo ce sl la hC hc hs hl hw hL => lv_istore hC.1 hC.2.1 hd hl hn (j_ls_map K ls _ (.int x)) (fun la' hl' => k p e R s m as bl me c H lo ce sl la' hC hc hs hl' hw hL)
theorem j_lload_n {k : Fin 4} {x : Int64} (hd : decode M.2.1 pc = .ok (.lload_n k, 1)) (hg : j_lg ls k = some (.long x)) (k : jE K M d (pc + 1) ls (.long x :: st) h Q mc ms) : jE K M d pc ls (st) h Q mc ms :=
  fun p e R s m as bl me c H lo ce sl la hC hc hs hl hw hL => lv_lload_n hC.1 hC.2.1 hd rfl (j_lg_at hl hg) (k p e R s m as bl me c H lo ce sl la hC hc hs hl hw hL)
theorem j_lload {i : Nat} {x : Int64} (hd : decode M.2.1 pc = .ok (.lload i, 2)) (hg : j_lg ls i = some (.long x)) (k : jE K M d (pc + 2) ls (.long x :: st) h Q mc ms) : jE K M d pc ls (st) h Q mc ms :=
  fun p e R s m as bl me c H lo ce sl la hC hc hs hl hw hL => lv_lload hC.1 hC.2.1 hd (j_lg_at hl hg) (k p e R s m as bl me c H lo ce sl la hC hc hs hl hw hL)
theorem j_lstore_n {k : Fin 4} {x : Int64} (hd : decode M.2.1 pc = .ok (.lstore_n k, 1)) (hn : (k : Nat) + 1 < M.2.2.1) (k : jE K M d (pc + 1) (j_ls2 ls k (.long x)) st h Q mc ms) : jE K M d pc ls (.long x :: st) h Q mc ms :=
  fun p e R s m as bl me c H lo ce sl la hC hc hs hl hw hL => lv_lstore_n hC.1 hC.2.1 hd rfl hl hn (j_ls2_map K ls _ (.long x)) (fun la' hl' => k p e R s m as bl me c H lo ce sl la' hC hc hs hl' hw hL)
theorem j_lstore {i : Nat} {x : Int64} (hd : decode M.2.1 pc = .ok (.lstore i, 2)) (hn : i + 1 < M.2.2.1) (k : jE K M d (pc + 2) (j_ls2 ls i (.long x)) st h Q mc ms) : jE K M d pc ls (.long x :: st) h Q mc ms :=
  fun p e R s m as bl me c H lo ce sl la hC hc hs hl hw hL => lv_lstore hC.1 hC.2.1 hd hl hn (j_ls2_map K ls _ (.long x)) (fun la' hl' => k p e R s m as bl me c H lo ce sl la' hC hc hs hl' hw hL)
theorem j_aload_n {k : Fin 4} {x : Nat} (hd : decode M.2.1 pc = .ok (.aload_n k, 1)) (hg : j_lg ls k = some (.ref x)) (k : jE K M d (pc + 1) ls (.ref x :: st) h Q mc ms) : jE K M d pc ls (st) h Q mc ms :=
  fun p e R s m as bl me c H lo ce sl la hC hc hs hl hw hL => lv_aload_n hC.1 hC.2.1 hd rfl (j_lg_at hl hg) (k p e R s m as bl me c H lo ce sl la hC hc hs hl hw hL)
theorem j_aload {i : Nat} {x : Nat} (hd : decode M.2.1 pc = .ok (.aload i, 2)) (hg : j_lg ls i = some (.ref x)) (k : jE K M d (pc + 2) ls (.ref x :: st) h Q mc ms) : jE K M d pc ls (st) h Q mc ms :=
  fun p e R s m as bl me c H lo ce sl la hC hc hs hl hw hL => lv_aload hC.1 hC.2.1 hd (j_lg_at hl hg) (k p e R s m as bl me c H lo ce sl la hC hc hs hl hw hL)
theorem j_astore_n {k : Fin 4} {x : Nat} (hd : decode M.2.1 pc = .ok (.astore_n k, 1)) (hn : (k : Nat) < M.2.2.1) (k : jE K M d (pc + 1) (j_ls ls k (.ref x)) st h Q mc ms) : jE K M d pc ls (.ref x :: st) h Q mc ms :=
  fun p e R s m as bl me c H lo ce sl la hC hc hs hl hw hL => lv_astore_n hC.1 hC.2.1 hd rfl hl hn (j_ls_map K ls _ (.ref x)) (fun la' hl' => k p e R s m as bl me c H lo ce sl la' hC hc hs hl' hw hL)
theorem j_astore {i : Nat} {x : Nat} (hd : decode M.2.1 pc = .ok (.astore i, 2)) (hn : i < M.2.2.1) (k : jE K M d (pc + 2) (j_ls ls i (.ref x)) st h Q mc ms) : jE K M d pc ls (.ref x :: st) h Q mc ms :=
  fun p e R s m as bl me c H lo ce sl la hC hc hs hl hw hL => lv_astore hC.1 hC.2.1 hd hl hn (j_ls_map K ls _ (.ref x)) (fun la' hl' => k p e R s m as bl me c H lo ce sl la' hC hc hs hl' hw hL)
theorem j_iadd {x y : Int32} (hd : decode M.2.1 pc = .ok (.iadd, 1)) (k : jE K M d (pc + 1) ls (.int (x + y) :: st) h Q mc ms) : jE K M d pc ls (.int y :: .int x :: st) h Q mc ms :=
  fun p e R s m as bl me c H lo ce sl la hC hc hs hl hw hL => lv_iadd hC.1 hC.2.1 hd (k p e R s m as bl me c H lo ce sl la hC hc hs hl hw hL)
theorem j_isub {x y : Int32} (hd : decode M.2.1 pc = .ok (.isub, 1)) (k : jE K M d (pc + 1) ls (.int (x - y) :: st) h Q mc ms) : jE K M d pc ls (.int y :: .int x :: st) h Q mc ms :=
  fun p e R s m as bl me c H lo ce sl la hC hc hs hl hw hL => lv_isub hC.1 hC.2.1 hd (k p e R s m as bl me c H lo ce sl la hC hc hs hl hw hL)
theorem j_imul {x y : Int32} (hd : decode M.2.1 pc = .ok (.imul, 1)) (k : jE K M d (pc + 1) ls (.int (x * y) :: st) h Q mc ms) : jE K M d pc ls (.int y :: .int x :: st) h Q mc ms :=
  fun p e R s m as bl me c H lo ce sl la hC hc hs hl hw hL => lv_imul hC.1 hC.2.1 hd (k p e R s m as bl me c H lo ce sl la hC hc hs hl hw hL)
theorem j_iand {x y : Int32} (hd : decode M.2.1 pc = .ok (.iand, 1)) (k : jE K M d (pc + 1) ls (.int (x &&& y) :: st) h Q mc ms) : jE K M d pc ls (.int y :: .int x :: st) h Q mc ms :=
  fun p e R s m as bl me c H lo ce sl la hC hc hs hl hw hL => lv_iand hC.1 hC.2.1 hd (k p e R s m as bl me c H lo ce sl la hC hc hs hl hw hL)
theorem j_ior {x y : Int32} (hd : decode M.2.1 pc = .ok (.ior, 1)) (k : jE K M d (pc + 1) ls (.int (x ||| y) :: st) h Q mc ms) : jE K M d pc ls (.int y :: .int x :: st) h Q mc ms :=
  fun p e R s m as bl me c H lo ce sl la hC hc hs hl hw hL => lv_ior hC.1 hC.2.1 hd (k p e R s m as bl me c H lo ce sl la hC hc hs hl hw hL)
theorem j_ixor {x y : Int32} (hd : decode M.2.1 pc = .ok (.ixor, 1)) (k : jE K M d (pc + 1) ls (.int (x ^^^ y) :: st) h Q mc ms) : jE K M d pc ls (.int y :: .int x :: st) h Q mc ms :=
  fun p e R s m as bl me c H lo ce sl la hC hc hs hl hw hL => lv_ixor hC.1 hC.2.1 hd (k p e R s m as bl me c H lo ce sl la hC hc hs hl hw hL)
theorem j_ishl {x y : Int32} (hd : decode M.2.1 pc = .ok (.ishl, 1)) (k : jE K M d (pc + 1) ls (.int (x <<< (y &&& 31)) :: st) h Q mc ms) : jE K M d pc ls (.int y :: .int x :: st) h Q mc ms :=
  fun p e R s m as bl me c H lo ce sl la hC hc hs hl hw hL => lv_ishl hC.1 hC.2.1 hd (k p e R s m as bl me c H lo ce sl la hC hc hs hl hw hL)
theorem j_ishr {x y : Int32} (hd : decode M.2.1 pc = .ok (.ishr, 1)) (k : jE K M d (pc + 1) ls (.int (x >>> (y &&& 31)) :: st) h Q mc ms) : jE K M d pc ls (.int y :: .int x :: st) h Q mc ms :=
  fun p e R s m as bl me c H lo ce sl la hC hc hs hl hw hL => lv_ishr hC.1 hC.2.1 hd (k p e R s m as bl me c H lo ce sl la hC hc hs hl hw hL)
theorem j_iushr {x y : Int32} (hd : decode M.2.1 pc = .ok (.iushr, 1)) (k : jE K M d (pc + 1) ls (.int (x.toUInt32 >>> (y.toUInt32 &&& Int32.toUInt32 31)).toInt32 :: st) h Q mc ms) : jE K M d pc ls (.int y :: .int x :: st) h Q mc ms :=
  fun p e R s m as bl me c H lo ce sl la hC hc hs hl hw hL => lv_iushr hC.1 hC.2.1 hd rfl (k p e R s m as bl me c H lo ce sl la hC hc hs hl hw hL)
theorem j_idiv {x y : Int32} (hd : decode M.2.1 pc = .ok (.idiv, 1)) (hne : ¬ y = 0) (k : jE K M d (pc + 1) ls (.int (x / y) :: st) h Q mc ms) : jE K M d pc ls (.int y :: .int x :: st) h Q mc ms :=
  fun p e R s m as bl me c H lo ce sl la hC hc hs hl hw hL => lv_idiv hC.1 hC.2.1 hd hne (k p e R s m as bl me c H lo ce sl la hC hc hs hl hw hL)
theorem j_irem {x y : Int32} (hd : decode M.2.1 pc = .ok (.irem, 1)) (hne : ¬ y = 0) (k : jE K M d (pc + 1) ls (.int (x - x / y * y) :: st) h Q mc ms) : jE K M d pc ls (.int y :: .int x :: st) h Q mc ms :=
  fun p e R s m as bl me c H lo ce sl la hC hc hs hl hw hL => lv_irem hC.1 hC.2.1 hd hne (k p e R s m as bl me c H lo ce sl la hC hc hs hl hw hL)
theorem j_ineg {x : Int32} (hd : decode M.2.1 pc = .ok (.ineg, 1)) (k : jE K M d (pc + 1) ls (.int (-x) :: st) h Q mc ms) : jE K M d pc ls (.int x :: st) h Q mc ms :=
  fun p e R s m as bl me c H lo ce sl la hC hc hs hl hw hL => lv_ineg hC.1 hC.2.1 hd (k p e R s m as bl me c H lo ce sl la hC hc hs hl hw hL)
theorem j_ladd {x y : Int64} (hd : decode M.2.1 pc = .ok (.ladd, 1)) (k : jE K M d (pc + 1) ls (.long (x + y) :: st) h Q mc ms) : jE K M d pc ls (.long y :: .long x :: st) h Q mc ms :=
  fun p e R s m as bl me c H lo ce sl la hC hc hs hl hw hL => lv_ladd hC.1 hC.2.1 hd (k p e R s m as bl me c H lo ce sl la hC hc hs hl hw hL)
theorem j_lsub {x y : Int64} (hd : decode M.2.1 pc = .ok (.lsub, 1)) (k : jE K M d (pc + 1) ls (.long (x - y) :: st) h Q mc ms) : jE K M d pc ls (.long y :: .long x :: st) h Q mc ms :=
  fun p e R s m as bl me c H lo ce sl la hC hc hs hl hw hL => lv_lsub hC.1 hC.2.1 hd (k p e R s m as bl me c H lo ce sl la hC hc hs hl hw hL)
theorem j_lmul {x y : Int64} (hd : decode M.2.1 pc = .ok (.lmul, 1)) (k : jE K M d (pc + 1) ls (.long (x * y) :: st) h Q mc ms) : jE K M d pc ls (.long y :: .long x :: st) h Q mc ms :=
  fun p e R s m as bl me c H lo ce sl la hC hc hs hl hw hL => lv_lmul hC.1 hC.2.1 hd (k p e R s m as bl me c H lo ce sl la hC hc hs hl hw hL)
theorem j_land {x y : Int64} (hd : decode M.2.1 pc = .ok (.land, 1)) (k : jE K M d (pc + 1) ls (.long (x &&& y) :: st) h Q mc ms) : jE K M d pc ls (.long y :: .long x :: st) h Q mc ms :=
  fun p e R s m as bl me c H lo ce sl la hC hc hs hl hw hL => lv_land hC.1 hC.2.1 hd (k p e R s m as bl me c H lo ce sl la hC hc hs hl hw hL)
theorem j_lor {x y : Int64} (hd : decode M.2.1 pc = .ok (.lor, 1)) (k : jE K M d (pc + 1) ls (.long (x ||| y) :: st) h Q mc ms) : jE K M d pc ls (.long y :: .long x :: st) h Q mc ms :=
  fun p e R s m as bl me c H lo ce sl la hC hc hs hl hw hL => lv_lor hC.1 hC.2.1 hd (k p e R s m as bl me c H lo ce sl la hC hc hs hl hw hL)
theorem j_lxor {x y : Int64} (hd : decode M.2.1 pc = .ok (.lxor, 1)) (k : jE K M d (pc + 1) ls (.long (x ^^^ y) :: st) h Q mc ms) : jE K M d pc ls (.long y :: .long x :: st) h Q mc ms :=
  fun p e R s m as bl me c H lo ce sl la hC hc hs hl hw hL => lv_lxor hC.1 hC.2.1 hd (k p e R s m as bl me c H lo ce sl la hC hc hs hl hw hL)
theorem j_lushr {x : Int64} {y : Int32} (hd : decode M.2.1 pc = .ok (.lushr, 1)) (k : jE K M d (pc + 1) ls (.long (x.toUInt64 >>> (y.toInt64.toUInt64 &&& Int64.toUInt64 63)).toInt64 :: st) h Q mc ms) : jE K M d pc ls (.int y :: .long x :: st) h Q mc ms :=
  fun p e R s m as bl me c H lo ce sl la hC hc hs hl hw hL => lv_lushr hC.1 hC.2.1 hd rfl (k p e R s m as bl me c H lo ce sl la hC hc hs hl hw hL)
theorem j_lshl {x : Int64} {y : Int32} (hd : decode M.2.1 pc = .ok (.lshl, 1)) (k : jE K M d (pc + 1) ls (.long (x <<< (y.toInt64 &&& 63)) :: st) h Q mc ms) : jE K M d pc ls (.int y :: .long x :: st) h Q mc ms :=
  fun p e R s m as bl me c H lo ce sl la hC hc hs hl hw hL => lv_lshl hC.1 hC.2.1 hd rfl (k p e R s m as bl me c H lo ce sl la hC hc hs hl hw hL)
theorem j_lshr {x : Int64} {y : Int32} (hd : decode M.2.1 pc = .ok (.lshr, 1)) (k : jE K M d (pc + 1) ls (.long (x >>> (y.toInt64 &&& 63)) :: st) h Q mc ms) : jE K M d pc ls (.int y :: .long x :: st) h Q mc ms :=
  fun p e R s m as bl me c H lo ce sl la hC hc hs hl hw hL => lv_lshr hC.1 hC.2.1 hd rfl (k p e R s m as bl me c H lo ce sl la hC hc hs hl hw hL)
theorem j_i2l {x : Int32} (hd : decode M.2.1 pc = .ok (.i2l, 1)) (k : jE K M d (pc + 1) ls (.long x.toInt64 :: st) h Q mc ms) : jE K M d pc ls (.int x :: st) h Q mc ms :=
  fun p e R s m as bl me c H lo ce sl la hC hc hs hl hw hL => lv_i2l hC.1 hC.2.1 hd rfl (k p e R s m as bl me c H lo ce sl la hC hc hs hl hw hL)
theorem j_l2i {x : Int64} (hd : decode M.2.1 pc = .ok (.l2i, 1)) (k : jE K M d (pc + 1) ls (.int x.toInt32 :: st) h Q mc ms) : jE K M d pc ls (.long x :: st) h Q mc ms :=
  fun p e R s m as bl me c H lo ce sl la hC hc hs hl hw hL => lv_l2i hC.1 hC.2.1 hd rfl (k p e R s m as bl me c H lo ce sl la hC hc hs hl hw hL)
theorem j_i2b {x : Int32} (hd : decode M.2.1 pc = .ok (.i2b, 1)) (k : jE K M d (pc + 1) ls (.int x.toInt8.toInt32 :: st) h Q mc ms) : jE K M d pc ls (.int x :: st) h Q mc ms :=
  fun p e R s m as bl me c H lo ce sl la hC hc hs hl hw hL => lv_i2b hC.1 hC.2.1 hd rfl (k p e R s m as bl me c H lo ce sl la hC hc hs hl hw hL)
theorem j_i2c {x : Int32} (hd : decode M.2.1 pc = .ok (.i2c, 1)) (k : jE K M d (pc + 1) ls (.int (x.toUInt32 % 65536).toInt32 :: st) h Q mc ms) : jE K M d pc ls (.int x :: st) h Q mc ms :=
  fun p e R s m as bl me c H lo ce sl la hC hc hs hl hw hL => lv_i2c hC.1 hC.2.1 hd rfl (k p e R s m as bl me c H lo ce sl la hC hc hs hl hw hL)
theorem j_dup {v : Value} (hd : decode M.2.1 pc = .ok (.dup, 1)) (hv : v.category = 1) (k : jE K M d (pc + 1) ls (v :: v :: st) h Q mc ms) : jE K M d pc ls (v :: st) h Q mc ms :=
  fun p e R s m as bl me c H lo ce sl la hC hc hs hl hw hL => lv_dup hC.1 hC.2.1 hd ((j_cat K _).trans hv) (k p e R s m as bl me c H lo ce sl la hC hc hs hl hw hL)
theorem j_pop {v : Value} (hd : decode M.2.1 pc = .ok (.pop, 1)) (hv : v.category = 1) (k : jE K M d (pc + 1) ls (st) h Q mc ms) : jE K M d pc ls (v :: st) h Q mc ms :=
  fun p e R s m as bl me c H lo ce sl la hC hc hs hl hw hL => lv_pop hC.1 hC.2.1 hd ((j_cat K _).trans hv) (k p e R s m as bl me c H lo ce sl la hC hc hs hl hw hL)
theorem j_dup_x1 {v w : Value} (hd : decode M.2.1 pc = .ok (.dup_x1, 1)) (hv : v.category = 1) (hw9 : w.category = 1) (k : jE K M d (pc + 1) ls (v :: w :: v :: st) h Q mc ms) : jE K M d pc ls (v :: w :: st) h Q mc ms :=
  fun p e R s m as bl me c H lo ce sl la hC hc hs hl hw hL => lv_dup_x1 hC.1 hC.2.1 hd ((j_cat K _).trans hv) ((j_cat K _).trans hw9) (k p e R s m as bl me c H lo ce sl la hC hc hs hl hw hL)
theorem j_dup_x2 {v w u : Value} (hd : decode M.2.1 pc = .ok (.dup_x2, 1)) (hv : v.category = 1) (hw9 : w.category = 1) (hu : u.category = 1) (k : jE K M d (pc + 1) ls (v :: w :: u :: v :: st) h Q mc ms) : jE K M d pc ls (v :: w :: u :: st) h Q mc ms :=
  fun p e R s m as bl me c H lo ce sl la hC hc hs hl hw hL => lv_dup_x2 hC.1 hC.2.1 hd ((j_cat K _).trans hv) ((j_cat K _).trans hw9) ((j_cat K _).trans hu) (k p e R s m as bl me c H lo ce sl la hC hc hs hl hw hL)
theorem j_dup2 {v w : Value} (hd : decode M.2.1 pc = .ok (.dup2, 1)) (hv : v.category = 1) (hw9 : w.category = 1) (k : jE K M d (pc + 1) ls (v :: w :: v :: w :: st) h Q mc ms) : jE K M d pc ls (v :: w :: st) h Q mc ms :=
  fun p e R s m as bl me c H lo ce sl la hC hc hs hl hw hL => lv_dup2_11 hC.1 hC.2.1 hd ((j_cat K _).trans hv) ((j_cat K _).trans hw9) (k p e R s m as bl me c H lo ce sl la hC hc hs hl hw hL)
theorem j_goto {off : Int} {tgt : Nat} (hd : decode M.2.1 pc = .ok (.goto off, 3)) (ht : (pc : Int) + off = (tgt : Int)) (k : jE K M d tgt ls st h Q mc ms) : jE K M d pc ls st h Q mc ms :=
  fun p e R s m as bl me c H lo ce sl la hC hc hs hl hw hL => lv_goto hC.1 hC.2.1 hd ht (k p e R s m as bl me c H lo ce sl la hC hc hs hl hw hL)
theorem j_if_eq {x : Int32} {off : Int} {tgt : Nat} (hd : decode M.2.1 pc = .ok (.ifCond .eq off, 3)) (ht : (pc : Int) + off = (tgt : Int)) (kt : x = 0 → jE K M d tgt ls st h Q mc ms) (kf : ¬ x = 0 → jE K M d (pc + 3) ls st h Q mc ms) : jE K M d pc ls (.int x :: st) h Q mc ms :=
  fun p e R s m as bl me c H lo ce sl la hC hc hs hl hw hL => lv_if_eq hC.1 hC.2.1 hd ht (fun q => kt q p e R s m as bl me c H lo ce sl la hC hc hs hl hw hL) (fun q => kf q p e R s m as bl me c H lo ce sl la hC hc hs hl hw hL)
theorem j_if_eqT {x : Int32} {off : Int} {tgt : Nat} (hd : decode M.2.1 pc = .ok (.ifCond .eq off, 3)) (ht : (pc : Int) + off = (tgt : Int)) (q : x = 0) (kt : jE K M d tgt ls st h Q mc ms) : jE K M d pc ls (.int x :: st) h Q mc ms := j_if_eq hd ht (fun _ => kt) (fun z => absurd q (by first | exact z | exact fun w => z w | exact not_not_intro z))
theorem j_if_eqF {x : Int32} {off : Int} {tgt : Nat} (hd : decode M.2.1 pc = .ok (.ifCond .eq off, 3)) (ht : (pc : Int) + off = (tgt : Int)) (q : ¬ x = 0) (kf : jE K M d (pc + 3) ls st h Q mc ms) : jE K M d pc ls (.int x :: st) h Q mc ms := j_if_eq hd ht (fun z => absurd q (by first | exact z | exact fun w => w z | exact not_not_intro z)) (fun _ => kf)
theorem j_icmp_eq {x y : Int32} {off : Int} {tgt : Nat} (hd : decode M.2.1 pc = .ok (.if_icmp .eq off, 3)) (ht : (pc : Int) + off = (tgt : Int)) (kt : x = y → jE K M d tgt ls st h Q mc ms) (kf : ¬ x = y → jE K M d (pc + 3) ls st h Q mc ms) : jE K M d pc ls (.int y :: .int x :: st) h Q mc ms :=
  fun p e R s m as bl me c H lo ce sl la hC hc hs hl hw hL => lv_icmp_eq hC.1 hC.2.1 hd ht (fun q => kt q p e R s m as bl me c H lo ce sl la hC hc hs hl hw hL) (fun q => kf q p e R s m as bl me c H lo ce sl la hC hc hs hl hw hL)
theorem j_icmp_eqT {x y : Int32} {off : Int} {tgt : Nat} (hd : decode M.2.1 pc = .ok (.if_icmp .eq off, 3)) (ht : (pc : Int) + off = (tgt : Int)) (q : x = y) (kt : jE K M d tgt ls st h Q mc ms) : jE K M d pc ls (.int y :: .int x :: st) h Q mc ms := j_icmp_eq hd ht (fun _ => kt) (fun z => absurd q (by first | exact z | exact fun w => z w | exact not_not_intro z))
theorem j_icmp_eqF {x y : Int32} {off : Int} {tgt : Nat} (hd : decode M.2.1 pc = .ok (.if_icmp .eq off, 3)) (ht : (pc : Int) + off = (tgt : Int)) (q : ¬ x = y) (kf : jE K M d (pc + 3) ls st h Q mc ms) : jE K M d pc ls (.int y :: .int x :: st) h Q mc ms := j_icmp_eq hd ht (fun z => absurd q (by first | exact z | exact fun w => w z | exact not_not_intro z)) (fun _ => kf)
theorem j_if_ne {x : Int32} {off : Int} {tgt : Nat} (hd : decode M.2.1 pc = .ok (.ifCond .ne off, 3)) (ht : (pc : Int) + off = (tgt : Int)) (kt : ¬ x = 0 → jE K M d tgt ls st h Q mc ms) (kf : x = 0 → jE K M d (pc + 3) ls st h Q mc ms) : jE K M d pc ls (.int x :: st) h Q mc ms :=
  fun p e R s m as bl me c H lo ce sl la hC hc hs hl hw hL => lv_if_ne hC.1 hC.2.1 hd ht (fun q => kt q p e R s m as bl me c H lo ce sl la hC hc hs hl hw hL) (fun q => kf q p e R s m as bl me c H lo ce sl la hC hc hs hl hw hL)
theorem j_if_neT {x : Int32} {off : Int} {tgt : Nat} (hd : decode M.2.1 pc = .ok (.ifCond .ne off, 3)) (ht : (pc : Int) + off = (tgt : Int)) (q : ¬ x = 0) (kt : jE K M d tgt ls st h Q mc ms) : jE K M d pc ls (.int x :: st) h Q mc ms := j_if_ne hd ht (fun _ => kt) (fun z => absurd q (by first | exact z | exact fun w => z w | exact not_not_intro z))
theorem j_if_neF {x : Int32} {off : Int} {tgt : Nat} (hd : decode M.2.1 pc = .ok (.ifCond .ne off, 3)) (ht : (pc : Int) + off = (tgt : Int)) (q : x = 0) (kf : jE K M d (pc + 3) ls st h Q mc ms) : jE K M d pc ls (.int x :: st) h Q mc ms := j_if_ne hd ht (fun z => absurd q (by first | exact z | exact fun w => w z | exact not_not_intro z)) (fun _ => kf)
theorem j_icmp_ne {x y : Int32} {off : Int} {tgt : Nat} (hd : decode M.2.1 pc = .ok (.if_icmp .ne off, 3)) (ht : (pc : Int) + off = (tgt : Int)) (kt : ¬ x = y → jE K M d tgt ls st h Q mc ms) (kf : x = y → jE K M d (pc + 3) ls st h Q mc ms) : jE K M d pc ls (.int y :: .int x :: st) h Q mc ms :=
  fun p e R s m as bl me c H lo ce sl la hC hc hs hl hw hL => lv_icmp_ne hC.1 hC.2.1 hd ht (fun q => kt q p e R s m as bl me c H lo ce sl la hC hc hs hl hw hL) (fun q => kf q p e R s m as bl me c H lo ce sl la hC hc hs hl hw hL)
theorem j_icmp_neT {x y : Int32} {off : Int} {tgt : Nat} (hd : decode M.2.1 pc = .ok (.if_icmp .ne off, 3)) (ht : (pc : Int) + off = (tgt : Int)) (q : ¬ x = y) (kt : jE K M d tgt ls st h Q mc ms) : jE K M d pc ls (.int y :: .int x :: st) h Q mc ms := j_icmp_ne hd ht (fun _ => kt) (fun z => absurd q (by first | exact z | exact fun w => z w | exact not_not_intro z))
theorem j_icmp_neF {x y : Int32} {off : Int} {tgt : Nat} (hd : decode M.2.1 pc = .ok (.if_icmp .ne off, 3)) (ht : (pc : Int) + off = (tgt : Int)) (q : x = y) (kf : jE K M d (pc + 3) ls st h Q mc ms) : jE K M d pc ls (.int y :: .int x :: st) h Q mc ms := j_icmp_ne hd ht (fun z => absurd q (by first | exact z | exact fun w => w z | exact not_not_intro z)) (fun _ => kf)
theorem j_if_lt {x : Int32} {off : Int} {tgt : Nat} (hd : decode M.2.1 pc = .ok (.ifCond .lt off, 3)) (ht : (pc : Int) + off = (tgt : Int)) (kt : x < 0 → jE K M d tgt ls st h Q mc ms) (kf : ¬ x < 0 → jE K M d (pc + 3) ls st h Q mc ms) : jE K M d pc ls (.int x :: st) h Q mc ms :=
  fun p e R s m as bl me c H lo ce sl la hC hc hs hl hw hL => lv_if_lt hC.1 hC.2.1 hd ht (fun q => kt q p e R s m as bl me c H lo ce sl la hC hc hs hl hw hL) (fun q => kf q p e R s m as bl me c H lo ce sl la hC hc hs hl hw hL)
theorem j_if_ltT {x : Int32} {off : Int} {tgt : Nat} (hd : decode M.2.1 pc = .ok (.ifCond .lt off, 3)) (ht : (pc : Int) + off = (tgt : Int)) (q : x < 0) (kt : jE K M d tgt ls st h Q mc ms) : jE K M d pc ls (.int x :: st) h Q mc ms := j_if_lt hd ht (fun _ => kt) (fun z => absurd q (by first | exact z | exact fun w => z w | exact not_not_intro z))
theorem j_if_ltF {x : Int32} {off : Int} {tgt : Nat} (hd : decode M.2.1 pc = .ok (.ifCond .lt off, 3)) (ht : (pc : Int) + off = (tgt : Int)) (q : ¬ x < 0) (kf : jE K M d (pc + 3) ls st h Q mc ms) : jE K M d pc ls (.int x :: st) h Q mc ms := j_if_lt hd ht (fun z => absurd q (by first | exact z | exact fun w => w z | exact not_not_intro z)) (fun _ => kf)
theorem j_icmp_lt {x y : Int32} {off : Int} {tgt : Nat} (hd : decode M.2.1 pc = .ok (.if_icmp .lt off, 3)) (ht : (pc : Int) + off = (tgt : Int)) (kt : x < y → jE K M d tgt ls st h Q mc ms) (kf : ¬ x < y → jE K M d (pc + 3) ls st h Q mc ms) : jE K M d pc ls (.int y :: .int x :: st) h Q mc ms :=
  fun p e R s m as bl me c H lo ce sl la hC hc hs hl hw hL => lv_icmp_lt hC.1 hC.2.1 hd ht (fun q => kt q p e R s m as bl me c H lo ce sl la hC hc hs hl hw hL) (fun q => kf q p e R s m as bl me c H lo ce sl la hC hc hs hl hw hL)
theorem j_icmp_ltT {x y : Int32} {off : Int} {tgt : Nat} (hd : decode M.2.1 pc = .ok (.if_icmp .lt off, 3)) (ht : (pc : Int) + off = (tgt : Int)) (q : x < y) (kt : jE K M d tgt ls st h Q mc ms) : jE K M d pc ls (.int y :: .int x :: st) h Q mc ms := j_icmp_lt hd ht (fun _ => kt) (fun z => absurd q (by first | exact z | exact fun w => z w | exact not_not_intro z))
theorem j_icmp_ltF {x y : Int32} {off : Int} {tgt : Nat} (hd : decode M.2.1 pc = .ok (.if_icmp .lt off, 3)) (ht : (pc : Int) + off = (tgt : Int)) (q : ¬ x < y) (kf : jE K M d (pc + 3) ls st h Q mc ms) : jE K M d pc ls (.int y :: .int x :: st) h Q mc ms := j_icmp_lt hd ht (fun z => absurd q (by first | exact z | exact fun w => w z | exact not_not_intro z)) (fun _ => kf)
theorem j_if_ge {x : Int32} {off : Int} {tgt : Nat} (hd : decode M.2.1 pc = .ok (.ifCond .ge off, 3)) (ht : (pc : Int) + off = (tgt : Int)) (kt : 0 ≤ x → jE K M d tgt ls st h Q mc ms) (kf : ¬ 0 ≤ x → jE K M d (pc + 3) ls st h Q mc ms) : jE K M d pc ls (.int x :: st) h Q mc ms :=
  fun p e R s m as bl me c H lo ce sl la hC hc hs hl hw hL => lv_if_ge hC.1 hC.2.1 hd ht (fun q => kt q p e R s m as bl me c H lo ce sl la hC hc hs hl hw hL) (fun q => kf q p e R s m as bl me c H lo ce sl la hC hc hs hl hw hL)
theorem j_if_geT {x : Int32} {off : Int} {tgt : Nat} (hd : decode M.2.1 pc = .ok (.ifCond .ge off, 3)) (ht : (pc : Int) + off = (tgt : Int)) (q : 0 ≤ x) (kt : jE K M d tgt ls st h Q mc ms) : jE K M d pc ls (.int x :: st) h Q mc ms := j_if_ge hd ht (fun _ => kt) (fun z => absurd q (by first | exact z | exact fun w => z w | exact not_not_intro z))
theorem j_if_geF {x : Int32} {off : Int} {tgt : Nat} (hd : decode M.2.1 pc = .ok (.ifCond .ge off, 3)) (ht : (pc : Int) + off = (tgt : Int)) (q : ¬ 0 ≤ x) (kf : jE K M d (pc + 3) ls st h Q mc ms) : jE K M d pc ls (.int x :: st) h Q mc ms := j_if_ge hd ht (fun z => absurd q (by first | exact z | exact fun w => w z | exact not_not_intro z)) (fun _ => kf)
theorem j_icmp_ge {x y : Int32} {off : Int} {tgt : Nat} (hd : decode M.2.1 pc = .ok (.if_icmp .ge off, 3)) (ht : (pc : Int) + off = (tgt : Int)) (kt : y ≤ x → jE K M d tgt ls st h Q mc ms) (kf : ¬ y ≤ x → jE K M d (pc + 3) ls st h Q mc ms) : jE K M d pc ls (.int y :: .int x :: st) h Q mc ms :=
  fun p e R s m as bl me c H lo ce sl la hC hc hs hl hw hL => lv_icmp_ge hC.1 hC.2.1 hd ht (fun q => kt q p e R s m as bl me c H lo ce sl la hC hc hs hl hw hL) (fun q => kf q p e R s m as bl me c H lo ce sl la hC hc hs hl hw hL)
theorem j_icmp_geT {x y : Int32} {off : Int} {tgt : Nat} (hd : decode M.2.1 pc = .ok (.if_icmp .ge off, 3)) (ht : (pc : Int) + off = (tgt : Int)) (q : y ≤ x) (kt : jE K M d tgt ls st h Q mc ms) : jE K M d pc ls (.int y :: .int x :: st) h Q mc ms := j_icmp_ge hd ht (fun _ => kt) (fun z => absurd q (by first | exact z | exact fun w => z w | exact not_not_intro z))
theorem j_icmp_geF {x y : Int32} {off : Int} {tgt : Nat} (hd : decode M.2.1 pc = .ok (.if_icmp .ge off, 3)) (ht : (pc : Int) + off = (tgt : Int)) (q : ¬ y ≤ x) (kf : jE K M d (pc + 3) ls st h Q mc ms) : jE K M d pc ls (.int y :: .int x :: st) h Q mc ms := j_icmp_ge hd ht (fun z => absurd q (by first | exact z | exact fun w => w z | exact not_not_intro z)) (fun _ => kf)
theorem j_if_gt {x : Int32} {off : Int} {tgt : Nat} (hd : decode M.2.1 pc = .ok (.ifCond .gt off, 3)) (ht : (pc : Int) + off = (tgt : Int)) (kt : 0 < x → jE K M d tgt ls st h Q mc ms) (kf : ¬ 0 < x → jE K M d (pc + 3) ls st h Q mc ms) : jE K M d pc ls (.int x :: st) h Q mc ms :=
  fun p e R s m as bl me c H lo ce sl la hC hc hs hl hw hL => lv_if_gt hC.1 hC.2.1 hd ht (fun q => kt q p e R s m as bl me c H lo ce sl la hC hc hs hl hw hL) (fun q => kf q p e R s m as bl me c H lo ce sl la hC hc hs hl hw hL)
theorem j_if_gtT {x : Int32} {off : Int} {tgt : Nat} (hd : decode M.2.1 pc = .ok (.ifCond .gt off, 3)) (ht : (pc : Int) + off = (tgt : Int)) (q : 0 < x) (kt : jE K M d tgt ls st h Q mc ms) : jE K M d pc ls (.int x :: st) h Q mc ms := j_if_gt hd ht (fun _ => kt) (fun z => absurd q (by first | exact z | exact fun w => z w | exact not_not_intro z))
theorem j_if_gtF {x : Int32} {off : Int} {tgt : Nat} (hd : decode M.2.1 pc = .ok (.ifCond .gt off, 3)) (ht : (pc : Int) + off = (tgt : Int)) (q : ¬ 0 < x) (kf : jE K M d (pc + 3) ls st h Q mc ms) : jE K M d pc ls (.int x :: st) h Q mc ms := j_if_gt hd ht (fun z => absurd q (by first | exact z | exact fun w => w z | exact not_not_intro z)) (fun _ => kf)
theorem j_icmp_gt {x y : Int32} {off : Int} {tgt : Nat} (hd : decode M.2.1 pc = .ok (.if_icmp .gt off, 3)) (ht : (pc : Int) + off = (tgt : Int)) (kt : y < x → jE K M d tgt ls st h Q mc ms) (kf : ¬ y < x → jE K M d (pc + 3) ls st h Q mc ms) : jE K M d pc ls (.int y :: .int x :: st) h Q mc ms :=
  fun p e R s m as bl me c H lo ce sl la hC hc hs hl hw hL => lv_icmp_gt hC.1 hC.2.1 hd ht (fun q => kt q p e R s m as bl me c H lo ce sl la hC hc hs hl hw hL) (fun q => kf q p e R s m as bl me c H lo ce sl la hC hc hs hl hw hL)
theorem j_icmp_gtT {x y : Int32} {off : Int} {tgt : Nat} (hd : decode M.2.1 pc = .ok (.if_icmp .gt off, 3)) (ht : (pc : Int) + off = (tgt : Int)) (q : y < x) (kt : jE K M d tgt ls st h Q mc ms) : jE K M d pc ls (.int y :: .int x :: st) h Q mc ms := j_icmp_gt hd ht (fun _ => kt) (fun z => absurd q (by first | exact z | exact fun w => z w | exact not_not_intro z))
theorem j_icmp_gtF {x y : Int32} {off : Int} {tgt : Nat} (hd : decode M.2.1 pc = .ok (.if_icmp .gt off, 3)) (ht : (pc : Int) + off = (tgt : Int)) (q : ¬ y < x) (kf : jE K M d (pc + 3) ls st h Q mc ms) : jE K M d pc ls (.int y :: .int x :: st) h Q mc ms := j_icmp_gt hd ht (fun z => absurd q (by first | exact z | exact fun w => w z | exact not_not_intro z)) (fun _ => kf)
theorem j_if_le {x : Int32} {off : Int} {tgt : Nat} (hd : decode M.2.1 pc = .ok (.ifCond .le off, 3)) (ht : (pc : Int) + off = (tgt : Int)) (kt : x ≤ 0 → jE K M d tgt ls st h Q mc ms) (kf : ¬ x ≤ 0 → jE K M d (pc + 3) ls st h Q mc ms) : jE K M d pc ls (.int x :: st) h Q mc ms :=
  fun p e R s m as bl me c H lo ce sl la hC hc hs hl hw hL => lv_if_le hC.1 hC.2.1 hd ht (fun q => kt q p e R s m as bl me c H lo ce sl la hC hc hs hl hw hL) (fun q => kf q p e R s m as bl me c H lo ce sl la hC hc hs hl hw hL)
theorem j_if_leT {x : Int32} {off : Int} {tgt : Nat} (hd : decode M.2.1 pc = .ok (.ifCond .le off, 3)) (ht : (pc : Int) + off = (tgt : Int)) (q : x ≤ 0) (kt : jE K M d tgt ls st h Q mc ms) : jE K M d pc ls (.int x :: st) h Q mc ms := j_if_le hd ht (fun _ => kt) (fun z => absurd q (by first | exact z | exact fun w => z w | exact not_not_intro z))
theorem j_if_leF {x : Int32} {off : Int} {tgt : Nat} (hd : decode M.2.1 pc = .ok (.ifCond .le off, 3)) (ht : (pc : Int) + off = (tgt : Int)) (q : ¬ x ≤ 0) (kf : jE K M d (pc + 3) ls st h Q mc ms) : jE K M d pc ls (.int x :: st) h Q mc ms := j_if_le hd ht (fun z => absurd q (by first | exact z | exact fun w => w z | exact not_not_intro z)) (fun _ => kf)
theorem j_icmp_le {x y : Int32} {off : Int} {tgt : Nat} (hd : decode M.2.1 pc = .ok (.if_icmp .le off, 3)) (ht : (pc : Int) + off = (tgt : Int)) (kt : x ≤ y → jE K M d tgt ls st h Q mc ms) (kf : ¬ x ≤ y → jE K M d (pc + 3) ls st h Q mc ms) : jE K M d pc ls (.int y :: .int x :: st) h Q mc ms :=
  fun p e R s m as bl me c H lo ce sl la hC hc hs hl hw hL => lv_icmp_le hC.1 hC.2.1 hd ht (fun q => kt q p e R s m as bl me c H lo ce sl la hC hc hs hl hw hL) (fun q => kf q p e R s m as bl me c H lo ce sl la hC hc hs hl hw hL)
theorem j_icmp_leT {x y : Int32} {off : Int} {tgt : Nat} (hd : decode M.2.1 pc = .ok (.if_icmp .le off, 3)) (ht : (pc : Int) + off = (tgt : Int)) (q : x ≤ y) (kt : jE K M d tgt ls st h Q mc ms) : jE K M d pc ls (.int y :: .int x :: st) h Q mc ms := j_icmp_le hd ht (fun _ => kt) (fun z => absurd q (by first | exact z | exact fun w => z w | exact not_not_intro z))
theorem j_icmp_leF {x y : Int32} {off : Int} {tgt : Nat} (hd : decode M.2.1 pc = .ok (.if_icmp .le off, 3)) (ht : (pc : Int) + off = (tgt : Int)) (q : ¬ x ≤ y) (kf : jE K M d (pc + 3) ls st h Q mc ms) : jE K M d pc ls (.int y :: .int x :: st) h Q mc ms := j_icmp_le hd ht (fun z => absurd q (by first | exact z | exact fun w => w z | exact not_not_intro z)) (fun _ => kf)
theorem j_lg_mem {ls : List (Nat × Value)} {i : Nat} {v : Value} (h : j_lg ls i = some v) : (i, v) ∈ ls := by
  induction ls with
  | nil => cases h
  | cons q r ih =>
    unfold j_lg at h
    split at h
    · rename_i hq
      cases h
      rw [← hq]
      exact List.mem_cons_self
    · exact List.mem_cons_of_mem _ (ih h)
theorem j_iinc {i : Nat} {n : Int} {x v : Int32} (hd : decode M.2.1 pc = .ok (.iinc i n, 3)) (hg : j_lg ls i = some (.int x)) (hv : x + Int32.ofInt n = v) (hn : i < M.2.2.1) (k : jE K M d (pc + 3) (j_ls ls i (.int v)) st h Q mc ms) : jE K M d pc ls st h Q mc ms := by
  intro p e R s m as bl me c H lo ce sl la hC hc hs hl hw hL
  obtain ⟨k0, hk0⟩ := List.getElem?_of_mem (List.mem_map.mpr ⟨(i, .int x), j_lg_mem hg, rfl⟩ : (j_l K (i, .int x)) ∈ ls.map (j_l K))
  exact lv_iinc hC.1 hC.2.1 hd hl (k := k0) (x := x) hk0 hv hn (j_ls_map K ls i (.int v)) (fun la' hl' => k p e R s m as bl me c H lo ce sl la' hC hc hs hl' hw hL)
/-- the top of the stack under another name -/
theorem j_top {v w : Value} (hv : v = w) (k : jE K M d pc ls (w :: st) h Q mc ms) : jE K M d pc ls (v :: st) h Q mc ms := hv ▸ k
theorem j_st {st' : List Value} (hv : st = st') (k : jE K M d pc ls st' h Q mc ms) : jE K M d pc ls st h Q mc ms := hv ▸ k
theorem j_lsr {ls' : List (Nat × Value)} (hv : ls = ls') (k : jE K M d pc ls' st h Q mc ms) : jE K M d pc ls st h Q mc ms := hv ▸ k
theorem j_hp {h' : jH} (hv : h = h') (k : jE K M d pc ls st h' Q mc ms) : jE K M d pc ls st h Q mc ms := hv ▸ k
/-- fewer locals, in any order -/
theorem j_few {ls' : List (Nat × Value)} (hs : ∀ q ∈ ls', j_lg ls q.1 = some q.2) (k : jE K M d pc ls' st h Q mc ms) : jE K M d pc ls st h Q mc ms :=
  fun p e R s m as bl me c H lo ce sl la hC hc hs' hl hw hL => k p e R s m as bl me c H lo ce sl la hC hc hs' ⟨hl.1, hl.2.1, fun q hq => by
    obtain ⟨r, hr, rfl⟩ := List.mem_map.mp hq
    exact j_lg_at hl (hs r hr)⟩ hw hL
theorem j_wide {mc' ms' : Nat} {Q' : jO → jH → Prop} (h1 : mc' ≤ mc) (h2 : ms' ≤ ms) (hQ : ∀ o g, Q' o g → Q o g) (k : jE K M d pc ls st h Q' mc' ms') : jE K M d pc ls st h Q mc ms :=
  fun p e R s m as bl me c H lo ce sl la hC hc hs hl hw hL => j_mono (fun t => by
    rintro ⟨o, mo, h', L, a1, a2, a3, a4, a5, a6, a7, a8⟩
    exact ⟨o, mo, h', L, a1, a2, a3, hQ _ _ a4, a5, a6, a7.mono (by omega) (by omega), a8⟩) (k p e R s m as bl me c H lo ce sl la hC (by omega) (by omega) hl hw hL)
/-! returns -/
theorem j_iret {v : Int32} (hr : M.2.2.2.1 = some .int) (hd : decode M.2.1 pc = .ok (.ireturn, 1)) (hq : Q (.inl (some (.int v))) h) : jE K M d pc ls [.int v] h Q mc ms := by
  intro p e R s m as bl me c H lo ce sl la hC hc hs hl hw hL
  have hlocks := hC.2.2.2.2.2.2.1
  refine j_mono ?_ (W.iret (Qc := fun _ _ o t => o = .returned (some (.int v)) ∧ t.heap = H) (free := fun q => K.2.1 ≤ q) hC.1 hC.2.1 (hC.2.2.2.2.2.1.trans hr) (fun t ht _ => ⟨rfl, ht⟩) hL hd hlocks)
  rintro t ⟨o, h1, h2, ⟨rfl, hh⟩, L, ⟨-, hW, hsame⟩, hL'⟩
  exact ⟨_, .inl (some (.int v)), h, L, h1, h2, rfl, hq, hh ▸ hw, hW, hsame.mono (by simp [j_xc]) (by simp [j_xc]), hL'⟩
theorem j_zret {v : Int32} {ty : FieldType} (hr : M.2.2.2.1 = some ty) (hn : narrow ty (.int v) = .int v) (hd : decode M.2.1 pc = .ok (.ireturn, 1)) (hq : Q (.inl (some (.int v))) h) : jE K M d pc ls [.int v] h Q mc ms := by
  intro p e R s m as bl me c H lo ce sl la hC hc hs hl hw hL
  have hlocks := hC.2.2.2.2.2.2.1
  refine j_mono ?_ (W.zret (Qc := fun _ _ o t => o = .returned (some (.int v)) ∧ t.heap = H) (free := fun q => K.2.1 ≤ q) hC.1 hC.2.1 (hC.2.2.2.2.2.1.trans hr) hn (fun t ht _ => ⟨rfl, ht⟩) hL hd hlocks)
  rintro t ⟨o, h1, h2, ⟨rfl, hh⟩, L, ⟨-, hW, hsame⟩, hL'⟩
  exact ⟨_, .inl (some (.int v)), h, L, h1, h2, rfl, hq, hh ▸ hw, hW, hsame.mono (by simp [j_xc]) (by simp [j_xc]), hL'⟩
theorem j_vret (hr : M.2.2.2.1 = none) (hd : decode M.2.1 pc = .ok (.return_, 1)) (hq : Q (.inl none) h) : jE K M d pc ls [] h Q mc ms := by
  intro p e R s m as bl me c H lo ce sl la hC hc hs hl hw hL
  have hlocks := hC.2.2.2.2.2.2.1
  refine j_mono ?_ (W.vret (Qc := fun _ _ o t => o = .returned none ∧ t.heap = H) (free := fun q => K.2.1 ≤ q) hC.1 hC.2.1 (hC.2.2.2.2.2.1.trans hr) (fun t ht _ => ⟨rfl, ht⟩) hL hd hlocks)
  rintro t ⟨o, h1, h2, ⟨rfl, hh⟩, L, ⟨-, hW, hsame⟩, hL'⟩
  exact ⟨_, .inl none, h, L, h1, h2, rfl, hq, hh ▸ hw, hW, hsame.mono (by simp [j_xc]) (by simp [j_xc]), hL'⟩
theorem j_aret {i : Nat} {rt : FieldType} (hr : M.2.2.2.1 = some rt) (hrt : (∃ n, rt = .object n) ∨ ∃ t, rt = .array t) (hd : decode M.2.1 pc = .ok (.areturn, 1)) (hq : Q (.inl (some (.ref i))) h) : jE K M d pc ls [.ref i] h Q mc ms := by
  intro p e R s m as bl me c H lo ce sl la hC hc hs hl hw hL
  have hlocks := hC.2.2.2.2.2.2.1
  refine j_mono ?_ (W.aret (Qc := fun _ _ o t => o = .returned (some (.ref (j_adr K i))) ∧ t.heap = H) (free := fun q => K.2.1 ≤ q) hC.1 hC.2.1 (hC.2.2.2.2.2.1.trans hr) hrt (Or.inr ⟨_, rfl⟩) (fun t ht _ => ⟨rfl, ht⟩) hL hd hlocks)
  rintro t ⟨o, h1, h2, ⟨rfl, hh⟩, L, ⟨-, hW, hsame⟩, hL'⟩
  exact ⟨_, .inl (some (.ref i)), h, L, h1, h2, rfl, hq, hh ▸ hw, hW, hsame.mono (by simp [j_xc]) (by simp [j_xc]), hL'⟩
end JROWS
end
section
/-! cells of the world -/
theorem j_P1 {D : va_G} {cl : List vw_C} {q : Nat × va_E} {H : Heap} (h : va_at D cl q H) : va_P D cl [q] H := by
  intro k x hx
  cases k with
  | zero => cases hx; exact h
  | succ k => cases hx
theorem jW.at {K : jK} {h : jH} {H : Heap} (hw : jW K h H) {i : Nat} {x : va_E} (hx : j_get h i = some x) : va_at K.2.2.2.1 classes (j_adr K i, j_e K x) H := by
  unfold j_get at hx
  split at hx
  · cases hx
  · rename_i hi
    have h1 := hw.1 (i - 32) x hx
    rw [show j_adr K i = K.2.1 + (i - 32) by simp [j_adr, hi]]
    exact h1
theorem jW.put {K : jK} {h : jH} {H H1 : Heap} (hw : jW K h H) {i : Nat} {x y : va_E} (hx : j_get h i = some x) (hat : va_at K.2.2.2.1 classes (j_adr K i, j_e K y) H1) (hz : H1.size = H.size) (ho : ∀ q : Nat, q ≠ j_adr K i → H1[q]? = H[q]?) : jW K (j_set h i y) H1 := by
  unfold j_get at hx
  split at hx
  · cases hx
  · rename_i hi
    have ha : j_adr K i = K.2.1 + (i - 32) := by simp [j_adr, hi]
    rw [ha] at hat ho
    have hlt : i - 32 < h.length := (List.getElem?_eq_some_iff.mp hx).1
    refine ⟨fun j z hj => ?_, by rw [hz, hw.2.1]; simp [j_set], fun q hq => (ho q (by omega)).trans (hw.2.2 q hq)⟩
    by_cases e : j = i - 32
    · subst e
      have hj' : (h.set (i - 32) y)[i - 32]? = some z := hj
      rw [List.getElem?_set_self hlt] at hj'
      cases hj'
      exact hat
    · have hj' : (h.set (i - 32) y)[j]? = some z := hj
      rw [List.getElem?_set_ne (Ne.symm e)] at hj'
      exact (hw.1 j z hj').kept (ho _ (by show K.2.1 + j ≠ _; omega))
theorem jW.push {K : jK} {h : jH} {H H1 : Heap} (hw : jW K h H) {y : va_E} (hat : va_at K.2.2.2.1 classes (K.2.1 + h.length, j_e K y) H1) (hz : H1.size = H.size + 1) (ho : ∀ q : Nat, q < H.size → H1[q]? = H[q]?) : jW K (h ++ [y]) H1 := by
  have hsz := hw.2.1
  refine ⟨fun j z hj => ?_, by rw [hz, hsz]; simp; omega, fun q hq => (ho q (by omega)).trans (hw.2.2 q hq)⟩
  by_cases e : j < h.length
  · rw [List.getElem?_append_left e] at hj
    exact (hw.1 j z hj).kept (ho _ (by show K.2.1 + j < _; omega))
  · rw [List.getElem?_append_right (by omega)] at hj
    have e2 : j - h.length = 0 := by
      have := (List.getElem?_eq_some_iff.mp hj).1
      simp at this
      omega
    rw [e2] at hj
    cases hj
    rw [show j = h.length by omega]
    exact hat
/-- what the tables say of a field that an instruction names: own: the instruction's class; ci, k: the class and the field by number; its type; final or not -/
def jF (own : String) (idx ci k : Nat) (ty : FieldType) (fin : Bool) : Prop := ∃ (C : String) (T : u_T) (N : Nat) (ty0 : Nat → FieldType), classes[ci]? = some (C, T, N) ∧ k < N ∧ (∀ w ∈ u_ws C T N, w ∈ jt) ∧ (T k).1 = C ∧
  (Cond.fieldLink own idx C (T k).2.1 (T k).2.2.1 ∈ jt ∨ ∃ host, Cond.fieldLinkNest own idx C (T k).2.1 (T k).2.2.1 host ∈ jt) ∧ (∀ k, k < N → parseFieldDescriptor (T k).2.2.1 = some (ty0 k)) ∧ (∀ a, a < N → ∀ b, b < N → a ≠ b → (T a).2.1 ≠ (T b).2.1) ∧ ty0 k = ty ∧ (T k).2.2.2 = fin
section JHEAP
variable {K : jK} {M : jR} {d pc : Nat} {ls : List (Nat × Value)} {st : List Value} {h : jH} {Q : jO → jH → Prop} {mc ms : Nat}
theorem j_getf {idx ci k i : Nat} {ty : FieldType} {fin : Bool} {fs : List Value} {v : Value} (hd : decode M.2.1 pc = .ok (.getfield idx, 3)) (hf : jF M.1.cls idx ci k ty fin) (hx : j_get h i = some (.inr (ci, fs))) (hv : fs[k]? = some v) (kk : jE K M d (pc + 3) ls (v :: st) h Q mc ms) : jE K M d pc ls (.ref i :: st) h Q mc ms := by
  intro p e R s m as bl me c H lo ce sl la hC hc hs hl hw hL
  obtain ⟨C, T, N, ty0, hcl, hk, hin, hdecl, hlink, -⟩ := hf
  have hP : va_P K.2.2.2.1 classes [(j_adr K i, .inr (ci, fs.map (j_v K)))] H := j_P1 (hw.at hx)
  have hv' : (fs.map (j_v K))[k]? = some (j_v K v) := by rw [List.getElem?_map, hv]; rfl
  have hK := hC.2.2.2.2.2.2.2.2.2.2.2.1
  have hts := hC.2.2.2.2.1
  have kk' := kk p e R s m as bl me c H lo ce sl la hC hc hs hl hw hL
  rcases hlink with hlink | ⟨host, hlink⟩
  · exact va_get (ref := C) hC.1 hC.2.1 hts hin hC.2.2.2.1 hK hP 0 rfl hcl k hk (hts _ hlink) (fun x hx => by rw [hdecl] at hx; exact hx) hv' hd kk'
  · exact va_getN (ref := C) hC.1 hC.2.1 hts hin hC.2.2.2.1 hK hP 0 rfl hcl k hk (hts _ hlink) (fun x hx => by rw [hdecl] at hx; exact hx) hv' hd kk'
theorem j_putf {idx ci k i : Nat} {ty : FieldType} {fs : List Value} {v : Value} {h' : jH} (hd : decode M.2.1 pc = .ok (.putfield idx, 3)) (hf : jF M.1.cls idx ci k ty false) (hx : j_get h i = some (.inr (ci, fs))) (hlen : k < fs.length) (hn : narrow ty (j_v K v) = j_v K v) (hfit : fits ty (j_v K v) = true) (hh : j_set h i (.inr (ci, fs.set k v)) = h')
    (kk : jE K M d (pc + 3) ls st h' Q mc ms) : jE K M d pc ls (v :: .ref i :: st) h Q mc ms := by
  subst hh
  intro p e R s m as bl me c H lo ce sl la hC hc hs hl hw hL
  obtain ⟨C, T, N, ty0, hcl, hk, hin, hdecl, hlink, hty, hnm, rfl, hfin⟩ := hf
  have hK := hC.2.2.2.2.2.2.2.2.2.2.2.1
  have hts := hC.2.2.2.2.1
  have hap := va_apart (own := M.1.cls) hts hin ty0 hty hnm hK hcl
  obtain ⟨r, h1, cell, q1, q2, q3, q4⟩ := hw.at hx
  have hr : r = (C, T, N) := Option.some.inj (h1.symm.trans hcl)
  subst hr
  obtain ⟨hS, hfc, kC, hkC, hkind⟩ := hK.1 ci _ hcl
  obtain ⟨cf, kf, fi, f, hi, hsl⟩ := hS k hk
  have hlay := hts _ (hin _ (u_in_lay hk))
  unfold u_lay at hlay
  rw [if_neg (by rw [hfin]; decide)] at hlay
  have hst := (u_facts hfc hkC (u_lays hts hin hk) hi).1
  have h6 := u_store hfc hkC hkind hlay hi (hty k hk) hn hfit
  have hsame : s.fieldFound? C (T k).2.1 (T k).2.2.1 = some (cf, kf, fi, f) := by rw [hdecl] at hi; exact hi
  have hlen' : k < (fs.map (j_v K)).length := by simpa using hlen
  have key : ∀ H' : Heap, H'[j_adr K i]? = some (cell.setSlot f.slot (j_v K v)) → H'.size = H.size → (∀ q, q ≠ j_adr K i → H'[q]? = H[q]?) → W p K.1 e R s m as bl me c H' (lo ++ [⟨j_adr K i, f.slot⟩]) ce sl (jZ K bl s (ce + mc) (sl + ms) Q) (F0 m (pc + 3) la (st.map (j_v K))) := by
    intro H' e1 e2 e3
    refine kk p e R s m as bl me c H' _ ce sl la hC hc hs hl (hw.put hx ?_ e2 e3) ?_
    · rw [hsl] at e1
      refine ⟨_, hcl, ?_⟩
      have := t_OB.to (V := updV (vp_V (fs.map (j_v K))) k (j_v K v)) ⟨_, e1, q2, q3, t_set q4 hap hk (j_v K v)⟩ (fun j _ => vp_updV_set hlen' (j_v K v) j)
      rw [← List.map_set] at this
      exact this
    · intro q hq
      rcases List.mem_append.mp hq with h2 | h2
      · exact hL q h2
      · rw [List.mem_singleton.mp h2]
        show K.2.1 ≤ j_adr K i
        have : ¬ i < 32 := by
          intro hlt
          simp [j_get, hlt] at hx
        simp [j_adr, this]
  rcases hlink with hlink | ⟨host, hlink⟩
  · exact W.putK hC.1 hC.2.1 (f := f) ⟨hC.2.2.2.1, hts _ hlink, ⟨_, _, _, hsame⟩, hst⟩ (by rw [q2]; exact h6) q1 q3 (by rw [hsl]; exact k2_hasslot (q4 k hk)) rfl rfl hd key
  · exact va_WputK hC.1 hC.2.1 (f := f) hC.2.2.2.1 (hts _ hlink) hsame hst (by rw [q2]; exact h6) q1 q3 (by rw [hsl]; exact k2_hasslot (q4 k hk)) rfl rfl hd key
theorem j_putF {idx ci k i : Nat} {ty : FieldType} {fs : List Value} {v : Value} {h' : jH} (hd : decode M.2.1 pc = .ok (.putfield idx, 3)) (hf : jF M.1.cls idx ci k ty true) (hnI : M.1.name = "<init>") (hl0 : ∃ C T N, classes[ci]? = some (C, T, N) ∧ Cond.fieldLink M.1.cls idx C (T k).2.1 (T k).2.2.1 ∈ jt) (hown : ∀ C T N, classes[ci]? = some (C, T, N) → C = M.1.cls) (hx : j_get h i = some (.inr (ci, fs))) (hlen : k < fs.length) (hn : narrow ty (j_v K v) = j_v K v) (hfit : fits ty (j_v K v) = true) (hh : j_set h i (.inr (ci, fs.set k v)) = h')
    (kk : jE K M d (pc + 3) ls st h' Q mc ms) : jE K M d pc ls (v :: .ref i :: st) h Q mc ms := by
  subst hh
  intro p e R s m as bl me c H lo ce sl la hC hc hs hl hw hL
  obtain ⟨C, T, N, ty0, hcl, hk, hin, hdecl, hlink, hty, hnm, rfl, hfin⟩ := hf
  have hCo := hown C T N hcl
  have hK := hC.2.2.2.2.2.2.2.2.2.2.2.1
  have hts := hC.2.2.2.2.1
  have hap := va_apart (own := M.1.cls) hts hin ty0 hty hnm hK hcl
  obtain ⟨r, h1, cell, q1, q2, q3, q4⟩ := hw.at hx
  have hr : r = (C, T, N) := Option.some.inj (h1.symm.trans hcl)
  subst hr
  obtain ⟨hS, hfc, kC, hkC, hkind⟩ := hK.1 ci _ hcl
  obtain ⟨cf, kf, fi, f, hi, hsl⟩ := hS k hk
  have hlay := hts _ (hin _ (u_in_lay hk))
  unfold u_lay at hlay
  rw [if_pos hfin] at hlay
  have hst := (u_facts hfc hkC (u_lays hts hin hk) hi).1
  have hcf : m.cls = cf := by
    obtain ⟨_, _, c', _, _, _, -, -, hf', -, -, -, hown2, -⟩ := Cond.laysFinal_spec hlay
    have e1 : c' = cf := by have := hi.symm.trans hf'; simp at this; exact this.1.symm
    rw [hdecl, hCo] at hown2
    rw [← e1]; exact Option.some.inj (hC.2.2.2.1.symm.trans hown2)
  have h6 := u_fits hfc hkC hkind (Or.inr hlay) hi (hty k hk) hn hfit
  have hsame : s.fieldFound? C (T k).2.1 (T k).2.2.1 = some (cf, kf, fi, f) := by rw [hdecl] at hi; exact hi
  have hlen' : k < (fs.map (j_v K)).length := by simpa using hlen
  obtain ⟨C', T', N', hcl', hlink0⟩ := hl0
  obtain ⟨rfl, rfl, rfl⟩ : C' = C ∧ T' = T ∧ N' = N := by
    have h9 := Option.some.inj (hcl'.symm.trans hcl)
    simp only [Prod.mk.injEq] at h9
    exact h9
  refine W.putFinK hC.1 hC.2.1 hC.2.2.2.1 (hts _ hlink0) hsame hst hcf (hC.2.2.2.2.2.2.2.1.trans hnI) (by rw [q2]; exact h6) q1 q3 (by rw [hsl]; exact k2_hasslot (q4 k hk)) rfl rfl hd ?_
  intro H' e1 e2 e3
  refine kk p e R s m as bl me c H' _ ce sl la hC hc hs hl (hw.put hx ?_ e2 e3) ?_
  · rw [hsl] at e1
    refine ⟨_, hcl, ?_⟩
    have := t_OB.to (V := updV (vp_V (fs.map (j_v K))) k (j_v K v)) ⟨_, e1, q2, q3, t_set q4 hap hk (j_v K v)⟩ (fun j _ => vp_updV_set hlen' (j_v K v) j)
    rw [← List.map_set] at this
    exact this
  · intro q hq
    rcases List.mem_append.mp hq with h2 | h2
    · exact hL q h2
    · rw [List.mem_singleton.mp h2]
      show K.2.1 ≤ j_adr K i
      have : ¬ i < 32 := by
        intro hlt
        simp [j_get, hlt] at hx
      simp [j_adr, this]
theorem j_iald {i n j : Nat} {f : Nat → Int32} (hd : decode M.2.1 pc = .ok (.iaload, 1)) (hx : j_get h i = some (.inl (0, n, .inl f))) (hj : j < n) (hn : n < 2 ^ 31) (kk : jE K M d (pc + 1) ls (.int (f j) :: st) h Q mc ms) : jE K M d pc ls (.int (nI j) :: .ref i :: st) h Q mc ms := by
  intro p e R s m as bl me c H lo ce sl la hC hc hs hl hw hL
  have hP : va_P K.2.2.2.1 classes [(j_adr K i, .inl (K.2.2.2.2.1 0, n, .inl f))] H := j_P1 (hw.at hx)
  have kk' := kk p e R s m as bl me c H lo ce sl la hC hc hs hl hw hL
  refine va_iald hC.1 hC.2.1 hC.2.2.2.2.2.2.2.2.2.2.2.1 hP 0 0 rfl rfl (i := nI j) (vp_in_nI hj hn) hd ?_
  rw [nI_clamp (Nat.lt_trans hj hn)]
  exact kk'
theorem j_cald {i n j : Nat} {f : Nat → Int32} (hd : decode M.2.1 pc = .ok (.caload, 1)) (hx : j_get h i = some (.inl (1, n, .inl f))) (hj : j < n) (hn : n < 2 ^ 31) (kk : jE K M d (pc + 1) ls (.int (f j) :: st) h Q mc ms) : jE K M d pc ls (.int (nI j) :: .ref i :: st) h Q mc ms := by
  intro p e R s m as bl me c H lo ce sl la hC hc hs hl hw hL
  have hP : va_P K.2.2.2.1 classes [(j_adr K i, .inl (K.2.2.2.2.1 1, n, .inl f))] H := j_P1 (hw.at hx)
  have kk' := kk p e R s m as bl me c H lo ce sl la hC hc hs hl hw hL
  refine va_cald hC.1 hC.2.1 hC.2.2.2.2.2.2.2.2.2.2.2.1 hP 0 1 rfl rfl (i := nI j) (vp_in_nI hj hn) hd ?_
  rw [nI_clamp (Nat.lt_trans hj hn)]
  exact kk'
theorem j_zald {i n j : Nat} {f : Nat → Int32} (hd : decode M.2.1 pc = .ok (.baload, 1)) (hx : j_get h i = some (.inl (2, n, .inl f))) (hj : j < n) (hn : n < 2 ^ 31) (kk : jE K M d (pc + 1) ls (.int (f j) :: st) h Q mc ms) : jE K M d pc ls (.int (nI j) :: .ref i :: st) h Q mc ms := by
  intro p e R s m as bl me c H lo ce sl la hC hc hs hl hw hL
  have hP : va_P K.2.2.2.1 classes [(j_adr K i, .inl (K.2.2.2.2.1 2, n, .inl f))] H := j_P1 (hw.at hx)
  have kk' := kk p e R s m as bl me c H lo ce sl la hC hc hs hl hw hL
  refine va_zald hC.1 hC.2.1 hC.2.2.2.2.2.2.2.2.2.2.2.1 hP 0 2 rfl rfl (i := nI j) (vp_in_nI hj hn) hd ?_
  rw [nI_clamp (Nat.lt_trans hj hn)]
  exact kk'
theorem j_lald {i n j : Nat} {f : Nat → Int64} (hd : decode M.2.1 pc = .ok (.laload, 1)) (hx : j_get h i = some (.inl (3, n, .inr (.inl f)))) (hj : j < n) (hn : n < 2 ^ 31) (kk : jE K M d (pc + 1) ls (.long (f j) :: st) h Q mc ms) : jE K M d pc ls (.int (nI j) :: .ref i :: st) h Q mc ms := by
  intro p e R s m as bl me c H lo ce sl la hC hc hs hl hw hL
  have hP : va_P K.2.2.2.1 classes [(j_adr K i, .inl (K.2.2.2.2.1 3, n, .inr (.inl f)))] H := j_P1 (hw.at hx)
  have kk' := kk p e R s m as bl me c H lo ce sl la hC hc hs hl hw hL
  refine va_lald hC.1 hC.2.1 hC.2.2.2.2.2.2.2.2.2.2.2.1 hP 0 3 rfl rfl (i := nI j) (vp_in_nI hj hn) hd ?_
  rw [nI_clamp (Nat.lt_trans hj hn)]
  exact kk'
theorem j_loc {K : jK} {h : jH} {i k : Nat} {x : va_E} {lo : List Loc} (hx : j_get h i = some x) (hL : ∀ q ∈ lo, K.2.1 ≤ q.base) : ∀ q ∈ lo ++ [(⟨j_adr K i, k⟩ : Loc)], K.2.1 ≤ q.base := by
  intro q hq
  rcases List.mem_append.mp hq with h2 | h2
  · exact hL q h2
  · rw [List.mem_singleton.mp h2]
    show K.2.1 ≤ j_adr K i
    have : ¬ i < 32 := by
      intro hlt
      simp [j_get, hlt] at hx
    simp [j_adr, this]
theorem j_iast {i n j : Nat} {f : Nat → Int32} {x : Int32} {h' : jH} (hd : decode M.2.1 pc = .ok (.iastore, 1)) (hx : j_get h i = some (.inl (0, n, .inl f))) (hj : j < n) (hn : n < 2 ^ 31) (hh : j_set h i (.inl (0, n, .inl (upd f j x))) = h') (kk : jE K M d (pc + 1) ls st h' Q mc ms) : jE K M d pc ls (.int x :: .int (nI j) :: .ref i :: st) h Q mc ms := by
  subst hh
  intro p e R s m as bl me c H lo ce sl la hC hc hs hl hw hL
  have hat : H[j_adr K i]? = some (vp_cell (K.2.2.2.2.1 0) (n, .inl f)) := hw.at hx
  have hin : vp_in (nI j) n := vp_in_nI hj hn
  refine W.iast hC.1 hC.2.1 hat (((hC.2.2.2.2.2.2.2.2.2.2.2.1).2 0 _ rfl).1 n (fun j => .int (f j))) (fun q => by cases q) (by show ¬ (_ ∨ (arrV _ _ _).slots.size ≤ _); rw [arrV_size]; exact hin) rfl rfl hd fun H1 e1 z oq => ?_
  refine kk p e R s m as bl me c H1 _ ce sl la hC hc hs hl (hw.put hx ?_ z oq) (j_loc hx hL)
  show H1[j_adr K i]? = some (vp_cell _ _)
  rw [e1]
  rw [vp_cell_i, vp_cell_i, arrV_store, nI_clamp (Nat.lt_trans hj hn)]
  congr 2
  funext q
  by_cases hq : q = j
  · subst hq
    simp [updV, upd]
  · simp [updV, upd, hq]
theorem j_cast {i n j : Nat} {f : Nat → Int32} {x : Int32} {h' : jH} (hd : decode M.2.1 pc = .ok (.castore, 1)) (hx : j_get h i = some (.inl (1, n, .inl f))) (hj : j < n) (hn : n < 2 ^ 31) (hv : narrow .char (.int x) = .int x) (hh : j_set h i (.inl (1, n, .inl (upd f j x))) = h') (kk : jE K M d (pc + 1) ls st h' Q mc ms) : jE K M d pc ls (.int x :: .int (nI j) :: .ref i :: st) h Q mc ms := by
  subst hh
  intro p e R s m as bl me c H lo ce sl la hC hc hs hl hw hL
  have hat : H[j_adr K i]? = some (vp_cell (K.2.2.2.2.1 1) (n, .inl f)) := hw.at hx
  have hin : vp_in (nI j) n := vp_in_nI hj hn
  refine W.cast hC.1 hC.2.1 hat (((hC.2.2.2.2.2.2.2.2.2.2.2.1).2 1 _ rfl).1 n (fun j => .int (f j))) (fun q => by cases q) (by show ¬ (_ ∨ (arrV _ _ _).slots.size ≤ _); rw [arrV_size]; exact hin) rfl rfl hd fun H1 e1 z oq => ?_
  refine kk p e R s m as bl me c H1 _ ce sl la hC hc hs hl (hw.put hx ?_ z oq) (j_loc hx hL)
  show H1[j_adr K i]? = some (vp_cell _ _)
  rw [e1]
  rw [vp_cell_i, vp_cell_i, arrV_store, nI_clamp (Nat.lt_trans hj hn), hv]
  congr 2
  funext q
  by_cases hq : q = j
  · subst hq
    simp [updV, upd]
  · simp [updV, upd, hq]
theorem j_zast {i n j : Nat} {f : Nat → Int32} {x : Int32} {h' : jH} (hd : decode M.2.1 pc = .ok (.bastore, 1)) (hx : j_get h i = some (.inl (2, n, .inl f))) (hj : j < n) (hn : n < 2 ^ 31) (hv : narrow .boolean (.int x) = .int x) (hh : j_set h i (.inl (2, n, .inl (upd f j x))) = h') (kk : jE K M d (pc + 1) ls st h' Q mc ms) : jE K M d pc ls (.int x :: .int (nI j) :: .ref i :: st) h Q mc ms := by
  subst hh
  intro p e R s m as bl me c H lo ce sl la hC hc hs hl hw hL
  have hat : H[j_adr K i]? = some (vp_cell (K.2.2.2.2.1 2) (n, .inl f)) := hw.at hx
  have hin : vp_in (nI j) n := vp_in_nI hj hn
  refine W.zast hC.1 hC.2.1 hat (((hC.2.2.2.2.2.2.2.2.2.2.2.1).2 2 _ rfl).1 n (fun j => .int (f j))) (fun q => by cases q) (by show ¬ (_ ∨ (arrV _ _ _).slots.size ≤ _); rw [arrV_size]; exact hin) rfl rfl hd fun H1 e1 z oq => ?_
  refine kk p e R s m as bl me c H1 _ ce sl la hC hc hs hl (hw.put hx ?_ z oq) (j_loc hx hL)
  show H1[j_adr K i]? = some (vp_cell _ _)
  rw [e1]
  rw [vp_cell_i, vp_cell_i, arrV_store, nI_clamp (Nat.lt_trans hj hn), hv]
  congr 2
  funext q
  by_cases hq : q = j
  · subst hq
    simp [updV, upd]
  · simp [updV, upd, hq]
theorem j_last {i n j : Nat} {f : Nat → Int64} {x : Int64} {h' : jH} (hd : decode M.2.1 pc = .ok (.lastore, 1)) (hx : j_get h i = some (.inl (3, n, .inr (.inl f)))) (hj : j < n) (hn : n < 2 ^ 31) (hh : j_set h i (.inl (3, n, .inr (.inl (vp_updL f j x)))) = h') (kk : jE K M d (pc + 1) ls st h' Q mc ms) : jE K M d pc ls (.long x :: .int (nI j) :: .ref i :: st) h Q mc ms := by
  subst hh
  intro p e R s m as bl me c H lo ce sl la hC hc hs hl hw hL
  have hat : H[j_adr K i]? = some (vp_cell (K.2.2.2.2.1 3) (n, .inr (.inl f))) := hw.at hx
  have hin : vp_in (nI j) n := vp_in_nI hj hn
  refine W.last hC.1 hC.2.1 hat (((hC.2.2.2.2.2.2.2.2.2.2.2.1).2 3 _ rfl).1 n (fun j => .long (f j))) (fun q => by cases q) (by show ¬ (_ ∨ (arrV _ _ _).slots.size ≤ _); rw [arrV_size]; exact hin) rfl rfl hd fun H1 e1 z oq => ?_
  refine kk p e R s m as bl me c H1 _ ce sl la hC hc hs hl (hw.put hx ?_ z oq) (j_loc hx hL)
  show H1[j_adr K i]? = some (vp_cell _ _)
  rw [e1]
  rw [vp_cell_l, vp_cell_l, arrV_store, nI_clamp (Nat.lt_trans hj hn)]
  congr 2
  funext q
  by_cases hq : q = j
  · subst hq
    simp [updV, vp_updL]
  · simp [updV, vp_updL, hq]
theorem j_alen {i n t : Nat} {a : (Nat → Int32) ⊕ (Nat → Int64) ⊕ (Nat → UInt32) ⊕ (Nat → UInt64) ⊕ (Nat → Option Nat)} {ty : FieldType} (ht : (j_ty K)[t]? = some (K.2.2.2.2.1 t, ty)) (hd : decode M.2.1 pc = .ok (.arraylength, 1)) (hx : j_get h i = some (.inl (t, n, a))) (kk : jE K M d (pc + 1) ls (.int (nI n) :: st) h Q mc ms) : jE K M d pc ls (.ref i :: st) h Q mc ms := by
  intro p e R s m as bl me c H lo ce sl la hC hc hs hl hw hL
  have hP : va_P K.2.2.2.1 classes [(j_adr K i, .inl (K.2.2.2.2.1 t, n, a))] H := j_P1 (hw.at hx)
  exact va_alen hC.1 hC.2.1 hC.2.2.2.2.2.2.2.2.2.2.2.1 hP 0 t rfl ht rfl hd (kk p e R s m as bl me c H lo ce sl la hC hc hs hl hw hL)
/-- what the tables say of a class that an instruction makes -/
def jN (own : String) (idx ci N : Nat) (fs : List Value) : Prop := ∃ (C : String) (T : u_T) (ty0 : Nat → FieldType), classes[ci]? = some (C, T, N) ∧ (∀ w ∈ u_ws C T N, w ∈ jt) ∧ (∀ k, k < N → parseFieldDescriptor (T k).2.2.1 = some (ty0 k)) ∧
  Cond.classLink own idx C ∈ jt ∧ Cond.instantiable C N ∈ jt ∧ Cond.initialized C ∈ jt ∧ ∀ j, j < N → defaultValue (ty0 j) = vp_V fs j
theorem j_adr_new (K : jK) (n : Nat) : j_adr K (32 + n) = K.2.1 + n := by
  have : ¬ 32 + n < 32 := by omega
  simp [j_adr, this]
theorem j_new {idx ci N : Nat} {fs : List Value} (hd : decode M.2.1 pc = .ok (.new idx, 3)) (hn : jN M.1.cls idx ci N fs) (hfs : fs.map (j_v K) = fs) (kk : jE K M d (pc + 3) ls (.ref (32 + h.length) :: st) (h ++ [.inr (ci, fs)]) Q mc ms) : jE K M d pc ls st h Q (mc + 1) (ms + N) := by
  intro p e R s m as bl me c H lo ce sl la hC hc hs hl hw hL
  obtain ⟨C, T, ty0, hcl, hin, hty, h1, h2, h3, hdef⟩ := hn
  have hK := hC.2.2.2.2.2.2.2.2.2.2.2.1
  have hts := hC.2.2.2.2.1
  have hKn := hK.1 ci _ hcl
  refine W.newcK hC.1 hC.2.1 hC.2.2.2.1 (hts _ h1) (hts _ h2) (hts _ h3) rfl hd (by omega) (by omega) hKn.2.1 rfl fun H1 kC hkC e1 z1 o1 => ?_
  have hat : va_at K.2.2.2.1 classes (K.2.1 + h.length, j_e K (.inr (ci, fs))) H1 := by
    rw [← hw.2.1]
    refine ⟨_, hcl, ?_⟩
    show t_OB _ _ _ _ _ (vp_V (fs.map (j_v K)))
    rw [hfs]
    exact (u_born ty0 hts hin hKn hkC e1 hty).to hdef
  have hE := kk p e R s m as bl me c H1 lo (ce + 1) (sl + N) la hC (by omega) (by omega) hl (hw.push hat z1 o1) hL
  rw [show ce + 1 + mc = ce + (mc + 1) by omega, show sl + N + ms = sl + (ms + N) by omega] at hE
  have e9 : (.ref (32 + h.length) :: st : List Value).map (j_v K) = .ref H.size :: st.map (j_v K) := by
    show (.ref (j_adr K (32 + h.length)) :: st.map (j_v K) : List Value) = _
    rw [j_adr_new, hw.2.1]
  rw [e9] at hE
  exact hE
theorem j_newa {atype : ArrayType} {t N : Nat} {ty : FieldType} {x : Int32} {a : (Nat → Int32) ⊕ (Nat → Int64) ⊕ (Nat → UInt32) ⊕ (Nat → UInt64) ⊕ (Nat → Option Nat)} (hd : decode M.2.1 pc = .ok (.newarray atype, 2)) (hty : newarray.typeOf atype = ty) (ht : (j_ty K)[t]? = some (K.2.2.2.2.1 t, ty)) (hra : ∀ (U : State) (cA : ClassId), va_RA U cA ty → U.vm.findClass ("[" ++ ty.toString) = some cA) (hw0 : Cond.arrayClass ty ∈ jt)
    (ha : ∀ cA : ClassId, vp_cell cA (N, a) = arrV cA N (fun _ => defaultValue ty)) (hx : ¬ x < 0) (hN : x.toNatClampNeg = N) (hb : N * componentBytes ty ≤ 536870912) (kk : jE K M d (pc + 2) ls (.ref (32 + h.length) :: st) (h ++ [.inl (t, N, a)]) Q mc ms) : jE K M d pc ls (.int x :: st) h Q (mc + 1) (ms + N) := by
  subst hty
  intro p e R s m as bl me c H lo ce sl la hC hc hs hl hw hL
  have hK := hC.2.2.2.2.2.2.2.2.2.2.2.1
  have hts := hC.2.2.2.2.1
  refine va_newaK hC.1 hC.2.1 (hts _ hw0) rfl hd rfl hx hN hb (by omega) (by omega) rfl fun H1 cA e1 z1 o1 hAr hNm => ?_
  have hcA : K.2.2.2.2.1 t = cA := Option.some.inj ((hra _ _ (hK.2 t _ ht).2).symm.trans hNm)
  have hat : va_at K.2.2.2.1 classes (K.2.1 + h.length, j_e K (.inl (t, N, a))) H1 := by
    rw [← hw.2.1]
    show H1[H.size]? = some (vp_cell (K.2.2.2.2.1 t) (N, a))
    rw [ha, hcA]
    exact e1
  have hE := kk p e R s m as bl me c H1 lo (ce + 1) (sl + N) la hC (by omega) (by omega) hl (hw.push hat z1 o1) hL
  rw [show ce + 1 + mc = ce + (mc + 1) by omega, show sl + N + ms = sl + (ms + N) by omega] at hE
  have e9 : (.ref (32 + h.length) :: st : List Value).map (j_v K) = .ref H.size :: st.map (j_v K) := by
    show (.ref (j_adr K (32 + h.length)) :: st.map (j_v K) : List Value) = _
    rw [j_adr_new, hw.2.1]
  rw [e9] at hE
  exact hE
end JHEAP
end
section
/-! METHODS: a contract, how it is proved (jM.of), how it is used (j_pay, and the rows of the calls) -/
def j_code (M : jR) : Cond := match M.2.2.2.2 with
  | [] => .code M.1 M.2.1 M.2.2.1 M.2.2.2.1
  | q :: hs => .codeWith M.1 M.2.1 M.2.2.1 M.2.2.2.1 (q :: hs)
theorem j_code_spec {M : jR} {args : Array Value} {s : State} {m : MethodId} (hn : s.methodNamed? M.1 = some m) (h : (j_code M).before args s = true) :
    ∃ meth c, s.vm.method? m = some meth ∧ meth.code = some c ∧ c.code = M.2.1 ∧ c.maxLocals = M.2.2.1 ∧ meth.sig.returnType = M.2.2.2.1 ∧ meth.locks = false ∧ c.exceptionTable.toList = tableOf M.2.2.2.2 ∧ parseMethodDescriptor M.1.desc = some meth.sig := by
  obtain ⟨y, b, n, r, hs⟩ := M
  cases hs with
  | nil =>
    obtain ⟨meth, c, h1, h2, h3, h4, h5, h6, h7, h8⟩ := Cond.code_spec hn h
    refine ⟨meth, c, h1, h2, h3, h4, h5, h6, ?_, h8⟩
    have h0 : c.exceptionTable.size = 0 := by simpa [Array.isEmpty] using h7
    exact List.eq_nil_of_length_eq_zero (by simpa using h0)
  | cons q hs =>
    obtain ⟨m9, meth, c, hn9, h1, h2, h3, h4, h7, h5, h6, h8⟩ := Cond.codeWith_spec h
    cases hn.symm.trans hn9
    exact ⟨meth, c, h1, h2, h3, h4, h5, h6, by rw [← h7, table_eq], h8⟩
def jM (K : jK) (M : jR) (d : Nat) (av : List Value) (h : jH) (Q : jO → jH → Prop) (mc ms : Nat) : Prop :=
  MetFree K.1 M.1 (headSpec [j_code M] { frames := d, cells := mc + 1, slots := ms + 6, locals := 64 * d })
    (fun a U => a = (av.map (j_v K)).toArray ∧ jW K h U.heap ∧ jU K U) (fun _ _ _ _ _ => True)
    (fun _ st o t => ∃ (mo : jO) (h' : jH) (L : List Loc), j_oc K h' mo o ∧ Q mo h' ∧ jW K h' t.heap ∧ st.WarmedH t.vm ∧ st.sameButNew ({ t with vm := st.vm } : State) L (mc + j_xc mo) (ms + 6 * j_xc mo) ∧ ∀ q ∈ L, K.2.1 ≤ q.base)
theorem j_args (K : jK) : ∀ (av : List Value) (i : Nat), lv_args i (av.map (j_v K)) = (lv_args i av).map (j_l K)
  | [], _ => rfl
  | v :: av, i => by
    show (i, j_v K v) :: lv_args _ _ = (i, j_v K v) :: _
    rw [j_args K av, j_cat]
theorem j_slots (K : jK) (av : List Value) : (lg_sl (av.map (j_v K))).length = (lg_sl av).length := by
  induction av with
  | nil => rfl
  | cons v av ih =>
    simp only [lg_sl, List.map_cons, List.flatMap_cons, List.length_append] at ih ⊢
    rw [ih, j_cat]
    split <;> rfl
section JMETH
variable {K : jK} {M : jR} {d : Nat} {av : List Value} {h : jH} {Q : jO → jH → Prop} {mc ms : Nat}
theorem jM.of (hp : plainFor M.1 = true) (hlen : (lg_sl av).length ≤ M.2.2.1) (k : jE K M d 0 (lv_args 0 av) [] h Q mc ms) : jM K M d av h Q mc ms := by
  refine MetFree.of_bodySF (code := M.2.1) (maxLocals := M.2.2.1) (ret := M.2.2.2.1) hp ?_ ?_
  · intro args s m hpre hn
    obtain ⟨meth, c, h1, h2, h3, h4, h5, h6, -, -⟩ := j_code_spec hn (atoms_spec (ws := [j_code M]) hpre _ List.mem_cons_self)
    exact ⟨meth, c, h1, h2, h3, h4, h5, h6⟩
  · intro p e s m args below meth c s₁ B hml hP _
    obtain ⟨rfl, hw, hU⟩ := hP
    have X := Stand.of_body B
    obtain ⟨meth', c', h1, h2, -, -, -, -, h7, -⟩ := j_code_spec B.named (atoms_spec (ws := [j_code M]) B.pre _ List.mem_cons_self)
    cases B.method.symm.trans h1
    cases X.code.symm.trans h2
    have hh0 : s₁.heap = s.heap := by rw [B.state]; rfl
    have hl := lv_entry (av.map (j_v K)) (n := M.2.2.1) (by rw [j_slots]; exact hlen)
    rw [j_args] at hl
    have hE := k p e _ s m _ below meth c s.heap [] 0 0 _ ⟨B.exec, B.bytes, hml, findClass_of_methodNamed B.named, fun w hw' => j_okT (j_jt hw') rfl (hU.1 w hw'), B.returns, B.notSynchronized, (name_of_methodNamed B.named B.method).1, h7, Nat.le_refl _, Nat.le_refl _, hU.2.1, hU.2.2⟩ (by simp [headSpec]) (by simp [headSpec]) hl hw (fun q hq => by cases hq) s₁ hh0 X
    rw [lg_entry_eq]
    obtain ⟨t, a1, o, mo, h', L, b1, b2, b3, b4, b5, b6, b7, b8⟩ := hE
    refine ⟨t, o, a1, b1, b2, mo, h', L, b3, b4, b5, b6, ?_, b8⟩
    simpa using b7
theorem jM.mono {Q' : jO → jH → Prop} (hQ : ∀ o g, Q o g → Q' o g) (k : jM K M d av h Q mc ms) : jM K M d av h Q' mc ms := by
  intro p e ha hc hk s m args below hf happ hP hK
  obtain ⟨n, o, h1, h2, h3, mo, h', L, b1, b2, b3⟩ := k p e ha hc hk s m args below hf happ hP hK
  exact ⟨n, o, h1, h2, h3, mo, h', L, b1, hQ _ _ b2, b3⟩
variable {p : Program} {e : Env} {R : Room} {s : State} {m : MethodId} {args : Array Value} {below : List Frame} {meth : Method} {c : Code} {U : State} {Ls : List Loc} {c0 s0 : Nat}
/-- a call by contract, from the frame that has popped the arguments: it comes back behind the call, or the note 'is thrown' lies over the frame -/
theorem j_pay (X : Stand p K.1 e R s m args below meth c U Ls c0 s0) (hM : jM K M d av h Q mc ms) (hfr : d + 1 ≤ R.frames) (hlo : 8 + (M.2.2.1 + 11) + 64 * d ≤ R.locals) (hce : c0 + mc + 1 ≤ R.cells) (hsl : s0 + ms + 6 ≤ R.slots)
    {g : JFrame} (hg : g.method = m) (hsize : g.locals.size = c.maxLocals) {ig : Instr} {len : Nat} (hdg : decode c.code g.pc = .ok (ig, len)) (hW : 2 * g.monitorRoom + (g.stack.map fun v => v.category).sum ≤ 8)
    {mk : MethodId} (hn : U.methodNamed? M.1 = some mk) (hcode : (j_code M).before (av.map (j_v K)).toArray U = true) (hinit : (Cond.initialized M.1.cls).before (av.map (j_v K)).toArray U = true) (hw : jW K h U.heap) (hU : jU K U) :
    ∃ (mo : jO) (h' : jH) (L : List Loc) (B : State), Stand p K.1 e R s m args below meth c B (Ls ++ L) (c0 + (mc + j_xc mo)) (s0 + (ms + 6 * j_xc mo)) ∧ Q mo h' ∧ jW K h' B.heap ∧ (∀ q ∈ L, K.2.1 ≤ q.base) ∧
      ((∃ v, mo = .inl v ∧ Steps p.tables e below (doInvoke e (U.setTop g) [] mk (av.map (j_v K)).toArray).1 (B.setTop { g with pc := g.pc + len, stack := (v.map (j_v K)).toList ++ g.stack })) ∨
       (∃ k n, mo = .inr k ∧ h'.length = n + 1 ∧ h'[n]? = some (.inr (k, [])) ∧ Steps p.tables e below (doInvoke e (U.setTop g) [] mk (av.map (j_v K)).toArray).1 ((B.setTop g).pushFrame (.throwing (K.2.1 + n))))) := by
  obtain ⟨methY, cY, hmY, hcY, -, hlY, -, -, -, -⟩ := j_code_spec hn hcode
  obtain ⟨kY, hkY, -⟩ := className_of_methodNamed hn
  have hinitY : kY.init = .initialized := Cond.initialized_spec (findClass_of_methodNamed hn) hkY hinit
  have hat : At U g.method c below := by rw [hg]; exact X.here
  have happ : (headSpec [j_code M] { frames := d, cells := mc + 1, slots := ms + 6, locals := 64 * d }).appliesLoose M.1 e.platform (U.calling g mk (av.map (j_v K)).toArray) = true :=
    Spec.appliesLoose_calling (g := g) hat hdg hn hkY hinitY
      (X.room_calling (g := g) (R' := { frames := d, cells := mc + 1, slots := ms + 6, locals := 64 * d }) hsize hmY hcY hfr (by rw [hlY]; show _ + _ + 64 * d ≤ _; omega) (by show c0 + (mc + 1) ≤ _; omega) (by show s0 + (ms + 6) ≤ _; omega)) (atoms_intro fun w hw => by rw [List.mem_singleton.mp hw]; exact hcode)
  obtain ⟨mid, hmid⟩ := hat.above
  have hfr2 : (U.setTop g).frames = (.java g :: mid) ++ below := by rw [State.frames_setTop' g hat.top, hmid]; rfl
  have hheap : (U.calling g mk (av.map (j_v K)).toArray).heap = U.heap := by simp [State.calling, State.pushFrame, State.setFrames, State.setTop, State.modifyTopJava]
  have hvm : (U.calling g mk (av.map (j_v K)).toArray).vm = U.vm := by simp [State.calling, State.pushFrame, State.setFrames, State.setTop, State.modifyTopJava]
  have hPre : (av.map (j_v K)).toArray = (av.map (j_v K)).toArray ∧ jW K h (U.calling g mk (av.map (j_v K)).toArray).heap ∧ jU K (U.calling g mk (av.map (j_v K)).toArray) :=
    ⟨rfl, by rw [hheap]; exact hw, hU.warm (by rw [hvm]; exact State.WarmedH.refl U)⟩
  obtain ⟨o, s₂, hsteps, -, hend, mo, h', L, q1, q2, q3, q4, q5, q6⟩ := Steps.callFree hM p X.admits X.cas X.clock (acts := []) hfr2 happ hPre trivial
  have q5' : (U.calling g mk (av.map (j_v K)).toArray).sameButNew ({ s₂ with vm := (U.calling g mk (av.map (j_v K)).toArray).vm } : State) L (mc + j_xc mo) (ms + 6 * j_xc mo) := q5
  have hW₂ : (U.calling g mk (av.map (j_v K)).toArray).WarmedH s₂.vm := q4
  rw [State.frames_setTop' g hat.top] at hend
  obtain ⟨e2, r2, r3, r4, r5, r6⟩ := id q5'
  have e3 : s₂ = ({ (U.calling g mk (av.map (j_v K)).toArray).setFrames s₂.frames with heap := s₂.heap, slotsUsed := s₂.slotsUsed } : State).setVm s₂.vm := by
    have : s₂ = ({ s₂ with vm := (U.calling g mk (av.map (j_v K)).toArray).vm } : State).setVm s₂.vm := rfl
    rw [e2] at this
    exact this
  have hW' : U.WarmedH s₂.vm := hW₂
  obtain ⟨g₀, hg0⟩ := Option.isSome_iff_exists.mp hat.top
  obtain ⟨r, hr⟩ := State.topJava?_eq_some.mp hg0
  have hr' : (({ U with heap := s₂.heap, slotsUsed := s₂.slotsUsed } : State).setVm s₂.vm).frames = .java g₀ :: r := hr
  have hsame : U.sameButNew ({ U with heap := s₂.heap, slotsUsed := s₂.slotsUsed } : State) L (mc + j_xc mo) (ms + 6 * j_xc mo) := by
    refine ⟨?_, r2, r3, r4, r5, r6⟩
    obtain ⟨t, ht, -⟩ := State.frames_cons hr
    show ({ U with heap := s₂.heap, slotsUsed := s₂.slotsUsed } : State) = { U.setFrames U.frames with heap := s₂.heap, slotsUsed := s₂.slotsUsed }
    rw [State.setFrames_self ht]
  have hst : Stand p K.1 e R s m args below meth c (({ U with heap := s₂.heap, slotsUsed := s₂.slotsUsed } : State).setVm s₂.vm) (Ls ++ L) (c0 + (mc + j_xc mo)) (s0 + (ms + 6 * j_xc mo)) :=
    ⟨X.admits, X.cas, X.clock, X.frames, X.room, X.hears, X.method, X.code, (X.here.setHeapUsed s₂.heap s₂.slotsUsed).setVm hW'.alike, X.tail, State.WarmedH.trans X.warmed hW', X.limits, X.bytes, X.same.trans (hsame.setVm s.vm)⟩
  refine ⟨mo, h', L, _, hst, q2, q3, q6, ?_⟩
  cases mo with
  | inl v =>
    have q1' : o = .returned (v.map (j_v K)) := q1
    subst q1'
    refine Or.inl ⟨v, rfl, ?_⟩
    obtain ⟨c₂, i₂, len₂, hc₂, hd₂, hf₂⟩ := hend
    have hcc : c₂ = c := by
      have h1 : s₂.code? g.method = U.code? g.method := by
        rw [State.code?_eq, State.code?_eq, hW'.alike.method?]
      exact Option.some.inj (hc₂.symm.trans (h1.trans hat.code))
    subst hcc
    have hlen : len₂ = len := by rw [hdg] at hd₂; cases hd₂; rfl
    subst hlen
    have hs₂ : s₂ = (({ U with heap := s₂.heap, slotsUsed := s₂.slotsUsed } : State).setVm s₂.vm).setTop { g with pc := g.pc + len₂, stack := (v.map (j_v K)).toList ++ g.stack } := by
      refine e3.trans ?_
      rw [hf₂, State.calling_eq hat.top, State.setFrames_setFrames, State.setTop_of_frames _ hr', hr]
      rfl
    rw [← hs₂]
    exact hsteps
  | inr k =>
    obtain ⟨n, n1, n2, rfl⟩ := q1
    refine Or.inr ⟨k, n, rfl, n1, n2, ?_⟩
    have hf₂ : s₂.frames = .throwing (K.2.1 + n) :: .java g :: U.frames.tail := hend
    have hs₂ : s₂ = ((({ U with heap := s₂.heap, slotsUsed := s₂.slotsUsed } : State).setVm s₂.vm).setTop g).pushFrame (.throwing (K.2.1 + n)) := by
      refine e3.trans ?_
      rw [hf₂, State.calling_eq hat.top, State.setFrames_setFrames, State.pushFrame, State.frames_setTop _ hr', State.setTop_of_frames _ hr', State.setFrames_setFrames, hr]
      rfl
    rw [← hs₂]
    exact hsteps
end JMETH
end
section
/-! CALLS -/
/-- what the tables say of a method that is called on an object of the class number ci -/
def jMV (M' : jR) (ci n : Nat) : Prop := Cond.instanceMethod M'.1 ∈ jt ∧ Cond.selects M'.1.cls M'.1 M'.1 ∈ jt ∧ j_code M' ∈ jt ∧ Cond.initialized M'.1.cls ∈ jt ∧ (M'.1.cls ≠ "java/lang/invoke/MethodHandle" ∧ M'.1.cls ≠ "java/lang/invoke/VarHandle") ∧ (parseMethodDescriptor M'.1.desc).map (fun d => d.parameters.length) = some n ∧ ∃ (T : u_T) (N : Nat), classes[ci]? = some (M'.1.cls, T, N)
def jMS (M' : jR) (n : Nat) : Prop := Cond.static M'.1 ∈ jt ∧ j_code M' ∈ jt ∧ Cond.initialized M'.1.cls ∈ jt ∧ (M'.1.cls ≠ "java/lang/invoke/MethodHandle" ∧ M'.1.cls ≠ "java/lang/invoke/VarHandle") ∧ (parseMethodDescriptor M'.1.desc).map (fun d => d.parameters.length) = some n
def jMI (M' : jR) (n : Nat) : Prop := Cond.instanceMethod M'.1 ∈ jt ∧ Cond.code M'.1 M'.2.1 M'.2.2.1 none ∈ jt ∧ M'.2.2.2.1 = none ∧ M'.2.2.2.2 = [] ∧ M'.1.name = "<init>" ∧ Cond.initialized M'.1.cls ∈ jt ∧ (M'.1.cls ≠ "java/lang/invoke/MethodHandle" ∧ M'.1.cls ≠ "java/lang/invoke/VarHandle") ∧ (parseMethodDescriptor M'.1.desc).map (fun d => d.parameters.length) = some n
/-- a call from the frame at pc, whose stack is st when the arguments are popped -/
def jCall (K : jK) (M : jR) (d pc : Nat) (ls : List (Nat × Value)) (st0 st : List Value) (h : jH) (Q' : jO → jH → Prop) (mc ms : Nat) : Prop :=
  ∀ (p : Program) (e : Env) (R : Room) (s : State) (m : MethodId) (args : Array Value) (below : List Frame) (meth : Method) (c : Code) (H : Heap) (locs : List Loc) (cells slots : Nat) (la : Array Slot),
    jC K M d p R s m args meth c → cells + mc + 1 ≤ R.cells → slots + ms + 6 ≤ R.slots → lv_has la M.2.2.1 (ls.map (j_l K)) → jW K h H → (∀ q ∈ locs, K.2.1 ≤ q.base) →
    ∀ T : State, T.heap = H → Stand p K.1 e R s m args below meth c T locs cells slots →
    ∃ (mo : jO) (h' : jH) (L : List Loc) (B : State), Stand p K.1 e R s m args below meth c B L (cells + (mc + j_xc mo)) (slots + (ms + 6 * j_xc mo)) ∧ Q' mo h' ∧ jW K h' B.heap ∧ (∀ q ∈ L, K.2.1 ≤ q.base) ∧
      ((∃ v, mo = .inl v ∧ ∀ tg, Steps p.tables e below (B.setTop (F0 m (pc + 3) la ((v.toList ++ st).map (j_v K)))) tg → Steps p.tables e below (T.setTop (F0 m pc la (st0.map (j_v K)))) tg) ∨
       (∃ k n, mo = .inr k ∧ h'.length = n + 1 ∧ h'[n]? = some (.inr (k, [])) ∧ ∀ tg, Steps p.tables e below ((B.setTop (F0 m pc la (st.map (j_v K)))).pushFrame (.throwing (K.2.1 + n))) tg → Steps p.tables e below (T.setTop (F0 m pc la (st0.map (j_v K)))) tg))
section JCALL
variable {K : jK} {M : jR} {d pc : Nat} {ls : List (Nat × Value)} {st st0 av : List Value} {h : jH} {Q Q' : jO → jH → Prop} {mc ms mc' ms' : Nat} {M' : jR} {d' : Nat}
theorem j_roomS {m : MethodId} {la : Array Slot} {pc : Nat} {K : jK} {st : List Value} (hst : (st.map fun v => v.category).sum ≤ 8) : 2 * (F0 m pc la (st.map (j_v K))).monitorRoom + ((F0 m pc la (st.map (j_v K))).stack.map fun v => v.category).sum ≤ 8 := by
  have e : ((st.map (j_v K)).map fun v => v.category) = st.map fun v => v.category := by
    rw [List.map_map]
    congr 1
    funext v
    exact j_cat K v
  show 2 * (F0 m pc la (st.map (j_v K))).monitorRoom + ((st.map (j_v K)).map fun v => v.category).sum ≤ 8
  have hmr : (F0 m pc la (st.map (j_v K))).monitorRoom = 0 := by first | rfl | simp [JFrame.monitorRoom, F0]
  rw [hmr, e]
  omega
theorem j_inv (hM : jM K M' d' av h Q' mc ms) (hd : d' + 1 ≤ d) (hL : M'.2.2.1 ≤ 45) (hst : (st.map fun v => v.category).sum ≤ 8) (hcode : j_code M' ∈ jt) (hini : Cond.initialized M'.1.cls ∈ jt)
    {p : Program} {e : Env} {R : Room} {s : State} {m : MethodId} {args : Array Value} {below : List Frame} {meth : Method} {c : Code} {H : Heap} {locs : List Loc} {cells slots : Nat} {la : Array Slot}
    (hC : jC K M d p R s m args meth c) (hc : cells + mc + 1 ≤ R.cells) (hs : slots + ms + 6 ≤ R.slots) (hl : lv_has la M.2.2.1 (ls.map (j_l K))) (hw : jW K h H) (hLo : ∀ q ∈ locs, K.2.1 ≤ q.base)
    {T : State} (hT : T.heap = H) {vm₁ : Vm} (X₁ : Stand p K.1 e R s m args below meth c (T.setVm vm₁) locs cells slots) {ig : Instr} (hdg : decode c.code pc = .ok (ig, 3)) {mk : MethodId} (hn : s.methodNamed? M'.1 = some mk)
    (hstep : ∀ target, (∀ acts, Steps p.tables e below (doInvoke e ((T.setVm vm₁).setTop (F0 m pc la (st.map (j_v K)))) acts mk (av.map (j_v K)).toArray).1 target) → Steps p.tables e below (T.setTop (F0 m pc la (st0.map (j_v K)))) target) :
    ∃ (mo : jO) (h' : jH) (L : List Loc) (B : State), Stand p K.1 e R s m args below meth c B L (cells + (mc + j_xc mo)) (slots + (ms + 6 * j_xc mo)) ∧ Q' mo h' ∧ jW K h' B.heap ∧ (∀ q ∈ L, K.2.1 ≤ q.base) ∧
      ((∃ v, mo = .inl v ∧ ∀ tg, Steps p.tables e below (B.setTop (F0 m (pc + 3) la ((v.toList ++ st).map (j_v K)))) tg → Steps p.tables e below (T.setTop (F0 m pc la (st0.map (j_v K)))) tg) ∨
       (∃ k n, mo = .inr k ∧ h'.length = n + 1 ∧ h'[n]? = some (.inr (k, [])) ∧ ∀ tg, Steps p.tables e below ((B.setTop (F0 m pc la (st.map (j_v K)))).pushFrame (.throwing (K.2.1 + n))) tg → Steps p.tables e below (T.setTop (F0 m pc la (st0.map (j_v K)))) tg)) := by
  have hts := hC.2.2.2.2.1
  have hU : jU K s := ⟨fun w hw' => j_okT (j_jt hw') rfl (hts w hw'), hC.2.2.2.2.2.2.2.2.2.2.2.1, hC.2.2.2.2.2.2.2.2.2.2.2.2⟩
  have hfr := hC.2.2.2.2.2.2.2.2.2.1
  have hlo := hC.2.2.2.2.2.2.2.2.2.2.1
  have hsize : la.size = c.maxLocals := hl.1.trans hC.2.2.1.symm
  obtain ⟨mo, h', L, B, XB, hq, hwB, hLB, hend⟩ := j_pay X₁ hM (by omega) (by omega) hc hs (g := F0 m pc la (st.map (j_v K))) rfl hsize hdg (j_roomS hst) (X₁.named hn) (j_okW (j_jt hcode) X₁.warmed (hts _ hcode)) (j_okW (j_jt hini) X₁.warmed (hts _ hini)) (by show jW K h T.heap; rw [hT]; exact hw) (hU.warm X₁.warmed)
  refine ⟨mo, h', locs ++ L, B, XB, hq, hwB, ?_, ?_⟩
  · intro q hq
    rcases List.mem_append.mp hq with h2 | h2
    · exact hLo q h2
    · exact hLB q h2
  · rcases hend with ⟨v, rfl, hsteps⟩ | ⟨k, n, rfl, n1, n2, hsteps⟩
    · refine Or.inl ⟨v, rfl, fun tg htg => hstep tg fun acts => ?_⟩
      rw [doInvoke_state]
      refine hsteps.trans ?_
      have e9 : (v.toList ++ st).map (j_v K) = (v.map (j_v K)).toList ++ st.map (j_v K) := by cases v <;> rfl
      rw [e9] at htg
      exact htg
    · refine Or.inr ⟨k, n, rfl, n1, n2, fun tg htg => hstep tg fun acts => ?_⟩
      rw [doInvoke_state]
      exact hsteps.trans htg
theorem j_len {M' : jR} {n : Nat} (h : (parseMethodDescriptor M'.1.desc).map (fun d => d.parameters.length) = some n) {sig : MethodDescriptor} (hs : parseMethodDescriptor M'.1.desc = some sig) : n = sig.parameters.length := by
  rw [hs] at h
  exact (Option.some.inj h).symm
theorem j_callV {idx ci i n : Nat} {as : List Value} {fs : List Value} (hd : decode M.2.1 pc = .ok (.invokevirtual idx, 3)) (hf : jMV M' ci n) (hlink : Cond.methodLink M.1.cls idx M'.1 ∈ jt) (hn : as.length = n) (hx : j_get h i = some (.inr (ci, fs)))
    (hM : jM K M' d' (.ref i :: as) h Q' mc ms) (hdd : d' + 1 ≤ d) (hL : M'.2.2.1 ≤ 45) (hst : (st.map fun v => v.category).sum ≤ 8) (h0 : st0 = as.reverse ++ .ref i :: st) : jCall K M d pc ls st0 st h Q' mc ms := by
  subst h0
  intro p e R s m args below meth c H locs cells slots la hC hc hs hl hw hLo T hT X
  obtain ⟨hinst, hsel, hcode, hini, hy, hpar, T', N, hcl⟩ := hf
  have hts := hC.2.2.2.2.1
  obtain ⟨mk, methM, hnamed, hmethM, hstM, habM⟩ := Cond.instanceMethod_spec (hts _ hinst)
  obtain ⟨methM', cM, hmethM', -, -, -, -, -, -, hsigM⟩ := j_code_spec hnamed (hts _ hcode)
  cases hmethM.symm.trans hmethM'
  obtain ⟨c2, r2, m2, q1, q2, q3, q4, kP, hkP, hkPi⟩ := Cond.selects_spec (hts _ hsel)
  obtain ⟨r, g1, cellB, g2, g3, g4, -⟩ := hw.at hx
  have hcls : s.vm.findClass M'.1.cls = some cellB.cls := by rw [g3]; exact ((hC.2.2.2.2.2.2.2.2.2.2.2.1).1 ci _ hcl).2.1
  cases hcls.symm.trans q1
  cases (State.methodFound?_of_named hnamed hy).symm.trans q2
  cases hnamed.symm.trans q3
  have hselP : selectMethod e.platform s.vm cellB.cls mk = .method mk := by rw [Launch.admits_selectMethod X.admits]; exact q4
  have hdg : decode c.code pc = .ok (.invokevirtual idx, 3) := by rw [hC.2.1]; exact hd
  obtain ⟨vm₁, X₁, hstep₁⟩ := X.invokevirtual hC.1 hC.2.2.2.1 (hts _ hlink) hnamed hmethM hstM hkP hkPi hy (a := j_adr K i) (cell := cellB) (by rw [hT]; exact g2)
    (fun z hz => by rw [g4] at hz; cases hz) hselP hmethM habM hkP hkPi (g := F0 m pc la ((as.reverse ++ .ref i :: st).map (j_v K))) rfl (argsL := as.map (j_v K)) (rest := st.map (j_v K)) (by rw [List.length_map, hn]; exact j_len hpar hsigM)
    (by show (as.reverse ++ .ref i :: st).map (j_v K) = _; rw [List.map_append, List.map_reverse]; rfl) hdg
  exact j_inv hM hdd hL hst hcode hini hC hc hs hl hw hLo hT X₁ hdg hnamed hstep₁
theorem j_callS {idx n : Nat} {as : List Value} (hd : decode M.2.1 pc = .ok (.invokestatic idx, 3)) (hf : jMS M' n) (hlink : Cond.methodLink M.1.cls idx M'.1 ∈ jt) (hn : as.length = n)
    (hM : jM K M' d' as h Q' mc ms) (hdd : d' + 1 ≤ d) (hL : M'.2.2.1 ≤ 45) (hst : (st.map fun v => v.category).sum ≤ 8) (h0 : st0 = as.reverse ++ st) : jCall K M d pc ls st0 st h Q' mc ms := by
  subst h0
  intro p e R s m args below meth c H locs cells slots la hC hc hs hl hw hLo T hT X
  obtain ⟨hstat, hcode, hini, hy, hpar⟩ := hf
  have hts := hC.2.2.2.2.1
  have hcod := hts _ hcode
  obtain ⟨mk, hnamed⟩ : ∃ mk, s.methodNamed? M'.1 = some mk := by
    cases hmk : s.methodNamed? M'.1 with
    | some mk => exact ⟨mk, rfl⟩
    | none =>
      have h9 := hts _ hstat
      simp [Cond.before, Cond.holds, Cond.value, hmk] at h9
  obtain ⟨methM, cM, hmethM, -, -, -, -, -, -, hsigM⟩ := j_code_spec hnamed hcod
  have hstatic : methM.isStatic = true := Cond.static_spec hnamed hmethM (hts _ hstat)
  obtain ⟨kP, hkP, -⟩ := className_of_methodNamed hnamed
  have hinitP : kP.init = .initialized := Cond.initialized_spec (findClass_of_methodNamed hnamed) hkP (hts _ hini)
  have hdg : decode c.code pc = .ok (.invokestatic idx, 3) := by rw [hC.2.1]; exact hd
  obtain ⟨vm₁, X₁, hstep₁⟩ := X.invokestatic hC.1 hC.2.2.2.1 (hts _ hlink) hnamed hmethM hstatic hkP hinitP hy (g := F0 m pc la ((as.reverse ++ st).map (j_v K))) rfl (argsL := as.map (j_v K)) (rest := st.map (j_v K)) (by rw [List.length_map, hn]; exact j_len hpar hsigM)
    (by show (as.reverse ++ st).map (j_v K) = _; rw [List.map_append, List.map_reverse]) hdg
  exact j_inv hM hdd hL hst hcode hini hC hc hs hl hw hLo hT X₁ hdg hnamed hstep₁
theorem j_callI {idx i n : Nat} {as : List Value} (hd : decode M.2.1 pc = .ok (.invokespecial idx, 3)) (hf : jMI M' n) (hlink : Cond.methodLink M.1.cls idx M'.1 ∈ jt) (hn : as.length = n)
    (hM : jM K M' d' (.ref i :: as) h Q' mc ms) (hdd : d' + 1 ≤ d) (hL : M'.2.2.1 ≤ 45) (hst : (st.map fun v => v.category).sum ≤ 8) (h0 : st0 = as.reverse ++ .ref i :: st) : jCall K M d pc ls st0 st h Q' mc ms := by
  subst h0
  intro p e R s m args below meth c H locs cells slots la hC hc hs hl hw hLo T hT X
  obtain ⟨hinst, hcode, hret, hhan, hy1, hini, hy, hpar⟩ := hf
  have hts := hC.2.2.2.2.1
  have hcode' : j_code M' ∈ jt := by
    have : j_code M' = Cond.code M'.1 M'.2.1 M'.2.2.1 none := by
      unfold j_code
      rw [hhan, hret]
    rw [this]
    exact hcode
  have hdg : decode c.code pc = .ok (.invokespecial idx, 3) := by rw [hC.2.1]; exact hd
  have hpl : e.platform.magicAccessors = ({} : Platform).magicAccessors := by rw [X.admits.platform]
  obtain ⟨mk, methM, cM, kP, vm₁, hnamed, hmethM, hcodeM, -, hlocalsM, -, hkP, -, hW₁, hstep₁⟩ := Steps.initColdArgs (e := e) X.here hC.1 X.warmed hpl hC.2.2.2.1 hy1 hy (hts _ hlink) (hts _ hinst) (hts _ hcode) (f := F0 m pc la ((as.reverse ++ .ref i :: st).map (j_v K))) rfl (a := j_adr K i) (argsL := as.map (j_v K)) (rest := st.map (j_v K))
    (fun sig hsig => by rw [List.length_map, hn]; exact j_len hpar hsig) (by show (as.reverse ++ .ref i :: st).map (j_v K) = _; rw [List.map_append, List.map_reverse]; rfl) hdg
  exact j_inv hM hdd hL hst hcode' hini hC hc hs hl hw hLo hT (X.noted hW₁) hdg hnamed hstep₁
/-- behind a call: it came back, or it threw and nothing catches -/
theorem j_ret (hcall : jCall K M d pc ls st0 st h Q' mc' ms') (hh : M.2.2.2.2 = []) (kr : ∀ (v : Option Value) (h' : jH), Q' (.inl v) h' → jE K M d (pc + 3) ls (v.toList ++ st) h' Q mc ms) (kt : ∀ (k : Nat) (h' : jH), Q' (.inr k) h' → Q (.inr k) h') : jE K M d pc ls st0 h Q (mc' + mc) (ms' + ms) := by
  intro p e R s m args below meth c H locs cells slots la hC hc hs hl hw hLo T hT X
  obtain ⟨mo, h', L, B, XB, hq, hwB, hLB, hend⟩ := hcall p e R s m args below meth c H locs cells slots la hC (by omega) (by omega) hl hw hLo T hT X
  rcases hend with ⟨v, rfl, hst⟩ | ⟨k, n, rfl, n1, n2, hst⟩
  · obtain ⟨t, a1, a2⟩ := kr v h' hq p e R s m args below meth c B.heap L _ _ la hC (by simp only [j_xc]; omega) (by simp only [j_xc]; omega) hl hwB hLB B rfl XB
    refine ⟨t, hst t a1, ?_⟩
    obtain ⟨o, mo, h2, L2, b1, b2, b3, b4, b5, b6, b7, b8⟩ := a2
    exact ⟨o, mo, h2, L2, b1, b2, b3, b4, b5, b6, b7.mono (by simp only [j_xc]; omega) (by simp only [j_xc]; omega), b8⟩
  · have hlocks := hC.2.2.2.2.2.2.1
    obtain ⟨w1, w2, w3, w4, w5⟩ := XB.leaveThrown (K.2.1 + n) (g := F0 m pc la (st.map (j_v K))) rfl rfl rfl (by rw [hC.2.2.2.2.2.2.2.2.1, hh]; intro x hx; cases hx) hlocks
    refine ⟨_, hst _ w1, .threw (K.2.1 + n), .inr k, h', L, w2, w3, ⟨n, n1, n2, rfl⟩, kt k h' hq, hwB, w4, w5.mono (by simp only [j_xc]; omega) (by simp only [j_xc]; omega), hLB⟩
/-- behind a call of a method that makes nothing -/
theorem j_ret0 (hcall : jCall K M d pc ls st0 st h Q' 0 0) (hh : M.2.2.2.2 = []) (kr : ∀ (v : Option Value) (h' : jH), Q' (.inl v) h' → jE K M d (pc + 3) ls (v.toList ++ st) h' Q mc ms) (kt : ∀ (k : Nat) (h' : jH), Q' (.inr k) h' → Q (.inr k) h') : jE K M d pc ls st0 h Q mc ms := by
  have := j_ret hcall hh kr kt
  rw [Nat.zero_add, Nat.zero_add] at this
  exact this
end JCALL
end
section
/-! THROWS: 'throw new X()' as one row; what is caught where -/
section JTHROW
variable {p : Program} {l : Launch} {e : Env} {R : Room} {s : State} {m : MethodId} {args : Array Value} {below : List Frame} {meth : Method} {c : Code} {T : State} {locs : List Loc} {cells slots : Nat}
theorem j_sbn {T U : State} {L : List Loc} {k n : Nat} {fs : List Frame} (h : (T.setFrames fs).sameButNew U L k n) : T.sameButNew U L k n := by
  obtain ⟨h1, h2, h3, h4, h5, h6⟩ := h
  refine ⟨?_, h2, h3, h4, h5, h6⟩
  rw [State.setFrames_setFrames] at h1
  exact h1
/-- the walk from here on, as if the invocation began here -/
theorem j_rebase (X : Stand p l e R s m args below meth c T locs cells slots) (hc : cells ≤ R.cells) (hs : slots ≤ R.slots) :
    Stand p l e { frames := R.frames, cells := R.cells - cells, slots := R.slots - slots, locals := R.locals } (T.setFrames (.invoking m args :: below)) m args below meth c T [] 0 0 := by
  obtain ⟨g₀, hfr⟩ := X.frames_eq
  have hcur : T.cur < T.threads.size := State.cur_lt_of_frames hfr
  have hF : (T.setFrames (.invoking m args :: below)).frames = .invoking m args :: below := State.frames_setFrames _ hcur
  obtain ⟨x, hx, -⟩ := State.frames_cons hfr
  refine ⟨X.admits, X.cas, X.clock, hF, ?_, ?_, X.method', X.code, X.here, X.tail, State.WarmedH.refl _, by rw [State.stackLimits_setFrames], by rw [State.stackBytes_setFrames], ?_⟩
  · have hroom := X.room
    simp only [State.hasRoom, Bool.and_eq_true, decide_eq_true_eq] at hroom ⊢
    obtain ⟨⟨⟨⟨r1, r2, r3, r4, r5, r6⟩, r7⟩, r8⟩, r9⟩ := hroom
    have hloc : (T.setFrames (.invoking m args :: below)).localsInUse = s.localsInUse := by
      rw [State.localsInUse_invoking hF (meth := meth) (c := c) X.method' X.code, State.localsInUse_invoking X.frames X.method X.code]
    rw [hloc, hF, State.stackLimits_setFrames, X.limits, State.stackBytes_setFrames, X.bytes]
    rw [X.frames] at r2 r3
    have hu := X.used
    have hz := X.heapSize
    refine ⟨⟨⟨⟨r1, r2, r3, r4, r5, r6⟩, ?_⟩, ?_⟩, ?_⟩
    · show T.heap.size + (R.cells - cells) ≤ _
      omega
    · show T.slotsUsed + (R.slots - slots) ≤ _
      omega
    · exact X.book
  · have hh := X.hears
    have ha := X.warmed.alike
    rcases below with _ | ⟨y, r⟩
    · simpa [State.hears, ha.method?, State.setFrames] using hh
    · cases y <;> first | exact hh | (simp only [State.hears, State.code?_eq] at hh ⊢; simpa [State.setFrames, ha.method?] using hh)
  · have h1 : (T.setFrames (.invoking m args :: below)).frames = .invoking m args :: below := hF
    obtain ⟨y, hy, -⟩ := State.frames_cons hF
    have h2 := (State.sameButNew.refl (T.setFrames (.invoking m args :: below)) hy).setFrames T.frames (State.cur_lt_of_frames hF)
    rw [State.setFrames_setFrames, State.setFrames_self hx] at h2
    exact h2
end JTHROW
theorem jLS.words {K : jK} {C n d : String} {U : State} (h : jLS K C n d U) (hK : K.2.1 = K.2.2.1.size) (hH : ∀ q : Nat, q < K.2.1 → U.heap[q]? = K.2.2.1[q]?) (A : Array Value) :
    (Cond.laysStatic C n d).before A U = true ∧ (Cond.isRef (.static C n d)).before A U = true := by
  obtain ⟨c, k, i, f, a, cell, h1, h2, h3, h4, h5, h6, h7, h8, h9, h10⟩ := h
  have ha : U.heap[a]? = some cell := by
    rw [hH a (by rw [hK]; exact (Array.getElem?_eq_some_iff.mp h5).1)]
    exact h5
  have hv : ∃ v, cell.slots[f.slot]? = some v ∧ (v = .null ∨ ∃ t, v = .ref t) := by
    rcases h10 with h | ⟨t, h⟩
    · exact ⟨_, h, Or.inl rfl⟩
    · exact ⟨_, h, Or.inr ⟨t, rfl⟩⟩
  obtain ⟨v, hv1, hv2⟩ := hv
  constructor
  · simp [Cond.before, Cond.holds, Cond.value, h1, h2, h3, h4, ha, h6, h7, h8, h9]
  · have he : (Term.static C n d).eval A U none [] U = some v := by
      simp [Term.eval, State.fieldNamed?, h2, h3, h4, ha, h6, hv1]
    rcases hv2 with rfl | ⟨t, rfl⟩ <;> simp [Cond.before, Cond.holds, Cond.value, he]
def j_four : List Cond := [.laysStatic "java/lang/Throwable" "UNASSIGNED_STACK" "[Ljava/lang/StackTraceElement;", .laysStatic "java/lang/Throwable" "SUPPRESSED_SENTINEL" "Ljava/util/List;", .isRef (.static "java/lang/Throwable" "UNASSIGNED_STACK" "[Ljava/lang/StackTraceElement;"), .isRef (.static "java/lang/Throwable" "SUPPRESSED_SENTINEL" "Ljava/util/List;")]
def j_sup : List String := ["java/lang/RuntimeException", "java/lang/Exception"]
/-- what the tables say of 'throw new X()' in the class own: ia the entry of X, ic that of its constructor, k its number -/
def jXT (own : String) (ia ic k : Nat) (X : String) : Prop := (∃ T : u_T, classes[k]? = some (X, T, 0)) ∧ Bundle.fit X = true ∧ Cond.classLink own ia X ∈ jt ∧ Cond.instantiable X 6 ∈ jt ∧ Cond.initialized X ∈ jt ∧ ∀ w ∈ Bundle.ownAtoms0 own ic X j_sup, w ∈ jt ∨ w ∈ j_four
section JTHROW2
variable {K : jK} {M : jR} {d pc : Nat} {ls : List (Nat × Value)} {st : List Value} {h : jH} {Q : jO → jH → Prop} {mc ms : Nat}
theorem j_throw {ia ic k : Nat} {X : String} (hd0 : decode M.2.1 pc = .ok (.new ia, 3)) (hd3 : decode M.2.1 (pc + 3) = .ok (.dup, 1)) (hd4 : decode M.2.1 (pc + 3 + 1) = .ok (.invokespecial ic, 3)) (hd7 : decode M.2.1 (pc + 3 + 1 + 3) = .ok (.athrow, 1)) (hf : jXT M.1.cls ia ic k X) (hh : M.2.2.2.2 = []) (hdd : 6 ≤ d) (hst : (st.map fun v => v.category).sum ≤ 8)
    (hq : Q (.inr k) (h ++ [.inr (k, [])])) : jE K M d pc ls st h Q mc ms := by
  intro p e R s m args below meth c H locs cells slots la hC hc hs hl hw hLo T hT X0
  subst hT
  obtain ⟨⟨TX, hcl⟩, hfit, hclk, hins, hini, hat⟩ := hf
  have hts := hC.2.2.2.2.1
  have hU : jU K s := ⟨fun w hw' => j_okT (j_jt hw') rfl (hts w hw'), hC.2.2.2.2.2.2.2.2.2.2.2.1, hC.2.2.2.2.2.2.2.2.2.2.2.2⟩
  have X' := j_rebase X0 (by omega) (by omega)
  obtain ⟨s', hs'⟩ : ∃ s', s' = T.setFrames (.invoking m args :: below) := ⟨_, rfl⟩
  have hvm' : s'.vm = T.vm := by rw [hs']; rfl
  have hhp' : s'.heap = T.heap := by rw [hs']; rfl
  rw [← hs'] at X'
  have hW' : s.WarmedH s'.vm := by rw [hvm']; exact X0.warmed
  have hU' : jU K s' := hU.warm hW'
  have hts' : ∀ w ∈ jt, w.before args s' = true := fun w hw' => j_okW (j_jt hw') hW' (hts w hw')
  have hown' : s'.vm.findClass M.1.cls = some m.cls := by rw [hW'.alike.findClass]; exact hC.2.2.2.1
  have htr : e.platform.stackTraces = false := Launch.traces_off hU.2.2.1 X0.admits
  have hKn := hU'.2.1.1 k _ hcl
  have hatoms : ∀ a ∈ Bundle.ownAtoms0 M.1.cls ic X j_sup, a.before args s' = true := by
    intro w hw'
    rcases hat w hw' with h1 | h1
    · exact hts' w h1
    · have hHq : ∀ q : Nat, q < K.2.1 → s'.heap[q]? = K.2.2.1[q]? := by rw [hhp']; exact hw.2.2
      have z1 := (hU'.2.2.2.2.2.1).words hU'.2.2.2.1 hHq args
      have z2 := (hU'.2.2.2.2.2.2.1).words hU'.2.2.2.1 hHq args
      simp only [j_four, List.mem_cons, List.not_mem_nil, or_false] at h1
      rcases h1 with rfl | rfl | rfl | rfl
      · exact z1.1
      · exact z2.1
      · exact z1.2
      · exact z2.2
  have hlocks := hC.2.2.2.2.2.2.1
  have hfr := hC.2.2.2.2.2.2.2.2.2.1
  have hlo := hC.2.2.2.2.2.2.2.2.2.2.1
  have hsize : la.size = c.maxLocals := hl.1.trans hC.2.2.1.symm
  have hmr : (F0 m pc la (st.map (j_v K))).monitorRoom = 0 := by first | rfl | simp [JFrame.monitorRoom, F0]
  have hsum : ((st.map (j_v K)).map fun v => v.category).sum ≤ 8 := by
    have := j_roomS (m := m) (la := la) (pc := pc) (K := K) hst
    rw [hmr] at this
    simpa using this
  have hWW : W p K.1 e { frames := R.frames, cells := R.cells - cells, slots := R.slots - slots, locals := R.locals } s' m args below meth c T.heap [] 0 0
      (fun U => U.status = .running ∧ Ended U below (.threw T.heap.size) ∧ s'.WarmedH U.vm ∧ s'.sameButNew ({ U with vm := s'.vm } : State) [] 1 6 ∧ ∃ ce : Cell, U.heap[T.heap.size]? = some ce ∧ s'.vm.findClass X = some ce.cls ∧ ce.vm = .none) (F0 m pc la (st.map (j_v K))) := by
    refine W.newcK hC.1 hC.2.1 hown' (hts' _ hclk) (hts' _ hins) (hts' _ hini) rfl hd0 (by show 0 + 1 ≤ R.cells - cells; omega) (by show 0 + 6 ≤ R.slots - slots; omega) hKn.2.1 rfl fun H1 kC hkC e1 z1 o1 => ?_
    refine lv_dup hC.1 hC.2.1 hd3 rfl ?_
    intro T2 hT2 X2
    obtain ⟨U, u1, u2, u3, u4, u5, ce, u6, u7⟩ := X2.ctorThrow0 hC.1 htr hown' hfit (by decide) hatoms (fun x hx => by cases hx) hKn.2.1 hkC (a := T.heap.size) (by rw [hT2]; exact e1) (by rw [hhp']; exact Nat.le_refl _) (g := F0 m (pc + 3 + 1) la (.ref T.heap.size :: .ref T.heap.size :: st.map (j_v K))) rfl hsize rfl rfl (rest := st.map (j_v K)) rfl
      (by rw [hC.2.1]; exact hd4) (by rw [hC.2.1]; exact hd7) (by rw [hC.2.2.2.2.2.2.2.2.1, hh]; intro x hx; cases hx) (by show 2 + 3 < R.frames; omega) (by
        have : (F0 m (pc + 3 + 1) la (.ref T.heap.size :: .ref T.heap.size :: st.map (j_v K))).monitorRoom = 0 := by first | rfl | simp [JFrame.monitorRoom, F0]
        rw [this]
        simp only [List.map_cons, List.sum_cons, Value.category]
        show 2 * 0 + (1 + ((st.map (j_v K)).map fun v => v.category).sum) + (13 * (2 + 1) + 41) ≤ R.locals
        omega) hlocks
    exact ⟨U, u1, u2, u3, u4, u5, ce, u6, u7.cls, u7.vm⟩
  obtain ⟨U, u1, u2, u3, u4, u5, ce, u6, u7, u8⟩ := hWW T rfl X'
  have hz := u5.2.1
  have hz2 := u5.2.2.1
  have hlt : T.heap.size < U.heap.size := (Array.getElem?_eq_some_iff.mp u6).1
  have hsz : U.heap.size = T.heap.size + 1 := by
    have h3 : U.heap.size ≤ s'.heap.size + 1 := hz2
    rw [hhp'] at h3
    omega
  have hold : ∀ q : Nat, q < T.heap.size → U.heap[q]? = T.heap[q]? := by
    intro q hq
    have hc0 : s'.heap[q]? = some T.heap[q] := by rw [hhp']; exact Array.getElem?_eq_getElem hq
    have h4 := u5.old_cell hc0
    rw [show T.heap[q]? = some T.heap[q] from Array.getElem?_eq_getElem hq]
    exact h4
  have hwU : jW K (h ++ [.inr (k, [])]) U.heap := by
    refine hw.push ?_ hsz hold
    rw [← hw.2.1]
    refine ⟨_, hcl, ce, u6, ?_, u8, fun j hj => absurd hj (Nat.not_lt_zero j)⟩
    exact Option.some.inj (u7.symm.trans hKn.2.1)
  have hTW : T.WarmedH U.vm := by rw [hs'] at u4; exact u4
  have hsame : T.sameButNew ({ U with vm := T.vm } : State) [] 1 6 := by
    rw [hs'] at u5
    exact j_sbn u5
  have hfin := X0.same.trans (hsame.setVm s.vm)
  rw [List.append_nil] at hfin
  exact ⟨U, u1, .threw T.heap.size, .inr k, _, locs, u2, u3, ⟨h.length, by simp, by simp, by rw [hw.2.1]⟩, hq, hwU, State.WarmedH.trans X0.warmed hTW, hfin.mono (by simp only [j_xc]; omega) (by simp only [j_xc]; omega), hLo⟩
end JTHROW2
end
section
/-! CATCHES: the search through a method's own handlers, their classes' entries resolved or not -/
/-- at pc an object of the class tn is caught at hp: each handler of the list covers pc; those ahead name a class that tn isn't -/
def jFd (own tn : String) (pc : Nat) : List (Nat × Nat × Nat × Nat) → Nat → Prop
  | [], _ => False
  | q :: r, hp => (decide (q.1 ≤ pc) && decide (pc < q.2.1)) = true ∧ q.2.2.2 ≠ 0 ∧ ∃ name : String, Cond.classLink own q.2.2.2 name ∈ jt ∧ ((tn = name ∧ q.2.2.1 = hp) ∨ ((tn, name) ∈ jnc ∧ jFd own tn pc r hp))
theorem j_goLink {e : Env} {S : State} {f : JFrame} {a : Addr} {x : ExceptionTableEntry} {t : List ExceptionTableEntry} {c : ClassId} {cell : Cell} {Q : Handler → Pre} {E : CtlPost} {d : Bool} {acts : List Action} (hx : covers x f.pc = true) (h0 : x.catchType ≠ 0)
    (hl : S.vm.ClassLinks e.platform f.method.cls x.catchType c) (hcell : S.heap[a]? = some cell) (hobj : ∀ k, cell.vm ≠ .statics k) (hk : ∃ k, S.vm.classes[cell.cls]? = some k) (hc : ∃ k, S.vm.classes[c]? = some k) :
    wp (findHandler.go f a (x :: t)) Q E e d acts S ↔ (if S.vm.assignable cell.cls c = true then Q (.found x.handlerPc) d acts (S.setVm (S.vm.noted f.method.cls x.catchType (.cls c))) else wp (findHandler.go f a t) Q E e d acts (S.setVm (S.vm.noted f.method.cls x.catchType (.cls c)))) := by
  simp only [covers] at hx
  obtain ⟨g1, g2⟩ := (resolveClass_links e.toSetting hl).op (op := VmOp.resolveClass f.method.cls x.catchType) rfl
  have hal : S.vm.Alike (S.vm.noted f.method.cls x.catchType (.cls c)) := (Vm.Alike.refl S.vm).noted _ _ _
  obtain ⟨k1, hk1⟩ := hk
  obtain ⟨k2, hk2⟩ := hc
  obtain ⟨k1', hk1', -⟩ := hal.2.2 _ _ hk1
  obtain ⟨k2', hk2', -⟩ := hal.2.2 _ _ hk2
  have has : (S.vm.noted f.method.cls x.catchType (.cls c)).assignable cell.cls c = S.vm.assignable cell.cls c := hal.assignable _ _
  cases hfit : S.vm.assignable cell.cls c <;> rw [hfit] at has <;> simp [findHandler.go, hx, h0, g1, g2, hcell, hobj, hk1', hk2', has, VmOp.dirties, VmOp.acts]
theorem j_search {e : Env} {s : State} {args : Array Value} {f : JFrame} {a : Addr} {cell : Cell} {own tn : String} (hpl : e.platform.magicAccessors = ({} : Platform).magicAccessors) (hown : s.vm.findClass own = some f.method.cls) (hts : ∀ w ∈ jt, w.before args s = true) (hnc : ∀ q ∈ jnc, va_Nc q.1 q.2 s)
    (hcls : s.vm.findClass tn = some cell.cls) (hobj : ∀ k, cell.vm ≠ .statics k) : ∀ (t : List (Nat × Nat × Nat × Nat)) (S : State) (hp : Nat), jFd own tn f.pc t hp → s.WarmedH S.vm → S.heap[a]? = some cell →
      ∃ vm', s.WarmedH vm' ∧ ∀ (Q : Handler → Pre) (E : CtlPost) (d : Bool) (acts : List Action), wp (findHandler.go f a (tableOf t)) Q E e d acts S ↔ Q (.found hp) d acts (S.setVm vm')
  | [], _, _, h, _, _ => h.elim
  | q :: r, S, hp, h, hW, hcell => by
    obtain ⟨hcov, h0, name, hlk, hor⟩ := h
    obtain ⟨c, hc, hl⟩ := Cond.classLink_spec hown (hts _ hlk) e.platform hpl
    obtain ⟨dk, _, _, kt, hd, _, _, _, _, hkt, _, hopen⟩ := hl.here
    obtain ⟨kt', hkt', -⟩ := hW.alike.2.2 _ _ hkt
    obtain ⟨k0, hk0, -⟩ := Vm.findClass_spec hcls
    obtain ⟨k0', hk0', -⟩ := hW.alike.2.2 _ _ hk0
    have hWn : s.WarmedH (S.vm.noted f.method.cls q.2.2.2 (.cls c)) := hW.noted hd hopen (State.rightAt_cls hl)
    have key : ∀ (Q : Handler → Pre) (E : CtlPost) (d : Bool) (acts : List Action), wp (findHandler.go f a (tableOf (q :: r))) Q E e d acts S ↔ _ := fun Q E d acts => j_goLink (x := ⟨q.1, q.2.1, q.2.2.1, q.2.2.2⟩) (t := tableOf r) hcov h0 (hW.classLinks hl) hcell hobj ⟨k0', hk0'⟩ ⟨kt', hkt'⟩
    rcases hor with ⟨rfl, rfl⟩ | ⟨hn, hr⟩
    · cases hcls.symm.trans hc
      refine ⟨_, hWn, fun Q E d acts => (key Q E d acts).trans ?_⟩
      rw [if_pos (va_asg _ _)]
    · obtain ⟨c1, t1, f1, f2, f3⟩ := hnc _ hn
      cases hcls.symm.trans f1
      cases hc.symm.trans f2
      obtain ⟨vm', hW', hq⟩ := j_search hpl hown hts hnc hcls hobj r (S.setVm (S.vm.noted f.method.cls q.2.2.2 (.cls c))) hp hr hWn hcell
      refine ⟨vm', hW', fun Q E d acts => (key Q E d acts).trans ?_⟩
      rw [if_neg (by rw [hW.alike.assignable, f3]; decide)]
      exact hq Q E d acts
theorem j_stepCatch {e : Env} {s : State} {a : Addr} {f : JFrame} {r : List Frame} {pc : Nat} {vm' : Vm} (hfind : ∀ (Q : Handler → Pre) (E : CtlPost) (d : Bool) (acts : List Action), wp (findHandler f a) Q E e d acts s ↔ Q (.found pc) d acts (s.setVm vm')) :
    (stepThrowing e s a (.java f :: r)).Is ((s.setVm vm').setFrames (.java { f with pc := pc, stack := [.ref a] } :: r)) [] := by
  simp only [stepThrowing, searchFrame, vmDo]
  generalize hr : Sem.go _ e false [] s = res
  obtain ⟨as, rfl, ha⟩ := Sem.eq_ok_of hr (a := Handler.found pc) (s' := s.setVm vm') (acts' := []) (by simp [hfind _ _ _ _])
  exact ⟨rfl, ha⟩
section JCATCH
variable {K : jK} {M : jR} {d pc : Nat} {ls : List (Nat × Value)} {st st0 : List Value} {h : jH} {Q Q' : jO → jH → Prop} {mc ms mc' ms' : Nat}
theorem j_catStep {p : Program} {l : Launch} {e : Env} {R : Room} {s : State} {m : MethodId} {args : Array Value} {below : List Frame} {meth : Method} {c : Code} {T : State} {locs : List Loc} {cells slots : Nat} (X : Stand p l e R s m args below meth c T locs cells slots) {g : JFrame} (hg : g.method = m) {own tn : String} {hs : List (Nat × Nat × Nat × Nat)} {hp : Nat} (htab : c.exceptionTable.toList = tableOf hs)
    (hown : s.vm.findClass own = some m.cls) (hts : ∀ w ∈ jt, w.before args s = true) (hnc : ∀ q ∈ jnc, va_Nc q.1 q.2 s) {a : Addr} {cell : Cell} (hcell : T.heap[a]? = some cell) (hcls : s.vm.findClass tn = some cell.cls) (hobj : cell.vm.isStatics = false) (hfd : jFd own tn g.pc hs hp) :
    ∃ vm', Stand p l e R s m args below meth c (T.setVm vm') locs cells slots ∧ ∀ tg, Steps p.tables e below ((T.setVm vm').setTop { g with pc := hp, stack := [.ref a] }) tg → Steps p.tables e below ((T.setTop g).pushFrame (.throwing a)) tg := by
  have hpl : e.platform.magicAccessors = ({} : Platform).magicAccessors := by rw [X.admits.platform]
  subst hg
  have hvmT : ((T.setTop g).pushFrame (.throwing a)).vm = T.vm := by simp [State.pushFrame, State.setFrames, State.setTop, State.modifyTopJava]
  have hhpT : ((T.setTop g).pushFrame (.throwing a)).heap = T.heap := by simp [State.pushFrame, State.setFrames, State.setTop, State.modifyTopJava]
  obtain ⟨vm', hW', hq⟩ := j_search (e := e) (a := a) hpl hown hts hnc hcls (VmData.ne_statics_of hobj) hs ((T.setTop g).pushFrame (.throwing a)) hp hfd (by rw [hvmT]; exact X.warmed) (by rw [hhpT]; exact hcell)
  refine ⟨vm', X.noted hW', fun tg htg => ?_⟩
  obtain ⟨hgo, hw⟩ := X.here.throwing a
  refine Steps.head hgo hw ?_
  have hfind : ∀ (Q : Handler → Pre) (E : CtlPost) (d : Bool) (acts : List Action), wp (findHandler g a) Q E e d acts ((T.setTop g).pushFrame (.throwing a)) ↔ Q (.found hp) d acts (((T.setTop g).pushFrame (.throwing a)).setVm vm') := fun Q E d acts => by
    rw [W.findHandler_eq (meth := meth) (code := c) (by rw [hvmT]; exact X.method') X.code, htab]
    exact hq Q E d acts
  rw [stepThread_throwing (frames_entered X.here.top _), (j_stepCatch hfind).1]
  obtain ⟨g₀, hg0⟩ := Option.isSome_iff_exists.mp X.here.top
  obtain ⟨r, hr⟩ := State.topJava?_eq_some.mp hg0
  have hr' : (T.setVm vm').frames = .java g₀ :: r := hr
  have e1 : ∀ (u : State) (F G : List Frame), ((u.setFrames F).setVm vm').setFrames G = (u.setVm vm').setFrames G := fun u F G => by
    have h1 : (u.setFrames F).setVm vm' = (u.setVm vm').setFrames F := rfl
    rw [h1, State.setFrames_setFrames]
  rw [State.setTop_of_frames _ hr'] at htg
  rw [hr, List.tail_cons, State.pushFrame, e1, State.setTop_of_frames _ hr, e1]
  exact htg
/-- behind a call in a method with handlers: it came back, or what it threw is caught -/
theorem j_catch (hcall : jCall K M d pc ls st0 st h Q' mc' ms') (kr : ∀ (v : Option Value) (h' : jH), Q' (.inl v) h' → jE K M d (pc + 3) ls (v.toList ++ st) h' Q mc ms)
    (kt : ∀ (k : Nat) (h' : jH), Q' (.inr k) h' → ∃ (X : String) (T : u_T) (hp : Nat), classes[k]? = some (X, T, 0) ∧ jFd M.1.cls X pc M.2.2.2.2 hp ∧ jE K M d hp ls [.ref (31 + h'.length)] h' Q mc ms) : jE K M d pc ls st0 h Q (mc' + 1 + mc) (ms' + 6 + ms) := by
  intro p e R s m args below meth c H locs cells slots la hC hc hs hl hw hLo T hT X
  obtain ⟨mo, h', L, B, XB, hq, hwB, hLB, hend⟩ := hcall p e R s m args below meth c H locs cells slots la hC (by omega) (by omega) hl hw hLo T hT X
  rcases hend with ⟨v, rfl, hst⟩ | ⟨k, n, rfl, n1, n2, hst⟩
  · obtain ⟨t, a1, a2⟩ := kr v h' hq p e R s m args below meth c B.heap L _ _ la hC (by simp only [j_xc]; omega) (by simp only [j_xc]; omega) hl hwB hLB B rfl XB
    refine ⟨t, hst t a1, ?_⟩
    obtain ⟨o, mo, h2, L2, b1, b2, b3, b4, b5, b6, b7, b8⟩ := a2
    exact ⟨o, mo, h2, L2, b1, b2, b3, b4, b5, b6, b7.mono (by simp only [j_xc]; omega) (by simp only [j_xc]; omega), b8⟩
  · obtain ⟨X9, TX, hp, hcl, hfd, hE⟩ := kt k h' hq
    obtain ⟨r9, g1, cell, g2, g3, g4, -⟩ := hwB.1 n _ n2
    have hK := hC.2.2.2.2.2.2.2.2.2.2.2.1
    have hXs := hC.2.2.2.2.2.2.2.2.2.2.2.2
    obtain ⟨vm', X2, hs2⟩ := j_catStep XB (g := F0 m pc la (st.map (j_v K))) rfl (hs := M.2.2.2.2) (hp := hp) hC.2.2.2.2.2.2.2.2.1 hC.2.2.2.1 hC.2.2.2.2.1 hXs.2.2.1 (a := K.2.1 + n) (cell := cell) (tn := X9) g2 (by rw [g3]; exact (hK.1 k _ hcl).2.1) (by rw [g4]; rfl) hfd
    obtain ⟨t, a1, a2⟩ := hE p e R s m args below meth c B.heap L _ _ la hC (by simp only [j_xc]; omega) (by simp only [j_xc]; omega) hl hwB hLB (B.setVm vm') rfl X2
    have e9 : ([.ref (31 + h'.length)] : List Value).map (j_v K) = [.ref (K.2.1 + n)] := by
      show ([.ref (j_adr K (31 + h'.length))] : List Value) = _
      rw [n1, show 31 + (n + 1) = 32 + n by omega, j_adr_new]
    rw [e9] at a1
    refine ⟨t, hst t (hs2 t a1), ?_⟩
    obtain ⟨o, mo, h2, L2, b1, b2, b3, b4, b5, b6, b7, b8⟩ := a2
    exact ⟨o, mo, h2, L2, b1, b2, b3, b4, b5, b6, b7.mono (by simp only [j_xc]; omega) (by simp only [j_xc]; omega), b8⟩
end JCATCH
end
section
/-! methods -/
def y_B_init : MethodName := ⟨"BitLoom", "<init>", "()V"⟩
abbrev b_B_init : ByteArray := prog_1_method_1_code
abbrev M_B_init : jR := (y_B_init, b_B_init, 1, (none), [])
def y_F_init : MethodName := ⟨"BitLoom$Fields", "<init>", "()V"⟩
abbrev b_F_init : ByteArray := prog_5_method_1_code
abbrev M_F_init : jR := (y_F_init, b_F_init, 1, (none), [])
def y_W_init : MethodName := ⟨"BitLoom$Words", "<init>", "()V"⟩
abbrev b_W_init : ByteArray := prog_11_method_1_code
abbrev M_W_init : jR := (y_W_init, b_W_init, 1, (none), [])
def y_T_init : MethodName := ⟨"BitLoom$Text", "<init>", "()V"⟩
abbrev b_T_init : ByteArray := prog_9_method_1_code
abbrev M_T_init : jR := (y_T_init, b_T_init, 1, (none), [])
def y_S_init : MethodName := ⟨"BitLoom$Statement", "<init>", "(LBitLoom$Fields;LBitLoom$Words;LBitLoom$Text;)V"⟩
abbrev b_S_init : ByteArray := prog_8_method_1_code
abbrev M_S_init : jR := (y_S_init, b_S_init, 4, (none), [])
def y_K_init : MethodName := ⟨"BitLoom$Tokens", "<init>", "(LBitLoom$Text;)V"⟩
abbrev b_K_init : ByteArray := prog_10_method_1_code
abbrev M_K_init : jR := (y_K_init, b_K_init, 2, (none), [])
def y_P_init : MethodName := ⟨"BitLoom$Pair", "<init>", "(LBitLoom$Fields;)V"⟩
abbrev b_P_init : ByteArray := prog_7_method_1_code
abbrev M_P_init : jR := (y_P_init, b_P_init, 2, (none), [])
def y_O_init : MethodName := ⟨"BitLoom$Operand", "<init>", "(LBitLoom$Fields;)V"⟩
abbrev b_O_init : ByteArray := prog_6_method_1_code
abbrev M_O_init : jR := (y_O_init, b_O_init, 2, (none), [])
def y_C_init : MethodName := ⟨"BitLoom$Change", "<init>", "(LBitLoom$Fields;)V"⟩
abbrev b_C_init : ByteArray := prog_4_method_1_code
abbrev M_C_init : jR := (y_C_init, b_C_init, 2, (none), [])
def y_B_search : MethodName := ⟨"BitLoom", "search", "(IIZ)I"⟩
abbrev b_B_search : ByteArray := prog_1_method_8_code
abbrev M_B_search : jR := (y_B_search, b_B_search, 5, (some .int), [])
def y_W_responding : MethodName := ⟨"BitLoom$Words", "responding", "()I"⟩
abbrev b_W_responding : ByteArray := prog_11_method_6_code
abbrev M_W_responding : jR := (y_W_responding, b_W_responding, 1, (some .int), [])
def y_W_inUse : MethodName := ⟨"BitLoom$Words", "inUse", "()I"⟩
abbrev b_W_inUse : ByteArray := prog_11_method_5_code
abbrev M_W_inUse : jR := (y_W_inUse, b_W_inUse, 1, (some .int), [])
def y_W_matching : MethodName := ⟨"BitLoom$Words", "matching", "(III)I"⟩
abbrev b_W_matching : ByteArray := prog_11_method_12_code
abbrev M_W_matching : jR := (y_W_matching, b_W_matching, 6, (some .int), [])
def y_W_holds : MethodName := ⟨"BitLoom$Words", "holds", "(II)Z"⟩
abbrev b_W_holds : ByteArray := prog_11_method_2_code
abbrev M_W_holds : jR := (y_W_holds, b_W_holds, 2, (some .boolean), [])
def y_W_respondOnly : MethodName := ⟨"BitLoom$Words", "respondOnly", "(I)V"⟩
abbrev b_W_respondOnly : ByteArray := prog_11_method_11_code
abbrev M_W_respondOnly : jR := (y_W_respondOnly, b_W_respondOnly, 2, (none), [])
def y_JInteger_bitCount : MethodName := ⟨"java/lang/Integer", "bitCount", "(I)I"⟩
abbrev b_JInteger_bitCount : ByteArray := prog_20_method_49_code
abbrev M_JInteger_bitCount : jR := (y_JInteger_bitCount, b_JInteger_bitCount, 1, (some .int), [])
def y_B_first : MethodName := ⟨"BitLoom", "first", "()I"⟩
abbrev b_B_first : ByteArray := prog_1_method_11_code
abbrev M_B_first : jR := (y_B_first, b_B_first, 2, (some .int), [])
def y_W_lowestOf : MethodName := ⟨"BitLoom$Words", "lowestOf", "(I)I"⟩
abbrev b_W_lowestOf : ByteArray := prog_11_method_3_code
abbrev M_W_lowestOf : jR := (y_W_lowestOf, b_W_lowestOf, 2, (some .int), [])
def y_B_write : MethodName := ⟨"BitLoom", "write", "(J)Z"⟩
abbrev b_B_write : ByteArray := prog_1_method_12_code
abbrev M_B_write : jR := (y_B_write, b_B_write, 3, (some .boolean), [])
def y_T_canTake : MethodName := ⟨"BitLoom$Text", "canTake", "(J)Z"⟩
abbrev b_T_canTake : ByteArray := prog_9_method_5_code
abbrev M_T_canTake : jR := (y_T_canTake, b_T_canTake, 6, (some .boolean), [])
def y_T_codeOf : MethodName := ⟨"BitLoom$Text", "codeOf", "(JI)I"⟩
abbrev b_T_codeOf : ByteArray := prog_9_method_7_code
abbrev M_T_codeOf : jR := (y_T_codeOf, b_T_codeOf, 3, (some .int), [])
def y_T_append : MethodName := ⟨"BitLoom$Text", "append", "(J)V"⟩
abbrev b_T_append : ByteArray := prog_9_method_6_code
abbrev M_T_append : jR := (y_T_append, b_T_append, 5, (none), [])
def y_B_wipe : MethodName := ⟨"BitLoom", "wipe", "()I"⟩
abbrev b_B_wipe : ByteArray := prog_1_method_13_code
abbrev M_B_wipe : jR := (y_B_wipe, b_B_wipe, 2, (some .int), [])
def y_T_length : MethodName := ⟨"BitLoom$Text", "length", "()I"⟩
abbrev b_T_length : ByteArray := prog_9_method_2_code
abbrev M_T_length : jR := (y_T_length, b_T_length, 1, (some .int), [])
def y_T_clear : MethodName := ⟨"BitLoom$Text", "clear", "()V"⟩
abbrev b_T_clear : ByteArray := prog_9_method_4_code
abbrev M_T_clear : jR := (y_T_clear, b_T_clear, 1, (none), [])
def y_B_place : MethodName := ⟨"BitLoom", "place", "()I"⟩
abbrev b_B_place : ByteArray := prog_1_method_15_code
abbrev M_B_place : jR := (y_B_place, b_B_place, 1, (some .int), [])
def y_S_wrongAt : MethodName := ⟨"BitLoom$Statement", "wrongAt", "()I"⟩
abbrev b_S_wrongAt : ByteArray := prog_8_method_2_code
abbrev M_S_wrongAt : jR := (y_S_wrongAt, b_S_wrongAt, 1, (some .int), [])
def y_B_refused : MethodName := ⟨"BitLoom", "refused", "()I"⟩
abbrev b_B_refused : ByteArray := prog_1_method_16_code
abbrev M_B_refused : jR := (y_B_refused, b_B_refused, 1, (some .int), [])
def y_B_field : MethodName := ⟨"BitLoom", "field", "(CIIZ)V"⟩
abbrev b_B_field : ByteArray := prog_1_method_2_code
abbrev M_B_field : jR := (y_B_field, b_B_field, 5, (none), [])
def y_F_isNewName : MethodName := ⟨"BitLoom$Fields", "isNewName", "(C)Z"⟩
abbrev b_F_isNewName : ByteArray := prog_5_method_3_code
abbrev M_F_isNewName : jR := (y_F_isNewName, b_F_isNewName, 2, (some .boolean), [])
def y_F_indexOf : MethodName := ⟨"BitLoom$Fields", "indexOf", "(C)I"⟩
abbrev b_F_indexOf : ByteArray := prog_5_method_6_code
abbrev M_F_indexOf : jR := (y_F_indexOf, b_F_indexOf, 3, (some .int), [])
def y_F_isOpenGround : MethodName := ⟨"BitLoom$Fields", "isOpenGround", "(II)Z"⟩
abbrev b_F_isOpenGround : ByteArray := prog_5_method_4_code
abbrev M_F_isOpenGround : jR := (y_F_isOpenGround, b_F_isOpenGround, 3, (some .boolean), [])
def y_F_ground : MethodName := ⟨"BitLoom$Fields", "ground", "(II)I"⟩
abbrev b_F_ground : ByteArray := prog_5_method_10_code
abbrev M_F_ground : jR := (y_F_ground, b_F_ground, 2, (some .int), [])
def y_F_isFull : MethodName := ⟨"BitLoom$Fields", "isFull", "()Z"⟩
abbrev b_F_isFull : ByteArray := prog_5_method_2_code
abbrev M_F_isFull : jR := (y_F_isFull, b_F_isFull, 1, (some .boolean), [])
def y_F_append : MethodName := ⟨"BitLoom$Fields", "append", "(CIIZ)V"⟩
abbrev b_F_append : ByteArray := prog_5_method_5_code
abbrev M_F_append : jR := (y_F_append, b_F_append, 5, (none), [])
def y_B_insert : MethodName := ⟨"BitLoom", "insert", "()I"⟩
abbrev b_B_insert : ByteArray := prog_1_method_3_code
abbrev M_B_insert : jR := (y_B_insert, b_B_insert, 2, (some .int), [])
def y_W_free : MethodName := ⟨"BitLoom$Words", "free", "()I"⟩
abbrev b_W_free : ByteArray := prog_11_method_4_code
abbrev M_W_free : jR := (y_W_free, b_W_free, 1, (some .int), [])
def y_W_occupy : MethodName := ⟨"BitLoom$Words", "occupy", "(I)V"⟩
abbrev b_W_occupy : ByteArray := prog_11_method_9_code
abbrev M_W_occupy : jR := (y_W_occupy, b_W_occupy, 2, (none), [])
def y_B_remove : MethodName := ⟨"BitLoom", "remove", "(I)V"⟩
abbrev b_B_remove : ByteArray := prog_1_method_4_code
abbrev M_B_remove : jR := (y_B_remove, b_B_remove, 2, (none), [])
def y_B_requireWord : MethodName := ⟨"BitLoom", "requireWord", "(I)V"⟩
abbrev b_B_requireWord : ByteArray := prog_1_method_18_code
abbrev M_B_requireWord : jR := (y_B_requireWord, b_B_requireWord, 2, (none), [])
def y_B_requireInUse : MethodName := ⟨"BitLoom", "requireInUse", "(I)V"⟩
abbrev b_B_requireInUse : ByteArray := prog_1_method_20_code
abbrev M_B_requireInUse : jR := (y_B_requireInUse, b_B_requireInUse, 2, (none), [])
def y_W_release : MethodName := ⟨"BitLoom$Words", "release", "(I)V"⟩
abbrev b_W_release : ByteArray := prog_11_method_10_code
abbrev M_W_release : jR := (y_W_release, b_W_release, 2, (none), [])
def y_B_put : MethodName := ⟨"BitLoom", "put", "(ICI)V"⟩
abbrev b_B_put : ByteArray := prog_1_method_5_code
abbrev M_B_put : jR := (y_B_put, b_B_put, 5, (none), [])
def y_B_requireField : MethodName := ⟨"BitLoom", "requireField", "(C)I"⟩
abbrev b_B_requireField : ByteArray := prog_1_method_19_code
abbrev M_B_requireField : jR := (y_B_requireField, b_B_requireField, 3, (some .int), [])
def y_F_fits : MethodName := ⟨"BitLoom$Fields", "fits", "(II)Z"⟩
abbrev b_F_fits : ByteArray := prog_5_method_7_code
abbrev M_F_fits : jR := (y_F_fits, b_F_fits, 5, (some .boolean), [])
def y_W_bitsOf : MethodName := ⟨"BitLoom$Words", "bitsOf", "(I)I"⟩
abbrev b_W_bitsOf : ByteArray := prog_11_method_7_code
abbrev M_W_bitsOf : jR := (y_W_bitsOf, b_W_bitsOf, 2, (some .int), [])
def y_F_withValue : MethodName := ⟨"BitLoom$Fields", "withValue", "(III)I"⟩
abbrev b_F_withValue : ByteArray := prog_5_method_9_code
abbrev M_F_withValue : jR := (y_F_withValue, b_F_withValue, 5, (some .int), [])
def y_W_replace : MethodName := ⟨"BitLoom$Words", "replace", "(II)V"⟩
abbrev b_W_replace : ByteArray := prog_11_method_8_code
abbrev M_W_replace : jR := (y_W_replace, b_W_replace, 3, (none), [])
def y_B_get : MethodName := ⟨"BitLoom", "get", "(IC)I"⟩
abbrev b_B_get : ByteArray := prog_1_method_6_code
abbrev M_B_get : jR := (y_B_get, b_B_get, 4, (some .int), [])
def y_F_valueIn : MethodName := ⟨"BitLoom$Fields", "valueIn", "(II)I"⟩
abbrev b_F_valueIn : ByteArray := prog_5_method_8_code
abbrev M_F_valueIn : jR := (y_F_valueIn, b_F_valueIn, 5, (some .int), [])
def y_B_bit : MethodName := ⟨"BitLoom", "bit", "(II)Z"⟩
abbrev b_B_bit : ByteArray := prog_1_method_7_code
abbrev M_B_bit : jR := (y_B_bit, b_B_bit, 3, (some .boolean), [])
def y_B_multi : MethodName := ⟨"BitLoom", "multi", "(II)V"⟩
abbrev b_B_multi : ByteArray := prog_1_method_9_code
abbrev M_B_multi : jR := (y_B_multi, b_B_multi, 3, (none), [])
def y_W_overwrite : MethodName := ⟨"BitLoom$Words", "overwrite", "(III)V"⟩
abbrev b_W_overwrite : ByteArray := prog_11_method_13_code
abbrev M_W_overwrite : jR := (y_W_overwrite, b_W_overwrite, 5, (none), [])
def y_B_responds : MethodName := ⟨"BitLoom", "responds", "(I)Z"⟩
abbrev b_B_responds : ByteArray := prog_1_method_10_code
abbrev M_B_responds : jR := (y_B_responds, b_B_responds, 2, (some .boolean), [])
def y_B_run : MethodName := ⟨"BitLoom", "run", "()I"⟩
abbrev b_B_run : ByteArray := prog_1_method_14_code
abbrev M_B_run : jR := (y_B_run, b_B_run, 3, (some .int), [])
def y_S_read : MethodName := ⟨"BitLoom$Statement", "read", "()V"⟩
abbrev b_S_read : ByteArray := prog_8_method_9_code
abbrev M_S_read : jR := (y_S_read, b_S_read, 1, (none), [])
def y_K_cut : MethodName := ⟨"BitLoom$Tokens", "cut", "()V"⟩
abbrev b_K_cut : ByteArray := prog_10_method_2_code
abbrev M_K_cut : jR := (y_K_cut, b_K_cut, 3, (none), [])
def y_T_at : MethodName := ⟨"BitLoom$Text", "at", "(I)C"⟩
abbrev b_T_at : ByteArray := prog_9_method_3_code
abbrev M_T_at : jR := (y_T_at, b_T_at, 2, (some .char), [])
def y_K_cutOne : MethodName := ⟨"BitLoom$Tokens", "cutOne", "(I)I"⟩
abbrev b_K_cutOne : ByteArray := prog_10_method_12_code
abbrev M_K_cutOne : jR := (y_K_cutOne, b_K_cutOne, 4, (some .int), [])
def y_K_isBetween : MethodName := ⟨"BitLoom$Tokens", "isBetween", "(CCC)Z"⟩
abbrev b_K_isBetween : ByteArray := prog_10_method_14_code
abbrev M_K_isBetween : jR := (y_K_isBetween, b_K_isBetween, 3, (some .boolean), [])
def y_K_endOf : MethodName := ⟨"BitLoom$Tokens", "endOf", "(ICC)I"⟩
abbrev b_K_endOf : ByteArray := prog_10_method_13_code
abbrev M_K_endOf : jR := (y_K_endOf, b_K_endOf, 5, (some .int), [])
def y_K_append : MethodName := ⟨"BitLoom$Tokens", "append", "(CII)I"⟩
abbrev b_K_append : ByteArray := prog_10_method_15_code
abbrev M_K_append : jR := (y_K_append, b_K_append, 4, (some .int), [])
def y_JString_indexOf0 : MethodName := ⟨"java/lang/String", "indexOf", "(I)I"⟩
abbrev b_JString_indexOf0 : ByteArray := prog_23_method_79_code
abbrev M_JString_indexOf0 : jR := (y_JString_indexOf0, b_JString_indexOf0, 2, (some .int), [])
def y_JString_indexOf1 : MethodName := ⟨"java/lang/String", "indexOf", "(II)I"⟩
abbrev b_JString_indexOf1 : ByteArray := prog_23_method_80_code
abbrev M_JString_indexOf1 : jR := (y_JString_indexOf1, b_JString_indexOf1, 3, (some .int), [])
def y_JString_isLatin1 : MethodName := ⟨"java/lang/String", "isLatin1", "()Z"⟩
abbrev b_JString_isLatin1 : ByteArray := prog_23_method_154_code
abbrev M_JString_isLatin1 : jR := (y_JString_isLatin1, b_JString_isLatin1, 1, (some .boolean), [])
def y_JString_length : MethodName := ⟨"java/lang/String", "length", "()I"⟩
abbrev b_JString_length : ByteArray := prog_23_method_54_code
abbrev M_JString_length : jR := (y_JString_length, b_JString_length, 1, (some .int), [])
def y_JString_coder : MethodName := ⟨"java/lang/String", "coder", "()B"⟩
abbrev b_JString_coder : ByteArray := prog_23_method_152_code
abbrev M_JString_coder : jR := (y_JString_coder, b_JString_coder, 1, (some .byte), [])
def y_JStringLatin1_indexOf : MethodName := ⟨"java/lang/StringLatin1", "indexOf", "([BIII)I"⟩
abbrev b_JStringLatin1_indexOf : ByteArray := prog_24_method_22_code
abbrev M_JStringLatin1_indexOf : jR := (y_JStringLatin1_indexOf, b_JStringLatin1_indexOf, 4, (some .int), [])
def y_JStringLatin1_canEncode : MethodName := ⟨"java/lang/StringLatin1", "canEncode", "(I)Z"⟩
abbrev b_JStringLatin1_canEncode : ByteArray := prog_24_method_4_code
abbrev M_JStringLatin1_canEncode : jR := (y_JStringLatin1_canEncode, b_JStringLatin1_canEncode, 1, (some .boolean), [])
def y_JMath_max : MethodName := ⟨"java/lang/Math", "max", "(II)I"⟩
abbrev b_JMath_max : ByteArray := prog_21_method_65_code
abbrev M_JMath_max : jR := (y_JMath_max, b_JMath_max, 2, (some .int), [])
def y_JMath_min : MethodName := ⟨"java/lang/Math", "min", "(II)I"⟩
abbrev b_JMath_min : ByteArray := prog_21_method_69_code
abbrev M_JMath_min : jR := (y_JMath_min, b_JMath_min, 2, (some .int), [])
def y_JStringLatin1_indexOfChar : MethodName := ⟨"java/lang/StringLatin1", "indexOfChar", "([BIII)I"⟩
abbrev b_JStringLatin1_indexOfChar : ByteArray := prog_24_method_23_code
abbrev M_JStringLatin1_indexOfChar : jR := (y_JStringLatin1_indexOfChar, b_JStringLatin1_indexOfChar, 6, (some .int), [])
def y_K_isWord : MethodName := ⟨"BitLoom$Tokens", "isWord", "(Ljava/lang/String;)Z"⟩
abbrev b_K_isWord : ByteArray := prog_10_method_9_code
abbrev M_K_isWord : jR := (y_K_isWord, b_K_isWord, 3, (some .boolean), [])
def y_JString_charAt : MethodName := ⟨"java/lang/String", "charAt", "(I)C"⟩
abbrev b_JString_charAt : ByteArray := prog_23_method_56_code
abbrev M_JString_charAt : jR := (y_JString_charAt, b_JString_charAt, 2, (some .char), [])
def y_JStringLatin1_charAt : MethodName := ⟨"java/lang/StringLatin1", "charAt", "([BI)C"⟩
abbrev b_JStringLatin1_charAt : ByteArray := prog_24_method_2_code
abbrev M_JStringLatin1_charAt : jR := (y_JStringLatin1_charAt, b_JStringLatin1_charAt, 2, (some .char), [])
def y_JString_checkIndex : MethodName := ⟨"java/lang/String", "checkIndex", "(II)V"⟩
abbrev b_JString_checkIndex : ByteArray := prog_23_method_155_code
abbrev M_JString_checkIndex : jR := (y_JString_checkIndex, b_JString_checkIndex, 2, (none), [])
def y_JPreconditions_checkIndex : MethodName := ⟨"jdk/internal/util/Preconditions", "checkIndex", "(IILjava/util/function/BiFunction;)I"⟩
abbrev b_JPreconditions_checkIndex : ByteArray := prog_28_method_11_code
abbrev M_JPreconditions_checkIndex : jR := (y_JPreconditions_checkIndex, b_JPreconditions_checkIndex, 3, (some .int), [])
def y_K_advance : MethodName := ⟨"BitLoom$Tokens", "advance", "()V"⟩
abbrev b_K_advance : ByteArray := prog_10_method_3_code
abbrev M_K_advance : jR := (y_K_advance, b_K_advance, 1, (none), [])
def y_S_readCondition : MethodName := ⟨"BitLoom$Statement", "readCondition", "(I)I"⟩
abbrev b_S_readCondition : ByteArray := prog_8_method_11_code
abbrev M_S_readCondition : jR := (y_S_readCondition, b_S_readCondition, 4, (some .int), [])
def y_S_readClause : MethodName := ⟨"BitLoom$Statement", "readClause", "(I)I"⟩
abbrev b_S_readClause : ByteArray := prog_8_method_12_code
abbrev M_S_readClause : jR := (y_S_readClause, b_S_readClause, 4, (some .int), [])
def y_S_readOne : MethodName := ⟨"BitLoom$Statement", "readOne", "(I)I"⟩
abbrev b_S_readOne : ByteArray := prog_8_method_13_code
abbrev M_S_readOne : jR := (y_S_readOne, b_S_readOne, 4, (some .int), [])
def y_K_isSign : MethodName := ⟨"BitLoom$Tokens", "isSign", "(C)Z"⟩
abbrev b_K_isSign : ByteArray := prog_10_method_6_code
abbrev M_K_isSign : jR := (y_K_isSign, b_K_isSign, 2, (some .boolean), [])
def y_S_readComparison : MethodName := ⟨"BitLoom$Statement", "readComparison", "()I"⟩
abbrev b_S_readComparison : ByteArray := prog_8_method_14_code
abbrev M_S_readComparison : jR := (y_S_readComparison, b_S_readComparison, 3, (some .int), [])
def y_S_readOperand : MethodName := ⟨"BitLoom$Statement", "readOperand", "(LBitLoom$Operand;)V"⟩
abbrev b_S_readOperand : ByteArray := prog_8_method_18_code
abbrev M_S_readOperand : jR := (y_S_readOperand, b_S_readOperand, 3, (none), [])
def y_K_isNumber : MethodName := ⟨"BitLoom$Tokens", "isNumber", "()Z"⟩
abbrev b_K_isNumber : ByteArray := prog_10_method_7_code
abbrev M_K_isNumber : jR := (y_K_isNumber, b_K_isNumber, 1, (some .boolean), [])
def y_K_number : MethodName := ⟨"BitLoom$Tokens", "number", "()I"⟩
abbrev b_K_number : ByteArray := prog_10_method_8_code
abbrev M_K_number : jR := (y_K_number, b_K_number, 3, (some .int), [])
def y_O_becomeNumber : MethodName := ⟨"BitLoom$Operand", "becomeNumber", "(I)V"⟩
abbrev b_O_becomeNumber : ByteArray := prog_6_method_3_code
abbrev M_O_becomeNumber : jR := (y_O_becomeNumber, b_O_becomeNumber, 2, (none), [])
def y_S_refuse : MethodName := ⟨"BitLoom$Statement", "refuse", "()V"⟩
abbrev b_S_refuse : ByteArray := prog_8_method_10_code
abbrev M_S_refuse : jR := (y_S_refuse, b_S_refuse, 1, (none), [])
def y_K_start : MethodName := ⟨"BitLoom$Tokens", "start", "()I"⟩
abbrev b_K_start : ByteArray := prog_10_method_4_code
abbrev M_K_start : jR := (y_K_start, b_K_start, 1, (some .int), [])
def y_S_readField : MethodName := ⟨"BitLoom$Statement", "readField", "()I"⟩
abbrev b_S_readField : ByteArray := prog_8_method_19_code
abbrev M_S_readField : jR := (y_S_readField, b_S_readField, 2, (some .int), [])
def y_K_isLetter : MethodName := ⟨"BitLoom$Tokens", "isLetter", "()Z"⟩
abbrev b_K_isLetter : ByteArray := prog_10_method_10_code
abbrev M_K_isLetter : jR := (y_K_isLetter, b_K_isLetter, 1, (some .boolean), [])
def y_K_letter : MethodName := ⟨"BitLoom$Tokens", "letter", "()C"⟩
abbrev b_K_letter : ByteArray := prog_10_method_11_code
abbrev M_K_letter : jR := (y_K_letter, b_K_letter, 1, (some .char), [])
def y_O_becomeField : MethodName := ⟨"BitLoom$Operand", "becomeField", "(I)V"⟩
abbrev b_O_becomeField : ByteArray := prog_6_method_2_code
abbrev M_O_becomeField : jR := (y_O_becomeField, b_O_becomeField, 2, (none), [])
def y_S_readSign : MethodName := ⟨"BitLoom$Statement", "readSign", "(CCC)C"⟩
abbrev b_S_readSign : ByteArray := prog_8_method_21_code
abbrev M_S_readSign : jR := (y_S_readSign, b_S_readSign, 5, (some .char), [])
def y_P_isTrueIn : MethodName := ⟨"BitLoom$Pair", "isTrueIn", "(I)Z"⟩
abbrev b_P_isTrueIn : ByteArray := prog_7_method_2_code
abbrev M_P_isTrueIn : jR := (y_P_isTrueIn, b_P_isTrueIn, 3, (some .boolean), [])
def y_O_valueIn : MethodName := ⟨"BitLoom$Operand", "valueIn", "(I)I"⟩
abbrev b_O_valueIn : ByteArray := prog_6_method_4_code
abbrev M_O_valueIn : jR := (y_O_valueIn, b_O_valueIn, 2, (some .int), [])
def y_JInteger_compare : MethodName := ⟨"java/lang/Integer", "compare", "(II)I"⟩
abbrev b_JInteger_compare : ByteArray := prog_20_method_40_code
abbrev M_JInteger_compare : jR := (y_JInteger_compare, b_JInteger_compare, 2, (some .int), [])
def y_S_passSign : MethodName := ⟨"BitLoom$Statement", "passSign", "(C)V"⟩
abbrev b_S_passSign : ByteArray := prog_8_method_20_code
abbrev M_S_passSign : jR := (y_S_passSign, b_S_passSign, 2, (none), [])
def y_S_readAction : MethodName := ⟨"BitLoom$Statement", "readAction", "()V"⟩
abbrev b_S_readAction : ByteArray := prog_8_method_15_code
abbrev M_S_readAction : jR := (y_S_readAction, b_S_readAction, 1, (none), [])
def y_S_readVerb : MethodName := ⟨"BitLoom$Statement", "readVerb", "()V"⟩
abbrev b_S_readVerb : ByteArray := prog_8_method_16_code
abbrev M_S_readVerb : jR := (y_S_readVerb, b_S_readVerb, 3, (none), [])
def y_A_word : MethodName := ⟨"BitLoom$Action", "word", "()Ljava/lang/String;"⟩
abbrev b_A_word : ByteArray := prog_3_method_4_code
abbrev M_A_word : jR := (y_A_word, b_A_word, 1, (some (.object "java/lang/String")), [])
def y_S_readChange : MethodName := ⟨"BitLoom$Statement", "readChange", "(LBitLoom$Change;)V"⟩
abbrev b_S_readChange : ByteArray := prog_8_method_17_code
abbrev M_S_readChange : jR := (y_S_readChange, b_S_readChange, 2, (none), [])
def y_K_isEnd : MethodName := ⟨"BitLoom$Tokens", "isEnd", "()Z"⟩
abbrev b_K_isEnd : ByteArray := prog_10_method_5_code
abbrev M_K_isEnd : jR := (y_K_isEnd, b_K_isEnd, 1, (some .boolean), [])
def y_S_lacksWord : MethodName := ⟨"BitLoom$Statement", "lacksWord", "()Z"⟩
abbrev b_S_lacksWord : ByteArray := prog_8_method_6_code
abbrev M_S_lacksWord : jR := (y_S_lacksWord, b_S_lacksWord, 1, (some .boolean), [])
def y_S_taken : MethodName := ⟨"BitLoom$Statement", "taken", "()I"⟩
abbrev b_S_taken : ByteArray := prog_8_method_3_code
abbrev M_S_taken : jR := (y_S_taken, b_S_taken, 1, (some .int), [])
def y_B_carryOut : MethodName := ⟨"BitLoom", "carryOut", "(I)I"⟩
abbrev b_B_carryOut : ByteArray := prog_1_method_21_code
abbrev M_B_carryOut : jR := (y_B_carryOut, b_B_carryOut, 3, (some .int), [])
def y_S_subject : MethodName := ⟨"BitLoom$Statement", "subject", "()I"⟩
abbrev b_S_subject : ByteArray := prog_8_method_5_code
abbrev M_S_subject : jR := (y_S_subject, b_S_subject, 1, (some .int), [])
def y_S_action : MethodName := ⟨"BitLoom$Statement", "action", "()LBitLoom$Action;"⟩
abbrev b_S_action : ByteArray := prog_8_method_4_code
abbrev M_S_action : jR := (y_S_action, b_S_action, 1, (some (.object "BitLoom$Action")), [])
def y_JEnum_ordinal : MethodName := ⟨"java/lang/Enum", "ordinal", "()I"⟩
abbrev b_JEnum_ordinal : ByteArray := prog_15_method_2_code
abbrev M_JEnum_ordinal : jR := (y_JEnum_ordinal, b_JEnum_ordinal, 1, (some .int), [])
def y_B_changeAll : MethodName := ⟨"BitLoom", "changeAll", "(I)I"⟩
abbrev b_B_changeAll : ByteArray := prog_1_method_28_code
abbrev M_B_changeAll : jR := (y_B_changeAll, b_B_changeAll, 5, (some .int), [])
def y_S_canChange : MethodName := ⟨"BitLoom$Statement", "canChange", "(I)Z"⟩
abbrev b_S_canChange : ByteArray := prog_8_method_7_code
abbrev M_S_canChange : jR := (y_S_canChange, b_S_canChange, 2, (some .boolean), [])
def y_C_fitsIn : MethodName := ⟨"BitLoom$Change", "fitsIn", "(I)Z"⟩
abbrev b_C_fitsIn : ByteArray := prog_4_method_2_code
abbrev M_C_fitsIn : jR := (y_C_fitsIn, b_C_fitsIn, 2, (some .boolean), [])
def y_P_resultIn : MethodName := ⟨"BitLoom$Pair", "resultIn", "(I)I"⟩
abbrev b_P_resultIn : ByteArray := prog_7_method_3_code
abbrev M_P_resultIn : jR := (y_P_resultIn, b_P_resultIn, 3, (some .int), [])
def y_S_changed : MethodName := ⟨"BitLoom$Statement", "changed", "(I)I"⟩
abbrev b_S_changed : ByteArray := prog_8_method_8_code
abbrev M_S_changed : jR := (y_S_changed, b_S_changed, 3, (some .int), [])
def y_C_appliedTo : MethodName := ⟨"BitLoom$Change", "appliedTo", "(II)I"⟩
abbrev b_C_appliedTo : ByteArray := prog_4_method_3_code
abbrev M_C_appliedTo : jR := (y_C_appliedTo, b_C_appliedTo, 3, (some .int), [])
def y_B_greatest : MethodName := ⟨"BitLoom", "greatest", "(II)I"⟩
abbrev b_B_greatest : ByteArray := prog_1_method_23_code
abbrev M_B_greatest : jR := (y_B_greatest, b_B_greatest, 5, (some .int), [])
def y_B_valueOf : MethodName := ⟨"BitLoom", "valueOf", "(II)I"⟩
abbrev b_B_valueOf : ByteArray := prog_1_method_22_code
abbrev M_B_valueOf : jR := (y_B_valueOf, b_B_valueOf, 3, (some .int), [])
def y_B_least : MethodName := ⟨"BitLoom", "least", "(II)I"⟩
abbrev b_B_least : ByteArray := prog_1_method_24_code
abbrev M_B_least : jR := (y_B_least, b_B_least, 5, (some .int), [])
def y_B_total : MethodName := ⟨"BitLoom", "total", "(II)I"⟩
abbrev b_B_total : ByteArray := prog_1_method_25_code
abbrev M_B_total : jR := (y_B_total, b_B_total, 5, (some .int), [])
def y_B_listAll : MethodName := ⟨"BitLoom", "listAll", "(II)I"⟩
abbrev b_B_listAll : ByteArray := prog_1_method_26_code
abbrev M_B_listAll : jR := (y_B_listAll, b_B_listAll, 4, (some .int), [])
def y_B_sortIn : MethodName := ⟨"BitLoom", "sortIn", "(II)V"⟩
abbrev b_B_sortIn : ByteArray := prog_1_method_27_code
abbrev M_B_sortIn : jR := (y_B_sortIn, b_B_sortIn, 5, (none), [])
def y_B_listed : MethodName := ⟨"BitLoom", "listed", "(I)I"⟩
abbrev b_B_listed : ByteArray := prog_1_method_17_code
abbrev M_B_listed : jR := (y_B_listed, b_B_listed, 2, (some .int), [])
def y_M_init : MethodName := ⟨"BitLoomModel", "<init>", "()V"⟩
abbrev b_M_init : ByteArray := prog_13_method_1_code
abbrev M_M_init : jR := (y_M_init, b_M_init, 1, (none), [])
def y_M_thrown : MethodName := ⟨"BitLoomModel", "thrown", "()I"⟩
abbrev b_M_thrown : ByteArray := prog_13_method_2_code
abbrev M_M_thrown : jR := (y_M_thrown, b_M_thrown, 1, (some .int), [])
def y_M_field : MethodName := ⟨"BitLoomModel", "field", "(CIIZ)V"⟩
abbrev b_M_field : ByteArray := prog_13_method_4_code
abbrev M_M_field : jR := (y_M_field, b_M_field, 7, (none), [])
def y_M_fieldOf : MethodName := ⟨"BitLoomModel", "fieldOf", "(C)I"⟩
abbrev b_M_fieldOf : ByteArray := prog_13_method_3_code
abbrev M_M_fieldOf : jR := (y_M_fieldOf, b_M_fieldOf, 4, (some .int), [])
def y_M_insert : MethodName := ⟨"BitLoomModel", "insert", "()I"⟩
abbrev b_M_insert : ByteArray := prog_13_method_9_code
abbrev M_M_insert : jR := (y_M_insert, b_M_insert, 3, (some .int), [])
def y_M_remove : MethodName := ⟨"BitLoomModel", "remove", "(I)V"⟩
abbrev b_M_remove : ByteArray := prog_13_method_10_code
abbrev M_M_remove : jR := (y_M_remove, b_M_remove, 2, (none), [])
def y_M_isWord : MethodName := ⟨"BitLoomModel", "isWord", "(I)Z"⟩
abbrev b_M_isWord : ByteArray := prog_13_method_5_code
abbrev M_M_isWord : jR := (y_M_isWord, b_M_isWord, 1, (some .boolean), [])
def y_M_put : MethodName := ⟨"BitLoomModel", "put", "(ICI)V"⟩
abbrev b_M_put : ByteArray := prog_13_method_11_code
abbrev M_M_put : jR := (y_M_put, b_M_put, 5, (none), [])
def y_M_fits : MethodName := ⟨"BitLoomModel", "fits", "(II)Z"⟩
abbrev b_M_fits : ByteArray := prog_13_method_7_code
abbrev M_M_fits : jR := (y_M_fits, b_M_fits, 4, (some .boolean), [])
def y_M_setValue : MethodName := ⟨"BitLoomModel", "setValue", "(III)V"⟩
abbrev b_M_setValue : ByteArray := prog_13_method_8_code
abbrev M_M_setValue : jR := (y_M_setValue, b_M_setValue, 5, (none), [])
def y_M_get : MethodName := ⟨"BitLoomModel", "get", "(IC)I"⟩
abbrev b_M_get : ByteArray := prog_13_method_12_code
abbrev M_M_get : jR := (y_M_get, b_M_get, 4, (some .int), [])
def y_M_valueOf : MethodName := ⟨"BitLoomModel", "valueOf", "(II)I"⟩
abbrev b_M_valueOf : ByteArray := prog_13_method_6_code
abbrev M_M_valueOf : jR := (y_M_valueOf, b_M_valueOf, 7, (some .int), [])
def y_M_bit : MethodName := ⟨"BitLoomModel", "bit", "(II)Z"⟩
abbrev b_M_bit : ByteArray := prog_13_method_13_code
abbrev M_M_bit : jR := (y_M_bit, b_M_bit, 3, (some .boolean), [])
def y_M_search : MethodName := ⟨"BitLoomModel", "search", "(IIZ)I"⟩
abbrev b_M_search : ByteArray := prog_13_method_14_code
abbrev M_M_search : jR := (y_M_search, b_M_search, 6, (some .int), [])
def y_M_multi : MethodName := ⟨"BitLoomModel", "multi", "(II)V"⟩
abbrev b_M_multi : ByteArray := prog_13_method_15_code
abbrev M_M_multi : jR := (y_M_multi, b_M_multi, 4, (none), [])
def y_M_responds : MethodName := ⟨"BitLoomModel", "responds", "(I)Z"⟩
abbrev b_M_responds : ByteArray := prog_13_method_16_code
abbrev M_M_responds : jR := (y_M_responds, b_M_responds, 2, (some .boolean), [])
def y_M_first : MethodName := ⟨"BitLoomModel", "first", "()I"⟩
abbrev b_M_first : ByteArray := prog_13_method_17_code
abbrev M_M_first : jR := (y_M_first, b_M_first, 2, (some .int), [])
def y_M_write : MethodName := ⟨"BitLoomModel", "write", "(J)Z"⟩
abbrev b_M_write : ByteArray := prog_13_method_18_code
abbrev M_M_write : jR := (y_M_write, b_M_write, 6, (some .boolean), [])
def y_M_wipe : MethodName := ⟨"BitLoomModel", "wipe", "()I"⟩
abbrev b_M_wipe : ByteArray := prog_13_method_19_code
abbrev M_M_wipe : jR := (y_M_wipe, b_M_wipe, 2, (some .int), [])
def y_M_run : MethodName := ⟨"BitLoomModel", "run", "()I"⟩
abbrev b_M_run : ByteArray := prog_13_method_54_code
abbrev M_M_run : jR := (y_M_run, b_M_run, 5, (some .int), [])
def y_M_readText : MethodName := ⟨"BitLoomModel", "readText", "()I"⟩
abbrev b_M_readText : ByteArray := prog_13_method_46_code
abbrev M_M_readText : jR := (y_M_readText, b_M_readText, 3, (some .int), [])
def y_M_scan : MethodName := ⟨"BitLoomModel", "scan", "(I)V"⟩
abbrev b_M_scan : ByteArray := prog_13_method_24_code
abbrev M_M_scan : jR := (y_M_scan, b_M_scan, 3, (none), [])
def y_M_see : MethodName := ⟨"BitLoomModel", "see", "(I)C"⟩
abbrev b_M_see : ByteArray := prog_13_method_23_code
abbrev M_M_see : jR := (y_M_see, b_M_see, 2, (some .char), [])
def y_M_isLetter : MethodName := ⟨"BitLoomModel", "isLetter", "(C)Z"⟩
abbrev b_M_isLetter : ByteArray := prog_13_method_20_code
abbrev M_M_isLetter : jR := (y_M_isLetter, b_M_isLetter, 1, (some .boolean), [])
def y_M_isDigit : MethodName := ⟨"BitLoomModel", "isDigit", "(C)Z"⟩
abbrev b_M_isDigit : ByteArray := prog_13_method_21_code
abbrev M_M_isDigit : jR := (y_M_isDigit, b_M_isDigit, 1, (some .boolean), [])
def y_M_isSign : MethodName := ⟨"BitLoomModel", "isSign", "(C)Z"⟩
abbrev b_M_isSign : ByteArray := prog_13_method_22_code
abbrev M_M_isSign : jR := (y_M_isSign, b_M_isSign, 1, (some .boolean), [])
def y_M_next : MethodName := ⟨"BitLoomModel", "next", "(I)I"⟩
abbrev b_M_next : ByteArray := prog_13_method_45_code
abbrev M_M_next : jR := (y_M_next, b_M_next, 2, (some .int), [])
def y_M_start : MethodName := ⟨"BitLoomModel", "start", "()I"⟩
abbrev b_M_start : ByteArray := prog_13_method_33_code
abbrev M_M_start : jR := (y_M_start, b_M_start, 1, (some .int), [])
def y_M_emit : MethodName := ⟨"BitLoomModel", "emit", "(II)V"⟩
abbrev b_M_emit : ByteArray := prog_13_method_28_code
abbrev M_M_emit : jR := (y_M_emit, b_M_emit, 3, (none), [])
def y_M_act : MethodName := ⟨"BitLoomModel", "act", "()I"⟩
abbrev b_M_act : ByteArray := prog_13_method_32_code
abbrev M_M_act : jR := (y_M_act, b_M_act, 1, (some .int), [])
def y_M_actionOf : MethodName := ⟨"BitLoomModel", "actionOf", "(J)I"⟩
abbrev b_M_actionOf : ByteArray := prog_13_method_27_code
abbrev M_M_actionOf : jR := (y_M_actionOf, b_M_actionOf, 2, (some .int), [])
def y_M_one : MethodName := ⟨"BitLoomModel", "one", "()I"⟩
abbrev b_M_one : ByteArray := prog_13_method_34_code
abbrev M_M_one : jR := (y_M_one, b_M_one, 1, (some .int), [])
def y_M_isIt : MethodName := ⟨"BitLoomModel", "isIt", "(C)Z"⟩
abbrev b_M_isIt : ByteArray := prog_13_method_25_code
abbrev M_M_isIt : jR := (y_M_isIt, b_M_isIt, 2, (some .boolean), [])
def y_M_push : MethodName := ⟨"BitLoomModel", "push", "(I)V"⟩
abbrev b_M_push : ByteArray := prog_13_method_30_code
abbrev M_M_push : jR := (y_M_push, b_M_push, 2, (none), [])
def y_M_operand : MethodName := ⟨"BitLoomModel", "operand", "(II)I"⟩
abbrev b_M_operand : ByteArray := prog_13_method_35_code
abbrev M_M_operand : jR := (y_M_operand, b_M_operand, 3, (some .int), [])
def y_M_wholeOne : MethodName := ⟨"BitLoomModel", "wholeOne", "()I"⟩
abbrev b_M_wholeOne : ByteArray := prog_13_method_38_code
abbrev M_M_wholeOne : jR := (y_M_wholeOne, b_M_wholeOne, 1, (some .int), [])
def y_M_denied : MethodName := ⟨"BitLoomModel", "denied", "()V"⟩
abbrev b_M_denied : ByteArray := prog_13_method_39_code
abbrev M_M_denied : jR := (y_M_denied, b_M_denied, 1, (none), [])
def y_M_upper : MethodName := ⟨"BitLoomModel", "upper", "()I"⟩
abbrev b_M_upper : ByteArray := prog_13_method_29_code
abbrev M_M_upper : jR := (y_M_upper, b_M_upper, 1, (some .int), [])
def y_M_named : MethodName := ⟨"BitLoomModel", "named", "()I"⟩
abbrev b_M_named : ByteArray := prog_13_method_26_code
abbrev M_M_named : jR := (y_M_named, b_M_named, 1, (some .int), [])
def y_M_negative : MethodName := ⟨"BitLoomModel", "negative", "(I)I"⟩
abbrev b_M_negative : ByteArray := prog_13_method_36_code
abbrev M_M_negative : jR := (y_M_negative, b_M_negative, 2, (some .int), [])
def y_M_relate : MethodName := ⟨"BitLoomModel", "relate", "()I"⟩
abbrev b_M_relate : ByteArray := prog_13_method_37_code
abbrev M_M_relate : jR := (y_M_relate, b_M_relate, 1, (some .int), [])
def y_M_afterOne : MethodName := ⟨"BitLoomModel", "afterOne", "()I"⟩
abbrev b_M_afterOne : ByteArray := prog_13_method_40_code
abbrev M_M_afterOne : jR := (y_M_afterOne, b_M_afterOne, 1, (some .int), [])
def y_M_settle : MethodName := ⟨"BitLoomModel", "settle", "(II)V"⟩
abbrev b_M_settle : ByteArray := prog_13_method_31_code
abbrev M_M_settle : jR := (y_M_settle, b_M_settle, 3, (none), [])
def y_M_pick : MethodName := ⟨"BitLoomModel", "pick", "(I)I"⟩
abbrev b_M_pick : ByteArray := prog_13_method_41_code
abbrev M_M_pick : jR := (y_M_pick, b_M_pick, 2, (some .int), [])
def y_M_part : MethodName := ⟨"BitLoomModel", "part", "(ZZII)I"⟩
abbrev b_M_part : ByteArray := prog_13_method_42_code
abbrev M_M_part : jR := (y_M_part, b_M_part, 7, (some .int), [])
def y_M_afterFirst : MethodName := ⟨"BitLoomModel", "afterFirst", "()I"⟩
abbrev b_M_afterFirst : ByteArray := prog_13_method_43_code
abbrev M_M_afterFirst : jR := (y_M_afterFirst, b_M_afterFirst, 1, (some .int), [])
def y_M_afterChange : MethodName := ⟨"BitLoomModel", "afterChange", "()I"⟩
abbrev b_M_afterChange : ByteArray := prog_13_method_44_code
abbrev M_M_afterChange : jR := (y_M_afterChange, b_M_afterChange, 1, (some .int), [])
def y_M_isTaken : MethodName := ⟨"BitLoomModel", "isTaken", "(I)Z"⟩
abbrev b_M_isTaken : ByteArray := prog_13_method_48_code
abbrev M_M_isTaken : jR := (y_M_isTaken, b_M_isTaken, 4, (some .boolean), [])
def y_M_reckon : MethodName := ⟨"BitLoomModel", "reckon", "(III)I"⟩
abbrev b_M_reckon : ByteArray := prog_13_method_47_code
abbrev M_M_reckon : jR := (y_M_reckon, b_M_reckon, 3, (some .int), [])
def y_M_changeAll : MethodName := ⟨"BitLoomModel", "changeAll", "()I"⟩
abbrev b_M_changeAll : ByteArray := prog_13_method_51_code
abbrev M_M_changeAll : jR := (y_M_changeAll, b_M_changeAll, 4, (some .int), [])
def y_M_change : MethodName := ⟨"BitLoomModel", "change", "(I)Z"⟩
abbrev b_M_change : ByteArray := prog_13_method_50_code
abbrev M_M_change : jR := (y_M_change, b_M_change, 4, (some .boolean), [])
def y_M_resultOf : MethodName := ⟨"BitLoomModel", "resultOf", "(II)I"⟩
abbrev b_M_resultOf : ByteArray := prog_13_method_49_code
abbrev M_M_resultOf : jR := (y_M_resultOf, b_M_resultOf, 5, (some .int), [])
def y_M_listAll : MethodName := ⟨"BitLoomModel", "listAll", "()I"⟩
abbrev b_M_listAll : ByteArray := prog_13_method_52_code
abbrev M_M_listAll : jR := (y_M_listAll, b_M_listAll, 3, (some .int), [])
def y_M_gather : MethodName := ⟨"BitLoomModel", "gather", "()I"⟩
abbrev b_M_gather : ByteArray := prog_13_method_53_code
abbrev M_M_gather : jR := (y_M_gather, b_M_gather, 6, (some .int), [])
def y_M_place : MethodName := ⟨"BitLoomModel", "place", "()I"⟩
abbrev b_M_place : ByteArray := prog_13_method_55_code
abbrev M_M_place : jR := (y_M_place, b_M_place, 1, (some .int), [])
def y_M_refused : MethodName := ⟨"BitLoomModel", "refused", "()I"⟩
abbrev b_M_refused : ByteArray := prog_13_method_56_code
abbrev M_M_refused : jR := (y_M_refused, b_M_refused, 1, (some .int), [])
def y_M_listed : MethodName := ⟨"BitLoomModel", "listed", "(I)I"⟩
abbrev b_M_listed : ByteArray := prog_13_method_57_code
abbrev M_M_listed : jR := (y_M_listed, b_M_listed, 2, (some .int), [])
def y_L_field : MethodName := ⟨"BitLoomLaw", "field", "(LBitLoom;CIIZ)I"⟩
abbrev b_L_field : ByteArray := method_3_code
abbrev M_L_field : jR := (y_L_field, b_L_field, 6, (some .int), [(0, 9, 12, 13), (0, 9, 16, 15)])
def y_L_insert : MethodName := ⟨"BitLoomLaw", "insert", "(LBitLoom;[J)I"⟩
abbrev b_L_insert : ByteArray := method_4_code
abbrev M_L_insert : jR := (y_L_insert, b_L_insert, 3, (some .int), [(0, 8, 11, 21)])
def y_L_remove : MethodName := ⟨"BitLoomLaw", "remove", "(LBitLoom;I)I"⟩
abbrev b_L_remove : ByteArray := method_5_code
abbrev M_L_remove : jR := (y_L_remove, b_L_remove, 3, (some .int), [(0, 5, 8, 13), (0, 5, 11, 21)])
def y_L_put : MethodName := ⟨"BitLoomLaw", "put", "(LBitLoom;ICI)I"⟩
abbrev b_L_put : ByteArray := method_6_code
abbrev M_L_put : jR := (y_L_put, b_L_put, 5, (some .int), [(0, 7, 10, 13), (0, 7, 14, 21), (0, 7, 18, 15)])
def y_L_get : MethodName := ⟨"BitLoomLaw", "get", "(LBitLoom;IC[J)I"⟩
abbrev b_L_get : ByteArray := method_7_code
abbrev M_L_get : jR := (y_L_get, b_L_get, 5, (some .int), [(0, 10, 13, 13), (0, 10, 17, 21)])
def y_L_bit : MethodName := ⟨"BitLoomLaw", "bit", "(LBitLoom;II[J)I"⟩
abbrev b_L_bit : ByteArray := method_8_code
abbrev M_L_bit : jR := (y_L_bit, b_L_bit, 5, (some .int), [(0, 17, 20, 13)])
def y_L_multi : MethodName := ⟨"BitLoomLaw", "multi", "(LBitLoom;II)I"⟩
abbrev b_L_multi : ByteArray := method_9_code
abbrev M_L_multi : jR := (y_L_multi, b_L_multi, 4, (some .int), [(0, 6, 9, 13)])
def y_L_responds : MethodName := ⟨"BitLoomLaw", "responds", "(LBitLoom;I[J)I"⟩
abbrev b_L_responds : ByteArray := method_10_code
abbrev M_L_responds : jR := (y_L_responds, b_L_responds, 4, (some .int), [(0, 16, 19, 13)])
def y_L_run : MethodName := ⟨"BitLoomLaw", "run", "(LBitLoom;[J)I"⟩
abbrev b_L_run : ByteArray := method_11_code
abbrev M_L_run : jR := (y_L_run, b_L_run, 3, (some .int), [(0, 8, 11, 13), (0, 8, 14, 21)])
def y_L_listed : MethodName := ⟨"BitLoomLaw", "listed", "(LBitLoom;I[J)I"⟩
abbrev b_L_listed : ByteArray := method_12_code
abbrev M_L_listed : jR := (y_L_listed, b_L_listed, 4, (some .int), [(0, 9, 12, 54)])
def y_L_law : MethodName := ⟨"BitLoomLaw", "law", "([I)Z"⟩
abbrev b_L_law : ByteArray := code
abbrev M_L_law : jR := (y_L_law, b_L_law, 7, (some .boolean), [])
end
section
theorem d_F_init_0 : decode b_F_init 0 = .ok (.aload_n 0, 1) := by decide +kernel
theorem d_F_init_1 : decode b_F_init 1 = .ok (.invokespecial 3, 3) := by decide +kernel
theorem d_F_init_4 : decode b_F_init 4 = .ok (.aload_n 0, 1) := by decide +kernel
theorem d_F_init_5 : decode b_F_init 5 = .ok (.bipush 6, 2) := by decide +kernel
theorem d_F_init_7 : decode b_F_init 7 = .ok (.newarray .char, 2) := by decide +kernel
theorem d_F_init_9 : decode b_F_init 9 = .ok (.putfield 9, 3) := by decide +kernel
theorem d_F_init_12 : decode b_F_init 12 = .ok (.aload_n 0, 1) := by decide +kernel
theorem d_F_init_13 : decode b_F_init 13 = .ok (.bipush 6, 2) := by decide +kernel
theorem d_F_init_15 : decode b_F_init 15 = .ok (.newarray .int, 2) := by decide +kernel
theorem d_F_init_17 : decode b_F_init 17 = .ok (.putfield 15, 3) := by decide +kernel
theorem d_F_init_20 : decode b_F_init 20 = .ok (.aload_n 0, 1) := by decide +kernel
theorem d_F_init_21 : decode b_F_init 21 = .ok (.bipush 6, 2) := by decide +kernel
theorem d_F_init_23 : decode b_F_init 23 = .ok (.newarray .int, 2) := by decide +kernel
theorem d_F_init_25 : decode b_F_init 25 = .ok (.putfield 19, 3) := by decide +kernel
theorem d_F_init_28 : decode b_F_init 28 = .ok (.aload_n 0, 1) := by decide +kernel
theorem d_F_init_29 : decode b_F_init 29 = .ok (.bipush 6, 2) := by decide +kernel
theorem d_F_init_31 : decode b_F_init 31 = .ok (.newarray .boolean, 2) := by decide +kernel
theorem d_F_init_33 : decode b_F_init 33 = .ok (.putfield 22, 3) := by decide +kernel
theorem d_F_init_36 : decode b_F_init 36 = .ok (.return_, 1) := by decide +kernel
theorem d_F_isNewName_0 : decode b_F_isNewName 0 = .ok (.iload_n 1, 1) := by decide +kernel
theorem d_F_isNewName_1 : decode b_F_isNewName 1 = .ok (.bipush 97, 2) := by decide +kernel
theorem d_F_isNewName_3 : decode b_F_isNewName 3 = .ok (.if_icmp .lt 22, 3) := by decide +kernel
theorem d_F_isNewName_6 : decode b_F_isNewName 6 = .ok (.iload_n 1, 1) := by decide +kernel
theorem d_F_isNewName_7 : decode b_F_isNewName 7 = .ok (.bipush 122, 2) := by decide +kernel
theorem d_F_isNewName_9 : decode b_F_isNewName 9 = .ok (.if_icmp .gt 16, 3) := by decide +kernel
theorem d_F_isNewName_12 : decode b_F_isNewName 12 = .ok (.aload_n 0, 1) := by decide +kernel
theorem d_F_isNewName_13 : decode b_F_isNewName 13 = .ok (.iload_n 1, 1) := by decide +kernel
theorem d_F_isNewName_14 : decode b_F_isNewName 14 = .ok (.invokevirtual 30, 3) := by decide +kernel
theorem d_F_isNewName_17 : decode b_F_isNewName 17 = .ok (.iconst (-1), 1) := by decide +kernel
theorem d_F_isNewName_18 : decode b_F_isNewName 18 = .ok (.if_icmp .ne 7, 3) := by decide +kernel
theorem d_F_isNewName_21 : decode b_F_isNewName 21 = .ok (.iconst 1, 1) := by decide +kernel
theorem d_F_isNewName_22 : decode b_F_isNewName 22 = .ok (.goto 4, 3) := by decide +kernel
theorem d_F_isNewName_25 : decode b_F_isNewName 25 = .ok (.iconst 0, 1) := by decide +kernel
theorem d_F_isNewName_26 : decode b_F_isNewName 26 = .ok (.ireturn, 1) := by decide +kernel
theorem d_F_indexOf_0 : decode b_F_indexOf 0 = .ok (.iconst 0, 1) := by decide +kernel
theorem d_F_indexOf_1 : decode b_F_indexOf 1 = .ok (.istore_n 2, 1) := by decide +kernel
theorem d_F_indexOf_2 : decode b_F_indexOf 2 = .ok (.iload_n 2, 1) := by decide +kernel
theorem d_F_indexOf_3 : decode b_F_indexOf 3 = .ok (.aload_n 0, 1) := by decide +kernel
theorem d_F_indexOf_4 : decode b_F_indexOf 4 = .ok (.getfield 26, 3) := by decide +kernel
theorem d_F_indexOf_7 : decode b_F_indexOf 7 = .ok (.if_icmp .ge 21, 3) := by decide +kernel
theorem d_F_indexOf_10 : decode b_F_indexOf 10 = .ok (.aload_n 0, 1) := by decide +kernel
theorem d_F_indexOf_11 : decode b_F_indexOf 11 = .ok (.getfield 9, 3) := by decide +kernel
theorem d_F_indexOf_14 : decode b_F_indexOf 14 = .ok (.iload_n 2, 1) := by decide +kernel
theorem d_F_indexOf_15 : decode b_F_indexOf 15 = .ok (.caload, 1) := by decide +kernel
theorem d_F_indexOf_16 : decode b_F_indexOf 16 = .ok (.iload_n 1, 1) := by decide +kernel
theorem d_F_indexOf_17 : decode b_F_indexOf 17 = .ok (.if_icmp .ne 5, 3) := by decide +kernel
theorem d_F_indexOf_20 : decode b_F_indexOf 20 = .ok (.iload_n 2, 1) := by decide +kernel
theorem d_F_indexOf_21 : decode b_F_indexOf 21 = .ok (.ireturn, 1) := by decide +kernel
theorem d_F_indexOf_22 : decode b_F_indexOf 22 = .ok (.iinc 2 1, 3) := by decide +kernel
theorem d_F_indexOf_25 : decode b_F_indexOf 25 = .ok (.goto (-23), 3) := by decide +kernel
theorem d_F_indexOf_28 : decode b_F_indexOf 28 = .ok (.iconst (-1), 1) := by decide +kernel
theorem d_F_indexOf_29 : decode b_F_indexOf 29 = .ok (.ireturn, 1) := by decide +kernel
theorem d_F_isOpenGround_0 : decode b_F_isOpenGround 0 = .ok (.iload_n 1, 1) := by decide +kernel
theorem d_F_isOpenGround_1 : decode b_F_isOpenGround 1 = .ok (.ifCond .lt 20, 3) := by decide +kernel
theorem d_F_isOpenGround_4 : decode b_F_isOpenGround 4 = .ok (.iload_n 1, 1) := by decide +kernel
theorem d_F_isOpenGround_5 : decode b_F_isOpenGround 5 = .ok (.bipush 24, 2) := by decide +kernel
theorem d_F_isOpenGround_7 : decode b_F_isOpenGround 7 = .ok (.if_icmp .ge 14, 3) := by decide +kernel
theorem d_F_isOpenGround_10 : decode b_F_isOpenGround 10 = .ok (.iload_n 2, 1) := by decide +kernel
theorem d_F_isOpenGround_11 : decode b_F_isOpenGround 11 = .ok (.iconst 1, 1) := by decide +kernel
theorem d_F_isOpenGround_12 : decode b_F_isOpenGround 12 = .ok (.if_icmp .lt 9, 3) := by decide +kernel
theorem d_F_isOpenGround_15 : decode b_F_isOpenGround 15 = .ok (.iload_n 2, 1) := by decide +kernel
theorem d_F_isOpenGround_16 : decode b_F_isOpenGround 16 = .ok (.bipush 10, 2) := by decide +kernel
theorem d_F_isOpenGround_18 : decode b_F_isOpenGround 18 = .ok (.if_icmp .le 5, 3) := by decide +kernel
theorem d_F_isOpenGround_21 : decode b_F_isOpenGround 21 = .ok (.iconst 0, 1) := by decide +kernel
theorem d_F_isOpenGround_22 : decode b_F_isOpenGround 22 = .ok (.ireturn, 1) := by decide +kernel
theorem d_F_isOpenGround_23 : decode b_F_isOpenGround 23 = .ok (.iload_n 1, 1) := by decide +kernel
theorem d_F_isOpenGround_24 : decode b_F_isOpenGround 24 = .ok (.iload_n 2, 1) := by decide +kernel
theorem d_F_isOpenGround_25 : decode b_F_isOpenGround 25 = .ok (.iadd, 1) := by decide +kernel
theorem d_F_isOpenGround_26 : decode b_F_isOpenGround 26 = .ok (.bipush 24, 2) := by decide +kernel
theorem d_F_isOpenGround_28 : decode b_F_isOpenGround 28 = .ok (.if_icmp .gt 20, 3) := by decide +kernel
theorem d_F_isOpenGround_31 : decode b_F_isOpenGround 31 = .ok (.aload_n 0, 1) := by decide +kernel
theorem d_F_isOpenGround_32 : decode b_F_isOpenGround 32 = .ok (.getfield 34, 3) := by decide +kernel
theorem d_F_isOpenGround_35 : decode b_F_isOpenGround 35 = .ok (.iload_n 1, 1) := by decide +kernel
theorem d_F_isOpenGround_36 : decode b_F_isOpenGround 36 = .ok (.iload_n 2, 1) := by decide +kernel
theorem d_F_isOpenGround_37 : decode b_F_isOpenGround 37 = .ok (.invokestatic 37, 3) := by decide +kernel
theorem d_F_isOpenGround_40 : decode b_F_isOpenGround 40 = .ok (.iand, 1) := by decide +kernel
theorem d_F_isOpenGround_41 : decode b_F_isOpenGround 41 = .ok (.ifCond .ne 7, 3) := by decide +kernel
theorem d_F_isOpenGround_44 : decode b_F_isOpenGround 44 = .ok (.iconst 1, 1) := by decide +kernel
theorem d_F_isOpenGround_45 : decode b_F_isOpenGround 45 = .ok (.goto 4, 3) := by decide +kernel
theorem d_F_isOpenGround_48 : decode b_F_isOpenGround 48 = .ok (.iconst 0, 1) := by decide +kernel
theorem d_F_isOpenGround_49 : decode b_F_isOpenGround 49 = .ok (.ireturn, 1) := by decide +kernel
theorem d_F_ground_0 : decode b_F_ground 0 = .ok (.iconst 1, 1) := by decide +kernel
theorem d_F_ground_1 : decode b_F_ground 1 = .ok (.iload_n 1, 1) := by decide +kernel
theorem d_F_ground_2 : decode b_F_ground 2 = .ok (.ishl, 1) := by decide +kernel
theorem d_F_ground_3 : decode b_F_ground 3 = .ok (.iconst 1, 1) := by decide +kernel
theorem d_F_ground_4 : decode b_F_ground 4 = .ok (.isub, 1) := by decide +kernel
theorem d_F_ground_5 : decode b_F_ground 5 = .ok (.iload_n 0, 1) := by decide +kernel
theorem d_F_ground_6 : decode b_F_ground 6 = .ok (.ishl, 1) := by decide +kernel
theorem d_F_ground_7 : decode b_F_ground 7 = .ok (.ireturn, 1) := by decide +kernel
theorem d_F_isFull_0 : decode b_F_isFull 0 = .ok (.aload_n 0, 1) := by decide +kernel
theorem d_F_isFull_1 : decode b_F_isFull 1 = .ok (.getfield 26, 3) := by decide +kernel
theorem d_F_isFull_4 : decode b_F_isFull 4 = .ok (.bipush 6, 2) := by decide +kernel
theorem d_F_isFull_6 : decode b_F_isFull 6 = .ok (.if_icmp .lt 7, 3) := by decide +kernel
theorem d_F_isFull_9 : decode b_F_isFull 9 = .ok (.iconst 1, 1) := by decide +kernel
theorem d_F_isFull_10 : decode b_F_isFull 10 = .ok (.goto 4, 3) := by decide +kernel
theorem d_F_isFull_13 : decode b_F_isFull 13 = .ok (.iconst 0, 1) := by decide +kernel
theorem d_F_isFull_14 : decode b_F_isFull 14 = .ok (.ireturn, 1) := by decide +kernel
theorem d_F_append_0 : decode b_F_append 0 = .ok (.aload_n 0, 1) := by decide +kernel
theorem d_F_append_1 : decode b_F_append 1 = .ok (.getfield 9, 3) := by decide +kernel
theorem d_F_append_4 : decode b_F_append 4 = .ok (.aload_n 0, 1) := by decide +kernel
theorem d_F_append_5 : decode b_F_append 5 = .ok (.getfield 26, 3) := by decide +kernel
theorem d_F_append_8 : decode b_F_append 8 = .ok (.iload_n 1, 1) := by decide +kernel
theorem d_F_append_9 : decode b_F_append 9 = .ok (.castore, 1) := by decide +kernel
theorem d_F_append_10 : decode b_F_append 10 = .ok (.aload_n 0, 1) := by decide +kernel
theorem d_F_append_11 : decode b_F_append 11 = .ok (.getfield 15, 3) := by decide +kernel
theorem d_F_append_14 : decode b_F_append 14 = .ok (.aload_n 0, 1) := by decide +kernel
theorem d_F_append_15 : decode b_F_append 15 = .ok (.getfield 26, 3) := by decide +kernel
theorem d_F_append_18 : decode b_F_append 18 = .ok (.iload_n 2, 1) := by decide +kernel
theorem d_F_append_19 : decode b_F_append 19 = .ok (.iastore, 1) := by decide +kernel
theorem d_F_append_20 : decode b_F_append 20 = .ok (.aload_n 0, 1) := by decide +kernel
theorem d_F_append_21 : decode b_F_append 21 = .ok (.getfield 19, 3) := by decide +kernel
theorem d_F_append_24 : decode b_F_append 24 = .ok (.aload_n 0, 1) := by decide +kernel
theorem d_F_append_25 : decode b_F_append 25 = .ok (.getfield 26, 3) := by decide +kernel
theorem d_F_append_28 : decode b_F_append 28 = .ok (.iload_n 3, 1) := by decide +kernel
theorem d_F_append_29 : decode b_F_append 29 = .ok (.iastore, 1) := by decide +kernel
theorem d_F_append_30 : decode b_F_append 30 = .ok (.aload_n 0, 1) := by decide +kernel
theorem d_F_append_31 : decode b_F_append 31 = .ok (.getfield 22, 3) := by decide +kernel
theorem d_F_append_34 : decode b_F_append 34 = .ok (.aload_n 0, 1) := by decide +kernel
theorem d_F_append_35 : decode b_F_append 35 = .ok (.getfield 26, 3) := by decide +kernel
theorem d_F_append_38 : decode b_F_append 38 = .ok (.iload 4, 2) := by decide +kernel
theorem d_F_append_40 : decode b_F_append 40 = .ok (.bastore, 1) := by decide +kernel
theorem d_F_append_41 : decode b_F_append 41 = .ok (.aload_n 0, 1) := by decide +kernel
theorem d_F_append_42 : decode b_F_append 42 = .ok (.dup, 1) := by decide +kernel
theorem d_F_append_43 : decode b_F_append 43 = .ok (.getfield 26, 3) := by decide +kernel
theorem d_F_append_46 : decode b_F_append 46 = .ok (.iconst 1, 1) := by decide +kernel
theorem d_F_append_47 : decode b_F_append 47 = .ok (.iadd, 1) := by decide +kernel
theorem d_F_append_48 : decode b_F_append 48 = .ok (.putfield 26, 3) := by decide +kernel
theorem d_F_append_51 : decode b_F_append 51 = .ok (.aload_n 0, 1) := by decide +kernel
theorem d_F_append_52 : decode b_F_append 52 = .ok (.dup, 1) := by decide +kernel
theorem d_F_append_53 : decode b_F_append 53 = .ok (.getfield 34, 3) := by decide +kernel
theorem d_F_append_56 : decode b_F_append 56 = .ok (.iload_n 2, 1) := by decide +kernel
theorem d_F_append_57 : decode b_F_append 57 = .ok (.iload_n 3, 1) := by decide +kernel
theorem d_F_append_58 : decode b_F_append 58 = .ok (.invokestatic 37, 3) := by decide +kernel
theorem d_F_append_61 : decode b_F_append 61 = .ok (.ior, 1) := by decide +kernel
theorem d_F_append_62 : decode b_F_append 62 = .ok (.putfield 34, 3) := by decide +kernel
theorem d_F_append_65 : decode b_F_append 65 = .ok (.return_, 1) := by decide +kernel
theorem d_F_fits_0 : decode b_F_fits 0 = .ok (.iconst 1, 1) := by decide +kernel
theorem d_F_fits_1 : decode b_F_fits 1 = .ok (.aload_n 0, 1) := by decide +kernel
theorem d_F_fits_2 : decode b_F_fits 2 = .ok (.getfield 19, 3) := by decide +kernel
theorem d_F_fits_5 : decode b_F_fits 5 = .ok (.iload_n 1, 1) := by decide +kernel
theorem d_F_fits_6 : decode b_F_fits 6 = .ok (.iaload, 1) := by decide +kernel
theorem d_F_fits_7 : decode b_F_fits 7 = .ok (.ishl, 1) := by decide +kernel
theorem d_F_fits_8 : decode b_F_fits 8 = .ok (.istore_n 3, 1) := by decide +kernel
theorem d_F_fits_9 : decode b_F_fits 9 = .ok (.aload_n 0, 1) := by decide +kernel
theorem d_F_fits_10 : decode b_F_fits 10 = .ok (.getfield 22, 3) := by decide +kernel
theorem d_F_fits_13 : decode b_F_fits 13 = .ok (.iload_n 1, 1) := by decide +kernel
theorem d_F_fits_14 : decode b_F_fits 14 = .ok (.baload, 1) := by decide +kernel
theorem d_F_fits_15 : decode b_F_fits 15 = .ok (.ifCond .eq 10, 3) := by decide +kernel
theorem d_F_fits_18 : decode b_F_fits 18 = .ok (.iload_n 3, 1) := by decide +kernel
theorem d_F_fits_19 : decode b_F_fits 19 = .ok (.iconst 1, 1) := by decide +kernel
theorem d_F_fits_20 : decode b_F_fits 20 = .ok (.ishr, 1) := by decide +kernel
theorem d_F_fits_21 : decode b_F_fits 21 = .ok (.ineg, 1) := by decide +kernel
theorem d_F_fits_22 : decode b_F_fits 22 = .ok (.goto 4, 3) := by decide +kernel
theorem d_F_fits_25 : decode b_F_fits 25 = .ok (.iconst 0, 1) := by decide +kernel
theorem d_F_fits_26 : decode b_F_fits 26 = .ok (.istore 4, 2) := by decide +kernel
theorem d_F_fits_28 : decode b_F_fits 28 = .ok (.iload_n 2, 1) := by decide +kernel
theorem d_F_fits_29 : decode b_F_fits 29 = .ok (.iload 4, 2) := by decide +kernel
theorem d_F_fits_31 : decode b_F_fits 31 = .ok (.if_icmp .lt 15, 3) := by decide +kernel
theorem d_F_fits_34 : decode b_F_fits 34 = .ok (.iload_n 2, 1) := by decide +kernel
theorem d_F_fits_35 : decode b_F_fits 35 = .ok (.iload 4, 2) := by decide +kernel
theorem d_F_fits_37 : decode b_F_fits 37 = .ok (.iload_n 3, 1) := by decide +kernel
theorem d_F_fits_38 : decode b_F_fits 38 = .ok (.iadd, 1) := by decide +kernel
theorem d_F_fits_39 : decode b_F_fits 39 = .ok (.if_icmp .ge 7, 3) := by decide +kernel
theorem d_F_fits_42 : decode b_F_fits 42 = .ok (.iconst 1, 1) := by decide +kernel
theorem d_F_fits_43 : decode b_F_fits 43 = .ok (.goto 4, 3) := by decide +kernel
theorem d_F_fits_46 : decode b_F_fits 46 = .ok (.iconst 0, 1) := by decide +kernel
theorem d_F_fits_47 : decode b_F_fits 47 = .ok (.ireturn, 1) := by decide +kernel
theorem d_F_withValue_0 : decode b_F_withValue 0 = .ok (.aload_n 0, 1) := by decide +kernel
theorem d_F_withValue_1 : decode b_F_withValue 1 = .ok (.getfield 15, 3) := by decide +kernel
theorem d_F_withValue_4 : decode b_F_withValue 4 = .ok (.iload_n 1, 1) := by decide +kernel
theorem d_F_withValue_5 : decode b_F_withValue 5 = .ok (.iaload, 1) := by decide +kernel
theorem d_F_withValue_6 : decode b_F_withValue 6 = .ok (.aload_n 0, 1) := by decide +kernel
theorem d_F_withValue_7 : decode b_F_withValue 7 = .ok (.getfield 19, 3) := by decide +kernel
theorem d_F_withValue_10 : decode b_F_withValue 10 = .ok (.iload_n 1, 1) := by decide +kernel
theorem d_F_withValue_11 : decode b_F_withValue 11 = .ok (.iaload, 1) := by decide +kernel
theorem d_F_withValue_12 : decode b_F_withValue 12 = .ok (.invokestatic 37, 3) := by decide +kernel
theorem d_F_withValue_15 : decode b_F_withValue 15 = .ok (.istore 4, 2) := by decide +kernel
theorem d_F_withValue_17 : decode b_F_withValue 17 = .ok (.iload_n 2, 1) := by decide +kernel
theorem d_F_withValue_18 : decode b_F_withValue 18 = .ok (.iload 4, 2) := by decide +kernel
theorem d_F_withValue_20 : decode b_F_withValue 20 = .ok (.iconst (-1), 1) := by decide +kernel
theorem d_F_withValue_21 : decode b_F_withValue 21 = .ok (.ixor, 1) := by decide +kernel
theorem d_F_withValue_22 : decode b_F_withValue 22 = .ok (.iand, 1) := by decide +kernel
theorem d_F_withValue_23 : decode b_F_withValue 23 = .ok (.iload_n 3, 1) := by decide +kernel
theorem d_F_withValue_24 : decode b_F_withValue 24 = .ok (.aload_n 0, 1) := by decide +kernel
theorem d_F_withValue_25 : decode b_F_withValue 25 = .ok (.getfield 15, 3) := by decide +kernel
theorem d_F_withValue_28 : decode b_F_withValue 28 = .ok (.iload_n 1, 1) := by decide +kernel
theorem d_F_withValue_29 : decode b_F_withValue 29 = .ok (.iaload, 1) := by decide +kernel
theorem d_F_withValue_30 : decode b_F_withValue 30 = .ok (.ishl, 1) := by decide +kernel
theorem d_F_withValue_31 : decode b_F_withValue 31 = .ok (.iload 4, 2) := by decide +kernel
theorem d_F_withValue_33 : decode b_F_withValue 33 = .ok (.iand, 1) := by decide +kernel
theorem d_F_withValue_34 : decode b_F_withValue 34 = .ok (.ior, 1) := by decide +kernel
theorem d_F_withValue_35 : decode b_F_withValue 35 = .ok (.ireturn, 1) := by decide +kernel
theorem d_F_valueIn_0 : decode b_F_valueIn 0 = .ok (.iconst 1, 1) := by decide +kernel
theorem d_F_valueIn_1 : decode b_F_valueIn 1 = .ok (.aload_n 0, 1) := by decide +kernel
theorem d_F_valueIn_2 : decode b_F_valueIn 2 = .ok (.getfield 19, 3) := by decide +kernel
theorem d_F_valueIn_5 : decode b_F_valueIn 5 = .ok (.iload_n 1, 1) := by decide +kernel
theorem d_F_valueIn_6 : decode b_F_valueIn 6 = .ok (.iaload, 1) := by decide +kernel
theorem d_F_valueIn_7 : decode b_F_valueIn 7 = .ok (.ishl, 1) := by decide +kernel
theorem d_F_valueIn_8 : decode b_F_valueIn 8 = .ok (.istore_n 3, 1) := by decide +kernel
theorem d_F_valueIn_9 : decode b_F_valueIn 9 = .ok (.iload_n 2, 1) := by decide +kernel
theorem d_F_valueIn_10 : decode b_F_valueIn 10 = .ok (.aload_n 0, 1) := by decide +kernel
theorem d_F_valueIn_11 : decode b_F_valueIn 11 = .ok (.getfield 15, 3) := by decide +kernel
theorem d_F_valueIn_14 : decode b_F_valueIn 14 = .ok (.iload_n 1, 1) := by decide +kernel
theorem d_F_valueIn_15 : decode b_F_valueIn 15 = .ok (.iaload, 1) := by decide +kernel
theorem d_F_valueIn_16 : decode b_F_valueIn 16 = .ok (.iushr, 1) := by decide +kernel
theorem d_F_valueIn_17 : decode b_F_valueIn 17 = .ok (.iload_n 3, 1) := by decide +kernel
theorem d_F_valueIn_18 : decode b_F_valueIn 18 = .ok (.iconst 1, 1) := by decide +kernel
theorem d_F_valueIn_19 : decode b_F_valueIn 19 = .ok (.isub, 1) := by decide +kernel
theorem d_F_valueIn_20 : decode b_F_valueIn 20 = .ok (.iand, 1) := by decide +kernel
theorem d_F_valueIn_21 : decode b_F_valueIn 21 = .ok (.istore 4, 2) := by decide +kernel
theorem d_F_valueIn_23 : decode b_F_valueIn 23 = .ok (.aload_n 0, 1) := by decide +kernel
theorem d_F_valueIn_24 : decode b_F_valueIn 24 = .ok (.getfield 22, 3) := by decide +kernel
theorem d_F_valueIn_27 : decode b_F_valueIn 27 = .ok (.iload_n 1, 1) := by decide +kernel
theorem d_F_valueIn_28 : decode b_F_valueIn 28 = .ok (.baload, 1) := by decide +kernel
theorem d_F_valueIn_29 : decode b_F_valueIn 29 = .ok (.ifCond .eq 18, 3) := by decide +kernel
theorem d_F_valueIn_32 : decode b_F_valueIn 32 = .ok (.iload 4, 2) := by decide +kernel
theorem d_F_valueIn_34 : decode b_F_valueIn 34 = .ok (.iload_n 3, 1) := by decide +kernel
theorem d_F_valueIn_35 : decode b_F_valueIn 35 = .ok (.iconst 1, 1) := by decide +kernel
theorem d_F_valueIn_36 : decode b_F_valueIn 36 = .ok (.ishr, 1) := by decide +kernel
theorem d_F_valueIn_37 : decode b_F_valueIn 37 = .ok (.if_icmp .lt 10, 3) := by decide +kernel
theorem d_F_valueIn_40 : decode b_F_valueIn 40 = .ok (.iload 4, 2) := by decide +kernel
theorem d_F_valueIn_42 : decode b_F_valueIn 42 = .ok (.iload_n 3, 1) := by decide +kernel
theorem d_F_valueIn_43 : decode b_F_valueIn 43 = .ok (.isub, 1) := by decide +kernel
theorem d_F_valueIn_44 : decode b_F_valueIn 44 = .ok (.goto 5, 3) := by decide +kernel
theorem d_F_valueIn_47 : decode b_F_valueIn 47 = .ok (.iload 4, 2) := by decide +kernel
theorem d_F_valueIn_49 : decode b_F_valueIn 49 = .ok (.ireturn, 1) := by decide +kernel
end
