section
-- ===== PART A: goes FIRST, ahead of the names: the tables' words, and 'selects' of the private methods out of them =====
/-- a private method of a class that the tables say can be made, by its rows of tables_1 -/
def lw_okq (q : MethodName × Nat) : Prop := (q.1.cls ≠ "java/lang/invoke/MethodHandle" ∧ q.1.cls ≠ "java/lang/invoke/VarHandle") ∧ Cond.instantiable q.1.cls q.2 ∈ tables_1 ∧ Cond.privateMethod q.1 ∈ tables_1 ∧ Cond.instanceMethod q.1 ∈ tables_1
theorem lw_p0 : lw_okq (⟨"java/lang/Throwable", "fillInStackTrace", "(I)Ljava/lang/Throwable;"⟩, 6) := ⟨⟨by decide +kernel, by decide +kernel⟩, List.mem_of_getElem? (i := 377) (by decide +kernel), List.mem_of_getElem? (i := 375) (by decide +kernel), List.mem_of_getElem? (i := 376) (by decide +kernel)⟩
theorem lw_p1 : lw_okq (⟨"BitLoom", "requireWord", "(I)V"⟩, 7) := ⟨⟨by decide +kernel, by decide +kernel⟩, List.mem_of_getElem? (i := 29) (by decide +kernel), List.mem_of_getElem? (i := 463) (by decide +kernel), List.mem_of_getElem? (i := 464) (by decide +kernel)⟩
theorem lw_p2 : lw_okq (⟨"BitLoom", "requireInUse", "(I)V"⟩, 7) := ⟨⟨by decide +kernel, by decide +kernel⟩, List.mem_of_getElem? (i := 29) (by decide +kernel), List.mem_of_getElem? (i := 467) (by decide +kernel), List.mem_of_getElem? (i := 468) (by decide +kernel)⟩
theorem lw_p3 : lw_okq (⟨"BitLoom", "requireField", "(C)I"⟩, 7) := ⟨⟨by decide +kernel, by decide +kernel⟩, List.mem_of_getElem? (i := 29) (by decide +kernel), List.mem_of_getElem? (i := 483) (by decide +kernel), List.mem_of_getElem? (i := 484) (by decide +kernel)⟩
theorem lw_p4 : lw_okq (⟨"BitLoom$Tokens", "cutOne", "(I)I"⟩, 6) := ⟨⟨by decide +kernel, by decide +kernel⟩, List.mem_of_getElem? (i := 100) (by decide +kernel), List.mem_of_getElem? (i := 561) (by decide +kernel), List.mem_of_getElem? (i := 562) (by decide +kernel)⟩
theorem lw_p5 : lw_okq (⟨"BitLoom$Tokens", "endOf", "(ICC)I"⟩, 6) := ⟨⟨by decide +kernel, by decide +kernel⟩, List.mem_of_getElem? (i := 100) (by decide +kernel), List.mem_of_getElem? (i := 568) (by decide +kernel), List.mem_of_getElem? (i := 569) (by decide +kernel)⟩
theorem lw_p6 : lw_okq (⟨"BitLoom$Tokens", "append", "(CII)I"⟩, 6) := ⟨⟨by decide +kernel, by decide +kernel⟩, List.mem_of_getElem? (i := 100) (by decide +kernel), List.mem_of_getElem? (i := 572) (by decide +kernel), List.mem_of_getElem? (i := 573) (by decide +kernel)⟩
theorem lw_p7 : lw_okq (⟨"BitLoom$Statement", "readCondition", "(I)I"⟩, 11) := ⟨⟨by decide +kernel, by decide +kernel⟩, List.mem_of_getElem? (i := 94) (by decide +kernel), List.mem_of_getElem? (i := 694) (by decide +kernel), List.mem_of_getElem? (i := 695) (by decide +kernel)⟩
theorem lw_p8 : lw_okq (⟨"BitLoom$Statement", "readClause", "(I)I"⟩, 11) := ⟨⟨by decide +kernel, by decide +kernel⟩, List.mem_of_getElem? (i := 94) (by decide +kernel), List.mem_of_getElem? (i := 698) (by decide +kernel), List.mem_of_getElem? (i := 699) (by decide +kernel)⟩
theorem lw_p9 : lw_okq (⟨"BitLoom$Statement", "readOne", "(I)I"⟩, 11) := ⟨⟨by decide +kernel, by decide +kernel⟩, List.mem_of_getElem? (i := 94) (by decide +kernel), List.mem_of_getElem? (i := 702) (by decide +kernel), List.mem_of_getElem? (i := 703) (by decide +kernel)⟩
theorem lw_p10 : lw_okq (⟨"BitLoom$Statement", "readComparison", "()I"⟩, 11) := ⟨⟨by decide +kernel, by decide +kernel⟩, List.mem_of_getElem? (i := 94) (by decide +kernel), List.mem_of_getElem? (i := 710) (by decide +kernel), List.mem_of_getElem? (i := 711) (by decide +kernel)⟩
theorem lw_p11 : lw_okq (⟨"BitLoom$Statement", "readOperand", "(LBitLoom$Operand;)V"⟩, 11) := ⟨⟨by decide +kernel, by decide +kernel⟩, List.mem_of_getElem? (i := 94) (by decide +kernel), List.mem_of_getElem? (i := 714) (by decide +kernel), List.mem_of_getElem? (i := 715) (by decide +kernel)⟩
theorem lw_p12 : lw_okq (⟨"BitLoom$Statement", "refuse", "()V"⟩, 11) := ⟨⟨by decide +kernel, by decide +kernel⟩, List.mem_of_getElem? (i := 94) (by decide +kernel), List.mem_of_getElem? (i := 730) (by decide +kernel), List.mem_of_getElem? (i := 731) (by decide +kernel)⟩
theorem lw_p13 : lw_okq (⟨"BitLoom$Statement", "readField", "()I"⟩, 11) := ⟨⟨by decide +kernel, by decide +kernel⟩, List.mem_of_getElem? (i := 94) (by decide +kernel), List.mem_of_getElem? (i := 740) (by decide +kernel), List.mem_of_getElem? (i := 741) (by decide +kernel)⟩
theorem lw_p14 : lw_okq (⟨"BitLoom$Statement", "readSign", "(CCC)C"⟩, 11) := ⟨⟨by decide +kernel, by decide +kernel⟩, List.mem_of_getElem? (i := 94) (by decide +kernel), List.mem_of_getElem? (i := 757) (by decide +kernel), List.mem_of_getElem? (i := 758) (by decide +kernel)⟩
theorem lw_p15 : lw_okq (⟨"BitLoom$Statement", "passSign", "(C)V"⟩, 11) := ⟨⟨by decide +kernel, by decide +kernel⟩, List.mem_of_getElem? (i := 94) (by decide +kernel), List.mem_of_getElem? (i := 774) (by decide +kernel), List.mem_of_getElem? (i := 775) (by decide +kernel)⟩
def lw_privs_1 : List (MethodName × Nat) := [(⟨"java/lang/Throwable", "fillInStackTrace", "(I)Ljava/lang/Throwable;"⟩, 6), (⟨"BitLoom", "requireWord", "(I)V"⟩, 7), (⟨"BitLoom", "requireInUse", "(I)V"⟩, 7), (⟨"BitLoom", "requireField", "(C)I"⟩, 7), (⟨"BitLoom$Tokens", "cutOne", "(I)I"⟩, 6), (⟨"BitLoom$Tokens", "endOf", "(ICC)I"⟩, 6), (⟨"BitLoom$Tokens", "append", "(CII)I"⟩, 6), (⟨"BitLoom$Statement", "readCondition", "(I)I"⟩, 11), (⟨"BitLoom$Statement", "readClause", "(I)I"⟩, 11), (⟨"BitLoom$Statement", "readOne", "(I)I"⟩, 11), (⟨"BitLoom$Statement", "readComparison", "()I"⟩, 11), (⟨"BitLoom$Statement", "readOperand", "(LBitLoom$Operand;)V"⟩, 11), (⟨"BitLoom$Statement", "refuse", "()V"⟩, 11), (⟨"BitLoom$Statement", "readField", "()I"⟩, 11), (⟨"BitLoom$Statement", "readSign", "(CCC)C"⟩, 11), (⟨"BitLoom$Statement", "passSign", "(C)V"⟩, 11)]
theorem lw_r1 : ∀ q ∈ lw_privs_1, lw_okq q := List.forall_mem_cons.mpr ⟨lw_p0, List.forall_mem_cons.mpr ⟨lw_p1, List.forall_mem_cons.mpr ⟨lw_p2, List.forall_mem_cons.mpr ⟨lw_p3, List.forall_mem_cons.mpr ⟨lw_p4, List.forall_mem_cons.mpr ⟨lw_p5, List.forall_mem_cons.mpr ⟨lw_p6, List.forall_mem_cons.mpr ⟨lw_p7, List.forall_mem_cons.mpr ⟨lw_p8, List.forall_mem_cons.mpr ⟨lw_p9, List.forall_mem_cons.mpr ⟨lw_p10, List.forall_mem_cons.mpr ⟨lw_p11, List.forall_mem_cons.mpr ⟨lw_p12, List.forall_mem_cons.mpr ⟨lw_p13, List.forall_mem_cons.mpr ⟨lw_p14, List.forall_mem_cons.mpr ⟨lw_p15, fun _ h => absurd h List.not_mem_nil⟩⟩⟩⟩⟩⟩⟩⟩⟩⟩⟩⟩⟩⟩⟩⟩
theorem lw_p16 : lw_okq (⟨"BitLoom$Statement", "readAction", "()V"⟩, 11) := ⟨⟨by decide +kernel, by decide +kernel⟩, List.mem_of_getElem? (i := 94) (by decide +kernel), List.mem_of_getElem? (i := 778) (by decide +kernel), List.mem_of_getElem? (i := 779) (by decide +kernel)⟩
theorem lw_p17 : lw_okq (⟨"BitLoom$Statement", "readVerb", "()V"⟩, 11) := ⟨⟨by decide +kernel, by decide +kernel⟩, List.mem_of_getElem? (i := 94) (by decide +kernel), List.mem_of_getElem? (i := 782) (by decide +kernel), List.mem_of_getElem? (i := 783) (by decide +kernel)⟩
theorem lw_p18 : lw_okq (⟨"BitLoom$Statement", "readChange", "(LBitLoom$Change;)V"⟩, 11) := ⟨⟨by decide +kernel, by decide +kernel⟩, List.mem_of_getElem? (i := 94) (by decide +kernel), List.mem_of_getElem? (i := 794) (by decide +kernel), List.mem_of_getElem? (i := 795) (by decide +kernel)⟩
theorem lw_p19 : lw_okq (⟨"BitLoom", "carryOut", "(I)I"⟩, 7) := ⟨⟨by decide +kernel, by decide +kernel⟩, List.mem_of_getElem? (i := 29) (by decide +kernel), List.mem_of_getElem? (i := 814) (by decide +kernel), List.mem_of_getElem? (i := 815) (by decide +kernel)⟩
theorem lw_p20 : lw_okq (⟨"BitLoom", "changeAll", "(I)I"⟩, 7) := ⟨⟨by decide +kernel, by decide +kernel⟩, List.mem_of_getElem? (i := 29) (by decide +kernel), List.mem_of_getElem? (i := 834) (by decide +kernel), List.mem_of_getElem? (i := 835) (by decide +kernel)⟩
theorem lw_p21 : lw_okq (⟨"BitLoom", "greatest", "(II)I"⟩, 7) := ⟨⟨by decide +kernel, by decide +kernel⟩, List.mem_of_getElem? (i := 29) (by decide +kernel), List.mem_of_getElem? (i := 860) (by decide +kernel), List.mem_of_getElem? (i := 861) (by decide +kernel)⟩
theorem lw_p22 : lw_okq (⟨"BitLoom", "valueOf", "(II)I"⟩, 7) := ⟨⟨by decide +kernel, by decide +kernel⟩, List.mem_of_getElem? (i := 29) (by decide +kernel), List.mem_of_getElem? (i := 864) (by decide +kernel), List.mem_of_getElem? (i := 865) (by decide +kernel)⟩
theorem lw_p23 : lw_okq (⟨"BitLoom", "least", "(II)I"⟩, 7) := ⟨⟨by decide +kernel, by decide +kernel⟩, List.mem_of_getElem? (i := 29) (by decide +kernel), List.mem_of_getElem? (i := 869) (by decide +kernel), List.mem_of_getElem? (i := 870) (by decide +kernel)⟩
theorem lw_p24 : lw_okq (⟨"BitLoom", "total", "(II)I"⟩, 7) := ⟨⟨by decide +kernel, by decide +kernel⟩, List.mem_of_getElem? (i := 29) (by decide +kernel), List.mem_of_getElem? (i := 874) (by decide +kernel), List.mem_of_getElem? (i := 875) (by decide +kernel)⟩
theorem lw_p25 : lw_okq (⟨"BitLoom", "listAll", "(II)I"⟩, 7) := ⟨⟨by decide +kernel, by decide +kernel⟩, List.mem_of_getElem? (i := 29) (by decide +kernel), List.mem_of_getElem? (i := 878) (by decide +kernel), List.mem_of_getElem? (i := 879) (by decide +kernel)⟩
theorem lw_p26 : lw_okq (⟨"BitLoom", "sortIn", "(II)V"⟩, 7) := ⟨⟨by decide +kernel, by decide +kernel⟩, List.mem_of_getElem? (i := 29) (by decide +kernel), List.mem_of_getElem? (i := 882) (by decide +kernel), List.mem_of_getElem? (i := 883) (by decide +kernel)⟩
theorem lw_p27 : lw_okq (⟨"BitLoomModel", "fieldOf", "(C)I"⟩, 38) := ⟨⟨by decide +kernel, by decide +kernel⟩, List.mem_of_getElem? (i := 911) (by decide +kernel), List.mem_of_getElem? (i := 1040) (by decide +kernel), List.mem_of_getElem? (i := 1041) (by decide +kernel)⟩
theorem lw_p28 : lw_okq (⟨"BitLoomModel", "fits", "(II)Z"⟩, 38) := ⟨⟨by decide +kernel, by decide +kernel⟩, List.mem_of_getElem? (i := 911) (by decide +kernel), List.mem_of_getElem? (i := 1059) (by decide +kernel), List.mem_of_getElem? (i := 1060) (by decide +kernel)⟩
theorem lw_p29 : lw_okq (⟨"BitLoomModel", "setValue", "(III)V"⟩, 38) := ⟨⟨by decide +kernel, by decide +kernel⟩, List.mem_of_getElem? (i := 911) (by decide +kernel), List.mem_of_getElem? (i := 1063) (by decide +kernel), List.mem_of_getElem? (i := 1064) (by decide +kernel)⟩
theorem lw_p30 : lw_okq (⟨"BitLoomModel", "valueOf", "(II)I"⟩, 38) := ⟨⟨by decide +kernel, by decide +kernel⟩, List.mem_of_getElem? (i := 911) (by decide +kernel), List.mem_of_getElem? (i := 1071) (by decide +kernel), List.mem_of_getElem? (i := 1072) (by decide +kernel)⟩
theorem lw_p31 : lw_okq (⟨"BitLoomModel", "readText", "()I"⟩, 38) := ⟨⟨by decide +kernel, by decide +kernel⟩, List.mem_of_getElem? (i := 911) (by decide +kernel), List.mem_of_getElem? (i := 1109) (by decide +kernel), List.mem_of_getElem? (i := 1110) (by decide +kernel)⟩
def lw_privs_2 : List (MethodName × Nat) := [(⟨"BitLoom$Statement", "readAction", "()V"⟩, 11), (⟨"BitLoom$Statement", "readVerb", "()V"⟩, 11), (⟨"BitLoom$Statement", "readChange", "(LBitLoom$Change;)V"⟩, 11), (⟨"BitLoom", "carryOut", "(I)I"⟩, 7), (⟨"BitLoom", "changeAll", "(I)I"⟩, 7), (⟨"BitLoom", "greatest", "(II)I"⟩, 7), (⟨"BitLoom", "valueOf", "(II)I"⟩, 7), (⟨"BitLoom", "least", "(II)I"⟩, 7), (⟨"BitLoom", "total", "(II)I"⟩, 7), (⟨"BitLoom", "listAll", "(II)I"⟩, 7), (⟨"BitLoom", "sortIn", "(II)V"⟩, 7), (⟨"BitLoomModel", "fieldOf", "(C)I"⟩, 38), (⟨"BitLoomModel", "fits", "(II)Z"⟩, 38), (⟨"BitLoomModel", "setValue", "(III)V"⟩, 38), (⟨"BitLoomModel", "valueOf", "(II)I"⟩, 38), (⟨"BitLoomModel", "readText", "()I"⟩, 38)]
theorem lw_r2 : ∀ q ∈ lw_privs_2, lw_okq q := List.forall_mem_cons.mpr ⟨lw_p16, List.forall_mem_cons.mpr ⟨lw_p17, List.forall_mem_cons.mpr ⟨lw_p18, List.forall_mem_cons.mpr ⟨lw_p19, List.forall_mem_cons.mpr ⟨lw_p20, List.forall_mem_cons.mpr ⟨lw_p21, List.forall_mem_cons.mpr ⟨lw_p22, List.forall_mem_cons.mpr ⟨lw_p23, List.forall_mem_cons.mpr ⟨lw_p24, List.forall_mem_cons.mpr ⟨lw_p25, List.forall_mem_cons.mpr ⟨lw_p26, List.forall_mem_cons.mpr ⟨lw_p27, List.forall_mem_cons.mpr ⟨lw_p28, List.forall_mem_cons.mpr ⟨lw_p29, List.forall_mem_cons.mpr ⟨lw_p30, List.forall_mem_cons.mpr ⟨lw_p31, fun _ h => absurd h List.not_mem_nil⟩⟩⟩⟩⟩⟩⟩⟩⟩⟩⟩⟩⟩⟩⟩⟩
theorem lw_p32 : lw_okq (⟨"BitLoomModel", "scan", "(I)V"⟩, 38) := ⟨⟨by decide +kernel, by decide +kernel⟩, List.mem_of_getElem? (i := 911) (by decide +kernel), List.mem_of_getElem? (i := 1113) (by decide +kernel), List.mem_of_getElem? (i := 1114) (by decide +kernel)⟩
theorem lw_p33 : lw_okq (⟨"BitLoomModel", "see", "(I)C"⟩, 38) := ⟨⟨by decide +kernel, by decide +kernel⟩, List.mem_of_getElem? (i := 911) (by decide +kernel), List.mem_of_getElem? (i := 1117) (by decide +kernel), List.mem_of_getElem? (i := 1118) (by decide +kernel)⟩
theorem lw_p34 : lw_okq (⟨"BitLoomModel", "next", "(I)I"⟩, 38) := ⟨⟨by decide +kernel, by decide +kernel⟩, List.mem_of_getElem? (i := 911) (by decide +kernel), List.mem_of_getElem? (i := 1131) (by decide +kernel), List.mem_of_getElem? (i := 1132) (by decide +kernel)⟩
theorem lw_p35 : lw_okq (⟨"BitLoomModel", "start", "()I"⟩, 38) := ⟨⟨by decide +kernel, by decide +kernel⟩, List.mem_of_getElem? (i := 911) (by decide +kernel), List.mem_of_getElem? (i := 1135) (by decide +kernel), List.mem_of_getElem? (i := 1136) (by decide +kernel)⟩
theorem lw_p36 : lw_okq (⟨"BitLoomModel", "emit", "(II)V"⟩, 38) := ⟨⟨by decide +kernel, by decide +kernel⟩, List.mem_of_getElem? (i := 911) (by decide +kernel), List.mem_of_getElem? (i := 1140) (by decide +kernel), List.mem_of_getElem? (i := 1141) (by decide +kernel)⟩
theorem lw_p37 : lw_okq (⟨"BitLoomModel", "act", "()I"⟩, 38) := ⟨⟨by decide +kernel, by decide +kernel⟩, List.mem_of_getElem? (i := 911) (by decide +kernel), List.mem_of_getElem? (i := 1144) (by decide +kernel), List.mem_of_getElem? (i := 1145) (by decide +kernel)⟩
theorem lw_p38 : lw_okq (⟨"BitLoomModel", "one", "()I"⟩, 38) := ⟨⟨by decide +kernel, by decide +kernel⟩, List.mem_of_getElem? (i := 911) (by decide +kernel), List.mem_of_getElem? (i := 1157) (by decide +kernel), List.mem_of_getElem? (i := 1158) (by decide +kernel)⟩
theorem lw_p39 : lw_okq (⟨"BitLoomModel", "isIt", "(C)Z"⟩, 38) := ⟨⟨by decide +kernel, by decide +kernel⟩, List.mem_of_getElem? (i := 911) (by decide +kernel), List.mem_of_getElem? (i := 1161) (by decide +kernel), List.mem_of_getElem? (i := 1162) (by decide +kernel)⟩
theorem lw_p40 : lw_okq (⟨"BitLoomModel", "push", "(I)V"⟩, 38) := ⟨⟨by decide +kernel, by decide +kernel⟩, List.mem_of_getElem? (i := 911) (by decide +kernel), List.mem_of_getElem? (i := 1165) (by decide +kernel), List.mem_of_getElem? (i := 1166) (by decide +kernel)⟩
theorem lw_p41 : lw_okq (⟨"BitLoomModel", "operand", "(II)I"⟩, 38) := ⟨⟨by decide +kernel, by decide +kernel⟩, List.mem_of_getElem? (i := 911) (by decide +kernel), List.mem_of_getElem? (i := 1169) (by decide +kernel), List.mem_of_getElem? (i := 1170) (by decide +kernel)⟩
theorem lw_p42 : lw_okq (⟨"BitLoomModel", "wholeOne", "()I"⟩, 38) := ⟨⟨by decide +kernel, by decide +kernel⟩, List.mem_of_getElem? (i := 911) (by decide +kernel), List.mem_of_getElem? (i := 1173) (by decide +kernel), List.mem_of_getElem? (i := 1174) (by decide +kernel)⟩
theorem lw_p43 : lw_okq (⟨"BitLoomModel", "denied", "()V"⟩, 38) := ⟨⟨by decide +kernel, by decide +kernel⟩, List.mem_of_getElem? (i := 911) (by decide +kernel), List.mem_of_getElem? (i := 1177) (by decide +kernel), List.mem_of_getElem? (i := 1178) (by decide +kernel)⟩
theorem lw_p44 : lw_okq (⟨"BitLoomModel", "upper", "()I"⟩, 38) := ⟨⟨by decide +kernel, by decide +kernel⟩, List.mem_of_getElem? (i := 911) (by decide +kernel), List.mem_of_getElem? (i := 1181) (by decide +kernel), List.mem_of_getElem? (i := 1182) (by decide +kernel)⟩
theorem lw_p45 : lw_okq (⟨"BitLoomModel", "named", "()I"⟩, 38) := ⟨⟨by decide +kernel, by decide +kernel⟩, List.mem_of_getElem? (i := 911) (by decide +kernel), List.mem_of_getElem? (i := 1185) (by decide +kernel), List.mem_of_getElem? (i := 1186) (by decide +kernel)⟩
theorem lw_p46 : lw_okq (⟨"BitLoomModel", "negative", "(I)I"⟩, 38) := ⟨⟨by decide +kernel, by decide +kernel⟩, List.mem_of_getElem? (i := 911) (by decide +kernel), List.mem_of_getElem? (i := 1189) (by decide +kernel), List.mem_of_getElem? (i := 1190) (by decide +kernel)⟩
theorem lw_p47 : lw_okq (⟨"BitLoomModel", "relate", "()I"⟩, 38) := ⟨⟨by decide +kernel, by decide +kernel⟩, List.mem_of_getElem? (i := 911) (by decide +kernel), List.mem_of_getElem? (i := 1193) (by decide +kernel), List.mem_of_getElem? (i := 1194) (by decide +kernel)⟩
def lw_privs_3 : List (MethodName × Nat) := [(⟨"BitLoomModel", "scan", "(I)V"⟩, 38), (⟨"BitLoomModel", "see", "(I)C"⟩, 38), (⟨"BitLoomModel", "next", "(I)I"⟩, 38), (⟨"BitLoomModel", "start", "()I"⟩, 38), (⟨"BitLoomModel", "emit", "(II)V"⟩, 38), (⟨"BitLoomModel", "act", "()I"⟩, 38), (⟨"BitLoomModel", "one", "()I"⟩, 38), (⟨"BitLoomModel", "isIt", "(C)Z"⟩, 38), (⟨"BitLoomModel", "push", "(I)V"⟩, 38), (⟨"BitLoomModel", "operand", "(II)I"⟩, 38), (⟨"BitLoomModel", "wholeOne", "()I"⟩, 38), (⟨"BitLoomModel", "denied", "()V"⟩, 38), (⟨"BitLoomModel", "upper", "()I"⟩, 38), (⟨"BitLoomModel", "named", "()I"⟩, 38), (⟨"BitLoomModel", "negative", "(I)I"⟩, 38), (⟨"BitLoomModel", "relate", "()I"⟩, 38)]
theorem lw_r3 : ∀ q ∈ lw_privs_3, lw_okq q := List.forall_mem_cons.mpr ⟨lw_p32, List.forall_mem_cons.mpr ⟨lw_p33, List.forall_mem_cons.mpr ⟨lw_p34, List.forall_mem_cons.mpr ⟨lw_p35, List.forall_mem_cons.mpr ⟨lw_p36, List.forall_mem_cons.mpr ⟨lw_p37, List.forall_mem_cons.mpr ⟨lw_p38, List.forall_mem_cons.mpr ⟨lw_p39, List.forall_mem_cons.mpr ⟨lw_p40, List.forall_mem_cons.mpr ⟨lw_p41, List.forall_mem_cons.mpr ⟨lw_p42, List.forall_mem_cons.mpr ⟨lw_p43, List.forall_mem_cons.mpr ⟨lw_p44, List.forall_mem_cons.mpr ⟨lw_p45, List.forall_mem_cons.mpr ⟨lw_p46, List.forall_mem_cons.mpr ⟨lw_p47, fun _ h => absurd h List.not_mem_nil⟩⟩⟩⟩⟩⟩⟩⟩⟩⟩⟩⟩⟩⟩⟩⟩
theorem lw_p48 : lw_okq (⟨"BitLoomModel", "afterOne", "()I"⟩, 38) := ⟨⟨by decide +kernel, by decide +kernel⟩, List.mem_of_getElem? (i := 911) (by decide +kernel), List.mem_of_getElem? (i := 1197) (by decide +kernel), List.mem_of_getElem? (i := 1198) (by decide +kernel)⟩
theorem lw_p49 : lw_okq (⟨"BitLoomModel", "settle", "(II)V"⟩, 38) := ⟨⟨by decide +kernel, by decide +kernel⟩, List.mem_of_getElem? (i := 911) (by decide +kernel), List.mem_of_getElem? (i := 1201) (by decide +kernel), List.mem_of_getElem? (i := 1202) (by decide +kernel)⟩
theorem lw_p50 : lw_okq (⟨"BitLoomModel", "pick", "(I)I"⟩, 38) := ⟨⟨by decide +kernel, by decide +kernel⟩, List.mem_of_getElem? (i := 911) (by decide +kernel), List.mem_of_getElem? (i := 1205) (by decide +kernel), List.mem_of_getElem? (i := 1206) (by decide +kernel)⟩
theorem lw_p51 : lw_okq (⟨"BitLoomModel", "part", "(ZZII)I"⟩, 38) := ⟨⟨by decide +kernel, by decide +kernel⟩, List.mem_of_getElem? (i := 911) (by decide +kernel), List.mem_of_getElem? (i := 1209) (by decide +kernel), List.mem_of_getElem? (i := 1210) (by decide +kernel)⟩
theorem lw_p52 : lw_okq (⟨"BitLoomModel", "afterFirst", "()I"⟩, 38) := ⟨⟨by decide +kernel, by decide +kernel⟩, List.mem_of_getElem? (i := 911) (by decide +kernel), List.mem_of_getElem? (i := 1213) (by decide +kernel), List.mem_of_getElem? (i := 1214) (by decide +kernel)⟩
theorem lw_p53 : lw_okq (⟨"BitLoomModel", "afterChange", "()I"⟩, 38) := ⟨⟨by decide +kernel, by decide +kernel⟩, List.mem_of_getElem? (i := 911) (by decide +kernel), List.mem_of_getElem? (i := 1217) (by decide +kernel), List.mem_of_getElem? (i := 1218) (by decide +kernel)⟩
theorem lw_p54 : lw_okq (⟨"BitLoomModel", "isTaken", "(I)Z"⟩, 38) := ⟨⟨by decide +kernel, by decide +kernel⟩, List.mem_of_getElem? (i := 911) (by decide +kernel), List.mem_of_getElem? (i := 1221) (by decide +kernel), List.mem_of_getElem? (i := 1222) (by decide +kernel)⟩
theorem lw_p55 : lw_okq (⟨"BitLoomModel", "changeAll", "()I"⟩, 38) := ⟨⟨by decide +kernel, by decide +kernel⟩, List.mem_of_getElem? (i := 911) (by decide +kernel), List.mem_of_getElem? (i := 1228) (by decide +kernel), List.mem_of_getElem? (i := 1229) (by decide +kernel)⟩
theorem lw_p56 : lw_okq (⟨"BitLoomModel", "change", "(I)Z"⟩, 38) := ⟨⟨by decide +kernel, by decide +kernel⟩, List.mem_of_getElem? (i := 911) (by decide +kernel), List.mem_of_getElem? (i := 1232) (by decide +kernel), List.mem_of_getElem? (i := 1233) (by decide +kernel)⟩
theorem lw_p57 : lw_okq (⟨"BitLoomModel", "resultOf", "(II)I"⟩, 38) := ⟨⟨by decide +kernel, by decide +kernel⟩, List.mem_of_getElem? (i := 911) (by decide +kernel), List.mem_of_getElem? (i := 1236) (by decide +kernel), List.mem_of_getElem? (i := 1237) (by decide +kernel)⟩
theorem lw_p58 : lw_okq (⟨"BitLoomModel", "listAll", "()I"⟩, 38) := ⟨⟨by decide +kernel, by decide +kernel⟩, List.mem_of_getElem? (i := 911) (by decide +kernel), List.mem_of_getElem? (i := 1240) (by decide +kernel), List.mem_of_getElem? (i := 1241) (by decide +kernel)⟩
theorem lw_p59 : lw_okq (⟨"BitLoomModel", "gather", "()I"⟩, 38) := ⟨⟨by decide +kernel, by decide +kernel⟩, List.mem_of_getElem? (i := 911) (by decide +kernel), List.mem_of_getElem? (i := 1244) (by decide +kernel), List.mem_of_getElem? (i := 1245) (by decide +kernel)⟩
def lw_privs_4 : List (MethodName × Nat) := [(⟨"BitLoomModel", "afterOne", "()I"⟩, 38), (⟨"BitLoomModel", "settle", "(II)V"⟩, 38), (⟨"BitLoomModel", "pick", "(I)I"⟩, 38), (⟨"BitLoomModel", "part", "(ZZII)I"⟩, 38), (⟨"BitLoomModel", "afterFirst", "()I"⟩, 38), (⟨"BitLoomModel", "afterChange", "()I"⟩, 38), (⟨"BitLoomModel", "isTaken", "(I)Z"⟩, 38), (⟨"BitLoomModel", "changeAll", "()I"⟩, 38), (⟨"BitLoomModel", "change", "(I)Z"⟩, 38), (⟨"BitLoomModel", "resultOf", "(II)I"⟩, 38), (⟨"BitLoomModel", "listAll", "()I"⟩, 38), (⟨"BitLoomModel", "gather", "()I"⟩, 38)]
theorem lw_r4 : ∀ q ∈ lw_privs_4, lw_okq q := List.forall_mem_cons.mpr ⟨lw_p48, List.forall_mem_cons.mpr ⟨lw_p49, List.forall_mem_cons.mpr ⟨lw_p50, List.forall_mem_cons.mpr ⟨lw_p51, List.forall_mem_cons.mpr ⟨lw_p52, List.forall_mem_cons.mpr ⟨lw_p53, List.forall_mem_cons.mpr ⟨lw_p54, List.forall_mem_cons.mpr ⟨lw_p55, List.forall_mem_cons.mpr ⟨lw_p56, List.forall_mem_cons.mpr ⟨lw_p57, List.forall_mem_cons.mpr ⟨lw_p58, List.forall_mem_cons.mpr ⟨lw_p59, fun _ h => absurd h List.not_mem_nil⟩⟩⟩⟩⟩⟩⟩⟩⟩⟩⟩⟩
def lw_privs : List (MethodName × Nat) := lw_privs_1 ++ (lw_privs_2 ++ (lw_privs_3 ++ (lw_privs_4)))
def lw_tbl : List Cond := k2_sels lw_privs ++ tables_1
theorem lw_privs_ok : ∀ q ∈ lw_privs, lw_okq q := by
  show ∀ q ∈ lw_privs_1 ++ (lw_privs_2 ++ (lw_privs_3 ++ (lw_privs_4))), lw_okq q
  exact List.forall_mem_append.mpr ⟨lw_r1, List.forall_mem_append.mpr ⟨lw_r2, List.forall_mem_append.mpr ⟨lw_r3, lw_r4⟩⟩⟩
end
section
/-! classes, fields, methods, by program out of the Statement -/
def R_B : String := "BitLoom"
def T_B : u_T := fun k => match k with
  | 0 => ("BitLoom", "fields", "LBitLoom$Fields;", true)
  | 1 => ("BitLoom", "words", "LBitLoom$Words;", true)
  | 2 => ("BitLoom", "text", "LBitLoom$Text;", true)
  | 3 => ("BitLoom", "statement", "LBitLoom$Statement;", true)
  | 4 => ("BitLoom", "list", "[I", true)
  | 5 => ("BitLoom", "listLength", "I", false)
  | _ => ("BitLoom", "refusals", "I", false)
def ty_B : Nat → FieldType := fun k => match k with
  | 0 => (.object "BitLoom$Fields")
  | 1 => (.object "BitLoom$Words")
  | 2 => (.object "BitLoom$Text")
  | 3 => (.object "BitLoom$Statement")
  | 4 => (.array .int)
  | 5 => .int
  | _ => .int
theorem nm_B : ∀ a, a < 7 → ∀ b, b < 7 → a ≠ b → (T_B a).2.1 ≠ (T_B b).2.1 := by decide +kernel
theorem tk_B : ∀ k, k < 7 → parseFieldDescriptor (T_B k).2.2.1 = some (ty_B k) := by decide +kernel
def R_F : String := "BitLoom$Fields"
def T_F : u_T := fun k => match k with
  | 0 => ("BitLoom$Fields", "names", "[C", true)
  | 1 => ("BitLoom$Fields", "firsts", "[I", true)
  | 2 => ("BitLoom$Fields", "widths", "[I", true)
  | 3 => ("BitLoom$Fields", "signs", "[Z", true)
  | 4 => ("BitLoom$Fields", "count", "I", false)
  | _ => ("BitLoom$Fields", "covered", "I", false)
def ty_F : Nat → FieldType := fun k => match k with
  | 0 => (.array .char)
  | 1 => (.array .int)
  | 2 => (.array .int)
  | 3 => (.array .boolean)
  | 4 => .int
  | _ => .int
theorem nm_F : ∀ a, a < 6 → ∀ b, b < 6 → a ≠ b → (T_F a).2.1 ≠ (T_F b).2.1 := by decide +kernel
theorem tk_F : ∀ k, k < 6 → parseFieldDescriptor (T_F k).2.2.1 = some (ty_F k) := by decide +kernel
def R_W : String := "BitLoom$Words"
def T_W : u_T := fun k => match k with
  | 0 => ("BitLoom$Words", "bits", "[I", true)
  | 1 => ("BitLoom$Words", "inUse", "I", false)
  | _ => ("BitLoom$Words", "responding", "I", false)
def ty_W : Nat → FieldType := fun k => match k with
  | 0 => (.array .int)
  | 1 => .int
  | _ => .int
theorem nm_W : ∀ a, a < 3 → ∀ b, b < 3 → a ≠ b → (T_W a).2.1 ≠ (T_W b).2.1 := by decide +kernel
theorem tk_W : ∀ k, k < 3 → parseFieldDescriptor (T_W k).2.2.1 = some (ty_W k) := by decide +kernel
def R_T : String := "BitLoom$Text"
def T_T : u_T := fun k => match k with
  | 0 => ("BitLoom$Text", "characters", "[C", true)
  | _ => ("BitLoom$Text", "length", "I", false)
def ty_T : Nat → FieldType := fun k => match k with
  | 0 => (.array .char)
  | _ => .int
theorem nm_T : ∀ a, a < 2 → ∀ b, b < 2 → a ≠ b → (T_T a).2.1 ≠ (T_T b).2.1 := by decide +kernel
theorem tk_T : ∀ k, k < 2 → parseFieldDescriptor (T_T k).2.2.1 = some (ty_T k) := by decide +kernel
def R_K : String := "BitLoom$Tokens"
def T_K : u_T := fun k => match k with
  | 0 => ("BitLoom$Tokens", "text", "LBitLoom$Text;", true)
  | 1 => ("BitLoom$Tokens", "kinds", "[C", true)
  | 2 => ("BitLoom$Tokens", "starts", "[I", true)
  | 3 => ("BitLoom$Tokens", "ends", "[I", true)
  | 4 => ("BitLoom$Tokens", "count", "I", false)
  | _ => ("BitLoom$Tokens", "at", "I", false)
def ty_K : Nat → FieldType := fun k => match k with
  | 0 => (.object "BitLoom$Text")
  | 1 => (.array .char)
  | 2 => (.array .int)
  | 3 => (.array .int)
  | 4 => .int
  | _ => .int
theorem nm_K : ∀ a, a < 6 → ∀ b, b < 6 → a ≠ b → (T_K a).2.1 ≠ (T_K b).2.1 := by decide +kernel
theorem tk_K : ∀ k, k < 6 → parseFieldDescriptor (T_K k).2.2.1 = some (ty_K k) := by decide +kernel
def R_O : String := "BitLoom$Operand"
def T_O : u_T := fun k => match k with
  | 0 => ("BitLoom$Operand", "fields", "LBitLoom$Fields;", true)
  | 1 => ("BitLoom$Operand", "field", "I", false)
  | _ => ("BitLoom$Operand", "number", "I", false)
def ty_O : Nat → FieldType := fun k => match k with
  | 0 => (.object "BitLoom$Fields")
  | 1 => .int
  | _ => .int
theorem nm_O : ∀ a, a < 3 → ∀ b, b < 3 → a ≠ b → (T_O a).2.1 ≠ (T_O b).2.1 := by decide +kernel
theorem tk_O : ∀ k, k < 3 → parseFieldDescriptor (T_O k).2.2.1 = some (ty_O k) := by decide +kernel
def R_P : String := "BitLoom$Pair"
def T_P : u_T := fun k => match k with
  | 0 => ("BitLoom$Pair", "left", "LBitLoom$Operand;", true)
  | 1 => ("BitLoom$Pair", "right", "LBitLoom$Operand;", true)
  | _ => ("BitLoom$Pair", "sign", "C", false)
def ty_P : Nat → FieldType := fun k => match k with
  | 0 => (.object "BitLoom$Operand")
  | 1 => (.object "BitLoom$Operand")
  | _ => .char
theorem nm_P : ∀ a, a < 3 → ∀ b, b < 3 → a ≠ b → (T_P a).2.1 ≠ (T_P b).2.1 := by decide +kernel
theorem tk_P : ∀ k, k < 3 → parseFieldDescriptor (T_P k).2.2.1 = some (ty_P k) := by decide +kernel
def R_C : String := "BitLoom$Change"
def T_C : u_T := fun k => match k with
  | 0 => ("BitLoom$Change", "fields", "LBitLoom$Fields;", true)
  | 1 => ("BitLoom$Change", "operands", "LBitLoom$Pair;", true)
  | _ => ("BitLoom$Change", "target", "I", false)
def ty_C : Nat → FieldType := fun k => match k with
  | 0 => (.object "BitLoom$Fields")
  | 1 => (.object "BitLoom$Pair")
  | _ => .int
theorem nm_C : ∀ a, a < 3 → ∀ b, b < 3 → a ≠ b → (T_C a).2.1 ≠ (T_C b).2.1 := by decide +kernel
theorem tk_C : ∀ k, k < 3 → parseFieldDescriptor (T_C k).2.2.1 = some (ty_C k) := by decide +kernel
def R_S : String := "BitLoom$Statement"
def T_S : u_T := fun k => match k with
  | 0 => ("BitLoom$Statement", "fields", "LBitLoom$Fields;", true)
  | 1 => ("BitLoom$Statement", "words", "LBitLoom$Words;", true)
  | 2 => ("BitLoom$Statement", "tokens", "LBitLoom$Tokens;", true)
  | 3 => ("BitLoom$Statement", "compared", "LBitLoom$Pair;", true)
  | 4 => ("BitLoom$Statement", "change", "LBitLoom$Change;", true)
  | 5 => ("BitLoom$Statement", "secondChange", "LBitLoom$Change;", true)
  | 6 => ("BitLoom$Statement", "hasSecondChange", "Z", false)
  | 7 => ("BitLoom$Statement", "action", "LBitLoom$Action;", false)
  | 8 => ("BitLoom$Statement", "subject", "I", false)
  | 9 => ("BitLoom$Statement", "taken", "I", false)
  | _ => ("BitLoom$Statement", "wrongAt", "I", false)
def ty_S : Nat → FieldType := fun k => match k with
  | 0 => (.object "BitLoom$Fields")
  | 1 => (.object "BitLoom$Words")
  | 2 => (.object "BitLoom$Tokens")
  | 3 => (.object "BitLoom$Pair")
  | 4 => (.object "BitLoom$Change")
  | 5 => (.object "BitLoom$Change")
  | 6 => .boolean
  | 7 => (.object "BitLoom$Action")
  | 8 => .int
  | 9 => .int
  | _ => .int
theorem nm_S : ∀ a, a < 11 → ∀ b, b < 11 → a ≠ b → (T_S a).2.1 ≠ (T_S b).2.1 := by decide +kernel
theorem tk_S : ∀ k, k < 11 → parseFieldDescriptor (T_S k).2.2.1 = some (ty_S k) := by decide +kernel
def R_M : String := "BitLoomModel"
def T_M : u_T := fun k => match k with
  | 0 => ("BitLoomModel", "code", "I", false)
  | 1 => ("BitLoomModel", "used", "[Z", true)
  | 2 => ("BitLoomModel", "bits", "[I", true)
  | 3 => ("BitLoomModel", "responds", "[Z", true)
  | 4 => ("BitLoomModel", "fields", "I", false)
  | 5 => ("BitLoomModel", "names", "[C", true)
  | 6 => ("BitLoomModel", "lows", "[I", true)
  | 7 => ("BitLoomModel", "widths", "[I", true)
  | 8 => ("BitLoomModel", "signs", "[Z", true)
  | 9 => ("BitLoomModel", "typed", "I", false)
  | 10 => ("BitLoomModel", "text", "[C", true)
  | 11 => ("BitLoomModel", "place", "I", false)
  | 12 => ("BitLoomModel", "refused", "I", false)
  | 13 => ("BitLoomModel", "many", "I", false)
  | 14 => ("BitLoomModel", "list", "[I", true)
  | 15 => ("BitLoomModel", "kind", "I", false)
  | 16 => ("BitLoomModel", "begin", "I", false)
  | 17 => ("BitLoomModel", "end", "I", false)
  | 18 => ("BitLoomModel", "amount", "I", false)
  | 19 => ("BitLoomModel", "letters", "J", false)
  | 20 => ("BitLoomModel", "length", "I", false)
  | 21 => ("BitLoomModel", "order", "[I", true)
  | 22 => ("BitLoomModel", "arg", "[I", true)
  | 23 => ("BitLoomModel", "open", "I", false)
  | 24 => ("BitLoomModel", "pile", "[I", true)
  | 25 => ("BitLoomModel", "nested", "I", false)
  | 26 => ("BitLoomModel", "relation", "I", false)
  | 27 => ("BitLoomModel", "action", "I", false)
  | 28 => ("BitLoomModel", "of", "I", false)
  | 29 => ("BitLoomModel", "changes", "I", false)
  | 30 => ("BitLoomModel", "target", "[I", true)
  | 31 => ("BitLoomModel", "oneField", "[I", true)
  | 32 => ("BitLoomModel", "oneNumber", "[I", true)
  | 33 => ("BitLoomModel", "how", "[I", true)
  | 34 => ("BitLoomModel", "twoField", "[I", true)
  | 35 => ("BitLoomModel", "twoNumber", "[I", true)
  | 36 => ("BitLoomModel", "high", "I", false)
  | _ => ("BitLoomModel", "stack", "[I", true)
def ty_M : Nat → FieldType := fun k => match k with
  | 0 => .int
  | 1 => (.array .boolean)
  | 2 => (.array .int)
  | 3 => (.array .boolean)
  | 4 => .int
  | 5 => (.array .char)
  | 6 => (.array .int)
  | 7 => (.array .int)
  | 8 => (.array .boolean)
  | 9 => .int
  | 10 => (.array .char)
  | 11 => .int
  | 12 => .int
  | 13 => .int
  | 14 => (.array .int)
  | 15 => .int
  | 16 => .int
  | 17 => .int
  | 18 => .int
  | 19 => .long
  | 20 => .int
  | 21 => (.array .int)
  | 22 => (.array .int)
  | 23 => .int
  | 24 => (.array .int)
  | 25 => .int
  | 26 => .int
  | 27 => .int
  | 28 => .int
  | 29 => .int
  | 30 => (.array .int)
  | 31 => (.array .int)
  | 32 => (.array .int)
  | 33 => (.array .int)
  | 34 => (.array .int)
  | 35 => (.array .int)
  | 36 => .int
  | _ => (.array .int)
theorem nm_M : ∀ a, a < 38 → ∀ b, b < 38 → a ≠ b → (T_M a).2.1 ≠ (T_M b).2.1 := by decide +kernel
theorem tk_M : ∀ k, k < 38 → parseFieldDescriptor (T_M k).2.2.1 = some (ty_M k) := by decide +kernel
def R_XA : String := "java/lang/IllegalArgumentException"
def T_XA : u_T := fun k => match k with
  | _ => ("", "", "", false)
def ty_XA : Nat → FieldType := fun k => match k with
  | _ => .int
theorem nm_XA : ∀ a, a < 0 → ∀ b, b < 0 → a ≠ b → (T_XA a).2.1 ≠ (T_XA b).2.1 := by decide +kernel
theorem tk_XA : ∀ k, k < 0 → parseFieldDescriptor (T_XA k).2.2.1 = some (ty_XA k) := by decide +kernel
def R_XN : String := "java/util/NoSuchElementException"
def T_XN : u_T := fun k => match k with
  | _ => ("", "", "", false)
def ty_XN : Nat → FieldType := fun k => match k with
  | _ => .int
theorem nm_XN : ∀ a, a < 0 → ∀ b, b < 0 → a ≠ b → (T_XN a).2.1 ≠ (T_XN b).2.1 := by decide +kernel
theorem tk_XN : ∀ k, k < 0 → parseFieldDescriptor (T_XN k).2.2.1 = some (ty_XN k) := by decide +kernel
def R_XS : String := "java/lang/IllegalStateException"
def T_XS : u_T := fun k => match k with
  | _ => ("", "", "", false)
def ty_XS : Nat → FieldType := fun k => match k with
  | _ => .int
theorem nm_XS : ∀ a, a < 0 → ∀ b, b < 0 → a ≠ b → (T_XS a).2.1 ≠ (T_XS b).2.1 := by decide +kernel
theorem tk_XS : ∀ k, k < 0 → parseFieldDescriptor (T_XS k).2.2.1 = some (ty_XS k) := by decide +kernel
def R_XI : String := "java/lang/IndexOutOfBoundsException"
def T_XI : u_T := fun k => match k with
  | _ => ("", "", "", false)
def ty_XI : Nat → FieldType := fun k => match k with
  | _ => .int
theorem nm_XI : ∀ a, a < 0 → ∀ b, b < 0 → a ≠ b → (T_XI a).2.1 ≠ (T_XI b).2.1 := by decide +kernel
theorem tk_XI : ∀ k, k < 0 → parseFieldDescriptor (T_XI k).2.2.1 = some (ty_XI k) := by decide +kernel
/-- the classes whose objects the worlds hold, by number -/
abbrev classes : List vw_C := [(R_B, T_B, 7), (R_F, T_F, 6), (R_W, T_W, 3), (R_T, T_T, 2), (R_K, T_K, 6), (R_O, T_O, 3), (R_P, T_P, 3), (R_C, T_C, 3), (R_S, T_S, 11), (R_M, T_M, 38), (R_XA, T_XA, 0), (R_XN, T_XN, 0), (R_XS, T_XS, 0), (R_XI, T_XI, 0)]
/-- words that stay true of warmer tables, whatever the heap -/
def j_ok (w : Cond) : Bool := match w with
  | .arrayClass _ => true
  | .fieldLinkNest .. => true
  | .methodLinkNest .. => true
  | w => w.onTables && w.keepsFace
def jt : List Cond := lw_tbl.filter j_ok
theorem j_in (i : Nat) {w : Cond} (h : tables_1[i]? = some w) (hok : j_ok w = true) : w ∈ jt := List.mem_filter.mpr ⟨List.mem_append_right _ (List.mem_of_getElem? h), hok⟩
theorem j_ip (i : Nat) {y : MethodName} {n : Nat} (h : lw_privs[i]? = some (y, n)) : Cond.selects y.cls y y ∈ jt := List.mem_filter.mpr ⟨List.mem_append_left _ (List.mem_map.mpr ⟨(y, n), List.mem_of_getElem? h, rfl⟩), rfl⟩
end
