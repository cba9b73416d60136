theorem d_M_emit_0 : decode b_M_emit 0 = .ok (.aload_n 0, 1) := by decide +kernel
theorem d_M_emit_1 : decode b_M_emit 1 = .ok (.getfield 43, 3) := by decide +kernel
theorem d_M_emit_4 : decode b_M_emit 4 = .ok (.aload_n 0, 1) := by decide +kernel
theorem d_M_emit_5 : decode b_M_emit 5 = .ok (.getfield 149, 3) := by decide +kernel
theorem d_M_emit_8 : decode b_M_emit 8 = .ok (.iload_n 1, 1) := by decide +kernel
theorem d_M_emit_9 : decode b_M_emit 9 = .ok (.iastore, 1) := by decide +kernel
theorem d_M_emit_10 : decode b_M_emit 10 = .ok (.aload_n 0, 1) := by decide +kernel
theorem d_M_emit_11 : decode b_M_emit 11 = .ok (.getfield 46, 3) := by decide +kernel
theorem d_M_emit_14 : decode b_M_emit 14 = .ok (.aload_n 0, 1) := by decide +kernel
theorem d_M_emit_15 : decode b_M_emit 15 = .ok (.getfield 149, 3) := by decide +kernel
theorem d_M_emit_18 : decode b_M_emit 18 = .ok (.iload_n 2, 1) := by decide +kernel
theorem d_M_emit_19 : decode b_M_emit 19 = .ok (.iastore, 1) := by decide +kernel
theorem d_M_emit_20 : decode b_M_emit 20 = .ok (.aload_n 0, 1) := by decide +kernel
theorem d_M_emit_21 : decode b_M_emit 21 = .ok (.dup, 1) := by decide +kernel
theorem d_M_emit_22 : decode b_M_emit 22 = .ok (.getfield 149, 3) := by decide +kernel
theorem d_M_emit_25 : decode b_M_emit 25 = .ok (.iconst 1, 1) := by decide +kernel
theorem d_M_emit_26 : decode b_M_emit 26 = .ok (.iadd, 1) := by decide +kernel
theorem d_M_emit_27 : decode b_M_emit 27 = .ok (.putfield 149, 3) := by decide +kernel
theorem d_M_emit_30 : decode b_M_emit 30 = .ok (.return_, 1) := by decide +kernel
theorem d_M_act_0 : decode b_M_act 0 = .ok (.aload_n 0, 1) := by decide +kernel
theorem d_M_act_1 : decode b_M_act 1 = .ok (.aload_n 0, 1) := by decide +kernel
theorem d_M_act_2 : decode b_M_act 2 = .ok (.getfield 132, 3) := by decide +kernel
theorem d_M_act_5 : decode b_M_act 5 = .ok (.iconst 1, 1) := by decide +kernel
theorem d_M_act_6 : decode b_M_act 6 = .ok (.if_icmp .ne 13, 3) := by decide +kernel
theorem d_M_act_9 : decode b_M_act 9 = .ok (.aload_n 0, 1) := by decide +kernel
theorem d_M_act_10 : decode b_M_act 10 = .ok (.getfield 118, 3) := by decide +kernel
theorem d_M_act_13 : decode b_M_act 13 = .ok (.invokestatic 163, 3) := by decide +kernel
theorem d_M_act_16 : decode b_M_act 16 = .ok (.goto 4, 3) := by decide +kernel
theorem d_M_act_19 : decode b_M_act 19 = .ok (.iconst 0, 1) := by decide +kernel
theorem d_M_act_20 : decode b_M_act 20 = .ok (.putfield 167, 3) := by decide +kernel
theorem d_M_act_23 : decode b_M_act 23 = .ok (.aload_n 0, 1) := by decide +kernel
theorem d_M_act_24 : decode b_M_act 24 = .ok (.getfield 167, 3) := by decide +kernel
theorem d_M_act_27 : decode b_M_act 27 = .ok (.ifCond .ne 8, 3) := by decide +kernel
theorem d_M_act_30 : decode b_M_act 30 = .ok (.bipush 17, 2) := by decide +kernel
theorem d_M_act_32 : decode b_M_act 32 = .ok (.goto 32, 3) := by decide +kernel
theorem d_M_act_35 : decode b_M_act 35 = .ok (.aload_n 0, 1) := by decide +kernel
theorem d_M_act_36 : decode b_M_act 36 = .ok (.getfield 167, 3) := by decide +kernel
theorem d_M_act_39 : decode b_M_act 39 = .ok (.iconst 1, 1) := by decide +kernel
theorem d_M_act_40 : decode b_M_act 40 = .ok (.if_icmp .ne 8, 3) := by decide +kernel
theorem d_M_act_43 : decode b_M_act 43 = .ok (.bipush 7, 2) := by decide +kernel
theorem d_M_act_45 : decode b_M_act 45 = .ok (.goto 19, 3) := by decide +kernel
theorem d_M_act_48 : decode b_M_act 48 = .ok (.aload_n 0, 1) := by decide +kernel
theorem d_M_act_49 : decode b_M_act 49 = .ok (.getfield 167, 3) := by decide +kernel
theorem d_M_act_52 : decode b_M_act 52 = .ok (.bipush 6, 2) := by decide +kernel
theorem d_M_act_54 : decode b_M_act 54 = .ok (.if_icmp .ne 8, 3) := by decide +kernel
theorem d_M_act_57 : decode b_M_act 57 = .ok (.bipush 16, 2) := by decide +kernel
theorem d_M_act_59 : decode b_M_act 59 = .ok (.goto 5, 3) := by decide +kernel
theorem d_M_act_62 : decode b_M_act 62 = .ok (.bipush 15, 2) := by decide +kernel
theorem d_M_act_64 : decode b_M_act 64 = .ok (.ireturn, 1) := by decide +kernel
theorem d_M_actionOf_0 : decode b_M_actionOf 0 = .ok (.lload_n 0, 1) := by decide +kernel
theorem d_M_actionOf_1 : decode b_M_actionOf 1 = .ok (.ldc2_w 137, 3) := by decide +kernel
theorem d_M_actionOf_4 : decode b_M_actionOf 4 = .ok (.lcmp, 1) := by decide +kernel
theorem d_M_actionOf_5 : decode b_M_actionOf 5 = .ok (.ifCond .ne 5, 3) := by decide +kernel
theorem d_M_actionOf_8 : decode b_M_actionOf 8 = .ok (.iconst 1, 1) := by decide +kernel
theorem d_M_actionOf_9 : decode b_M_actionOf 9 = .ok (.ireturn, 1) := by decide +kernel
theorem d_M_actionOf_10 : decode b_M_actionOf 10 = .ok (.lload_n 0, 1) := by decide +kernel
theorem d_M_actionOf_11 : decode b_M_actionOf 11 = .ok (.ldc2_w 139, 3) := by decide +kernel
theorem d_M_actionOf_14 : decode b_M_actionOf 14 = .ok (.lcmp, 1) := by decide +kernel
theorem d_M_actionOf_15 : decode b_M_actionOf 15 = .ok (.ifCond .ne 5, 3) := by decide +kernel
theorem d_M_actionOf_18 : decode b_M_actionOf 18 = .ok (.iconst 2, 1) := by decide +kernel
theorem d_M_actionOf_19 : decode b_M_actionOf 19 = .ok (.ireturn, 1) := by decide +kernel
theorem d_M_actionOf_20 : decode b_M_actionOf 20 = .ok (.lload_n 0, 1) := by decide +kernel
theorem d_M_actionOf_21 : decode b_M_actionOf 21 = .ok (.ldc2_w 141, 3) := by decide +kernel
theorem d_M_actionOf_24 : decode b_M_actionOf 24 = .ok (.lcmp, 1) := by decide +kernel
theorem d_M_actionOf_25 : decode b_M_actionOf 25 = .ok (.ifCond .ne 5, 3) := by decide +kernel
theorem d_M_actionOf_28 : decode b_M_actionOf 28 = .ok (.iconst 3, 1) := by decide +kernel
theorem d_M_actionOf_29 : decode b_M_actionOf 29 = .ok (.ireturn, 1) := by decide +kernel
theorem d_M_actionOf_30 : decode b_M_actionOf 30 = .ok (.lload_n 0, 1) := by decide +kernel
theorem d_M_actionOf_31 : decode b_M_actionOf 31 = .ok (.ldc2_w 143, 3) := by decide +kernel
theorem d_M_actionOf_34 : decode b_M_actionOf 34 = .ok (.lcmp, 1) := by decide +kernel
theorem d_M_actionOf_35 : decode b_M_actionOf 35 = .ok (.ifCond .ne 5, 3) := by decide +kernel
theorem d_M_actionOf_38 : decode b_M_actionOf 38 = .ok (.iconst 4, 1) := by decide +kernel
theorem d_M_actionOf_39 : decode b_M_actionOf 39 = .ok (.ireturn, 1) := by decide +kernel
theorem d_M_actionOf_40 : decode b_M_actionOf 40 = .ok (.lload_n 0, 1) := by decide +kernel
theorem d_M_actionOf_41 : decode b_M_actionOf 41 = .ok (.ldc2_w 145, 3) := by decide +kernel
theorem d_M_actionOf_44 : decode b_M_actionOf 44 = .ok (.lcmp, 1) := by decide +kernel
theorem d_M_actionOf_45 : decode b_M_actionOf 45 = .ok (.ifCond .ne 5, 3) := by decide +kernel
theorem d_M_actionOf_48 : decode b_M_actionOf 48 = .ok (.iconst 5, 1) := by decide +kernel
theorem d_M_actionOf_49 : decode b_M_actionOf 49 = .ok (.ireturn, 1) := by decide +kernel
theorem d_M_actionOf_50 : decode b_M_actionOf 50 = .ok (.lload_n 0, 1) := by decide +kernel
theorem d_M_actionOf_51 : decode b_M_actionOf 51 = .ok (.ldc2_w 147, 3) := by decide +kernel
theorem d_M_actionOf_54 : decode b_M_actionOf 54 = .ok (.lcmp, 1) := by decide +kernel
theorem d_M_actionOf_55 : decode b_M_actionOf 55 = .ok (.ifCond .ne 8, 3) := by decide +kernel
theorem d_M_actionOf_58 : decode b_M_actionOf 58 = .ok (.bipush 6, 2) := by decide +kernel
theorem d_M_actionOf_60 : decode b_M_actionOf 60 = .ok (.goto 4, 3) := by decide +kernel
theorem d_M_actionOf_63 : decode b_M_actionOf 63 = .ok (.iconst 0, 1) := by decide +kernel
theorem d_M_actionOf_64 : decode b_M_actionOf 64 = .ok (.ireturn, 1) := by decide +kernel
theorem d_M_one_0 : decode b_M_one 0 = .ok (.aload_n 0, 1) := by decide +kernel
theorem d_M_one_1 : decode b_M_one 1 = .ok (.bipush 33, 2) := by decide +kernel
theorem d_M_one_3 : decode b_M_one 3 = .ok (.invokevirtual 175, 3) := by decide +kernel
theorem d_M_one_6 : decode b_M_one 6 = .ok (.ifCond .ne 12, 3) := by decide +kernel
theorem d_M_one_9 : decode b_M_one 9 = .ok (.aload_n 0, 1) := by decide +kernel
theorem d_M_one_10 : decode b_M_one 10 = .ok (.bipush 40, 2) := by decide +kernel
theorem d_M_one_12 : decode b_M_one 12 = .ok (.invokevirtual 175, 3) := by decide +kernel
theorem d_M_one_15 : decode b_M_one 15 = .ok (.ifCond .eq 45, 3) := by decide +kernel
theorem d_M_one_18 : decode b_M_one 18 = .ok (.aload_n 0, 1) := by decide +kernel
theorem d_M_one_19 : decode b_M_one 19 = .ok (.getfield 178, 3) := by decide +kernel
theorem d_M_one_22 : decode b_M_one 22 = .ok (.bipush 8, 2) := by decide +kernel
theorem d_M_one_24 : decode b_M_one 24 = .ok (.if_icmp .ne 6, 3) := by decide +kernel
theorem d_M_one_27 : decode b_M_one 27 = .ok (.bipush 17, 2) := by decide +kernel
theorem d_M_one_29 : decode b_M_one 29 = .ok (.ireturn, 1) := by decide +kernel
theorem d_M_one_30 : decode b_M_one 30 = .ok (.aload_n 0, 1) := by decide +kernel
theorem d_M_one_31 : decode b_M_one 31 = .ok (.dup, 1) := by decide +kernel
theorem d_M_one_32 : decode b_M_one 32 = .ok (.getfield 178, 3) := by decide +kernel
theorem d_M_one_35 : decode b_M_one 35 = .ok (.iconst 1, 1) := by decide +kernel
theorem d_M_one_36 : decode b_M_one 36 = .ok (.iadd, 1) := by decide +kernel
theorem d_M_one_37 : decode b_M_one 37 = .ok (.putfield 178, 3) := by decide +kernel
theorem d_M_one_40 : decode b_M_one 40 = .ok (.aload_n 0, 1) := by decide +kernel
theorem d_M_one_41 : decode b_M_one 41 = .ok (.aload_n 0, 1) := by decide +kernel
theorem d_M_one_42 : decode b_M_one 42 = .ok (.bipush 33, 2) := by decide +kernel
theorem d_M_one_44 : decode b_M_one 44 = .ok (.invokevirtual 175, 3) := by decide +kernel
theorem d_M_one_47 : decode b_M_one 47 = .ok (.ifCond .eq 7, 3) := by decide +kernel
theorem d_M_one_50 : decode b_M_one 50 = .ok (.iconst 3, 1) := by decide +kernel
theorem d_M_one_51 : decode b_M_one 51 = .ok (.goto 4, 3) := by decide +kernel
theorem d_M_one_54 : decode b_M_one 54 = .ok (.iconst 4, 1) := by decide +kernel
theorem d_M_one_55 : decode b_M_one 55 = .ok (.invokevirtual 181, 3) := by decide +kernel
theorem d_M_one_58 : decode b_M_one 58 = .ok (.iconst 1, 1) := by decide +kernel
theorem d_M_one_59 : decode b_M_one 59 = .ok (.ireturn, 1) := by decide +kernel
theorem d_M_one_60 : decode b_M_one 60 = .ok (.aload_n 0, 1) := by decide +kernel
theorem d_M_one_61 : decode b_M_one 61 = .ok (.iconst 2, 1) := by decide +kernel
theorem d_M_one_62 : decode b_M_one 62 = .ok (.iconst 3, 1) := by decide +kernel
theorem d_M_one_63 : decode b_M_one 63 = .ok (.invokevirtual 185, 3) := by decide +kernel
theorem d_M_one_66 : decode b_M_one 66 = .ok (.ireturn, 1) := by decide +kernel
theorem d_M_isIt_0 : decode b_M_isIt 0 = .ok (.aload_n 0, 1) := by decide +kernel
theorem d_M_isIt_1 : decode b_M_isIt 1 = .ok (.getfield 132, 3) := by decide +kernel
theorem d_M_isIt_4 : decode b_M_isIt 4 = .ok (.iconst 3, 1) := by decide +kernel
theorem d_M_isIt_5 : decode b_M_isIt 5 = .ok (.if_icmp .ne 20, 3) := by decide +kernel
theorem d_M_isIt_8 : decode b_M_isIt 8 = .ok (.aload_n 0, 1) := by decide +kernel
theorem d_M_isIt_9 : decode b_M_isIt 9 = .ok (.getfield 33, 3) := by decide +kernel
theorem d_M_isIt_12 : decode b_M_isIt 12 = .ok (.aload_n 0, 1) := by decide +kernel
theorem d_M_isIt_13 : decode b_M_isIt 13 = .ok (.getfield 105, 3) := by decide +kernel
theorem d_M_isIt_16 : decode b_M_isIt 16 = .ok (.caload, 1) := by decide +kernel
theorem d_M_isIt_17 : decode b_M_isIt 17 = .ok (.iload_n 1, 1) := by decide +kernel
theorem d_M_isIt_18 : decode b_M_isIt 18 = .ok (.if_icmp .ne 7, 3) := by decide +kernel
theorem d_M_isIt_21 : decode b_M_isIt 21 = .ok (.iconst 1, 1) := by decide +kernel
theorem d_M_isIt_22 : decode b_M_isIt 22 = .ok (.goto 4, 3) := by decide +kernel
theorem d_M_isIt_25 : decode b_M_isIt 25 = .ok (.iconst 0, 1) := by decide +kernel
theorem d_M_isIt_26 : decode b_M_isIt 26 = .ok (.ireturn, 1) := by decide +kernel
theorem d_M_push_0 : decode b_M_push 0 = .ok (.aload_n 0, 1) := by decide +kernel
theorem d_M_push_1 : decode b_M_push 1 = .ok (.getfield 49, 3) := by decide +kernel
theorem d_M_push_4 : decode b_M_push 4 = .ok (.aload_n 0, 1) := by decide +kernel
theorem d_M_push_5 : decode b_M_push 5 = .ok (.getfield 152, 3) := by decide +kernel
theorem d_M_push_8 : decode b_M_push 8 = .ok (.iload_n 1, 1) := by decide +kernel
theorem d_M_push_9 : decode b_M_push 9 = .ok (.iastore, 1) := by decide +kernel
theorem d_M_push_10 : decode b_M_push 10 = .ok (.aload_n 0, 1) := by decide +kernel
theorem d_M_push_11 : decode b_M_push 11 = .ok (.dup, 1) := by decide +kernel
theorem d_M_push_12 : decode b_M_push 12 = .ok (.getfield 152, 3) := by decide +kernel
theorem d_M_push_15 : decode b_M_push 15 = .ok (.iconst 1, 1) := by decide +kernel
theorem d_M_push_16 : decode b_M_push 16 = .ok (.iadd, 1) := by decide +kernel
theorem d_M_push_17 : decode b_M_push 17 = .ok (.putfield 152, 3) := by decide +kernel
theorem d_M_push_20 : decode b_M_push 20 = .ok (.return_, 1) := by decide +kernel
theorem d_M_operand_0 : decode b_M_operand 0 = .ok (.aload_n 0, 1) := by decide +kernel
theorem d_M_operand_1 : decode b_M_operand 1 = .ok (.bipush 45, 2) := by decide +kernel
theorem d_M_operand_3 : decode b_M_operand 3 = .ok (.invokevirtual 175, 3) := by decide +kernel
theorem d_M_operand_6 : decode b_M_operand 6 = .ok (.ifCond .eq 5, 3) := by decide +kernel
theorem d_M_operand_9 : decode b_M_operand 9 = .ok (.iload_n 1, 1) := by decide +kernel
theorem d_M_operand_10 : decode b_M_operand 10 = .ok (.ireturn, 1) := by decide +kernel
theorem d_M_operand_11 : decode b_M_operand 11 = .ok (.aload_n 0, 1) := by decide +kernel
theorem d_M_operand_12 : decode b_M_operand 12 = .ok (.getfield 132, 3) := by decide +kernel
theorem d_M_operand_15 : decode b_M_operand 15 = .ok (.iconst 2, 1) := by decide +kernel
theorem d_M_operand_16 : decode b_M_operand 16 = .ok (.if_icmp .ne 28, 3) := by decide +kernel
theorem d_M_operand_19 : decode b_M_operand 19 = .ok (.aload_n 0, 1) := by decide +kernel
theorem d_M_operand_20 : decode b_M_operand 20 = .ok (.bipush 6, 2) := by decide +kernel
theorem d_M_operand_22 : decode b_M_operand 22 = .ok (.aload_n 0, 1) := by decide +kernel
theorem d_M_operand_23 : decode b_M_operand 23 = .ok (.getfield 115, 3) := by decide +kernel
theorem d_M_operand_26 : decode b_M_operand 26 = .ok (.invokevirtual 159, 3) := by decide +kernel
theorem d_M_operand_29 : decode b_M_operand 29 = .ok (.iload_n 2, 1) := by decide +kernel
theorem d_M_operand_30 : decode b_M_operand 30 = .ok (.bipush 6, 2) := by decide +kernel
theorem d_M_operand_32 : decode b_M_operand 32 = .ok (.if_icmp .ne 10, 3) := by decide +kernel
theorem d_M_operand_35 : decode b_M_operand 35 = .ok (.aload_n 0, 1) := by decide +kernel
theorem d_M_operand_36 : decode b_M_operand 36 = .ok (.invokevirtual 188, 3) := by decide +kernel
theorem d_M_operand_39 : decode b_M_operand 39 = .ok (.goto 4, 3) := by decide +kernel
theorem d_M_operand_42 : decode b_M_operand 42 = .ok (.iload_n 2, 1) := by decide +kernel
theorem d_M_operand_43 : decode b_M_operand 43 = .ok (.ireturn, 1) := by decide +kernel
theorem d_M_operand_44 : decode b_M_operand 44 = .ok (.aload_n 0, 1) := by decide +kernel
theorem d_M_operand_45 : decode b_M_operand 45 = .ok (.invokevirtual 191, 3) := by decide +kernel
theorem d_M_operand_48 : decode b_M_operand 48 = .ok (.ifCond .ge 6, 3) := by decide +kernel
theorem d_M_operand_51 : decode b_M_operand 51 = .ok (.bipush 17, 2) := by decide +kernel
theorem d_M_operand_53 : decode b_M_operand 53 = .ok (.ireturn, 1) := by decide +kernel
theorem d_M_operand_54 : decode b_M_operand 54 = .ok (.aload_n 0, 1) := by decide +kernel
theorem d_M_operand_55 : decode b_M_operand 55 = .ok (.iconst 5, 1) := by decide +kernel
theorem d_M_operand_56 : decode b_M_operand 56 = .ok (.aload_n 0, 1) := by decide +kernel
theorem d_M_operand_57 : decode b_M_operand 57 = .ok (.invokevirtual 191, 3) := by decide +kernel
theorem d_M_operand_60 : decode b_M_operand 60 = .ok (.invokevirtual 159, 3) := by decide +kernel
theorem d_M_operand_63 : decode b_M_operand 63 = .ok (.iload_n 2, 1) := by decide +kernel
theorem d_M_operand_64 : decode b_M_operand 64 = .ok (.bipush 6, 2) := by decide +kernel
theorem d_M_operand_66 : decode b_M_operand 66 = .ok (.if_icmp .ne 10, 3) := by decide +kernel
theorem d_M_operand_69 : decode b_M_operand 69 = .ok (.aload_n 0, 1) := by decide +kernel
theorem d_M_operand_70 : decode b_M_operand 70 = .ok (.invokevirtual 188, 3) := by decide +kernel
theorem d_M_operand_73 : decode b_M_operand 73 = .ok (.goto 4, 3) := by decide +kernel
theorem d_M_operand_76 : decode b_M_operand 76 = .ok (.iload_n 2, 1) := by decide +kernel
theorem d_M_operand_77 : decode b_M_operand 77 = .ok (.ireturn, 1) := by decide +kernel
theorem d_M_wholeOne_0 : decode b_M_wholeOne 0 = .ok (.aload_n 0, 1) := by decide +kernel
theorem d_M_wholeOne_1 : decode b_M_wholeOne 1 = .ok (.aload_n 0, 1) := by decide +kernel
theorem d_M_wholeOne_2 : decode b_M_wholeOne 2 = .ok (.getfield 194, 3) := by decide +kernel
theorem d_M_wholeOne_5 : decode b_M_wholeOne 5 = .ok (.iconst 0, 1) := by decide +kernel
theorem d_M_wholeOne_6 : decode b_M_wholeOne 6 = .ok (.invokevirtual 159, 3) := by decide +kernel
theorem d_M_wholeOne_9 : decode b_M_wholeOne 9 = .ok (.aload_n 0, 1) := by decide +kernel
theorem d_M_wholeOne_10 : decode b_M_wholeOne 10 = .ok (.invokevirtual 197, 3) := by decide +kernel
theorem d_M_wholeOne_13 : decode b_M_wholeOne 13 = .ok (.bipush 6, 2) := by decide +kernel
theorem d_M_wholeOne_15 : decode b_M_wholeOne 15 = .ok (.ireturn, 1) := by decide +kernel
theorem d_M_denied_0 : decode b_M_denied 0 = .ok (.aload_n 0, 1) := by decide +kernel
theorem d_M_denied_1 : decode b_M_denied 1 = .ok (.invokevirtual 155, 3) := by decide +kernel
theorem d_M_denied_4 : decode b_M_denied 4 = .ok (.iconst 3, 1) := by decide +kernel
theorem d_M_denied_5 : decode b_M_denied 5 = .ok (.if_icmp .ne 32, 3) := by decide +kernel
theorem d_M_denied_8 : decode b_M_denied 8 = .ok (.aload_n 0, 1) := by decide +kernel
theorem d_M_denied_9 : decode b_M_denied 9 = .ok (.dup, 1) := by decide +kernel
theorem d_M_denied_10 : decode b_M_denied 10 = .ok (.getfield 152, 3) := by decide +kernel
theorem d_M_denied_13 : decode b_M_denied 13 = .ok (.iconst 1, 1) := by decide +kernel
theorem d_M_denied_14 : decode b_M_denied 14 = .ok (.isub, 1) := by decide +kernel
theorem d_M_denied_15 : decode b_M_denied 15 = .ok (.putfield 152, 3) := by decide +kernel
theorem d_M_denied_18 : decode b_M_denied 18 = .ok (.aload_n 0, 1) := by decide +kernel
theorem d_M_denied_19 : decode b_M_denied 19 = .ok (.dup, 1) := by decide +kernel
theorem d_M_denied_20 : decode b_M_denied 20 = .ok (.getfield 178, 3) := by decide +kernel
theorem d_M_denied_23 : decode b_M_denied 23 = .ok (.iconst 1, 1) := by decide +kernel
theorem d_M_denied_24 : decode b_M_denied 24 = .ok (.isub, 1) := by decide +kernel
theorem d_M_denied_25 : decode b_M_denied 25 = .ok (.putfield 178, 3) := by decide +kernel
theorem d_M_denied_28 : decode b_M_denied 28 = .ok (.aload_n 0, 1) := by decide +kernel
theorem d_M_denied_29 : decode b_M_denied 29 = .ok (.iconst 3, 1) := by decide +kernel
theorem d_M_denied_30 : decode b_M_denied 30 = .ok (.iconst 0, 1) := by decide +kernel
theorem d_M_denied_31 : decode b_M_denied 31 = .ok (.invokevirtual 159, 3) := by decide +kernel
theorem d_M_denied_34 : decode b_M_denied 34 = .ok (.goto (-34), 3) := by decide +kernel
theorem d_M_denied_37 : decode b_M_denied 37 = .ok (.return_, 1) := by decide +kernel
theorem d_M_upper_0 : decode b_M_upper 0 = .ok (.aload_n 0, 1) := by decide +kernel
theorem d_M_upper_1 : decode b_M_upper 1 = .ok (.getfield 152, 3) := by decide +kernel
theorem d_M_upper_4 : decode b_M_upper 4 = .ok (.ifCond .ne 7, 3) := by decide +kernel
theorem d_M_upper_7 : decode b_M_upper 7 = .ok (.iconst 0, 1) := by decide +kernel
theorem d_M_upper_8 : decode b_M_upper 8 = .ok (.goto 14, 3) := by decide +kernel
theorem d_M_upper_11 : decode b_M_upper 11 = .ok (.aload_n 0, 1) := by decide +kernel
theorem d_M_upper_12 : decode b_M_upper 12 = .ok (.getfield 49, 3) := by decide +kernel
theorem d_M_upper_15 : decode b_M_upper 15 = .ok (.aload_n 0, 1) := by decide +kernel
theorem d_M_upper_16 : decode b_M_upper 16 = .ok (.getfield 152, 3) := by decide +kernel
theorem d_M_upper_19 : decode b_M_upper 19 = .ok (.iconst 1, 1) := by decide +kernel
theorem d_M_upper_20 : decode b_M_upper 20 = .ok (.isub, 1) := by decide +kernel
theorem d_M_upper_21 : decode b_M_upper 21 = .ok (.iaload, 1) := by decide +kernel
theorem d_M_upper_22 : decode b_M_upper 22 = .ok (.ireturn, 1) := by decide +kernel
theorem d_M_named_0 : decode b_M_named 0 = .ok (.aload_n 0, 1) := by decide +kernel
theorem d_M_named_1 : decode b_M_named 1 = .ok (.getfield 132, 3) := by decide +kernel
theorem d_M_named_4 : decode b_M_named 4 = .ok (.iconst 1, 1) := by decide +kernel
theorem d_M_named_5 : decode b_M_named 5 = .ok (.if_icmp .ne 32, 3) := by decide +kernel
theorem d_M_named_8 : decode b_M_named 8 = .ok (.aload_n 0, 1) := by decide +kernel
theorem d_M_named_9 : decode b_M_named 9 = .ok (.getfield 112, 3) := by decide +kernel
theorem d_M_named_12 : decode b_M_named 12 = .ok (.aload_n 0, 1) := by decide +kernel
theorem d_M_named_13 : decode b_M_named 13 = .ok (.getfield 105, 3) := by decide +kernel
theorem d_M_named_16 : decode b_M_named 16 = .ok (.iconst 1, 1) := by decide +kernel
theorem d_M_named_17 : decode b_M_named 17 = .ok (.iadd, 1) := by decide +kernel
theorem d_M_named_18 : decode b_M_named 18 = .ok (.if_icmp .ne 19, 3) := by decide +kernel
theorem d_M_named_21 : decode b_M_named 21 = .ok (.aload_n 0, 1) := by decide +kernel
theorem d_M_named_22 : decode b_M_named 22 = .ok (.aload_n 0, 1) := by decide +kernel
theorem d_M_named_23 : decode b_M_named 23 = .ok (.getfield 33, 3) := by decide +kernel
theorem d_M_named_26 : decode b_M_named 26 = .ok (.aload_n 0, 1) := by decide +kernel
theorem d_M_named_27 : decode b_M_named 27 = .ok (.getfield 105, 3) := by decide +kernel
theorem d_M_named_30 : decode b_M_named 30 = .ok (.caload, 1) := by decide +kernel
theorem d_M_named_31 : decode b_M_named 31 = .ok (.invokevirtual 79, 3) := by decide +kernel
theorem d_M_named_34 : decode b_M_named 34 = .ok (.goto 4, 3) := by decide +kernel
theorem d_M_named_37 : decode b_M_named 37 = .ok (.iconst (-1), 1) := by decide +kernel
theorem d_M_named_38 : decode b_M_named 38 = .ok (.ireturn, 1) := by decide +kernel
theorem d_M_negative_0 : decode b_M_negative 0 = .ok (.aload_n 0, 1) := by decide +kernel
theorem d_M_negative_1 : decode b_M_negative 1 = .ok (.getfield 132, 3) := by decide +kernel
theorem d_M_negative_4 : decode b_M_negative 4 = .ok (.iconst 2, 1) := by decide +kernel
theorem d_M_negative_5 : decode b_M_negative 5 = .ok (.if_icmp .eq 6, 3) := by decide +kernel
theorem d_M_negative_8 : decode b_M_negative 8 = .ok (.bipush 17, 2) := by decide +kernel
theorem d_M_negative_10 : decode b_M_negative 10 = .ok (.ireturn, 1) := by decide +kernel
theorem d_M_negative_11 : decode b_M_negative 11 = .ok (.aload_n 0, 1) := by decide +kernel
theorem d_M_negative_12 : decode b_M_negative 12 = .ok (.bipush 6, 2) := by decide +kernel
theorem d_M_negative_14 : decode b_M_negative 14 = .ok (.aload_n 0, 1) := by decide +kernel
theorem d_M_negative_15 : decode b_M_negative 15 = .ok (.getfield 115, 3) := by decide +kernel
theorem d_M_negative_18 : decode b_M_negative 18 = .ok (.ineg, 1) := by decide +kernel
theorem d_M_negative_19 : decode b_M_negative 19 = .ok (.invokevirtual 159, 3) := by decide +kernel
theorem d_M_negative_22 : decode b_M_negative 22 = .ok (.iload_n 1, 1) := by decide +kernel
theorem d_M_negative_23 : decode b_M_negative 23 = .ok (.bipush 6, 2) := by decide +kernel
theorem d_M_negative_25 : decode b_M_negative 25 = .ok (.if_icmp .ne 10, 3) := by decide +kernel
theorem d_M_negative_28 : decode b_M_negative 28 = .ok (.aload_n 0, 1) := by decide +kernel
theorem d_M_negative_29 : decode b_M_negative 29 = .ok (.invokevirtual 188, 3) := by decide +kernel
theorem d_M_negative_32 : decode b_M_negative 32 = .ok (.goto 4, 3) := by decide +kernel
theorem d_M_negative_35 : decode b_M_negative 35 = .ok (.iload_n 1, 1) := by decide +kernel
theorem d_M_negative_36 : decode b_M_negative 36 = .ok (.ireturn, 1) := by decide +kernel
theorem d_M_relate_0 : decode b_M_relate 0 = .ok (.aload_n 0, 1) := by decide +kernel
theorem d_M_relate_1 : decode b_M_relate 1 = .ok (.aload_n 0, 1) := by decide +kernel
theorem d_M_relate_2 : decode b_M_relate 2 = .ok (.bipush 60, 2) := by decide +kernel
theorem d_M_relate_4 : decode b_M_relate 4 = .ok (.invokevirtual 175, 3) := by decide +kernel
theorem d_M_relate_7 : decode b_M_relate 7 = .ok (.ifCond .eq 8, 3) := by decide +kernel
theorem d_M_relate_10 : decode b_M_relate 10 = .ok (.bipush 7, 2) := by decide +kernel
theorem d_M_relate_12 : decode b_M_relate 12 = .ok (.goto 32, 3) := by decide +kernel
theorem d_M_relate_15 : decode b_M_relate 15 = .ok (.aload_n 0, 1) := by decide +kernel
theorem d_M_relate_16 : decode b_M_relate 16 = .ok (.bipush 61, 2) := by decide +kernel
theorem d_M_relate_18 : decode b_M_relate 18 = .ok (.invokevirtual 175, 3) := by decide +kernel
theorem d_M_relate_21 : decode b_M_relate 21 = .ok (.ifCond .eq 8, 3) := by decide +kernel
theorem d_M_relate_24 : decode b_M_relate 24 = .ok (.bipush 8, 2) := by decide +kernel
theorem d_M_relate_26 : decode b_M_relate 26 = .ok (.goto 18, 3) := by decide +kernel
theorem d_M_relate_29 : decode b_M_relate 29 = .ok (.aload_n 0, 1) := by decide +kernel
theorem d_M_relate_30 : decode b_M_relate 30 = .ok (.bipush 62, 2) := by decide +kernel
theorem d_M_relate_32 : decode b_M_relate 32 = .ok (.invokevirtual 175, 3) := by decide +kernel
theorem d_M_relate_35 : decode b_M_relate 35 = .ok (.ifCond .eq 8, 3) := by decide +kernel
theorem d_M_relate_38 : decode b_M_relate 38 = .ok (.bipush 9, 2) := by decide +kernel
theorem d_M_relate_40 : decode b_M_relate 40 = .ok (.goto 4, 3) := by decide +kernel
theorem d_M_relate_43 : decode b_M_relate 43 = .ok (.iconst 0, 1) := by decide +kernel
theorem d_M_relate_44 : decode b_M_relate 44 = .ok (.putfield 194, 3) := by decide +kernel
theorem d_M_relate_47 : decode b_M_relate 47 = .ok (.aload_n 0, 1) := by decide +kernel
theorem d_M_relate_48 : decode b_M_relate 48 = .ok (.getfield 194, 3) := by decide +kernel
theorem d_M_relate_51 : decode b_M_relate 51 = .ok (.ifCond .le 7, 3) := by decide +kernel
theorem d_M_relate_54 : decode b_M_relate 54 = .ok (.iconst 4, 1) := by decide +kernel
theorem d_M_relate_55 : decode b_M_relate 55 = .ok (.goto 5, 3) := by decide +kernel
theorem d_M_relate_58 : decode b_M_relate 58 = .ok (.bipush 17, 2) := by decide +kernel
theorem d_M_relate_60 : decode b_M_relate 60 = .ok (.ireturn, 1) := by decide +kernel
theorem d_M_afterOne_0 : decode b_M_afterOne 0 = .ok (.aload_n 0, 1) := by decide +kernel
theorem d_M_afterOne_1 : decode b_M_afterOne 1 = .ok (.bipush 38, 2) := by decide +kernel
theorem d_M_afterOne_3 : decode b_M_afterOne 3 = .ok (.invokevirtual 175, 3) := by decide +kernel
theorem d_M_afterOne_6 : decode b_M_afterOne 6 = .ok (.ifCond .eq 16, 3) := by decide +kernel
theorem d_M_afterOne_9 : decode b_M_afterOne 9 = .ok (.aload_n 0, 1) := by decide +kernel
theorem d_M_afterOne_10 : decode b_M_afterOne 10 = .ok (.iconst 2, 1) := by decide +kernel
theorem d_M_afterOne_11 : decode b_M_afterOne 11 = .ok (.iconst 2, 1) := by decide +kernel
theorem d_M_afterOne_12 : decode b_M_afterOne 12 = .ok (.invokevirtual 200, 3) := by decide +kernel
theorem d_M_afterOne_15 : decode b_M_afterOne 15 = .ok (.aload_n 0, 1) := by decide +kernel
theorem d_M_afterOne_16 : decode b_M_afterOne 16 = .ok (.iconst 2, 1) := by decide +kernel
theorem d_M_afterOne_17 : decode b_M_afterOne 17 = .ok (.invokevirtual 181, 3) := by decide +kernel
theorem d_M_afterOne_20 : decode b_M_afterOne 20 = .ok (.iconst 1, 1) := by decide +kernel
theorem d_M_afterOne_21 : decode b_M_afterOne 21 = .ok (.ireturn, 1) := by decide +kernel
theorem d_M_afterOne_22 : decode b_M_afterOne 22 = .ok (.aload_n 0, 1) := by decide +kernel
theorem d_M_afterOne_23 : decode b_M_afterOne 23 = .ok (.iconst 2, 1) := by decide +kernel
theorem d_M_afterOne_24 : decode b_M_afterOne 24 = .ok (.iconst 1, 1) := by decide +kernel
theorem d_M_afterOne_25 : decode b_M_afterOne 25 = .ok (.invokevirtual 200, 3) := by decide +kernel
theorem d_M_afterOne_28 : decode b_M_afterOne 28 = .ok (.aload_n 0, 1) := by decide +kernel
theorem d_M_afterOne_29 : decode b_M_afterOne 29 = .ok (.bipush 124, 2) := by decide +kernel
theorem d_M_afterOne_31 : decode b_M_afterOne 31 = .ok (.invokevirtual 175, 3) := by decide +kernel
theorem d_M_afterOne_34 : decode b_M_afterOne 34 = .ok (.ifCond .eq 10, 3) := by decide +kernel
theorem d_M_afterOne_37 : decode b_M_afterOne 37 = .ok (.aload_n 0, 1) := by decide +kernel
theorem d_M_afterOne_38 : decode b_M_afterOne 38 = .ok (.iconst 1, 1) := by decide +kernel
theorem d_M_afterOne_39 : decode b_M_afterOne 39 = .ok (.invokevirtual 181, 3) := by decide +kernel
theorem d_M_afterOne_42 : decode b_M_afterOne 42 = .ok (.iconst 1, 1) := by decide +kernel
theorem d_M_afterOne_43 : decode b_M_afterOne 43 = .ok (.ireturn, 1) := by decide +kernel
theorem d_M_afterOne_44 : decode b_M_afterOne 44 = .ok (.aload_n 0, 1) := by decide +kernel
theorem d_M_afterOne_45 : decode b_M_afterOne 45 = .ok (.getfield 152, 3) := by decide +kernel
theorem d_M_afterOne_48 : decode b_M_afterOne 48 = .ok (.ifCond .ne 8, 3) := by decide +kernel
theorem d_M_afterOne_51 : decode b_M_afterOne 51 = .ok (.aload_n 0, 1) := by decide +kernel
theorem d_M_afterOne_52 : decode b_M_afterOne 52 = .ok (.invokevirtual 172, 3) := by decide +kernel
theorem d_M_afterOne_55 : decode b_M_afterOne 55 = .ok (.ireturn, 1) := by decide +kernel
theorem d_M_afterOne_56 : decode b_M_afterOne 56 = .ok (.aload_n 0, 1) := by decide +kernel
theorem d_M_afterOne_57 : decode b_M_afterOne 57 = .ok (.bipush 41, 2) := by decide +kernel
theorem d_M_afterOne_59 : decode b_M_afterOne 59 = .ok (.invokevirtual 175, 3) := by decide +kernel
theorem d_M_afterOne_62 : decode b_M_afterOne 62 = .ok (.ifCond .ne 6, 3) := by decide +kernel
theorem d_M_afterOne_65 : decode b_M_afterOne 65 = .ok (.bipush 17, 2) := by decide +kernel
theorem d_M_afterOne_67 : decode b_M_afterOne 67 = .ok (.ireturn, 1) := by decide +kernel
theorem d_M_afterOne_68 : decode b_M_afterOne 68 = .ok (.aload_n 0, 1) := by decide +kernel
theorem d_M_afterOne_69 : decode b_M_afterOne 69 = .ok (.dup, 1) := by decide +kernel
theorem d_M_afterOne_70 : decode b_M_afterOne 70 = .ok (.getfield 152, 3) := by decide +kernel
theorem d_M_afterOne_73 : decode b_M_afterOne 73 = .ok (.iconst 1, 1) := by decide +kernel
theorem d_M_afterOne_74 : decode b_M_afterOne 74 = .ok (.isub, 1) := by decide +kernel
theorem d_M_afterOne_75 : decode b_M_afterOne 75 = .ok (.putfield 152, 3) := by decide +kernel
theorem d_M_afterOne_78 : decode b_M_afterOne 78 = .ok (.aload_n 0, 1) := by decide +kernel
theorem d_M_afterOne_79 : decode b_M_afterOne 79 = .ok (.dup, 1) := by decide +kernel
theorem d_M_afterOne_80 : decode b_M_afterOne 80 = .ok (.getfield 178, 3) := by decide +kernel
theorem d_M_afterOne_83 : decode b_M_afterOne 83 = .ok (.iconst 1, 1) := by decide +kernel
theorem d_M_afterOne_84 : decode b_M_afterOne 84 = .ok (.isub, 1) := by decide +kernel
theorem d_M_afterOne_85 : decode b_M_afterOne 85 = .ok (.putfield 178, 3) := by decide +kernel
theorem d_M_afterOne_88 : decode b_M_afterOne 88 = .ok (.aload_n 0, 1) := by decide +kernel
theorem d_M_afterOne_89 : decode b_M_afterOne 89 = .ok (.invokevirtual 197, 3) := by decide +kernel
theorem d_M_afterOne_92 : decode b_M_afterOne 92 = .ok (.bipush 6, 2) := by decide +kernel
theorem d_M_afterOne_94 : decode b_M_afterOne 94 = .ok (.ireturn, 1) := by decide +kernel
theorem d_M_settle_0 : decode b_M_settle 0 = .ok (.aload_n 0, 1) := by decide +kernel
theorem d_M_settle_1 : decode b_M_settle 1 = .ok (.invokevirtual 155, 3) := by decide +kernel
theorem d_M_settle_4 : decode b_M_settle 4 = .ok (.iload_n 1, 1) := by decide +kernel
theorem d_M_settle_5 : decode b_M_settle 5 = .ok (.if_icmp .eq 11, 3) := by decide +kernel
theorem d_M_settle_8 : decode b_M_settle 8 = .ok (.aload_n 0, 1) := by decide +kernel
theorem d_M_settle_9 : decode b_M_settle 9 = .ok (.invokevirtual 155, 3) := by decide +kernel
theorem d_M_settle_12 : decode b_M_settle 12 = .ok (.iload_n 2, 1) := by decide +kernel
theorem d_M_settle_13 : decode b_M_settle 13 = .ok (.if_icmp .ne 30, 3) := by decide +kernel
theorem d_M_settle_16 : decode b_M_settle 16 = .ok (.aload_n 0, 1) := by decide +kernel
theorem d_M_settle_17 : decode b_M_settle 17 = .ok (.dup, 1) := by decide +kernel
theorem d_M_settle_18 : decode b_M_settle 18 = .ok (.getfield 152, 3) := by decide +kernel
theorem d_M_settle_21 : decode b_M_settle 21 = .ok (.iconst 1, 1) := by decide +kernel
theorem d_M_settle_22 : decode b_M_settle 22 = .ok (.isub, 1) := by decide +kernel
theorem d_M_settle_23 : decode b_M_settle 23 = .ok (.putfield 152, 3) := by decide +kernel
theorem d_M_settle_26 : decode b_M_settle 26 = .ok (.aload_n 0, 1) := by decide +kernel
theorem d_M_settle_27 : decode b_M_settle 27 = .ok (.aload_n 0, 1) := by decide +kernel
theorem d_M_settle_28 : decode b_M_settle 28 = .ok (.getfield 49, 3) := by decide +kernel
theorem d_M_settle_31 : decode b_M_settle 31 = .ok (.aload_n 0, 1) := by decide +kernel
theorem d_M_settle_32 : decode b_M_settle 32 = .ok (.getfield 152, 3) := by decide +kernel
theorem d_M_settle_35 : decode b_M_settle 35 = .ok (.iaload, 1) := by decide +kernel
theorem d_M_settle_36 : decode b_M_settle 36 = .ok (.iconst 0, 1) := by decide +kernel
theorem d_M_settle_37 : decode b_M_settle 37 = .ok (.invokevirtual 159, 3) := by decide +kernel
theorem d_M_settle_40 : decode b_M_settle 40 = .ok (.goto (-40), 3) := by decide +kernel
theorem d_M_settle_43 : decode b_M_settle 43 = .ok (.return_, 1) := by decide +kernel
theorem d_M_pick_0 : decode b_M_pick 0 = .ok (.aload_n 0, 1) := by decide +kernel
theorem d_M_pick_1 : decode b_M_pick 1 = .ok (.invokevirtual 191, 3) := by decide +kernel
theorem d_M_pick_4 : decode b_M_pick 4 = .ok (.ifCond .ge 6, 3) := by decide +kernel
theorem d_M_pick_7 : decode b_M_pick 7 = .ok (.bipush 17, 2) := by decide +kernel
theorem d_M_pick_9 : decode b_M_pick 9 = .ok (.ireturn, 1) := by decide +kernel
theorem d_M_pick_10 : decode b_M_pick 10 = .ok (.iload_n 1, 1) := by decide +kernel
theorem d_M_pick_11 : decode b_M_pick 11 = .ok (.bipush 8, 2) := by decide +kernel
theorem d_M_pick_13 : decode b_M_pick 13 = .ok (.if_icmp .ne 19, 3) := by decide +kernel
theorem d_M_pick_16 : decode b_M_pick 16 = .ok (.aload_n 0, 1) := by decide +kernel
theorem d_M_pick_17 : decode b_M_pick 17 = .ok (.getfield 52, 3) := by decide +kernel
theorem d_M_pick_20 : decode b_M_pick 20 = .ok (.aload_n 0, 1) := by decide +kernel
theorem d_M_pick_21 : decode b_M_pick 21 = .ok (.getfield 203, 3) := by decide +kernel
theorem d_M_pick_24 : decode b_M_pick 24 = .ok (.aload_n 0, 1) := by decide +kernel
theorem d_M_pick_25 : decode b_M_pick 25 = .ok (.invokevirtual 191, 3) := by decide +kernel
theorem d_M_pick_28 : decode b_M_pick 28 = .ok (.iastore, 1) := by decide +kernel
theorem d_M_pick_29 : decode b_M_pick 29 = .ok (.goto 11, 3) := by decide +kernel
theorem d_M_pick_32 : decode b_M_pick 32 = .ok (.aload_n 0, 1) := by decide +kernel
theorem d_M_pick_33 : decode b_M_pick 33 = .ok (.aload_n 0, 1) := by decide +kernel
theorem d_M_pick_34 : decode b_M_pick 34 = .ok (.invokevirtual 191, 3) := by decide +kernel
theorem d_M_pick_37 : decode b_M_pick 37 = .ok (.putfield 206, 3) := by decide +kernel
theorem d_M_pick_40 : decode b_M_pick 40 = .ok (.iload_n 1, 1) := by decide +kernel
theorem d_M_pick_41 : decode b_M_pick 41 = .ok (.ireturn, 1) := by decide +kernel
theorem d_M_part_0 : decode b_M_part 0 = .ok (.aload_n 0, 1) := by decide +kernel
theorem d_M_part_1 : decode b_M_part 1 = .ok (.bipush 45, 2) := by decide +kernel
theorem d_M_part_3 : decode b_M_part 3 = .ok (.invokevirtual 175, 3) := by decide +kernel
theorem d_M_part_6 : decode b_M_part 6 = .ok (.ifCond .eq 9, 3) := by decide +kernel
theorem d_M_part_9 : decode b_M_part 9 = .ok (.iload_n 2, 1) := by decide +kernel
theorem d_M_part_10 : decode b_M_part 10 = .ok (.ifCond .ne 5, 3) := by decide +kernel
theorem d_M_part_13 : decode b_M_part 13 = .ok (.iload_n 3, 1) := by decide +kernel
theorem d_M_part_14 : decode b_M_part 14 = .ok (.ireturn, 1) := by decide +kernel
theorem d_M_part_15 : decode b_M_part 15 = .ok (.iload_n 2, 1) := by decide +kernel
theorem d_M_part_16 : decode b_M_part 16 = .ok (.ifCond .eq 7, 3) := by decide +kernel
theorem d_M_part_19 : decode b_M_part 19 = .ok (.iconst (-1), 1) := by decide +kernel
theorem d_M_part_20 : decode b_M_part 20 = .ok (.goto 7, 3) := by decide +kernel
theorem d_M_part_23 : decode b_M_part 23 = .ok (.aload_n 0, 1) := by decide +kernel
theorem d_M_part_24 : decode b_M_part 24 = .ok (.invokevirtual 191, 3) := by decide +kernel
theorem d_M_part_27 : decode b_M_part 27 = .ok (.istore 5, 2) := by decide +kernel
theorem d_M_part_29 : decode b_M_part 29 = .ok (.aload_n 0, 1) := by decide +kernel
theorem d_M_part_30 : decode b_M_part 30 = .ok (.getfield 132, 3) := by decide +kernel
theorem d_M_part_33 : decode b_M_part 33 = .ok (.iconst 2, 1) := by decide +kernel
theorem d_M_part_34 : decode b_M_part 34 = .ok (.if_icmp .eq 11, 3) := by decide +kernel
theorem d_M_part_37 : decode b_M_part 37 = .ok (.iload 5, 2) := by decide +kernel
theorem d_M_part_39 : decode b_M_part 39 = .ok (.ifCond .ge 6, 3) := by decide +kernel
theorem d_M_part_42 : decode b_M_part 42 = .ok (.bipush 17, 2) := by decide +kernel
theorem d_M_part_44 : decode b_M_part 44 = .ok (.ireturn, 1) := by decide +kernel
theorem d_M_part_45 : decode b_M_part 45 = .ok (.iload_n 2, 1) := by decide +kernel
theorem d_M_part_46 : decode b_M_part 46 = .ok (.ifCond .eq 11, 3) := by decide +kernel
theorem d_M_part_49 : decode b_M_part 49 = .ok (.aload_n 0, 1) := by decide +kernel
theorem d_M_part_50 : decode b_M_part 50 = .ok (.getfield 115, 3) := by decide +kernel
theorem d_M_part_53 : decode b_M_part 53 = .ok (.ineg, 1) := by decide +kernel
theorem d_M_part_54 : decode b_M_part 54 = .ok (.goto 7, 3) := by decide +kernel
theorem d_M_part_57 : decode b_M_part 57 = .ok (.aload_n 0, 1) := by decide +kernel
theorem d_M_part_58 : decode b_M_part 58 = .ok (.getfield 115, 3) := by decide +kernel
theorem d_M_part_61 : decode b_M_part 61 = .ok (.istore 6, 2) := by decide +kernel
theorem d_M_part_63 : decode b_M_part 63 = .ok (.iload_n 1, 1) := by decide +kernel
theorem d_M_part_64 : decode b_M_part 64 = .ok (.ifCond .eq 28, 3) := by decide +kernel
theorem d_M_part_67 : decode b_M_part 67 = .ok (.aload_n 0, 1) := by decide +kernel
theorem d_M_part_68 : decode b_M_part 68 = .ok (.getfield 64, 3) := by decide +kernel
theorem d_M_part_71 : decode b_M_part 71 = .ok (.aload_n 0, 1) := by decide +kernel
theorem d_M_part_72 : decode b_M_part 72 = .ok (.getfield 203, 3) := by decide +kernel
theorem d_M_part_75 : decode b_M_part 75 = .ok (.iload 5, 2) := by decide +kernel
theorem d_M_part_77 : decode b_M_part 77 = .ok (.iastore, 1) := by decide +kernel
theorem d_M_part_78 : decode b_M_part 78 = .ok (.aload_n 0, 1) := by decide +kernel
theorem d_M_part_79 : decode b_M_part 79 = .ok (.getfield 67, 3) := by decide +kernel
theorem d_M_part_82 : decode b_M_part 82 = .ok (.aload_n 0, 1) := by decide +kernel
theorem d_M_part_83 : decode b_M_part 83 = .ok (.getfield 203, 3) := by decide +kernel
theorem d_M_part_86 : decode b_M_part 86 = .ok (.iload 6, 2) := by decide +kernel
theorem d_M_part_88 : decode b_M_part 88 = .ok (.iastore, 1) := by decide +kernel
theorem d_M_part_89 : decode b_M_part 89 = .ok (.goto 35, 3) := by decide +kernel
theorem d_M_part_92 : decode b_M_part 92 = .ok (.aload_n 0, 1) := by decide +kernel
theorem d_M_part_93 : decode b_M_part 93 = .ok (.getfield 55, 3) := by decide +kernel
theorem d_M_part_96 : decode b_M_part 96 = .ok (.aload_n 0, 1) := by decide +kernel
theorem d_M_part_97 : decode b_M_part 97 = .ok (.getfield 203, 3) := by decide +kernel
theorem d_M_part_100 : decode b_M_part 100 = .ok (.iload 5, 2) := by decide +kernel
theorem d_M_part_102 : decode b_M_part 102 = .ok (.iastore, 1) := by decide +kernel
theorem d_M_part_103 : decode b_M_part 103 = .ok (.aload_n 0, 1) := by decide +kernel
theorem d_M_part_104 : decode b_M_part 104 = .ok (.getfield 58, 3) := by decide +kernel
theorem d_M_part_107 : decode b_M_part 107 = .ok (.aload_n 0, 1) := by decide +kernel
theorem d_M_part_108 : decode b_M_part 108 = .ok (.getfield 203, 3) := by decide +kernel
theorem d_M_part_111 : decode b_M_part 111 = .ok (.iload 6, 2) := by decide +kernel
theorem d_M_part_113 : decode b_M_part 113 = .ok (.iastore, 1) := by decide +kernel
theorem d_M_part_114 : decode b_M_part 114 = .ok (.aload_n 0, 1) := by decide +kernel
theorem d_M_part_115 : decode b_M_part 115 = .ok (.getfield 61, 3) := by decide +kernel
theorem d_M_part_118 : decode b_M_part 118 = .ok (.aload_n 0, 1) := by decide +kernel
theorem d_M_part_119 : decode b_M_part 119 = .ok (.getfield 203, 3) := by decide +kernel
theorem d_M_part_122 : decode b_M_part 122 = .ok (.iconst 0, 1) := by decide +kernel
theorem d_M_part_123 : decode b_M_part 123 = .ok (.iastore, 1) := by decide +kernel
theorem d_M_part_124 : decode b_M_part 124 = .ok (.iload 4, 2) := by decide +kernel
theorem d_M_part_126 : decode b_M_part 126 = .ok (.ireturn, 1) := by decide +kernel
theorem d_M_afterFirst_0 : decode b_M_afterFirst 0 = .ok (.aload_n 0, 1) := by decide +kernel
theorem d_M_afterFirst_1 : decode b_M_afterFirst 1 = .ok (.getfield 61, 3) := by decide +kernel
theorem d_M_afterFirst_4 : decode b_M_afterFirst 4 = .ok (.aload_n 0, 1) := by decide +kernel
theorem d_M_afterFirst_5 : decode b_M_afterFirst 5 = .ok (.getfield 203, 3) := by decide +kernel
theorem d_M_afterFirst_8 : decode b_M_afterFirst 8 = .ok (.aload_n 0, 1) := by decide +kernel
theorem d_M_afterFirst_9 : decode b_M_afterFirst 9 = .ok (.bipush 43, 2) := by decide +kernel
theorem d_M_afterFirst_11 : decode b_M_afterFirst 11 = .ok (.invokevirtual 175, 3) := by decide +kernel
theorem d_M_afterFirst_14 : decode b_M_afterFirst 14 = .ok (.ifCond .eq 7, 3) := by decide +kernel
theorem d_M_afterFirst_17 : decode b_M_afterFirst 17 = .ok (.iconst 1, 1) := by decide +kernel
theorem d_M_afterFirst_18 : decode b_M_afterFirst 18 = .ok (.goto 30, 3) := by decide +kernel
theorem d_M_afterFirst_21 : decode b_M_afterFirst 21 = .ok (.aload_n 0, 1) := by decide +kernel
theorem d_M_afterFirst_22 : decode b_M_afterFirst 22 = .ok (.bipush 45, 2) := by decide +kernel
theorem d_M_afterFirst_24 : decode b_M_afterFirst 24 = .ok (.invokevirtual 175, 3) := by decide +kernel
theorem d_M_afterFirst_27 : decode b_M_afterFirst 27 = .ok (.ifCond .eq 7, 3) := by decide +kernel
theorem d_M_afterFirst_30 : decode b_M_afterFirst 30 = .ok (.iconst 2, 1) := by decide +kernel
theorem d_M_afterFirst_31 : decode b_M_afterFirst 31 = .ok (.goto 17, 3) := by decide +kernel
theorem d_M_afterFirst_34 : decode b_M_afterFirst 34 = .ok (.aload_n 0, 1) := by decide +kernel
theorem d_M_afterFirst_35 : decode b_M_afterFirst 35 = .ok (.bipush 42, 2) := by decide +kernel
theorem d_M_afterFirst_37 : decode b_M_afterFirst 37 = .ok (.invokevirtual 175, 3) := by decide +kernel
theorem d_M_afterFirst_40 : decode b_M_afterFirst 40 = .ok (.ifCond .eq 7, 3) := by decide +kernel
theorem d_M_afterFirst_43 : decode b_M_afterFirst 43 = .ok (.iconst 3, 1) := by decide +kernel
theorem d_M_afterFirst_44 : decode b_M_afterFirst 44 = .ok (.goto 4, 3) := by decide +kernel
theorem d_M_afterFirst_47 : decode b_M_afterFirst 47 = .ok (.iconst 0, 1) := by decide +kernel
theorem d_M_afterFirst_48 : decode b_M_afterFirst 48 = .ok (.iastore, 1) := by decide +kernel
theorem d_M_afterFirst_49 : decode b_M_afterFirst 49 = .ok (.aload_n 0, 1) := by decide +kernel
theorem d_M_afterFirst_50 : decode b_M_afterFirst 50 = .ok (.getfield 61, 3) := by decide +kernel
theorem d_M_afterFirst_53 : decode b_M_afterFirst 53 = .ok (.aload_n 0, 1) := by decide +kernel
theorem d_M_afterFirst_54 : decode b_M_afterFirst 54 = .ok (.getfield 203, 3) := by decide +kernel
theorem d_M_afterFirst_57 : decode b_M_afterFirst 57 = .ok (.iaload, 1) := by decide +kernel
theorem d_M_afterFirst_58 : decode b_M_afterFirst 58 = .ok (.ifCond .le 8, 3) := by decide +kernel
theorem d_M_afterFirst_61 : decode b_M_afterFirst 61 = .ok (.bipush 12, 2) := by decide +kernel
theorem d_M_afterFirst_63 : decode b_M_afterFirst 63 = .ok (.goto 7, 3) := by decide +kernel
theorem d_M_afterFirst_66 : decode b_M_afterFirst 66 = .ok (.aload_n 0, 1) := by decide +kernel
theorem d_M_afterFirst_67 : decode b_M_afterFirst 67 = .ok (.invokevirtual 209, 3) := by decide +kernel
theorem d_M_afterFirst_70 : decode b_M_afterFirst 70 = .ok (.ireturn, 1) := by decide +kernel
theorem d_M_afterChange_0 : decode b_M_afterChange 0 = .ok (.aload_n 0, 1) := by decide +kernel
theorem d_M_afterChange_1 : decode b_M_afterChange 1 = .ok (.getfield 203, 3) := by decide +kernel
theorem d_M_afterChange_4 : decode b_M_afterChange 4 = .ok (.ifCond .ne 20, 3) := by decide +kernel
theorem d_M_afterChange_7 : decode b_M_afterChange 7 = .ok (.aload_n 0, 1) := by decide +kernel
theorem d_M_afterChange_8 : decode b_M_afterChange 8 = .ok (.bipush 44, 2) := by decide +kernel
theorem d_M_afterChange_10 : decode b_M_afterChange 10 = .ok (.invokevirtual 175, 3) := by decide +kernel
theorem d_M_afterChange_13 : decode b_M_afterChange 13 = .ok (.ifCond .eq 11, 3) := by decide +kernel
theorem d_M_afterChange_16 : decode b_M_afterChange 16 = .ok (.aload_n 0, 1) := by decide +kernel
theorem d_M_afterChange_17 : decode b_M_afterChange 17 = .ok (.iconst 1, 1) := by decide +kernel
theorem d_M_afterChange_18 : decode b_M_afterChange 18 = .ok (.putfield 203, 3) := by decide +kernel
theorem d_M_afterChange_21 : decode b_M_afterChange 21 = .ok (.bipush 7, 2) := by decide +kernel
theorem d_M_afterChange_23 : decode b_M_afterChange 23 = .ok (.ireturn, 1) := by decide +kernel
theorem d_M_afterChange_24 : decode b_M_afterChange 24 = .ok (.aload_n 0, 1) := by decide +kernel
theorem d_M_afterChange_25 : decode b_M_afterChange 25 = .ok (.getfield 132, 3) := by decide +kernel
theorem d_M_afterChange_28 : decode b_M_afterChange 28 = .ok (.ifCond .ne 8, 3) := by decide +kernel
theorem d_M_afterChange_31 : decode b_M_afterChange 31 = .ok (.bipush 16, 2) := by decide +kernel
theorem d_M_afterChange_33 : decode b_M_afterChange 33 = .ok (.goto 5, 3) := by decide +kernel
theorem d_M_afterChange_36 : decode b_M_afterChange 36 = .ok (.bipush 17, 2) := by decide +kernel
theorem d_M_afterChange_38 : decode b_M_afterChange 38 = .ok (.ireturn, 1) := by decide +kernel
theorem d_M_isTaken_0 : decode b_M_isTaken 0 = .ok (.aload_n 0, 1) := by decide +kernel
theorem d_M_isTaken_1 : decode b_M_isTaken 1 = .ok (.iconst 0, 1) := by decide +kernel
theorem d_M_isTaken_2 : decode b_M_isTaken 2 = .ok (.putfield 244, 3) := by decide +kernel
theorem d_M_isTaken_5 : decode b_M_isTaken 5 = .ok (.iconst 0, 1) := by decide +kernel
theorem d_M_isTaken_6 : decode b_M_isTaken 6 = .ok (.istore_n 2, 1) := by decide +kernel
theorem d_M_isTaken_7 : decode b_M_isTaken 7 = .ok (.iload_n 2, 1) := by decide +kernel
theorem d_M_isTaken_8 : decode b_M_isTaken 8 = .ok (.aload_n 0, 1) := by decide +kernel
theorem d_M_isTaken_9 : decode b_M_isTaken 9 = .ok (.getfield 149, 3) := by decide +kernel
theorem d_M_isTaken_12 : decode b_M_isTaken 12 = .ok (.if_icmp .ge 160, 3) := by decide +kernel
theorem d_M_isTaken_15 : decode b_M_isTaken 15 = .ok (.aload_n 0, 1) := by decide +kernel
theorem d_M_isTaken_16 : decode b_M_isTaken 16 = .ok (.getfield 7, 3) := by decide +kernel
theorem d_M_isTaken_19 : decode b_M_isTaken 19 = .ok (.iload_n 1, 1) := by decide +kernel
theorem d_M_isTaken_20 : decode b_M_isTaken 20 = .ok (.baload, 1) := by decide +kernel
theorem d_M_isTaken_21 : decode b_M_isTaken 21 = .ok (.ifCond .eq 151, 3) := by decide +kernel
theorem d_M_isTaken_24 : decode b_M_isTaken 24 = .ok (.aload_n 0, 1) := by decide +kernel
theorem d_M_isTaken_25 : decode b_M_isTaken 25 = .ok (.getfield 43, 3) := by decide +kernel
theorem d_M_isTaken_28 : decode b_M_isTaken 28 = .ok (.iload_n 2, 1) := by decide +kernel
theorem d_M_isTaken_29 : decode b_M_isTaken 29 = .ok (.iaload, 1) := by decide +kernel
theorem d_M_isTaken_30 : decode b_M_isTaken 30 = .ok (.istore_n 3, 1) := by decide +kernel
theorem d_M_isTaken_31 : decode b_M_isTaken 31 = .ok (.iload_n 3, 1) := by decide +kernel
theorem d_M_isTaken_32 : decode b_M_isTaken 32 = .ok (.iconst 5, 1) := by decide +kernel
theorem d_M_isTaken_33 : decode b_M_isTaken 33 = .ok (.if_icmp .eq 9, 3) := by decide +kernel
theorem d_M_isTaken_36 : decode b_M_isTaken 36 = .ok (.iload_n 3, 1) := by decide +kernel
theorem d_M_isTaken_37 : decode b_M_isTaken 37 = .ok (.bipush 6, 2) := by decide +kernel
theorem d_M_isTaken_39 : decode b_M_isTaken 39 = .ok (.if_icmp .ne 50, 3) := by decide +kernel
theorem d_M_isTaken_42 : decode b_M_isTaken 42 = .ok (.aload_n 0, 1) := by decide +kernel
theorem d_M_isTaken_43 : decode b_M_isTaken 43 = .ok (.getfield 70, 3) := by decide +kernel
theorem d_M_isTaken_46 : decode b_M_isTaken 46 = .ok (.aload_n 0, 1) := by decide +kernel
theorem d_M_isTaken_47 : decode b_M_isTaken 47 = .ok (.getfield 244, 3) := by decide +kernel
theorem d_M_isTaken_50 : decode b_M_isTaken 50 = .ok (.iload_n 3, 1) := by decide +kernel
theorem d_M_isTaken_51 : decode b_M_isTaken 51 = .ok (.iconst 5, 1) := by decide +kernel
theorem d_M_isTaken_52 : decode b_M_isTaken 52 = .ok (.if_icmp .ne 17, 3) := by decide +kernel
theorem d_M_isTaken_55 : decode b_M_isTaken 55 = .ok (.aload_n 0, 1) := by decide +kernel
theorem d_M_isTaken_56 : decode b_M_isTaken 56 = .ok (.iload_n 1, 1) := by decide +kernel
theorem d_M_isTaken_57 : decode b_M_isTaken 57 = .ok (.aload_n 0, 1) := by decide +kernel
theorem d_M_isTaken_58 : decode b_M_isTaken 58 = .ok (.getfield 46, 3) := by decide +kernel
theorem d_M_isTaken_61 : decode b_M_isTaken 61 = .ok (.iload_n 2, 1) := by decide +kernel
theorem d_M_isTaken_62 : decode b_M_isTaken 62 = .ok (.iaload, 1) := by decide +kernel
theorem d_M_isTaken_63 : decode b_M_isTaken 63 = .ok (.invokevirtual 95, 3) := by decide +kernel
theorem d_M_isTaken_66 : decode b_M_isTaken 66 = .ok (.goto 9, 3) := by decide +kernel
theorem d_M_isTaken_69 : decode b_M_isTaken 69 = .ok (.aload_n 0, 1) := by decide +kernel
theorem d_M_isTaken_70 : decode b_M_isTaken 70 = .ok (.getfield 46, 3) := by decide +kernel
theorem d_M_isTaken_73 : decode b_M_isTaken 73 = .ok (.iload_n 2, 1) := by decide +kernel
theorem d_M_isTaken_74 : decode b_M_isTaken 74 = .ok (.iaload, 1) := by decide +kernel
theorem d_M_isTaken_75 : decode b_M_isTaken 75 = .ok (.iastore, 1) := by decide +kernel
theorem d_M_isTaken_76 : decode b_M_isTaken 76 = .ok (.aload_n 0, 1) := by decide +kernel
theorem d_M_isTaken_77 : decode b_M_isTaken 77 = .ok (.dup, 1) := by decide +kernel
theorem d_M_isTaken_78 : decode b_M_isTaken 78 = .ok (.getfield 244, 3) := by decide +kernel
theorem d_M_isTaken_81 : decode b_M_isTaken 81 = .ok (.iconst 1, 1) := by decide +kernel
theorem d_M_isTaken_82 : decode b_M_isTaken 82 = .ok (.iadd, 1) := by decide +kernel
theorem d_M_isTaken_83 : decode b_M_isTaken 83 = .ok (.putfield 244, 3) := by decide +kernel
theorem d_M_isTaken_86 : decode b_M_isTaken 86 = .ok (.goto 80, 3) := by decide +kernel
theorem d_M_isTaken_89 : decode b_M_isTaken 89 = .ok (.iload_n 3, 1) := by decide +kernel
theorem d_M_isTaken_90 : decode b_M_isTaken 90 = .ok (.iconst 3, 1) := by decide +kernel
theorem d_M_isTaken_91 : decode b_M_isTaken 91 = .ok (.if_icmp .ne 30, 3) := by decide +kernel
theorem d_M_isTaken_94 : decode b_M_isTaken 94 = .ok (.aload_n 0, 1) := by decide +kernel
theorem d_M_isTaken_95 : decode b_M_isTaken 95 = .ok (.getfield 70, 3) := by decide +kernel
theorem d_M_isTaken_98 : decode b_M_isTaken 98 = .ok (.aload_n 0, 1) := by decide +kernel
theorem d_M_isTaken_99 : decode b_M_isTaken 99 = .ok (.getfield 244, 3) := by decide +kernel
theorem d_M_isTaken_102 : decode b_M_isTaken 102 = .ok (.iconst 1, 1) := by decide +kernel
theorem d_M_isTaken_103 : decode b_M_isTaken 103 = .ok (.isub, 1) := by decide +kernel
theorem d_M_isTaken_104 : decode b_M_isTaken 104 = .ok (.iconst 1, 1) := by decide +kernel
theorem d_M_isTaken_105 : decode b_M_isTaken 105 = .ok (.aload_n 0, 1) := by decide +kernel
theorem d_M_isTaken_106 : decode b_M_isTaken 106 = .ok (.getfield 70, 3) := by decide +kernel
theorem d_M_isTaken_109 : decode b_M_isTaken 109 = .ok (.aload_n 0, 1) := by decide +kernel
theorem d_M_isTaken_110 : decode b_M_isTaken 110 = .ok (.getfield 244, 3) := by decide +kernel
theorem d_M_isTaken_113 : decode b_M_isTaken 113 = .ok (.iconst 1, 1) := by decide +kernel
theorem d_M_isTaken_114 : decode b_M_isTaken 114 = .ok (.isub, 1) := by decide +kernel
theorem d_M_isTaken_115 : decode b_M_isTaken 115 = .ok (.iaload, 1) := by decide +kernel
theorem d_M_isTaken_116 : decode b_M_isTaken 116 = .ok (.isub, 1) := by decide +kernel
theorem d_M_isTaken_117 : decode b_M_isTaken 117 = .ok (.iastore, 1) := by decide +kernel
theorem d_M_isTaken_118 : decode b_M_isTaken 118 = .ok (.goto 48, 3) := by decide +kernel
theorem d_M_isTaken_121 : decode b_M_isTaken 121 = .ok (.aload_n 0, 1) := by decide +kernel
theorem d_M_isTaken_122 : decode b_M_isTaken 122 = .ok (.dup, 1) := by decide +kernel
theorem d_M_isTaken_123 : decode b_M_isTaken 123 = .ok (.getfield 244, 3) := by decide +kernel
theorem d_M_isTaken_126 : decode b_M_isTaken 126 = .ok (.iconst 1, 1) := by decide +kernel
theorem d_M_isTaken_127 : decode b_M_isTaken 127 = .ok (.isub, 1) := by decide +kernel
theorem d_M_isTaken_128 : decode b_M_isTaken 128 = .ok (.putfield 244, 3) := by decide +kernel
theorem d_M_isTaken_131 : decode b_M_isTaken 131 = .ok (.aload_n 0, 1) := by decide +kernel
theorem d_M_isTaken_132 : decode b_M_isTaken 132 = .ok (.getfield 70, 3) := by decide +kernel
theorem d_M_isTaken_135 : decode b_M_isTaken 135 = .ok (.aload_n 0, 1) := by decide +kernel
theorem d_M_isTaken_136 : decode b_M_isTaken 136 = .ok (.getfield 244, 3) := by decide +kernel
theorem d_M_isTaken_139 : decode b_M_isTaken 139 = .ok (.iconst 1, 1) := by decide +kernel
theorem d_M_isTaken_140 : decode b_M_isTaken 140 = .ok (.isub, 1) := by decide +kernel
theorem d_M_isTaken_141 : decode b_M_isTaken 141 = .ok (.iload_n 3, 1) := by decide +kernel
theorem d_M_isTaken_142 : decode b_M_isTaken 142 = .ok (.aload_n 0, 1) := by decide +kernel
theorem d_M_isTaken_143 : decode b_M_isTaken 143 = .ok (.getfield 70, 3) := by decide +kernel
theorem d_M_isTaken_146 : decode b_M_isTaken 146 = .ok (.aload_n 0, 1) := by decide +kernel
theorem d_M_isTaken_147 : decode b_M_isTaken 147 = .ok (.getfield 244, 3) := by decide +kernel
theorem d_M_isTaken_150 : decode b_M_isTaken 150 = .ok (.iconst 1, 1) := by decide +kernel
theorem d_M_isTaken_151 : decode b_M_isTaken 151 = .ok (.isub, 1) := by decide +kernel
theorem d_M_isTaken_152 : decode b_M_isTaken 152 = .ok (.iaload, 1) := by decide +kernel
theorem d_M_isTaken_153 : decode b_M_isTaken 153 = .ok (.aload_n 0, 1) := by decide +kernel
theorem d_M_isTaken_154 : decode b_M_isTaken 154 = .ok (.getfield 70, 3) := by decide +kernel
theorem d_M_isTaken_157 : decode b_M_isTaken 157 = .ok (.aload_n 0, 1) := by decide +kernel
theorem d_M_isTaken_158 : decode b_M_isTaken 158 = .ok (.getfield 244, 3) := by decide +kernel
theorem d_M_isTaken_161 : decode b_M_isTaken 161 = .ok (.iaload, 1) := by decide +kernel
theorem d_M_isTaken_162 : decode b_M_isTaken 162 = .ok (.invokestatic 247, 3) := by decide +kernel
theorem d_M_isTaken_165 : decode b_M_isTaken 165 = .ok (.iastore, 1) := by decide +kernel
theorem d_M_isTaken_166 : decode b_M_isTaken 166 = .ok (.iinc 2 1, 3) := by decide +kernel
theorem d_M_isTaken_169 : decode b_M_isTaken 169 = .ok (.goto (-162), 3) := by decide +kernel
theorem d_M_isTaken_172 : decode b_M_isTaken 172 = .ok (.aload_n 0, 1) := by decide +kernel
theorem d_M_isTaken_173 : decode b_M_isTaken 173 = .ok (.getfield 7, 3) := by decide +kernel
theorem d_M_isTaken_176 : decode b_M_isTaken 176 = .ok (.iload_n 1, 1) := by decide +kernel
theorem d_M_isTaken_177 : decode b_M_isTaken 177 = .ok (.baload, 1) := by decide +kernel
theorem d_M_isTaken_178 : decode b_M_isTaken 178 = .ok (.ifCond .eq 17, 3) := by decide +kernel
theorem d_M_isTaken_181 : decode b_M_isTaken 181 = .ok (.aload_n 0, 1) := by decide +kernel
theorem d_M_isTaken_182 : decode b_M_isTaken 182 = .ok (.getfield 70, 3) := by decide +kernel
theorem d_M_isTaken_185 : decode b_M_isTaken 185 = .ok (.iconst 0, 1) := by decide +kernel
theorem d_M_isTaken_186 : decode b_M_isTaken 186 = .ok (.iaload, 1) := by decide +kernel
theorem d_M_isTaken_187 : decode b_M_isTaken 187 = .ok (.iconst 1, 1) := by decide +kernel
theorem d_M_isTaken_188 : decode b_M_isTaken 188 = .ok (.if_icmp .ne 7, 3) := by decide +kernel
theorem d_M_isTaken_191 : decode b_M_isTaken 191 = .ok (.iconst 1, 1) := by decide +kernel
theorem d_M_isTaken_192 : decode b_M_isTaken 192 = .ok (.goto 4, 3) := by decide +kernel
theorem d_M_isTaken_195 : decode b_M_isTaken 195 = .ok (.iconst 0, 1) := by decide +kernel
theorem d_M_isTaken_196 : decode b_M_isTaken 196 = .ok (.ireturn, 1) := by decide +kernel
theorem d_M_reckon_0 : decode b_M_reckon 0 = .ok (.iload_n 0, 1) := by decide +kernel
theorem d_M_reckon_1 : decode b_M_reckon 1 = .ok (.tableswitch 77 1 8 #[47, 51, 77, 77, 77, 77, 55, 66], 47) := by decide +kernel
theorem d_M_reckon_48 : decode b_M_reckon 48 = .ok (.iload_n 1, 1) := by decide +kernel
theorem d_M_reckon_49 : decode b_M_reckon 49 = .ok (.iload_n 2, 1) := by decide +kernel
theorem d_M_reckon_50 : decode b_M_reckon 50 = .ok (.ior, 1) := by decide +kernel
theorem d_M_reckon_51 : decode b_M_reckon 51 = .ok (.ireturn, 1) := by decide +kernel
theorem d_M_reckon_52 : decode b_M_reckon 52 = .ok (.iload_n 1, 1) := by decide +kernel
theorem d_M_reckon_53 : decode b_M_reckon 53 = .ok (.iload_n 2, 1) := by decide +kernel
theorem d_M_reckon_54 : decode b_M_reckon 54 = .ok (.iand, 1) := by decide +kernel
theorem d_M_reckon_55 : decode b_M_reckon 55 = .ok (.ireturn, 1) := by decide +kernel
theorem d_M_reckon_56 : decode b_M_reckon 56 = .ok (.iload_n 1, 1) := by decide +kernel
theorem d_M_reckon_57 : decode b_M_reckon 57 = .ok (.iload_n 2, 1) := by decide +kernel
theorem d_M_reckon_58 : decode b_M_reckon 58 = .ok (.if_icmp .ge 7, 3) := by decide +kernel
theorem d_M_reckon_61 : decode b_M_reckon 61 = .ok (.iconst 1, 1) := by decide +kernel
theorem d_M_reckon_62 : decode b_M_reckon 62 = .ok (.goto 4, 3) := by decide +kernel
theorem d_M_reckon_65 : decode b_M_reckon 65 = .ok (.iconst 0, 1) := by decide +kernel
theorem d_M_reckon_66 : decode b_M_reckon 66 = .ok (.ireturn, 1) := by decide +kernel
theorem d_M_reckon_67 : decode b_M_reckon 67 = .ok (.iload_n 1, 1) := by decide +kernel
theorem d_M_reckon_68 : decode b_M_reckon 68 = .ok (.iload_n 2, 1) := by decide +kernel
theorem d_M_reckon_69 : decode b_M_reckon 69 = .ok (.if_icmp .ne 7, 3) := by decide +kernel
theorem d_M_reckon_72 : decode b_M_reckon 72 = .ok (.iconst 1, 1) := by decide +kernel
theorem d_M_reckon_73 : decode b_M_reckon 73 = .ok (.goto 4, 3) := by decide +kernel
theorem d_M_reckon_76 : decode b_M_reckon 76 = .ok (.iconst 0, 1) := by decide +kernel
theorem d_M_reckon_77 : decode b_M_reckon 77 = .ok (.ireturn, 1) := by decide +kernel
theorem d_M_reckon_78 : decode b_M_reckon 78 = .ok (.iload_n 1, 1) := by decide +kernel
theorem d_M_reckon_79 : decode b_M_reckon 79 = .ok (.iload_n 2, 1) := by decide +kernel
theorem d_M_reckon_80 : decode b_M_reckon 80 = .ok (.if_icmp .le 7, 3) := by decide +kernel
theorem d_M_reckon_83 : decode b_M_reckon 83 = .ok (.iconst 1, 1) := by decide +kernel
theorem d_M_reckon_84 : decode b_M_reckon 84 = .ok (.goto 4, 3) := by decide +kernel
theorem d_M_reckon_87 : decode b_M_reckon 87 = .ok (.iconst 0, 1) := by decide +kernel
theorem d_M_reckon_88 : decode b_M_reckon 88 = .ok (.ireturn, 1) := by decide +kernel
theorem d_M_changeAll_0 : decode b_M_changeAll 0 = .ok (.iconst 0, 1) := by decide +kernel
theorem d_M_changeAll_1 : decode b_M_changeAll 1 = .ok (.istore_n 1, 1) := by decide +kernel
theorem d_M_changeAll_2 : decode b_M_changeAll 2 = .ok (.iconst 0, 1) := by decide +kernel
theorem d_M_changeAll_3 : decode b_M_changeAll 3 = .ok (.istore_n 2, 1) := by decide +kernel
theorem d_M_changeAll_4 : decode b_M_changeAll 4 = .ok (.iload_n 2, 1) := by decide +kernel
theorem d_M_changeAll_5 : decode b_M_changeAll 5 = .ok (.bipush 32, 2) := by decide +kernel
theorem d_M_changeAll_7 : decode b_M_changeAll 7 = .ok (.if_icmp .ge 71, 3) := by decide +kernel
theorem d_M_changeAll_10 : decode b_M_changeAll 10 = .ok (.aload_n 0, 1) := by decide +kernel
theorem d_M_changeAll_11 : decode b_M_changeAll 11 = .ok (.getfield 17, 3) := by decide +kernel
theorem d_M_changeAll_14 : decode b_M_changeAll 14 = .ok (.iload_n 2, 1) := by decide +kernel
theorem d_M_changeAll_15 : decode b_M_changeAll 15 = .ok (.baload, 1) := by decide +kernel
theorem d_M_changeAll_16 : decode b_M_changeAll 16 = .ok (.ifCond .eq 15, 3) := by decide +kernel
theorem d_M_changeAll_19 : decode b_M_changeAll 19 = .ok (.aload_n 0, 1) := by decide +kernel
theorem d_M_changeAll_20 : decode b_M_changeAll 20 = .ok (.iload_n 2, 1) := by decide +kernel
theorem d_M_changeAll_21 : decode b_M_changeAll 21 = .ok (.invokevirtual 254, 3) := by decide +kernel
theorem d_M_changeAll_24 : decode b_M_changeAll 24 = .ok (.ifCond .eq 7, 3) := by decide +kernel
theorem d_M_changeAll_27 : decode b_M_changeAll 27 = .ok (.iconst 1, 1) := by decide +kernel
theorem d_M_changeAll_28 : decode b_M_changeAll 28 = .ok (.goto 4, 3) := by decide +kernel
theorem d_M_changeAll_31 : decode b_M_changeAll 31 = .ok (.iconst 0, 1) := by decide +kernel
theorem d_M_changeAll_32 : decode b_M_changeAll 32 = .ok (.istore_n 3, 1) := by decide +kernel
theorem d_M_changeAll_33 : decode b_M_changeAll 33 = .ok (.iload_n 1, 1) := by decide +kernel
theorem d_M_changeAll_34 : decode b_M_changeAll 34 = .ok (.iload_n 3, 1) := by decide +kernel
theorem d_M_changeAll_35 : decode b_M_changeAll 35 = .ok (.ifCond .eq 7, 3) := by decide +kernel
theorem d_M_changeAll_38 : decode b_M_changeAll 38 = .ok (.iconst 1, 1) := by decide +kernel
theorem d_M_changeAll_39 : decode b_M_changeAll 39 = .ok (.goto 4, 3) := by decide +kernel
theorem d_M_changeAll_42 : decode b_M_changeAll 42 = .ok (.iconst 0, 1) := by decide +kernel
theorem d_M_changeAll_43 : decode b_M_changeAll 43 = .ok (.iadd, 1) := by decide +kernel
theorem d_M_changeAll_44 : decode b_M_changeAll 44 = .ok (.istore_n 1, 1) := by decide +kernel
theorem d_M_changeAll_45 : decode b_M_changeAll 45 = .ok (.aload_n 0, 1) := by decide +kernel
theorem d_M_changeAll_46 : decode b_M_changeAll 46 = .ok (.dup, 1) := by decide +kernel
theorem d_M_changeAll_47 : decode b_M_changeAll 47 = .ok (.getfield 257, 3) := by decide +kernel
theorem d_M_changeAll_50 : decode b_M_changeAll 50 = .ok (.aload_n 0, 1) := by decide +kernel
theorem d_M_changeAll_51 : decode b_M_changeAll 51 = .ok (.getfield 17, 3) := by decide +kernel
theorem d_M_changeAll_54 : decode b_M_changeAll 54 = .ok (.iload_n 2, 1) := by decide +kernel
theorem d_M_changeAll_55 : decode b_M_changeAll 55 = .ok (.baload, 1) := by decide +kernel
theorem d_M_changeAll_56 : decode b_M_changeAll 56 = .ok (.ifCond .eq 11, 3) := by decide +kernel
theorem d_M_changeAll_59 : decode b_M_changeAll 59 = .ok (.iload_n 3, 1) := by decide +kernel
theorem d_M_changeAll_60 : decode b_M_changeAll 60 = .ok (.ifCond .ne 7, 3) := by decide +kernel
theorem d_M_changeAll_63 : decode b_M_changeAll 63 = .ok (.iconst 1, 1) := by decide +kernel
theorem d_M_changeAll_64 : decode b_M_changeAll 64 = .ok (.goto 4, 3) := by decide +kernel
theorem d_M_changeAll_67 : decode b_M_changeAll 67 = .ok (.iconst 0, 1) := by decide +kernel
theorem d_M_changeAll_68 : decode b_M_changeAll 68 = .ok (.iadd, 1) := by decide +kernel
theorem d_M_changeAll_69 : decode b_M_changeAll 69 = .ok (.putfield 257, 3) := by decide +kernel
theorem d_M_changeAll_72 : decode b_M_changeAll 72 = .ok (.iinc 2 1, 3) := by decide +kernel
theorem d_M_changeAll_75 : decode b_M_changeAll 75 = .ok (.goto (-71), 3) := by decide +kernel
theorem d_M_changeAll_78 : decode b_M_changeAll 78 = .ok (.iload_n 1, 1) := by decide +kernel
theorem d_M_changeAll_79 : decode b_M_changeAll 79 = .ok (.ireturn, 1) := by decide +kernel
theorem d_M_change_0 : decode b_M_change 0 = .ok (.aload_n 0, 1) := by decide +kernel
theorem d_M_change_1 : decode b_M_change 1 = .ok (.iload_n 1, 1) := by decide +kernel
theorem d_M_change_2 : decode b_M_change 2 = .ok (.iconst 0, 1) := by decide +kernel
theorem d_M_change_3 : decode b_M_change 3 = .ok (.invokevirtual 251, 3) := by decide +kernel
theorem d_M_change_6 : decode b_M_change 6 = .ok (.istore_n 2, 1) := by decide +kernel
theorem d_M_change_7 : decode b_M_change 7 = .ok (.aload_n 0, 1) := by decide +kernel
theorem d_M_change_8 : decode b_M_change 8 = .ok (.getfield 203, 3) := by decide +kernel
theorem d_M_change_11 : decode b_M_change 11 = .ok (.iconst 1, 1) := by decide +kernel
theorem d_M_change_12 : decode b_M_change 12 = .ok (.if_icmp .ne 12, 3) := by decide +kernel
theorem d_M_change_15 : decode b_M_change 15 = .ok (.aload_n 0, 1) := by decide +kernel
theorem d_M_change_16 : decode b_M_change 16 = .ok (.iload_n 1, 1) := by decide +kernel
theorem d_M_change_17 : decode b_M_change 17 = .ok (.iconst 1, 1) := by decide +kernel
theorem d_M_change_18 : decode b_M_change 18 = .ok (.invokevirtual 251, 3) := by decide +kernel
theorem d_M_change_21 : decode b_M_change 21 = .ok (.goto 4, 3) := by decide +kernel
theorem d_M_change_24 : decode b_M_change 24 = .ok (.iconst 0, 1) := by decide +kernel
theorem d_M_change_25 : decode b_M_change 25 = .ok (.istore_n 3, 1) := by decide +kernel
theorem d_M_change_26 : decode b_M_change 26 = .ok (.aload_n 0, 1) := by decide +kernel
theorem d_M_change_27 : decode b_M_change 27 = .ok (.aload_n 0, 1) := by decide +kernel
theorem d_M_change_28 : decode b_M_change 28 = .ok (.getfield 52, 3) := by decide +kernel
theorem d_M_change_31 : decode b_M_change 31 = .ok (.iconst 0, 1) := by decide +kernel
theorem d_M_change_32 : decode b_M_change 32 = .ok (.iaload, 1) := by decide +kernel
theorem d_M_change_33 : decode b_M_change 33 = .ok (.iload_n 2, 1) := by decide +kernel
theorem d_M_change_34 : decode b_M_change 34 = .ok (.invokevirtual 87, 3) := by decide +kernel
theorem d_M_change_37 : decode b_M_change 37 = .ok (.ifCond .eq 25, 3) := by decide +kernel
theorem d_M_change_40 : decode b_M_change 40 = .ok (.aload_n 0, 1) := by decide +kernel
theorem d_M_change_41 : decode b_M_change 41 = .ok (.getfield 203, 3) := by decide +kernel
theorem d_M_change_44 : decode b_M_change 44 = .ok (.iconst 1, 1) := by decide +kernel
theorem d_M_change_45 : decode b_M_change 45 = .ok (.if_icmp .ne 19, 3) := by decide +kernel
theorem d_M_change_48 : decode b_M_change 48 = .ok (.aload_n 0, 1) := by decide +kernel
theorem d_M_change_49 : decode b_M_change 49 = .ok (.aload_n 0, 1) := by decide +kernel
theorem d_M_change_50 : decode b_M_change 50 = .ok (.getfield 52, 3) := by decide +kernel
theorem d_M_change_53 : decode b_M_change 53 = .ok (.iconst 1, 1) := by decide +kernel
theorem d_M_change_54 : decode b_M_change 54 = .ok (.iaload, 1) := by decide +kernel
theorem d_M_change_55 : decode b_M_change 55 = .ok (.iload_n 3, 1) := by decide +kernel
theorem d_M_change_56 : decode b_M_change 56 = .ok (.invokevirtual 87, 3) := by decide +kernel
theorem d_M_change_59 : decode b_M_change 59 = .ok (.ifCond .ne 5, 3) := by decide +kernel
theorem d_M_change_62 : decode b_M_change 62 = .ok (.iconst 0, 1) := by decide +kernel
theorem d_M_change_63 : decode b_M_change 63 = .ok (.ireturn, 1) := by decide +kernel
theorem d_M_change_64 : decode b_M_change 64 = .ok (.aload_n 0, 1) := by decide +kernel
theorem d_M_change_65 : decode b_M_change 65 = .ok (.iload_n 1, 1) := by decide +kernel
theorem d_M_change_66 : decode b_M_change 66 = .ok (.aload_n 0, 1) := by decide +kernel
theorem d_M_change_67 : decode b_M_change 67 = .ok (.getfield 52, 3) := by decide +kernel
theorem d_M_change_70 : decode b_M_change 70 = .ok (.iconst 0, 1) := by decide +kernel
theorem d_M_change_71 : decode b_M_change 71 = .ok (.iaload, 1) := by decide +kernel
theorem d_M_change_72 : decode b_M_change 72 = .ok (.iload_n 2, 1) := by decide +kernel
theorem d_M_change_73 : decode b_M_change 73 = .ok (.invokevirtual 91, 3) := by decide +kernel
theorem d_M_change_76 : decode b_M_change 76 = .ok (.aload_n 0, 1) := by decide +kernel
theorem d_M_change_77 : decode b_M_change 77 = .ok (.getfield 203, 3) := by decide +kernel
theorem d_M_change_80 : decode b_M_change 80 = .ok (.iconst 1, 1) := by decide +kernel
theorem d_M_change_81 : decode b_M_change 81 = .ok (.if_icmp .ne 15, 3) := by decide +kernel
theorem d_M_change_84 : decode b_M_change 84 = .ok (.aload_n 0, 1) := by decide +kernel
theorem d_M_change_85 : decode b_M_change 85 = .ok (.iload_n 1, 1) := by decide +kernel
theorem d_M_change_86 : decode b_M_change 86 = .ok (.aload_n 0, 1) := by decide +kernel
theorem d_M_change_87 : decode b_M_change 87 = .ok (.getfield 52, 3) := by decide +kernel
theorem d_M_change_90 : decode b_M_change 90 = .ok (.iconst 1, 1) := by decide +kernel
theorem d_M_change_91 : decode b_M_change 91 = .ok (.iaload, 1) := by decide +kernel
theorem d_M_change_92 : decode b_M_change 92 = .ok (.iload_n 3, 1) := by decide +kernel
theorem d_M_change_93 : decode b_M_change 93 = .ok (.invokevirtual 91, 3) := by decide +kernel
theorem d_M_change_96 : decode b_M_change 96 = .ok (.iconst 1, 1) := by decide +kernel
theorem d_M_change_97 : decode b_M_change 97 = .ok (.ireturn, 1) := by decide +kernel
theorem d_M_resultOf_0 : decode b_M_resultOf 0 = .ok (.aload_n 0, 1) := by decide +kernel
theorem d_M_resultOf_1 : decode b_M_resultOf 1 = .ok (.getfield 55, 3) := by decide +kernel
theorem d_M_resultOf_4 : decode b_M_resultOf 4 = .ok (.iload_n 2, 1) := by decide +kernel
theorem d_M_resultOf_5 : decode b_M_resultOf 5 = .ok (.iaload, 1) := by decide +kernel
theorem d_M_resultOf_6 : decode b_M_resultOf 6 = .ok (.ifCond .ge 12, 3) := by decide +kernel
theorem d_M_resultOf_9 : decode b_M_resultOf 9 = .ok (.aload_n 0, 1) := by decide +kernel
theorem d_M_resultOf_10 : decode b_M_resultOf 10 = .ok (.getfield 58, 3) := by decide +kernel
theorem d_M_resultOf_13 : decode b_M_resultOf 13 = .ok (.iload_n 2, 1) := by decide +kernel
theorem d_M_resultOf_14 : decode b_M_resultOf 14 = .ok (.iaload, 1) := by decide +kernel
theorem d_M_resultOf_15 : decode b_M_resultOf 15 = .ok (.goto 14, 3) := by decide +kernel
theorem d_M_resultOf_18 : decode b_M_resultOf 18 = .ok (.aload_n 0, 1) := by decide +kernel
theorem d_M_resultOf_19 : decode b_M_resultOf 19 = .ok (.iload_n 1, 1) := by decide +kernel
theorem d_M_resultOf_20 : decode b_M_resultOf 20 = .ok (.aload_n 0, 1) := by decide +kernel
theorem d_M_resultOf_21 : decode b_M_resultOf 21 = .ok (.getfield 55, 3) := by decide +kernel
theorem d_M_resultOf_24 : decode b_M_resultOf 24 = .ok (.iload_n 2, 1) := by decide +kernel
theorem d_M_resultOf_25 : decode b_M_resultOf 25 = .ok (.iaload, 1) := by decide +kernel
theorem d_M_resultOf_26 : decode b_M_resultOf 26 = .ok (.invokevirtual 95, 3) := by decide +kernel
theorem d_M_resultOf_29 : decode b_M_resultOf 29 = .ok (.istore_n 3, 1) := by decide +kernel
theorem d_M_resultOf_30 : decode b_M_resultOf 30 = .ok (.aload_n 0, 1) := by decide +kernel
theorem d_M_resultOf_31 : decode b_M_resultOf 31 = .ok (.getfield 61, 3) := by decide +kernel
theorem d_M_resultOf_34 : decode b_M_resultOf 34 = .ok (.iload_n 2, 1) := by decide +kernel
theorem d_M_resultOf_35 : decode b_M_resultOf 35 = .ok (.iaload, 1) := by decide +kernel
theorem d_M_resultOf_36 : decode b_M_resultOf 36 = .ok (.ifCond .ne 5, 3) := by decide +kernel
theorem d_M_resultOf_39 : decode b_M_resultOf 39 = .ok (.iload_n 3, 1) := by decide +kernel
theorem d_M_resultOf_40 : decode b_M_resultOf 40 = .ok (.ireturn, 1) := by decide +kernel
theorem d_M_resultOf_41 : decode b_M_resultOf 41 = .ok (.aload_n 0, 1) := by decide +kernel
theorem d_M_resultOf_42 : decode b_M_resultOf 42 = .ok (.getfield 64, 3) := by decide +kernel
theorem d_M_resultOf_45 : decode b_M_resultOf 45 = .ok (.iload_n 2, 1) := by decide +kernel
theorem d_M_resultOf_46 : decode b_M_resultOf 46 = .ok (.iaload, 1) := by decide +kernel
theorem d_M_resultOf_47 : decode b_M_resultOf 47 = .ok (.ifCond .ge 12, 3) := by decide +kernel
theorem d_M_resultOf_50 : decode b_M_resultOf 50 = .ok (.aload_n 0, 1) := by decide +kernel
theorem d_M_resultOf_51 : decode b_M_resultOf 51 = .ok (.getfield 67, 3) := by decide +kernel
theorem d_M_resultOf_54 : decode b_M_resultOf 54 = .ok (.iload_n 2, 1) := by decide +kernel
theorem d_M_resultOf_55 : decode b_M_resultOf 55 = .ok (.iaload, 1) := by decide +kernel
theorem d_M_resultOf_56 : decode b_M_resultOf 56 = .ok (.goto 14, 3) := by decide +kernel
theorem d_M_resultOf_59 : decode b_M_resultOf 59 = .ok (.aload_n 0, 1) := by decide +kernel
theorem d_M_resultOf_60 : decode b_M_resultOf 60 = .ok (.iload_n 1, 1) := by decide +kernel
theorem d_M_resultOf_61 : decode b_M_resultOf 61 = .ok (.aload_n 0, 1) := by decide +kernel
theorem d_M_resultOf_62 : decode b_M_resultOf 62 = .ok (.getfield 64, 3) := by decide +kernel
theorem d_M_resultOf_65 : decode b_M_resultOf 65 = .ok (.iload_n 2, 1) := by decide +kernel
theorem d_M_resultOf_66 : decode b_M_resultOf 66 = .ok (.iaload, 1) := by decide +kernel
theorem d_M_resultOf_67 : decode b_M_resultOf 67 = .ok (.invokevirtual 95, 3) := by decide +kernel
theorem d_M_resultOf_70 : decode b_M_resultOf 70 = .ok (.istore 4, 2) := by decide +kernel
theorem d_M_resultOf_72 : decode b_M_resultOf 72 = .ok (.aload_n 0, 1) := by decide +kernel
theorem d_M_resultOf_73 : decode b_M_resultOf 73 = .ok (.getfield 61, 3) := by decide +kernel
theorem d_M_resultOf_76 : decode b_M_resultOf 76 = .ok (.iload_n 2, 1) := by decide +kernel
theorem d_M_resultOf_77 : decode b_M_resultOf 77 = .ok (.iaload, 1) := by decide +kernel
theorem d_M_resultOf_78 : decode b_M_resultOf 78 = .ok (.iconst 1, 1) := by decide +kernel
theorem d_M_resultOf_79 : decode b_M_resultOf 79 = .ok (.if_icmp .ne 10, 3) := by decide +kernel
theorem d_M_resultOf_82 : decode b_M_resultOf 82 = .ok (.iload_n 3, 1) := by decide +kernel
theorem d_M_resultOf_83 : decode b_M_resultOf 83 = .ok (.iload 4, 2) := by decide +kernel
theorem d_M_resultOf_85 : decode b_M_resultOf 85 = .ok (.iadd, 1) := by decide +kernel
theorem d_M_resultOf_86 : decode b_M_resultOf 86 = .ok (.goto 24, 3) := by decide +kernel
theorem d_M_resultOf_89 : decode b_M_resultOf 89 = .ok (.aload_n 0, 1) := by decide +kernel
theorem d_M_resultOf_90 : decode b_M_resultOf 90 = .ok (.getfield 61, 3) := by decide +kernel
theorem d_M_resultOf_93 : decode b_M_resultOf 93 = .ok (.iload_n 2, 1) := by decide +kernel
theorem d_M_resultOf_94 : decode b_M_resultOf 94 = .ok (.iaload, 1) := by decide +kernel
theorem d_M_resultOf_95 : decode b_M_resultOf 95 = .ok (.iconst 2, 1) := by decide +kernel
theorem d_M_resultOf_96 : decode b_M_resultOf 96 = .ok (.if_icmp .ne 10, 3) := by decide +kernel
theorem d_M_resultOf_99 : decode b_M_resultOf 99 = .ok (.iload_n 3, 1) := by decide +kernel
theorem d_M_resultOf_100 : decode b_M_resultOf 100 = .ok (.iload 4, 2) := by decide +kernel
theorem d_M_resultOf_102 : decode b_M_resultOf 102 = .ok (.isub, 1) := by decide +kernel
theorem d_M_resultOf_103 : decode b_M_resultOf 103 = .ok (.goto 7, 3) := by decide +kernel
theorem d_M_resultOf_106 : decode b_M_resultOf 106 = .ok (.iload_n 3, 1) := by decide +kernel
theorem d_M_resultOf_107 : decode b_M_resultOf 107 = .ok (.iload 4, 2) := by decide +kernel
theorem d_M_resultOf_109 : decode b_M_resultOf 109 = .ok (.imul, 1) := by decide +kernel
theorem d_M_resultOf_110 : decode b_M_resultOf 110 = .ok (.ireturn, 1) := by decide +kernel
theorem d_M_listAll_0 : decode b_M_listAll 0 = .ok (.aload_n 0, 1) := by decide +kernel
theorem d_M_listAll_1 : decode b_M_listAll 1 = .ok (.iconst 0, 1) := by decide +kernel
theorem d_M_listAll_2 : decode b_M_listAll 2 = .ok (.putfield 260, 3) := by decide +kernel
theorem d_M_listAll_5 : decode b_M_listAll 5 = .ok (.iconst 0, 1) := by decide +kernel
theorem d_M_listAll_6 : decode b_M_listAll 6 = .ok (.istore_n 1, 1) := by decide +kernel
theorem d_M_listAll_7 : decode b_M_listAll 7 = .ok (.iload_n 1, 1) := by decide +kernel
theorem d_M_listAll_8 : decode b_M_listAll 8 = .ok (.bipush 32, 2) := by decide +kernel
theorem d_M_listAll_10 : decode b_M_listAll 10 = .ok (.if_icmp .ge 92, 3) := by decide +kernel
theorem d_M_listAll_13 : decode b_M_listAll 13 = .ok (.aload_n 0, 1) := by decide +kernel
theorem d_M_listAll_14 : decode b_M_listAll 14 = .ok (.getfield 17, 3) := by decide +kernel
theorem d_M_listAll_17 : decode b_M_listAll 17 = .ok (.iload_n 1, 1) := by decide +kernel
theorem d_M_listAll_18 : decode b_M_listAll 18 = .ok (.baload, 1) := by decide +kernel
theorem d_M_listAll_19 : decode b_M_listAll 19 = .ok (.ifCond .eq 77, 3) := by decide +kernel
theorem d_M_listAll_22 : decode b_M_listAll 22 = .ok (.aload_n 0, 1) := by decide +kernel
theorem d_M_listAll_23 : decode b_M_listAll 23 = .ok (.getfield 260, 3) := by decide +kernel
theorem d_M_listAll_26 : decode b_M_listAll 26 = .ok (.istore_n 2, 1) := by decide +kernel
theorem d_M_listAll_27 : decode b_M_listAll 27 = .ok (.iload_n 2, 1) := by decide +kernel
theorem d_M_listAll_28 : decode b_M_listAll 28 = .ok (.ifCond .le 51, 3) := by decide +kernel
theorem d_M_listAll_31 : decode b_M_listAll 31 = .ok (.aload_n 0, 1) := by decide +kernel
theorem d_M_listAll_32 : decode b_M_listAll 32 = .ok (.aload_n 0, 1) := by decide +kernel
theorem d_M_listAll_33 : decode b_M_listAll 33 = .ok (.getfield 40, 3) := by decide +kernel
theorem d_M_listAll_36 : decode b_M_listAll 36 = .ok (.iload_n 2, 1) := by decide +kernel
theorem d_M_listAll_37 : decode b_M_listAll 37 = .ok (.iconst 1, 1) := by decide +kernel
theorem d_M_listAll_38 : decode b_M_listAll 38 = .ok (.isub, 1) := by decide +kernel
theorem d_M_listAll_39 : decode b_M_listAll 39 = .ok (.iaload, 1) := by decide +kernel
theorem d_M_listAll_40 : decode b_M_listAll 40 = .ok (.aload_n 0, 1) := by decide +kernel
theorem d_M_listAll_41 : decode b_M_listAll 41 = .ok (.getfield 206, 3) := by decide +kernel
theorem d_M_listAll_44 : decode b_M_listAll 44 = .ok (.invokevirtual 95, 3) := by decide +kernel
theorem d_M_listAll_47 : decode b_M_listAll 47 = .ok (.aload_n 0, 1) := by decide +kernel
theorem d_M_listAll_48 : decode b_M_listAll 48 = .ok (.iload_n 1, 1) := by decide +kernel
theorem d_M_listAll_49 : decode b_M_listAll 49 = .ok (.aload_n 0, 1) := by decide +kernel
theorem d_M_listAll_50 : decode b_M_listAll 50 = .ok (.getfield 206, 3) := by decide +kernel
theorem d_M_listAll_53 : decode b_M_listAll 53 = .ok (.invokevirtual 95, 3) := by decide +kernel
theorem d_M_listAll_56 : decode b_M_listAll 56 = .ok (.if_icmp .le 23, 3) := by decide +kernel
theorem d_M_listAll_59 : decode b_M_listAll 59 = .ok (.aload_n 0, 1) := by decide +kernel
theorem d_M_listAll_60 : decode b_M_listAll 60 = .ok (.getfield 40, 3) := by decide +kernel
theorem d_M_listAll_63 : decode b_M_listAll 63 = .ok (.iload_n 2, 1) := by decide +kernel
theorem d_M_listAll_64 : decode b_M_listAll 64 = .ok (.aload_n 0, 1) := by decide +kernel
theorem d_M_listAll_65 : decode b_M_listAll 65 = .ok (.getfield 40, 3) := by decide +kernel
theorem d_M_listAll_68 : decode b_M_listAll 68 = .ok (.iload_n 2, 1) := by decide +kernel
theorem d_M_listAll_69 : decode b_M_listAll 69 = .ok (.iconst 1, 1) := by decide +kernel
theorem d_M_listAll_70 : decode b_M_listAll 70 = .ok (.isub, 1) := by decide +kernel
theorem d_M_listAll_71 : decode b_M_listAll 71 = .ok (.iaload, 1) := by decide +kernel
theorem d_M_listAll_72 : decode b_M_listAll 72 = .ok (.iastore, 1) := by decide +kernel
theorem d_M_listAll_73 : decode b_M_listAll 73 = .ok (.iinc 2 (-1), 3) := by decide +kernel
theorem d_M_listAll_76 : decode b_M_listAll 76 = .ok (.goto (-49), 3) := by decide +kernel
theorem d_M_listAll_79 : decode b_M_listAll 79 = .ok (.aload_n 0, 1) := by decide +kernel
theorem d_M_listAll_80 : decode b_M_listAll 80 = .ok (.getfield 40, 3) := by decide +kernel
theorem d_M_listAll_83 : decode b_M_listAll 83 = .ok (.iload_n 2, 1) := by decide +kernel
theorem d_M_listAll_84 : decode b_M_listAll 84 = .ok (.iload_n 1, 1) := by decide +kernel
theorem d_M_listAll_85 : decode b_M_listAll 85 = .ok (.iastore, 1) := by decide +kernel
theorem d_M_listAll_86 : decode b_M_listAll 86 = .ok (.aload_n 0, 1) := by decide +kernel
theorem d_M_listAll_87 : decode b_M_listAll 87 = .ok (.dup, 1) := by decide +kernel
theorem d_M_listAll_88 : decode b_M_listAll 88 = .ok (.getfield 260, 3) := by decide +kernel
theorem d_M_listAll_91 : decode b_M_listAll 91 = .ok (.iconst 1, 1) := by decide +kernel
theorem d_M_listAll_92 : decode b_M_listAll 92 = .ok (.iadd, 1) := by decide +kernel
theorem d_M_listAll_93 : decode b_M_listAll 93 = .ok (.putfield 260, 3) := by decide +kernel
theorem d_M_listAll_96 : decode b_M_listAll 96 = .ok (.iinc 1 1, 3) := by decide +kernel
theorem d_M_listAll_99 : decode b_M_listAll 99 = .ok (.goto (-92), 3) := by decide +kernel
theorem d_M_listAll_102 : decode b_M_listAll 102 = .ok (.aload_n 0, 1) := by decide +kernel
theorem d_M_listAll_103 : decode b_M_listAll 103 = .ok (.getfield 260, 3) := by decide +kernel
theorem d_M_listAll_106 : decode b_M_listAll 106 = .ok (.ireturn, 1) := by decide +kernel
theorem d_M_gather_0 : decode b_M_gather 0 = .ok (.iconst 0, 1) := by decide +kernel
theorem d_M_gather_1 : decode b_M_gather 1 = .ok (.istore_n 1, 1) := by decide +kernel
theorem d_M_gather_2 : decode b_M_gather 2 = .ok (.iconst 1, 1) := by decide +kernel
theorem d_M_gather_3 : decode b_M_gather 3 = .ok (.istore_n 2, 1) := by decide +kernel
theorem d_M_gather_4 : decode b_M_gather 4 = .ok (.iconst 0, 1) := by decide +kernel
theorem d_M_gather_5 : decode b_M_gather 5 = .ok (.istore_n 3, 1) := by decide +kernel
theorem d_M_gather_6 : decode b_M_gather 6 = .ok (.iload_n 3, 1) := by decide +kernel
theorem d_M_gather_7 : decode b_M_gather 7 = .ok (.bipush 32, 2) := by decide +kernel
theorem d_M_gather_9 : decode b_M_gather 9 = .ok (.if_icmp .ge 92, 3) := by decide +kernel
theorem d_M_gather_12 : decode b_M_gather 12 = .ok (.aload_n 0, 1) := by decide +kernel
theorem d_M_gather_13 : decode b_M_gather 13 = .ok (.getfield 17, 3) := by decide +kernel
theorem d_M_gather_16 : decode b_M_gather 16 = .ok (.iload_n 3, 1) := by decide +kernel
theorem d_M_gather_17 : decode b_M_gather 17 = .ok (.baload, 1) := by decide +kernel
theorem d_M_gather_18 : decode b_M_gather 18 = .ok (.ifCond .eq 77, 3) := by decide +kernel
theorem d_M_gather_21 : decode b_M_gather 21 = .ok (.aload_n 0, 1) := by decide +kernel
theorem d_M_gather_22 : decode b_M_gather 22 = .ok (.iload_n 3, 1) := by decide +kernel
theorem d_M_gather_23 : decode b_M_gather 23 = .ok (.aload_n 0, 1) := by decide +kernel
theorem d_M_gather_24 : decode b_M_gather 24 = .ok (.getfield 206, 3) := by decide +kernel
theorem d_M_gather_27 : decode b_M_gather 27 = .ok (.invokevirtual 95, 3) := by decide +kernel
theorem d_M_gather_30 : decode b_M_gather 30 = .ok (.istore 4, 2) := by decide +kernel
theorem d_M_gather_32 : decode b_M_gather 32 = .ok (.iload_n 2, 1) := by decide +kernel
theorem d_M_gather_33 : decode b_M_gather 33 = .ok (.ifCond .ne 26, 3) := by decide +kernel
theorem d_M_gather_36 : decode b_M_gather 36 = .ok (.aload_n 0, 1) := by decide +kernel
theorem d_M_gather_37 : decode b_M_gather 37 = .ok (.getfield 167, 3) := by decide +kernel
theorem d_M_gather_40 : decode b_M_gather 40 = .ok (.iconst 2, 1) := by decide +kernel
theorem d_M_gather_41 : decode b_M_gather 41 = .ok (.if_icmp .ne 12, 3) := by decide +kernel
theorem d_M_gather_44 : decode b_M_gather 44 = .ok (.iload 4, 2) := by decide +kernel
theorem d_M_gather_46 : decode b_M_gather 46 = .ok (.iload_n 1, 1) := by decide +kernel
theorem d_M_gather_47 : decode b_M_gather 47 = .ok (.if_icmp .le 16, 3) := by decide +kernel
theorem d_M_gather_50 : decode b_M_gather 50 = .ok (.goto 9, 3) := by decide +kernel
theorem d_M_gather_53 : decode b_M_gather 53 = .ok (.iload 4, 2) := by decide +kernel
theorem d_M_gather_55 : decode b_M_gather 55 = .ok (.iload_n 1, 1) := by decide +kernel
theorem d_M_gather_56 : decode b_M_gather 56 = .ok (.if_icmp .ge 7, 3) := by decide +kernel
theorem d_M_gather_59 : decode b_M_gather 59 = .ok (.iconst 1, 1) := by decide +kernel
theorem d_M_gather_60 : decode b_M_gather 60 = .ok (.goto 4, 3) := by decide +kernel
theorem d_M_gather_63 : decode b_M_gather 63 = .ok (.iconst 0, 1) := by decide +kernel
theorem d_M_gather_64 : decode b_M_gather 64 = .ok (.istore 5, 2) := by decide +kernel
theorem d_M_gather_66 : decode b_M_gather 66 = .ok (.aload_n 0, 1) := by decide +kernel
theorem d_M_gather_67 : decode b_M_gather 67 = .ok (.getfield 167, 3) := by decide +kernel
theorem d_M_gather_70 : decode b_M_gather 70 = .ok (.iconst 4, 1) := by decide +kernel
theorem d_M_gather_71 : decode b_M_gather 71 = .ok (.if_icmp .ne 10, 3) := by decide +kernel
theorem d_M_gather_74 : decode b_M_gather 74 = .ok (.iload_n 1, 1) := by decide +kernel
theorem d_M_gather_75 : decode b_M_gather 75 = .ok (.iload 4, 2) := by decide +kernel
theorem d_M_gather_77 : decode b_M_gather 77 = .ok (.iadd, 1) := by decide +kernel
theorem d_M_gather_78 : decode b_M_gather 78 = .ok (.goto 14, 3) := by decide +kernel
theorem d_M_gather_81 : decode b_M_gather 81 = .ok (.iload 5, 2) := by decide +kernel
theorem d_M_gather_83 : decode b_M_gather 83 = .ok (.ifCond .eq 8, 3) := by decide +kernel
theorem d_M_gather_86 : decode b_M_gather 86 = .ok (.iload 4, 2) := by decide +kernel
theorem d_M_gather_88 : decode b_M_gather 88 = .ok (.goto 4, 3) := by decide +kernel
theorem d_M_gather_91 : decode b_M_gather 91 = .ok (.iload_n 1, 1) := by decide +kernel
theorem d_M_gather_92 : decode b_M_gather 92 = .ok (.istore_n 1, 1) := by decide +kernel
theorem d_M_gather_93 : decode b_M_gather 93 = .ok (.iconst 0, 1) := by decide +kernel
theorem d_M_gather_94 : decode b_M_gather 94 = .ok (.istore_n 2, 1) := by decide +kernel
theorem d_M_gather_95 : decode b_M_gather 95 = .ok (.iinc 3 1, 3) := by decide +kernel
theorem d_M_gather_98 : decode b_M_gather 98 = .ok (.goto (-92), 3) := by decide +kernel
theorem d_M_gather_101 : decode b_M_gather 101 = .ok (.iload_n 1, 1) := by decide +kernel
theorem d_M_gather_102 : decode b_M_gather 102 = .ok (.ireturn, 1) := by decide +kernel
theorem d_M_place_0 : decode b_M_place 0 = .ok (.aload_n 0, 1) := by decide +kernel
theorem d_M_place_1 : decode b_M_place 1 = .ok (.iconst 0, 1) := by decide +kernel
theorem d_M_place_2 : decode b_M_place 2 = .ok (.putfield 73, 3) := by decide +kernel
theorem d_M_place_5 : decode b_M_place 5 = .ok (.aload_n 0, 1) := by decide +kernel
theorem d_M_place_6 : decode b_M_place 6 = .ok (.getfield 36, 3) := by decide +kernel
theorem d_M_place_9 : decode b_M_place 9 = .ok (.ireturn, 1) := by decide +kernel
theorem d_M_refused_0 : decode b_M_refused 0 = .ok (.aload_n 0, 1) := by decide +kernel
theorem d_M_refused_1 : decode b_M_refused 1 = .ok (.iconst 0, 1) := by decide +kernel
theorem d_M_refused_2 : decode b_M_refused 2 = .ok (.putfield 73, 3) := by decide +kernel
theorem d_M_refused_5 : decode b_M_refused 5 = .ok (.aload_n 0, 1) := by decide +kernel
theorem d_M_refused_6 : decode b_M_refused 6 = .ok (.getfield 257, 3) := by decide +kernel
theorem d_M_refused_9 : decode b_M_refused 9 = .ok (.ireturn, 1) := by decide +kernel
theorem d_M_listed_0 : decode b_M_listed 0 = .ok (.aload_n 0, 1) := by decide +kernel
theorem d_M_listed_1 : decode b_M_listed 1 = .ok (.iload_n 1, 1) := by decide +kernel
theorem d_M_listed_2 : decode b_M_listed 2 = .ok (.ifCond .lt 11, 3) := by decide +kernel
theorem d_M_listed_5 : decode b_M_listed 5 = .ok (.iload_n 1, 1) := by decide +kernel
theorem d_M_listed_6 : decode b_M_listed 6 = .ok (.aload_n 0, 1) := by decide +kernel
theorem d_M_listed_7 : decode b_M_listed 7 = .ok (.getfield 260, 3) := by decide +kernel
theorem d_M_listed_10 : decode b_M_listed 10 = .ok (.if_icmp .lt 7, 3) := by decide +kernel
theorem d_M_listed_13 : decode b_M_listed 13 = .ok (.iconst 1, 1) := by decide +kernel
theorem d_M_listed_14 : decode b_M_listed 14 = .ok (.goto 4, 3) := by decide +kernel
theorem d_M_listed_17 : decode b_M_listed 17 = .ok (.iconst 0, 1) := by decide +kernel
theorem d_M_listed_18 : decode b_M_listed 18 = .ok (.putfield 73, 3) := by decide +kernel
theorem d_M_listed_21 : decode b_M_listed 21 = .ok (.aload_n 0, 1) := by decide +kernel
theorem d_M_listed_22 : decode b_M_listed 22 = .ok (.getfield 73, 3) := by decide +kernel
theorem d_M_listed_25 : decode b_M_listed 25 = .ok (.ifCond .ne 12, 3) := by decide +kernel
theorem d_M_listed_28 : decode b_M_listed 28 = .ok (.aload_n 0, 1) := by decide +kernel
theorem d_M_listed_29 : decode b_M_listed 29 = .ok (.getfield 40, 3) := by decide +kernel
theorem d_M_listed_32 : decode b_M_listed 32 = .ok (.iload_n 1, 1) := by decide +kernel
theorem d_M_listed_33 : decode b_M_listed 33 = .ok (.iaload, 1) := by decide +kernel
theorem d_M_listed_34 : decode b_M_listed 34 = .ok (.goto 4, 3) := by decide +kernel
theorem d_M_listed_37 : decode b_M_listed 37 = .ok (.iconst 0, 1) := by decide +kernel
theorem d_M_listed_38 : decode b_M_listed 38 = .ok (.ireturn, 1) := by decide +kernel
