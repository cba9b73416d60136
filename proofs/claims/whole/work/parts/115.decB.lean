theorem d_B_init_0 : decode b_B_init 0 = .ok (.aload_n 0, 1) := by decide +kernel
theorem d_B_init_1 : decode b_B_init 1 = .ok (.invokespecial 3, 3) := by decide +kernel
theorem d_B_init_4 : decode b_B_init 4 = .ok (.aload_n 0, 1) := by decide +kernel
theorem d_B_init_5 : decode b_B_init 5 = .ok (.new 9, 3) := by decide +kernel
theorem d_B_init_8 : decode b_B_init 8 = .ok (.dup, 1) := by decide +kernel
theorem d_B_init_9 : decode b_B_init 9 = .ok (.invokespecial 11, 3) := by decide +kernel
theorem d_B_init_12 : decode b_B_init 12 = .ok (.putfield 12, 3) := by decide +kernel
theorem d_B_init_15 : decode b_B_init 15 = .ok (.aload_n 0, 1) := by decide +kernel
theorem d_B_init_16 : decode b_B_init 16 = .ok (.new 16, 3) := by decide +kernel
theorem d_B_init_19 : decode b_B_init 19 = .ok (.dup, 1) := by decide +kernel
theorem d_B_init_20 : decode b_B_init 20 = .ok (.invokespecial 18, 3) := by decide +kernel
theorem d_B_init_23 : decode b_B_init 23 = .ok (.putfield 19, 3) := by decide +kernel
theorem d_B_init_26 : decode b_B_init 26 = .ok (.aload_n 0, 1) := by decide +kernel
theorem d_B_init_27 : decode b_B_init 27 = .ok (.new 23, 3) := by decide +kernel
theorem d_B_init_30 : decode b_B_init 30 = .ok (.dup, 1) := by decide +kernel
theorem d_B_init_31 : decode b_B_init 31 = .ok (.invokespecial 25, 3) := by decide +kernel
theorem d_B_init_34 : decode b_B_init 34 = .ok (.putfield 26, 3) := by decide +kernel
theorem d_B_init_37 : decode b_B_init 37 = .ok (.aload_n 0, 1) := by decide +kernel
theorem d_B_init_38 : decode b_B_init 38 = .ok (.new 30, 3) := by decide +kernel
theorem d_B_init_41 : decode b_B_init 41 = .ok (.dup, 1) := by decide +kernel
theorem d_B_init_42 : decode b_B_init 42 = .ok (.aload_n 0, 1) := by decide +kernel
theorem d_B_init_43 : decode b_B_init 43 = .ok (.getfield 12, 3) := by decide +kernel
theorem d_B_init_46 : decode b_B_init 46 = .ok (.aload_n 0, 1) := by decide +kernel
theorem d_B_init_47 : decode b_B_init 47 = .ok (.getfield 19, 3) := by decide +kernel
theorem d_B_init_50 : decode b_B_init 50 = .ok (.aload_n 0, 1) := by decide +kernel
theorem d_B_init_51 : decode b_B_init 51 = .ok (.getfield 26, 3) := by decide +kernel
theorem d_B_init_54 : decode b_B_init 54 = .ok (.invokespecial 32, 3) := by decide +kernel
theorem d_B_init_57 : decode b_B_init 57 = .ok (.putfield 35, 3) := by decide +kernel
theorem d_B_init_60 : decode b_B_init 60 = .ok (.aload_n 0, 1) := by decide +kernel
theorem d_B_init_61 : decode b_B_init 61 = .ok (.bipush 32, 2) := by decide +kernel
theorem d_B_init_63 : decode b_B_init 63 = .ok (.newarray .int, 2) := by decide +kernel
theorem d_B_init_65 : decode b_B_init 65 = .ok (.putfield 39, 3) := by decide +kernel
theorem d_B_init_68 : decode b_B_init 68 = .ok (.return_, 1) := by decide +kernel
theorem d_W_init_0 : decode b_W_init 0 = .ok (.aload_n 0, 1) := by decide +kernel
theorem d_W_init_1 : decode b_W_init 1 = .ok (.invokespecial 3, 3) := by decide +kernel
theorem d_W_init_4 : decode b_W_init 4 = .ok (.aload_n 0, 1) := by decide +kernel
theorem d_W_init_5 : decode b_W_init 5 = .ok (.bipush 32, 2) := by decide +kernel
theorem d_W_init_7 : decode b_W_init 7 = .ok (.newarray .int, 2) := by decide +kernel
theorem d_W_init_9 : decode b_W_init 9 = .ok (.putfield 9, 3) := by decide +kernel
theorem d_W_init_12 : decode b_W_init 12 = .ok (.return_, 1) := by decide +kernel
theorem d_T_init_0 : decode b_T_init 0 = .ok (.aload_n 0, 1) := by decide +kernel
theorem d_T_init_1 : decode b_T_init 1 = .ok (.invokespecial 3, 3) := by decide +kernel
theorem d_T_init_4 : decode b_T_init 4 = .ok (.aload_n 0, 1) := by decide +kernel
theorem d_T_init_5 : decode b_T_init 5 = .ok (.bipush 100, 2) := by decide +kernel
theorem d_T_init_7 : decode b_T_init 7 = .ok (.newarray .char, 2) := by decide +kernel
theorem d_T_init_9 : decode b_T_init 9 = .ok (.putfield 9, 3) := by decide +kernel
theorem d_T_init_12 : decode b_T_init 12 = .ok (.return_, 1) := by decide +kernel
theorem d_B_search_0 : decode b_B_search 0 = .ok (.iload_n 3, 1) := by decide +kernel
theorem d_B_search_1 : decode b_B_search 1 = .ok (.ifCond .eq 13, 3) := by decide +kernel
theorem d_B_search_4 : decode b_B_search 4 = .ok (.aload_n 0, 1) := by decide +kernel
theorem d_B_search_5 : decode b_B_search 5 = .ok (.getfield 19, 3) := by decide +kernel
theorem d_B_search_8 : decode b_B_search 8 = .ok (.invokevirtual 111, 3) := by decide +kernel
theorem d_B_search_11 : decode b_B_search 11 = .ok (.goto 10, 3) := by decide +kernel
theorem d_B_search_14 : decode b_B_search 14 = .ok (.aload_n 0, 1) := by decide +kernel
theorem d_B_search_15 : decode b_B_search 15 = .ok (.getfield 19, 3) := by decide +kernel
theorem d_B_search_18 : decode b_B_search 18 = .ok (.invokevirtual 114, 3) := by decide +kernel
theorem d_B_search_21 : decode b_B_search 21 = .ok (.istore 4, 2) := by decide +kernel
theorem d_B_search_23 : decode b_B_search 23 = .ok (.aload_n 0, 1) := by decide +kernel
theorem d_B_search_24 : decode b_B_search 24 = .ok (.getfield 19, 3) := by decide +kernel
theorem d_B_search_27 : decode b_B_search 27 = .ok (.aload_n 0, 1) := by decide +kernel
theorem d_B_search_28 : decode b_B_search 28 = .ok (.getfield 19, 3) := by decide +kernel
theorem d_B_search_31 : decode b_B_search 31 = .ok (.iload 4, 2) := by decide +kernel
theorem d_B_search_33 : decode b_B_search 33 = .ok (.iload_n 1, 1) := by decide +kernel
theorem d_B_search_34 : decode b_B_search 34 = .ok (.iload_n 2, 1) := by decide +kernel
theorem d_B_search_35 : decode b_B_search 35 = .ok (.invokevirtual 117, 3) := by decide +kernel
theorem d_B_search_38 : decode b_B_search 38 = .ok (.invokevirtual 120, 3) := by decide +kernel
theorem d_B_search_41 : decode b_B_search 41 = .ok (.aload_n 0, 1) := by decide +kernel
theorem d_B_search_42 : decode b_B_search 42 = .ok (.getfield 19, 3) := by decide +kernel
theorem d_B_search_45 : decode b_B_search 45 = .ok (.invokevirtual 111, 3) := by decide +kernel
theorem d_B_search_48 : decode b_B_search 48 = .ok (.invokestatic 123, 3) := by decide +kernel
theorem d_B_search_51 : decode b_B_search 51 = .ok (.ireturn, 1) := by decide +kernel
theorem d_W_responding_0 : decode b_W_responding 0 = .ok (.aload_n 0, 1) := by decide +kernel
theorem d_W_responding_1 : decode b_W_responding 1 = .ok (.getfield 23, 3) := by decide +kernel
theorem d_W_responding_4 : decode b_W_responding 4 = .ok (.ireturn, 1) := by decide +kernel
theorem d_W_inUse_0 : decode b_W_inUse 0 = .ok (.aload_n 0, 1) := by decide +kernel
theorem d_W_inUse_1 : decode b_W_inUse 1 = .ok (.getfield 19, 3) := by decide +kernel
theorem d_W_inUse_4 : decode b_W_inUse 4 = .ok (.ireturn, 1) := by decide +kernel
theorem d_W_matching_0 : decode b_W_matching 0 = .ok (.iconst 0, 1) := by decide +kernel
theorem d_W_matching_1 : decode b_W_matching 1 = .ok (.istore 4, 2) := by decide +kernel
theorem d_W_matching_3 : decode b_W_matching 3 = .ok (.iconst 0, 1) := by decide +kernel
theorem d_W_matching_4 : decode b_W_matching 4 = .ok (.istore 5, 2) := by decide +kernel
theorem d_W_matching_6 : decode b_W_matching 6 = .ok (.iload 5, 2) := by decide +kernel
theorem d_W_matching_8 : decode b_W_matching 8 = .ok (.bipush 32, 2) := by decide +kernel
theorem d_W_matching_10 : decode b_W_matching 10 = .ok (.if_icmp .ge 41, 3) := by decide +kernel
theorem d_W_matching_13 : decode b_W_matching 13 = .ok (.iload_n 1, 1) := by decide +kernel
theorem d_W_matching_14 : decode b_W_matching 14 = .ok (.iload 5, 2) := by decide +kernel
theorem d_W_matching_16 : decode b_W_matching 16 = .ok (.invokestatic 15, 3) := by decide +kernel
theorem d_W_matching_19 : decode b_W_matching 19 = .ok (.ifCond .eq 26, 3) := by decide +kernel
theorem d_W_matching_22 : decode b_W_matching 22 = .ok (.aload_n 0, 1) := by decide +kernel
theorem d_W_matching_23 : decode b_W_matching 23 = .ok (.getfield 9, 3) := by decide +kernel
theorem d_W_matching_26 : decode b_W_matching 26 = .ok (.iload 5, 2) := by decide +kernel
theorem d_W_matching_28 : decode b_W_matching 28 = .ok (.iaload, 1) := by decide +kernel
theorem d_W_matching_29 : decode b_W_matching 29 = .ok (.iload_n 3, 1) := by decide +kernel
theorem d_W_matching_30 : decode b_W_matching 30 = .ok (.ixor, 1) := by decide +kernel
theorem d_W_matching_31 : decode b_W_matching 31 = .ok (.iload_n 2, 1) := by decide +kernel
theorem d_W_matching_32 : decode b_W_matching 32 = .ok (.iand, 1) := by decide +kernel
theorem d_W_matching_33 : decode b_W_matching 33 = .ok (.ifCond .ne 12, 3) := by decide +kernel
theorem d_W_matching_36 : decode b_W_matching 36 = .ok (.iload 4, 2) := by decide +kernel
theorem d_W_matching_38 : decode b_W_matching 38 = .ok (.iconst 1, 1) := by decide +kernel
theorem d_W_matching_39 : decode b_W_matching 39 = .ok (.iload 5, 2) := by decide +kernel
theorem d_W_matching_41 : decode b_W_matching 41 = .ok (.ishl, 1) := by decide +kernel
theorem d_W_matching_42 : decode b_W_matching 42 = .ok (.ior, 1) := by decide +kernel
theorem d_W_matching_43 : decode b_W_matching 43 = .ok (.istore 4, 2) := by decide +kernel
theorem d_W_matching_45 : decode b_W_matching 45 = .ok (.iinc 5 1, 3) := by decide +kernel
theorem d_W_matching_48 : decode b_W_matching 48 = .ok (.goto (-42), 3) := by decide +kernel
theorem d_W_matching_51 : decode b_W_matching 51 = .ok (.iload 4, 2) := by decide +kernel
theorem d_W_matching_53 : decode b_W_matching 53 = .ok (.ireturn, 1) := by decide +kernel
theorem d_W_holds_0 : decode b_W_holds 0 = .ok (.iload_n 0, 1) := by decide +kernel
theorem d_W_holds_1 : decode b_W_holds 1 = .ok (.iload_n 1, 1) := by decide +kernel
theorem d_W_holds_2 : decode b_W_holds 2 = .ok (.iushr, 1) := by decide +kernel
theorem d_W_holds_3 : decode b_W_holds 3 = .ok (.iconst 1, 1) := by decide +kernel
theorem d_W_holds_4 : decode b_W_holds 4 = .ok (.iand, 1) := by decide +kernel
theorem d_W_holds_5 : decode b_W_holds 5 = .ok (.iconst 1, 1) := by decide +kernel
theorem d_W_holds_6 : decode b_W_holds 6 = .ok (.if_icmp .ne 7, 3) := by decide +kernel
theorem d_W_holds_9 : decode b_W_holds 9 = .ok (.iconst 1, 1) := by decide +kernel
theorem d_W_holds_10 : decode b_W_holds 10 = .ok (.goto 4, 3) := by decide +kernel
theorem d_W_holds_13 : decode b_W_holds 13 = .ok (.iconst 0, 1) := by decide +kernel
theorem d_W_holds_14 : decode b_W_holds 14 = .ok (.ireturn, 1) := by decide +kernel
theorem d_W_respondOnly_0 : decode b_W_respondOnly 0 = .ok (.aload_n 0, 1) := by decide +kernel
theorem d_W_respondOnly_1 : decode b_W_respondOnly 1 = .ok (.iload_n 1, 1) := by decide +kernel
theorem d_W_respondOnly_2 : decode b_W_respondOnly 2 = .ok (.putfield 23, 3) := by decide +kernel
theorem d_W_respondOnly_5 : decode b_W_respondOnly 5 = .ok (.return_, 1) := by decide +kernel
theorem d_B_first_0 : decode b_B_first 0 = .ok (.aload_n 0, 1) := by decide +kernel
theorem d_B_first_1 : decode b_B_first 1 = .ok (.getfield 19, 3) := by decide +kernel
theorem d_B_first_4 : decode b_B_first 4 = .ok (.invokevirtual 111, 3) := by decide +kernel
theorem d_B_first_7 : decode b_B_first 7 = .ok (.invokestatic 69, 3) := by decide +kernel
theorem d_B_first_10 : decode b_B_first 10 = .ok (.istore_n 1, 1) := by decide +kernel
theorem d_B_first_11 : decode b_B_first 11 = .ok (.iload_n 1, 1) := by decide +kernel
theorem d_B_first_12 : decode b_B_first 12 = .ok (.iconst (-1), 1) := by decide +kernel
theorem d_B_first_13 : decode b_B_first 13 = .ok (.if_icmp .eq 23, 3) := by decide +kernel
theorem d_B_first_16 : decode b_B_first 16 = .ok (.aload_n 0, 1) := by decide +kernel
theorem d_B_first_17 : decode b_B_first 17 = .ok (.getfield 19, 3) := by decide +kernel
theorem d_B_first_20 : decode b_B_first 20 = .ok (.aload_n 0, 1) := by decide +kernel
theorem d_B_first_21 : decode b_B_first 21 = .ok (.getfield 19, 3) := by decide +kernel
theorem d_B_first_24 : decode b_B_first 24 = .ok (.invokevirtual 111, 3) := by decide +kernel
theorem d_B_first_27 : decode b_B_first 27 = .ok (.iconst 1, 1) := by decide +kernel
theorem d_B_first_28 : decode b_B_first 28 = .ok (.iload_n 1, 1) := by decide +kernel
theorem d_B_first_29 : decode b_B_first 29 = .ok (.ishl, 1) := by decide +kernel
theorem d_B_first_30 : decode b_B_first 30 = .ok (.iconst (-1), 1) := by decide +kernel
theorem d_B_first_31 : decode b_B_first 31 = .ok (.ixor, 1) := by decide +kernel
theorem d_B_first_32 : decode b_B_first 32 = .ok (.iand, 1) := by decide +kernel
theorem d_B_first_33 : decode b_B_first 33 = .ok (.invokevirtual 120, 3) := by decide +kernel
theorem d_B_first_36 : decode b_B_first 36 = .ok (.iload_n 1, 1) := by decide +kernel
theorem d_B_first_37 : decode b_B_first 37 = .ok (.ireturn, 1) := by decide +kernel
theorem d_W_lowestOf_0 : decode b_W_lowestOf 0 = .ok (.iconst 0, 1) := by decide +kernel
theorem d_W_lowestOf_1 : decode b_W_lowestOf 1 = .ok (.istore_n 1, 1) := by decide +kernel
theorem d_W_lowestOf_2 : decode b_W_lowestOf 2 = .ok (.iload_n 1, 1) := by decide +kernel
theorem d_W_lowestOf_3 : decode b_W_lowestOf 3 = .ok (.bipush 32, 2) := by decide +kernel
theorem d_W_lowestOf_5 : decode b_W_lowestOf 5 = .ok (.if_icmp .ge 19, 3) := by decide +kernel
theorem d_W_lowestOf_8 : decode b_W_lowestOf 8 = .ok (.iload_n 0, 1) := by decide +kernel
theorem d_W_lowestOf_9 : decode b_W_lowestOf 9 = .ok (.iload_n 1, 1) := by decide +kernel
theorem d_W_lowestOf_10 : decode b_W_lowestOf 10 = .ok (.invokestatic 15, 3) := by decide +kernel
theorem d_W_lowestOf_13 : decode b_W_lowestOf 13 = .ok (.ifCond .eq 5, 3) := by decide +kernel
theorem d_W_lowestOf_16 : decode b_W_lowestOf 16 = .ok (.iload_n 1, 1) := by decide +kernel
theorem d_W_lowestOf_17 : decode b_W_lowestOf 17 = .ok (.ireturn, 1) := by decide +kernel
theorem d_W_lowestOf_18 : decode b_W_lowestOf 18 = .ok (.iinc 1 1, 3) := by decide +kernel
theorem d_W_lowestOf_21 : decode b_W_lowestOf 21 = .ok (.goto (-19), 3) := by decide +kernel
theorem d_W_lowestOf_24 : decode b_W_lowestOf 24 = .ok (.iconst (-1), 1) := by decide +kernel
theorem d_W_lowestOf_25 : decode b_W_lowestOf 25 = .ok (.ireturn, 1) := by decide +kernel
theorem d_B_write_0 : decode b_B_write 0 = .ok (.aload_n 0, 1) := by decide +kernel
theorem d_B_write_1 : decode b_B_write 1 = .ok (.getfield 26, 3) := by decide +kernel
theorem d_B_write_4 : decode b_B_write 4 = .ok (.lload_n 1, 1) := by decide +kernel
theorem d_B_write_5 : decode b_B_write 5 = .ok (.invokevirtual 136, 3) := by decide +kernel
theorem d_B_write_8 : decode b_B_write 8 = .ok (.ifCond .ne 5, 3) := by decide +kernel
theorem d_B_write_11 : decode b_B_write 11 = .ok (.iconst 0, 1) := by decide +kernel
theorem d_B_write_12 : decode b_B_write 12 = .ok (.ireturn, 1) := by decide +kernel
theorem d_B_write_13 : decode b_B_write 13 = .ok (.aload_n 0, 1) := by decide +kernel
theorem d_B_write_14 : decode b_B_write 14 = .ok (.getfield 26, 3) := by decide +kernel
theorem d_B_write_17 : decode b_B_write 17 = .ok (.lload_n 1, 1) := by decide +kernel
theorem d_B_write_18 : decode b_B_write 18 = .ok (.invokevirtual 140, 3) := by decide +kernel
theorem d_B_write_21 : decode b_B_write 21 = .ok (.iconst 1, 1) := by decide +kernel
theorem d_B_write_22 : decode b_B_write 22 = .ok (.ireturn, 1) := by decide +kernel
theorem d_T_canTake_0 : decode b_T_canTake 0 = .ok (.iconst 0, 1) := by decide +kernel
theorem d_T_canTake_1 : decode b_T_canTake 1 = .ok (.istore_n 3, 1) := by decide +kernel
theorem d_T_canTake_2 : decode b_T_canTake 2 = .ok (.iconst 0, 1) := by decide +kernel
theorem d_T_canTake_3 : decode b_T_canTake 3 = .ok (.istore 4, 2) := by decide +kernel
theorem d_T_canTake_5 : decode b_T_canTake 5 = .ok (.iload 4, 2) := by decide +kernel
theorem d_T_canTake_7 : decode b_T_canTake 7 = .ok (.bipush 8, 2) := by decide +kernel
theorem d_T_canTake_9 : decode b_T_canTake 9 = .ok (.if_icmp .ge 41, 3) := by decide +kernel
theorem d_T_canTake_12 : decode b_T_canTake 12 = .ok (.lload_n 1, 1) := by decide +kernel
theorem d_T_canTake_13 : decode b_T_canTake 13 = .ok (.iload 4, 2) := by decide +kernel
theorem d_T_canTake_15 : decode b_T_canTake 15 = .ok (.invokestatic 19, 3) := by decide +kernel
theorem d_T_canTake_18 : decode b_T_canTake 18 = .ok (.istore 5, 2) := by decide +kernel
theorem d_T_canTake_20 : decode b_T_canTake 20 = .ok (.iload 5, 2) := by decide +kernel
theorem d_T_canTake_22 : decode b_T_canTake 22 = .ok (.ifCond .eq 22, 3) := by decide +kernel
theorem d_T_canTake_25 : decode b_T_canTake 25 = .ok (.iload 5, 2) := by decide +kernel
theorem d_T_canTake_27 : decode b_T_canTake 27 = .ok (.bipush 32, 2) := by decide +kernel
theorem d_T_canTake_29 : decode b_T_canTake 29 = .ok (.if_icmp .lt 10, 3) := by decide +kernel
theorem d_T_canTake_32 : decode b_T_canTake 32 = .ok (.iload 5, 2) := by decide +kernel
theorem d_T_canTake_34 : decode b_T_canTake 34 = .ok (.bipush 126, 2) := by decide +kernel
theorem d_T_canTake_36 : decode b_T_canTake 36 = .ok (.if_icmp .le 5, 3) := by decide +kernel
theorem d_T_canTake_39 : decode b_T_canTake 39 = .ok (.iconst 0, 1) := by decide +kernel
theorem d_T_canTake_40 : decode b_T_canTake 40 = .ok (.ireturn, 1) := by decide +kernel
theorem d_T_canTake_41 : decode b_T_canTake 41 = .ok (.iinc 3 1, 3) := by decide +kernel
theorem d_T_canTake_44 : decode b_T_canTake 44 = .ok (.iinc 4 1, 3) := by decide +kernel
theorem d_T_canTake_47 : decode b_T_canTake 47 = .ok (.goto (-42), 3) := by decide +kernel
theorem d_T_canTake_50 : decode b_T_canTake 50 = .ok (.aload_n 0, 1) := by decide +kernel
theorem d_T_canTake_51 : decode b_T_canTake 51 = .ok (.getfield 15, 3) := by decide +kernel
theorem d_T_canTake_54 : decode b_T_canTake 54 = .ok (.iload_n 3, 1) := by decide +kernel
theorem d_T_canTake_55 : decode b_T_canTake 55 = .ok (.iadd, 1) := by decide +kernel
theorem d_T_canTake_56 : decode b_T_canTake 56 = .ok (.bipush 100, 2) := by decide +kernel
theorem d_T_canTake_58 : decode b_T_canTake 58 = .ok (.if_icmp .gt 7, 3) := by decide +kernel
theorem d_T_canTake_61 : decode b_T_canTake 61 = .ok (.iconst 1, 1) := by decide +kernel
theorem d_T_canTake_62 : decode b_T_canTake 62 = .ok (.goto 4, 3) := by decide +kernel
theorem d_T_canTake_65 : decode b_T_canTake 65 = .ok (.iconst 0, 1) := by decide +kernel
theorem d_T_canTake_66 : decode b_T_canTake 66 = .ok (.ireturn, 1) := by decide +kernel
theorem d_T_codeOf_0 : decode b_T_codeOf 0 = .ok (.lload_n 0, 1) := by decide +kernel
theorem d_T_codeOf_1 : decode b_T_codeOf 1 = .ok (.bipush 8, 2) := by decide +kernel
theorem d_T_codeOf_3 : decode b_T_codeOf 3 = .ok (.iload_n 2, 1) := by decide +kernel
theorem d_T_codeOf_4 : decode b_T_codeOf 4 = .ok (.imul, 1) := by decide +kernel
theorem d_T_codeOf_5 : decode b_T_codeOf 5 = .ok (.lushr, 1) := by decide +kernel
theorem d_T_codeOf_6 : decode b_T_codeOf 6 = .ok (.ldc2_w 23, 3) := by decide +kernel
theorem d_T_codeOf_9 : decode b_T_codeOf 9 = .ok (.land, 1) := by decide +kernel
theorem d_T_codeOf_10 : decode b_T_codeOf 10 = .ok (.l2i, 1) := by decide +kernel
theorem d_T_codeOf_11 : decode b_T_codeOf 11 = .ok (.ireturn, 1) := by decide +kernel
theorem d_T_append_0 : decode b_T_append 0 = .ok (.iconst 0, 1) := by decide +kernel
theorem d_T_append_1 : decode b_T_append 1 = .ok (.istore_n 3, 1) := by decide +kernel
theorem d_T_append_2 : decode b_T_append 2 = .ok (.iload_n 3, 1) := by decide +kernel
theorem d_T_append_3 : decode b_T_append 3 = .ok (.bipush 8, 2) := by decide +kernel
theorem d_T_append_5 : decode b_T_append 5 = .ok (.if_icmp .ge 52, 3) := by decide +kernel
theorem d_T_append_8 : decode b_T_append 8 = .ok (.lload_n 1, 1) := by decide +kernel
theorem d_T_append_9 : decode b_T_append 9 = .ok (.iload_n 3, 1) := by decide +kernel
theorem d_T_append_10 : decode b_T_append 10 = .ok (.invokestatic 19, 3) := by decide +kernel
theorem d_T_append_13 : decode b_T_append 13 = .ok (.istore 4, 2) := by decide +kernel
theorem d_T_append_15 : decode b_T_append 15 = .ok (.iload 4, 2) := by decide +kernel
theorem d_T_append_17 : decode b_T_append 17 = .ok (.ifCond .eq 34, 3) := by decide +kernel
theorem d_T_append_20 : decode b_T_append 20 = .ok (.aload_n 0, 1) := by decide +kernel
theorem d_T_append_21 : decode b_T_append 21 = .ok (.getfield 15, 3) := by decide +kernel
theorem d_T_append_24 : decode b_T_append 24 = .ok (.bipush 100, 2) := by decide +kernel
theorem d_T_append_26 : decode b_T_append 26 = .ok (.if_icmp .ge 25, 3) := by decide +kernel
theorem d_T_append_29 : decode b_T_append 29 = .ok (.aload_n 0, 1) := by decide +kernel
theorem d_T_append_30 : decode b_T_append 30 = .ok (.getfield 9, 3) := by decide +kernel
theorem d_T_append_33 : decode b_T_append 33 = .ok (.aload_n 0, 1) := by decide +kernel
theorem d_T_append_34 : decode b_T_append 34 = .ok (.getfield 15, 3) := by decide +kernel
theorem d_T_append_37 : decode b_T_append 37 = .ok (.iload 4, 2) := by decide +kernel
theorem d_T_append_39 : decode b_T_append 39 = .ok (.i2c, 1) := by decide +kernel
theorem d_T_append_40 : decode b_T_append 40 = .ok (.castore, 1) := by decide +kernel
theorem d_T_append_41 : decode b_T_append 41 = .ok (.aload_n 0, 1) := by decide +kernel
theorem d_T_append_42 : decode b_T_append 42 = .ok (.dup, 1) := by decide +kernel
theorem d_T_append_43 : decode b_T_append 43 = .ok (.getfield 15, 3) := by decide +kernel
theorem d_T_append_46 : decode b_T_append 46 = .ok (.iconst 1, 1) := by decide +kernel
theorem d_T_append_47 : decode b_T_append 47 = .ok (.iadd, 1) := by decide +kernel
theorem d_T_append_48 : decode b_T_append 48 = .ok (.putfield 15, 3) := by decide +kernel
theorem d_T_append_51 : decode b_T_append 51 = .ok (.iinc 3 1, 3) := by decide +kernel
theorem d_T_append_54 : decode b_T_append 54 = .ok (.goto (-52), 3) := by decide +kernel
theorem d_T_append_57 : decode b_T_append 57 = .ok (.return_, 1) := by decide +kernel
theorem d_B_wipe_0 : decode b_B_wipe 0 = .ok (.aload_n 0, 1) := by decide +kernel
theorem d_B_wipe_1 : decode b_B_wipe 1 = .ok (.getfield 26, 3) := by decide +kernel
theorem d_B_wipe_4 : decode b_B_wipe 4 = .ok (.invokevirtual 143, 3) := by decide +kernel
theorem d_B_wipe_7 : decode b_B_wipe 7 = .ok (.istore_n 1, 1) := by decide +kernel
theorem d_B_wipe_8 : decode b_B_wipe 8 = .ok (.aload_n 0, 1) := by decide +kernel
theorem d_B_wipe_9 : decode b_B_wipe 9 = .ok (.getfield 26, 3) := by decide +kernel
theorem d_B_wipe_12 : decode b_B_wipe 12 = .ok (.invokevirtual 146, 3) := by decide +kernel
theorem d_B_wipe_15 : decode b_B_wipe 15 = .ok (.iload_n 1, 1) := by decide +kernel
theorem d_B_wipe_16 : decode b_B_wipe 16 = .ok (.ireturn, 1) := by decide +kernel
theorem d_T_length_0 : decode b_T_length 0 = .ok (.aload_n 0, 1) := by decide +kernel
theorem d_T_length_1 : decode b_T_length 1 = .ok (.getfield 15, 3) := by decide +kernel
theorem d_T_length_4 : decode b_T_length 4 = .ok (.ireturn, 1) := by decide +kernel
theorem d_T_clear_0 : decode b_T_clear 0 = .ok (.aload_n 0, 1) := by decide +kernel
theorem d_T_clear_1 : decode b_T_clear 1 = .ok (.iconst 0, 1) := by decide +kernel
theorem d_T_clear_2 : decode b_T_clear 2 = .ok (.putfield 15, 3) := by decide +kernel
theorem d_T_clear_5 : decode b_T_clear 5 = .ok (.return_, 1) := by decide +kernel
theorem d_B_place_0 : decode b_B_place 0 = .ok (.aload_n 0, 1) := by decide +kernel
theorem d_B_place_1 : decode b_B_place 1 = .ok (.getfield 35, 3) := by decide +kernel
theorem d_B_place_4 : decode b_B_place 4 = .ok (.invokevirtual 162, 3) := by decide +kernel
theorem d_B_place_7 : decode b_B_place 7 = .ok (.ireturn, 1) := by decide +kernel
theorem d_B_refused_0 : decode b_B_refused 0 = .ok (.aload_n 0, 1) := by decide +kernel
theorem d_B_refused_1 : decode b_B_refused 1 = .ok (.getfield 165, 3) := by decide +kernel
theorem d_B_refused_4 : decode b_B_refused 4 = .ok (.ireturn, 1) := by decide +kernel
theorem d_B_field_0 : decode b_B_field 0 = .ok (.aload_n 0, 1) := by decide +kernel
theorem d_B_field_1 : decode b_B_field 1 = .ok (.getfield 12, 3) := by decide +kernel
theorem d_B_field_4 : decode b_B_field 4 = .ok (.iload_n 1, 1) := by decide +kernel
theorem d_B_field_5 : decode b_B_field 5 = .ok (.invokevirtual 43, 3) := by decide +kernel
theorem d_B_field_8 : decode b_B_field 8 = .ok (.ifCond .eq 15, 3) := by decide +kernel
theorem d_B_field_11 : decode b_B_field 11 = .ok (.aload_n 0, 1) := by decide +kernel
theorem d_B_field_12 : decode b_B_field 12 = .ok (.getfield 12, 3) := by decide +kernel
theorem d_B_field_15 : decode b_B_field 15 = .ok (.iload_n 2, 1) := by decide +kernel
theorem d_B_field_16 : decode b_B_field 16 = .ok (.iload_n 3, 1) := by decide +kernel
theorem d_B_field_17 : decode b_B_field 17 = .ok (.invokevirtual 47, 3) := by decide +kernel
theorem d_B_field_20 : decode b_B_field 20 = .ok (.ifCond .ne 11, 3) := by decide +kernel
theorem d_B_field_23 : decode b_B_field 23 = .ok (.new 51, 3) := by decide +kernel
theorem d_B_field_26 : decode b_B_field 26 = .ok (.dup, 1) := by decide +kernel
theorem d_B_field_27 : decode b_B_field 27 = .ok (.invokespecial 53, 3) := by decide +kernel
theorem d_B_field_30 : decode b_B_field 30 = .ok (.athrow, 1) := by decide +kernel
theorem d_B_field_31 : decode b_B_field 31 = .ok (.aload_n 0, 1) := by decide +kernel
theorem d_B_field_32 : decode b_B_field 32 = .ok (.getfield 12, 3) := by decide +kernel
theorem d_B_field_35 : decode b_B_field 35 = .ok (.invokevirtual 54, 3) := by decide +kernel
theorem d_B_field_38 : decode b_B_field 38 = .ok (.ifCond .eq 11, 3) := by decide +kernel
theorem d_B_field_41 : decode b_B_field 41 = .ok (.new 58, 3) := by decide +kernel
theorem d_B_field_44 : decode b_B_field 44 = .ok (.dup, 1) := by decide +kernel
theorem d_B_field_45 : decode b_B_field 45 = .ok (.invokespecial 60, 3) := by decide +kernel
theorem d_B_field_48 : decode b_B_field 48 = .ok (.athrow, 1) := by decide +kernel
theorem d_B_field_49 : decode b_B_field 49 = .ok (.aload_n 0, 1) := by decide +kernel
theorem d_B_field_50 : decode b_B_field 50 = .ok (.getfield 12, 3) := by decide +kernel
theorem d_B_field_53 : decode b_B_field 53 = .ok (.iload_n 1, 1) := by decide +kernel
theorem d_B_field_54 : decode b_B_field 54 = .ok (.iload_n 2, 1) := by decide +kernel
theorem d_B_field_55 : decode b_B_field 55 = .ok (.iload_n 3, 1) := by decide +kernel
theorem d_B_field_56 : decode b_B_field 56 = .ok (.iload 4, 2) := by decide +kernel
theorem d_B_field_58 : decode b_B_field 58 = .ok (.invokevirtual 61, 3) := by decide +kernel
theorem d_B_field_61 : decode b_B_field 61 = .ok (.return_, 1) := by decide +kernel
theorem d_B_insert_0 : decode b_B_insert 0 = .ok (.aload_n 0, 1) := by decide +kernel
theorem d_B_insert_1 : decode b_B_insert 1 = .ok (.getfield 19, 3) := by decide +kernel
theorem d_B_insert_4 : decode b_B_insert 4 = .ok (.invokevirtual 65, 3) := by decide +kernel
theorem d_B_insert_7 : decode b_B_insert 7 = .ok (.invokestatic 69, 3) := by decide +kernel
theorem d_B_insert_10 : decode b_B_insert 10 = .ok (.istore_n 1, 1) := by decide +kernel
theorem d_B_insert_11 : decode b_B_insert 11 = .ok (.iload_n 1, 1) := by decide +kernel
theorem d_B_insert_12 : decode b_B_insert 12 = .ok (.iconst (-1), 1) := by decide +kernel
theorem d_B_insert_13 : decode b_B_insert 13 = .ok (.if_icmp .ne 11, 3) := by decide +kernel
theorem d_B_insert_16 : decode b_B_insert 16 = .ok (.new 73, 3) := by decide +kernel
theorem d_B_insert_19 : decode b_B_insert 19 = .ok (.dup, 1) := by decide +kernel
theorem d_B_insert_20 : decode b_B_insert 20 = .ok (.invokespecial 75, 3) := by decide +kernel
theorem d_B_insert_23 : decode b_B_insert 23 = .ok (.athrow, 1) := by decide +kernel
theorem d_B_insert_24 : decode b_B_insert 24 = .ok (.aload_n 0, 1) := by decide +kernel
theorem d_B_insert_25 : decode b_B_insert 25 = .ok (.getfield 19, 3) := by decide +kernel
theorem d_B_insert_28 : decode b_B_insert 28 = .ok (.iload_n 1, 1) := by decide +kernel
theorem d_B_insert_29 : decode b_B_insert 29 = .ok (.invokevirtual 76, 3) := by decide +kernel
theorem d_B_insert_32 : decode b_B_insert 32 = .ok (.iload_n 1, 1) := by decide +kernel
theorem d_B_insert_33 : decode b_B_insert 33 = .ok (.ireturn, 1) := by decide +kernel
theorem d_W_free_0 : decode b_W_free 0 = .ok (.aload_n 0, 1) := by decide +kernel
theorem d_W_free_1 : decode b_W_free 1 = .ok (.getfield 19, 3) := by decide +kernel
theorem d_W_free_4 : decode b_W_free 4 = .ok (.iconst (-1), 1) := by decide +kernel
theorem d_W_free_5 : decode b_W_free 5 = .ok (.ixor, 1) := by decide +kernel
theorem d_W_free_6 : decode b_W_free 6 = .ok (.ireturn, 1) := by decide +kernel
theorem d_W_occupy_0 : decode b_W_occupy 0 = .ok (.aload_n 0, 1) := by decide +kernel
theorem d_W_occupy_1 : decode b_W_occupy 1 = .ok (.dup, 1) := by decide +kernel
theorem d_W_occupy_2 : decode b_W_occupy 2 = .ok (.getfield 19, 3) := by decide +kernel
theorem d_W_occupy_5 : decode b_W_occupy 5 = .ok (.iconst 1, 1) := by decide +kernel
theorem d_W_occupy_6 : decode b_W_occupy 6 = .ok (.iload_n 1, 1) := by decide +kernel
theorem d_W_occupy_7 : decode b_W_occupy 7 = .ok (.ishl, 1) := by decide +kernel
theorem d_W_occupy_8 : decode b_W_occupy 8 = .ok (.ior, 1) := by decide +kernel
theorem d_W_occupy_9 : decode b_W_occupy 9 = .ok (.putfield 19, 3) := by decide +kernel
theorem d_W_occupy_12 : decode b_W_occupy 12 = .ok (.return_, 1) := by decide +kernel
theorem d_B_remove_0 : decode b_B_remove 0 = .ok (.aload_n 0, 1) := by decide +kernel
theorem d_B_remove_1 : decode b_B_remove 1 = .ok (.iload_n 1, 1) := by decide +kernel
theorem d_B_remove_2 : decode b_B_remove 2 = .ok (.invokevirtual 80, 3) := by decide +kernel
theorem d_B_remove_5 : decode b_B_remove 5 = .ok (.aload_n 0, 1) := by decide +kernel
theorem d_B_remove_6 : decode b_B_remove 6 = .ok (.iload_n 1, 1) := by decide +kernel
theorem d_B_remove_7 : decode b_B_remove 7 = .ok (.invokevirtual 83, 3) := by decide +kernel
theorem d_B_remove_10 : decode b_B_remove 10 = .ok (.aload_n 0, 1) := by decide +kernel
theorem d_B_remove_11 : decode b_B_remove 11 = .ok (.getfield 19, 3) := by decide +kernel
theorem d_B_remove_14 : decode b_B_remove 14 = .ok (.iload_n 1, 1) := by decide +kernel
theorem d_B_remove_15 : decode b_B_remove 15 = .ok (.invokevirtual 86, 3) := by decide +kernel
theorem d_B_remove_18 : decode b_B_remove 18 = .ok (.return_, 1) := by decide +kernel
theorem d_B_requireWord_0 : decode b_B_requireWord 0 = .ok (.iload_n 1, 1) := by decide +kernel
theorem d_B_requireWord_1 : decode b_B_requireWord 1 = .ok (.ifCond .lt 9, 3) := by decide +kernel
theorem d_B_requireWord_4 : decode b_B_requireWord 4 = .ok (.iload_n 1, 1) := by decide +kernel
theorem d_B_requireWord_5 : decode b_B_requireWord 5 = .ok (.bipush 32, 2) := by decide +kernel
theorem d_B_requireWord_7 : decode b_B_requireWord 7 = .ok (.if_icmp .lt 11, 3) := by decide +kernel
theorem d_B_requireWord_10 : decode b_B_requireWord 10 = .ok (.new 51, 3) := by decide +kernel
theorem d_B_requireWord_13 : decode b_B_requireWord 13 = .ok (.dup, 1) := by decide +kernel
theorem d_B_requireWord_14 : decode b_B_requireWord 14 = .ok (.invokespecial 53, 3) := by decide +kernel
theorem d_B_requireWord_17 : decode b_B_requireWord 17 = .ok (.athrow, 1) := by decide +kernel
theorem d_B_requireWord_18 : decode b_B_requireWord 18 = .ok (.return_, 1) := by decide +kernel
theorem d_B_requireInUse_0 : decode b_B_requireInUse 0 = .ok (.aload_n 0, 1) := by decide +kernel
theorem d_B_requireInUse_1 : decode b_B_requireInUse 1 = .ok (.getfield 19, 3) := by decide +kernel
theorem d_B_requireInUse_4 : decode b_B_requireInUse 4 = .ok (.invokevirtual 114, 3) := by decide +kernel
theorem d_B_requireInUse_7 : decode b_B_requireInUse 7 = .ok (.iload_n 1, 1) := by decide +kernel
theorem d_B_requireInUse_8 : decode b_B_requireInUse 8 = .ok (.invokestatic 133, 3) := by decide +kernel
theorem d_B_requireInUse_11 : decode b_B_requireInUse 11 = .ok (.ifCond .ne 11, 3) := by decide +kernel
theorem d_B_requireInUse_14 : decode b_B_requireInUse 14 = .ok (.new 73, 3) := by decide +kernel
theorem d_B_requireInUse_17 : decode b_B_requireInUse 17 = .ok (.dup, 1) := by decide +kernel
theorem d_B_requireInUse_18 : decode b_B_requireInUse 18 = .ok (.invokespecial 75, 3) := by decide +kernel
theorem d_B_requireInUse_21 : decode b_B_requireInUse 21 = .ok (.athrow, 1) := by decide +kernel
theorem d_B_requireInUse_22 : decode b_B_requireInUse 22 = .ok (.return_, 1) := by decide +kernel
theorem d_W_release_0 : decode b_W_release 0 = .ok (.aload_n 0, 1) := by decide +kernel
theorem d_W_release_1 : decode b_W_release 1 = .ok (.dup, 1) := by decide +kernel
theorem d_W_release_2 : decode b_W_release 2 = .ok (.getfield 19, 3) := by decide +kernel
theorem d_W_release_5 : decode b_W_release 5 = .ok (.iconst 1, 1) := by decide +kernel
theorem d_W_release_6 : decode b_W_release 6 = .ok (.iload_n 1, 1) := by decide +kernel
theorem d_W_release_7 : decode b_W_release 7 = .ok (.ishl, 1) := by decide +kernel
theorem d_W_release_8 : decode b_W_release 8 = .ok (.iconst (-1), 1) := by decide +kernel
theorem d_W_release_9 : decode b_W_release 9 = .ok (.ixor, 1) := by decide +kernel
theorem d_W_release_10 : decode b_W_release 10 = .ok (.iand, 1) := by decide +kernel
theorem d_W_release_11 : decode b_W_release 11 = .ok (.putfield 19, 3) := by decide +kernel
theorem d_W_release_14 : decode b_W_release 14 = .ok (.aload_n 0, 1) := by decide +kernel
theorem d_W_release_15 : decode b_W_release 15 = .ok (.dup, 1) := by decide +kernel
theorem d_W_release_16 : decode b_W_release 16 = .ok (.getfield 23, 3) := by decide +kernel
theorem d_W_release_19 : decode b_W_release 19 = .ok (.iconst 1, 1) := by decide +kernel
theorem d_W_release_20 : decode b_W_release 20 = .ok (.iload_n 1, 1) := by decide +kernel
theorem d_W_release_21 : decode b_W_release 21 = .ok (.ishl, 1) := by decide +kernel
theorem d_W_release_22 : decode b_W_release 22 = .ok (.iconst (-1), 1) := by decide +kernel
theorem d_W_release_23 : decode b_W_release 23 = .ok (.ixor, 1) := by decide +kernel
theorem d_W_release_24 : decode b_W_release 24 = .ok (.iand, 1) := by decide +kernel
theorem d_W_release_25 : decode b_W_release 25 = .ok (.putfield 23, 3) := by decide +kernel
theorem d_W_release_28 : decode b_W_release 28 = .ok (.aload_n 0, 1) := by decide +kernel
theorem d_W_release_29 : decode b_W_release 29 = .ok (.getfield 9, 3) := by decide +kernel
theorem d_W_release_32 : decode b_W_release 32 = .ok (.iload_n 1, 1) := by decide +kernel
theorem d_W_release_33 : decode b_W_release 33 = .ok (.iconst 0, 1) := by decide +kernel
theorem d_W_release_34 : decode b_W_release 34 = .ok (.iastore, 1) := by decide +kernel
theorem d_W_release_35 : decode b_W_release 35 = .ok (.return_, 1) := by decide +kernel
theorem d_B_put_0 : decode b_B_put 0 = .ok (.aload_n 0, 1) := by decide +kernel
theorem d_B_put_1 : decode b_B_put 1 = .ok (.iload_n 1, 1) := by decide +kernel
theorem d_B_put_2 : decode b_B_put 2 = .ok (.invokevirtual 80, 3) := by decide +kernel
theorem d_B_put_5 : decode b_B_put 5 = .ok (.aload_n 0, 1) := by decide +kernel
theorem d_B_put_6 : decode b_B_put 6 = .ok (.iload_n 2, 1) := by decide +kernel
theorem d_B_put_7 : decode b_B_put 7 = .ok (.invokevirtual 89, 3) := by decide +kernel
theorem d_B_put_10 : decode b_B_put 10 = .ok (.istore 4, 2) := by decide +kernel
theorem d_B_put_12 : decode b_B_put 12 = .ok (.aload_n 0, 1) := by decide +kernel
theorem d_B_put_13 : decode b_B_put 13 = .ok (.iload_n 1, 1) := by decide +kernel
theorem d_B_put_14 : decode b_B_put 14 = .ok (.invokevirtual 83, 3) := by decide +kernel
theorem d_B_put_17 : decode b_B_put 17 = .ok (.aload_n 0, 1) := by decide +kernel
theorem d_B_put_18 : decode b_B_put 18 = .ok (.getfield 12, 3) := by decide +kernel
theorem d_B_put_21 : decode b_B_put 21 = .ok (.iload 4, 2) := by decide +kernel
theorem d_B_put_23 : decode b_B_put 23 = .ok (.iload_n 3, 1) := by decide +kernel
theorem d_B_put_24 : decode b_B_put 24 = .ok (.invokevirtual 93, 3) := by decide +kernel
theorem d_B_put_27 : decode b_B_put 27 = .ok (.ifCond .ne 11, 3) := by decide +kernel
theorem d_B_put_30 : decode b_B_put 30 = .ok (.new 58, 3) := by decide +kernel
theorem d_B_put_33 : decode b_B_put 33 = .ok (.dup, 1) := by decide +kernel
theorem d_B_put_34 : decode b_B_put 34 = .ok (.invokespecial 60, 3) := by decide +kernel
theorem d_B_put_37 : decode b_B_put 37 = .ok (.athrow, 1) := by decide +kernel
theorem d_B_put_38 : decode b_B_put 38 = .ok (.aload_n 0, 1) := by decide +kernel
theorem d_B_put_39 : decode b_B_put 39 = .ok (.getfield 19, 3) := by decide +kernel
theorem d_B_put_42 : decode b_B_put 42 = .ok (.iload_n 1, 1) := by decide +kernel
theorem d_B_put_43 : decode b_B_put 43 = .ok (.aload_n 0, 1) := by decide +kernel
theorem d_B_put_44 : decode b_B_put 44 = .ok (.getfield 12, 3) := by decide +kernel
theorem d_B_put_47 : decode b_B_put 47 = .ok (.iload 4, 2) := by decide +kernel
theorem d_B_put_49 : decode b_B_put 49 = .ok (.aload_n 0, 1) := by decide +kernel
theorem d_B_put_50 : decode b_B_put 50 = .ok (.getfield 19, 3) := by decide +kernel
theorem d_B_put_53 : decode b_B_put 53 = .ok (.iload_n 1, 1) := by decide +kernel
theorem d_B_put_54 : decode b_B_put 54 = .ok (.invokevirtual 96, 3) := by decide +kernel
theorem d_B_put_57 : decode b_B_put 57 = .ok (.iload_n 3, 1) := by decide +kernel
theorem d_B_put_58 : decode b_B_put 58 = .ok (.invokevirtual 99, 3) := by decide +kernel
theorem d_B_put_61 : decode b_B_put 61 = .ok (.invokevirtual 103, 3) := by decide +kernel
theorem d_B_put_64 : decode b_B_put 64 = .ok (.return_, 1) := by decide +kernel
theorem d_B_requireField_0 : decode b_B_requireField 0 = .ok (.aload_n 0, 1) := by decide +kernel
theorem d_B_requireField_1 : decode b_B_requireField 1 = .ok (.getfield 12, 3) := by decide +kernel
theorem d_B_requireField_4 : decode b_B_requireField 4 = .ok (.iload_n 1, 1) := by decide +kernel
theorem d_B_requireField_5 : decode b_B_requireField 5 = .ok (.invokevirtual 175, 3) := by decide +kernel
theorem d_B_requireField_8 : decode b_B_requireField 8 = .ok (.istore_n 2, 1) := by decide +kernel
theorem d_B_requireField_9 : decode b_B_requireField 9 = .ok (.iload_n 2, 1) := by decide +kernel
theorem d_B_requireField_10 : decode b_B_requireField 10 = .ok (.iconst (-1), 1) := by decide +kernel
theorem d_B_requireField_11 : decode b_B_requireField 11 = .ok (.if_icmp .ne 11, 3) := by decide +kernel
theorem d_B_requireField_14 : decode b_B_requireField 14 = .ok (.new 51, 3) := by decide +kernel
theorem d_B_requireField_17 : decode b_B_requireField 17 = .ok (.dup, 1) := by decide +kernel
theorem d_B_requireField_18 : decode b_B_requireField 18 = .ok (.invokespecial 53, 3) := by decide +kernel
theorem d_B_requireField_21 : decode b_B_requireField 21 = .ok (.athrow, 1) := by decide +kernel
theorem d_B_requireField_22 : decode b_B_requireField 22 = .ok (.iload_n 2, 1) := by decide +kernel
theorem d_B_requireField_23 : decode b_B_requireField 23 = .ok (.ireturn, 1) := by decide +kernel
theorem d_W_bitsOf_0 : decode b_W_bitsOf 0 = .ok (.aload_n 0, 1) := by decide +kernel
theorem d_W_bitsOf_1 : decode b_W_bitsOf 1 = .ok (.getfield 9, 3) := by decide +kernel
theorem d_W_bitsOf_4 : decode b_W_bitsOf 4 = .ok (.iload_n 1, 1) := by decide +kernel
theorem d_W_bitsOf_5 : decode b_W_bitsOf 5 = .ok (.iaload, 1) := by decide +kernel
theorem d_W_bitsOf_6 : decode b_W_bitsOf 6 = .ok (.ireturn, 1) := by decide +kernel
theorem d_W_replace_0 : decode b_W_replace 0 = .ok (.aload_n 0, 1) := by decide +kernel
theorem d_W_replace_1 : decode b_W_replace 1 = .ok (.getfield 9, 3) := by decide +kernel
theorem d_W_replace_4 : decode b_W_replace 4 = .ok (.iload_n 1, 1) := by decide +kernel
theorem d_W_replace_5 : decode b_W_replace 5 = .ok (.iload_n 2, 1) := by decide +kernel
theorem d_W_replace_6 : decode b_W_replace 6 = .ok (.iastore, 1) := by decide +kernel
theorem d_W_replace_7 : decode b_W_replace 7 = .ok (.return_, 1) := by decide +kernel
theorem d_B_get_0 : decode b_B_get 0 = .ok (.aload_n 0, 1) := by decide +kernel
theorem d_B_get_1 : decode b_B_get 1 = .ok (.iload_n 1, 1) := by decide +kernel
theorem d_B_get_2 : decode b_B_get 2 = .ok (.invokevirtual 80, 3) := by decide +kernel
theorem d_B_get_5 : decode b_B_get 5 = .ok (.aload_n 0, 1) := by decide +kernel
theorem d_B_get_6 : decode b_B_get 6 = .ok (.iload_n 2, 1) := by decide +kernel
theorem d_B_get_7 : decode b_B_get 7 = .ok (.invokevirtual 89, 3) := by decide +kernel
theorem d_B_get_10 : decode b_B_get 10 = .ok (.istore_n 3, 1) := by decide +kernel
theorem d_B_get_11 : decode b_B_get 11 = .ok (.aload_n 0, 1) := by decide +kernel
theorem d_B_get_12 : decode b_B_get 12 = .ok (.iload_n 1, 1) := by decide +kernel
theorem d_B_get_13 : decode b_B_get 13 = .ok (.invokevirtual 83, 3) := by decide +kernel
theorem d_B_get_16 : decode b_B_get 16 = .ok (.aload_n 0, 1) := by decide +kernel
theorem d_B_get_17 : decode b_B_get 17 = .ok (.getfield 12, 3) := by decide +kernel
theorem d_B_get_20 : decode b_B_get 20 = .ok (.iload_n 3, 1) := by decide +kernel
theorem d_B_get_21 : decode b_B_get 21 = .ok (.aload_n 0, 1) := by decide +kernel
theorem d_B_get_22 : decode b_B_get 22 = .ok (.getfield 19, 3) := by decide +kernel
theorem d_B_get_25 : decode b_B_get 25 = .ok (.iload_n 1, 1) := by decide +kernel
theorem d_B_get_26 : decode b_B_get 26 = .ok (.invokevirtual 96, 3) := by decide +kernel
theorem d_B_get_29 : decode b_B_get 29 = .ok (.invokevirtual 107, 3) := by decide +kernel
theorem d_B_get_32 : decode b_B_get 32 = .ok (.ireturn, 1) := by decide +kernel
theorem d_B_bit_0 : decode b_B_bit 0 = .ok (.aload_n 0, 1) := by decide +kernel
theorem d_B_bit_1 : decode b_B_bit 1 = .ok (.iload_n 1, 1) := by decide +kernel
theorem d_B_bit_2 : decode b_B_bit 2 = .ok (.invokevirtual 80, 3) := by decide +kernel
theorem d_B_bit_5 : decode b_B_bit 5 = .ok (.iload_n 2, 1) := by decide +kernel
theorem d_B_bit_6 : decode b_B_bit 6 = .ok (.ifCond .lt 9, 3) := by decide +kernel
theorem d_B_bit_9 : decode b_B_bit 9 = .ok (.iload_n 2, 1) := by decide +kernel
theorem d_B_bit_10 : decode b_B_bit 10 = .ok (.bipush 32, 2) := by decide +kernel
theorem d_B_bit_12 : decode b_B_bit 12 = .ok (.if_icmp .lt 11, 3) := by decide +kernel
theorem d_B_bit_15 : decode b_B_bit 15 = .ok (.new 51, 3) := by decide +kernel
theorem d_B_bit_18 : decode b_B_bit 18 = .ok (.dup, 1) := by decide +kernel
theorem d_B_bit_19 : decode b_B_bit 19 = .ok (.invokespecial 53, 3) := by decide +kernel
theorem d_B_bit_22 : decode b_B_bit 22 = .ok (.athrow, 1) := by decide +kernel
theorem d_B_bit_23 : decode b_B_bit 23 = .ok (.aload_n 0, 1) := by decide +kernel
theorem d_B_bit_24 : decode b_B_bit 24 = .ok (.getfield 19, 3) := by decide +kernel
theorem d_B_bit_27 : decode b_B_bit 27 = .ok (.iload_n 1, 1) := by decide +kernel
theorem d_B_bit_28 : decode b_B_bit 28 = .ok (.invokevirtual 96, 3) := by decide +kernel
theorem d_B_bit_31 : decode b_B_bit 31 = .ok (.iload_n 2, 1) := by decide +kernel
theorem d_B_bit_32 : decode b_B_bit 32 = .ok (.iushr, 1) := by decide +kernel
theorem d_B_bit_33 : decode b_B_bit 33 = .ok (.iconst 1, 1) := by decide +kernel
theorem d_B_bit_34 : decode b_B_bit 34 = .ok (.iand, 1) := by decide +kernel
theorem d_B_bit_35 : decode b_B_bit 35 = .ok (.iconst 1, 1) := by decide +kernel
theorem d_B_bit_36 : decode b_B_bit 36 = .ok (.if_icmp .ne 7, 3) := by decide +kernel
theorem d_B_bit_39 : decode b_B_bit 39 = .ok (.iconst 1, 1) := by decide +kernel
theorem d_B_bit_40 : decode b_B_bit 40 = .ok (.goto 4, 3) := by decide +kernel
theorem d_B_bit_43 : decode b_B_bit 43 = .ok (.iconst 0, 1) := by decide +kernel
theorem d_B_bit_44 : decode b_B_bit 44 = .ok (.ireturn, 1) := by decide +kernel
theorem d_B_multi_0 : decode b_B_multi 0 = .ok (.iload_n 1, 1) := by decide +kernel
theorem d_B_multi_1 : decode b_B_multi 1 = .ok (.ldc 128, 2) := by decide +kernel
theorem d_B_multi_3 : decode b_B_multi 3 = .ok (.iand, 1) := by decide +kernel
theorem d_B_multi_4 : decode b_B_multi 4 = .ok (.ifCond .eq 11, 3) := by decide +kernel
theorem d_B_multi_7 : decode b_B_multi 7 = .ok (.new 51, 3) := by decide +kernel
theorem d_B_multi_10 : decode b_B_multi 10 = .ok (.dup, 1) := by decide +kernel
theorem d_B_multi_11 : decode b_B_multi 11 = .ok (.invokespecial 53, 3) := by decide +kernel
theorem d_B_multi_14 : decode b_B_multi 14 = .ok (.athrow, 1) := by decide +kernel
theorem d_B_multi_15 : decode b_B_multi 15 = .ok (.aload_n 0, 1) := by decide +kernel
theorem d_B_multi_16 : decode b_B_multi 16 = .ok (.getfield 19, 3) := by decide +kernel
theorem d_B_multi_19 : decode b_B_multi 19 = .ok (.aload_n 0, 1) := by decide +kernel
theorem d_B_multi_20 : decode b_B_multi 20 = .ok (.getfield 19, 3) := by decide +kernel
theorem d_B_multi_23 : decode b_B_multi 23 = .ok (.invokevirtual 111, 3) := by decide +kernel
theorem d_B_multi_26 : decode b_B_multi 26 = .ok (.iload_n 1, 1) := by decide +kernel
theorem d_B_multi_27 : decode b_B_multi 27 = .ok (.iload_n 2, 1) := by decide +kernel
theorem d_B_multi_28 : decode b_B_multi 28 = .ok (.invokevirtual 129, 3) := by decide +kernel
theorem d_B_multi_31 : decode b_B_multi 31 = .ok (.return_, 1) := by decide +kernel
theorem d_W_overwrite_0 : decode b_W_overwrite 0 = .ok (.iconst 0, 1) := by decide +kernel
theorem d_W_overwrite_1 : decode b_W_overwrite 1 = .ok (.istore 4, 2) := by decide +kernel
theorem d_W_overwrite_3 : decode b_W_overwrite 3 = .ok (.iload 4, 2) := by decide +kernel
theorem d_W_overwrite_5 : decode b_W_overwrite 5 = .ok (.bipush 32, 2) := by decide +kernel
theorem d_W_overwrite_7 : decode b_W_overwrite 7 = .ok (.if_icmp .ge 40, 3) := by decide +kernel
theorem d_W_overwrite_10 : decode b_W_overwrite 10 = .ok (.iload_n 1, 1) := by decide +kernel
theorem d_W_overwrite_11 : decode b_W_overwrite 11 = .ok (.iload 4, 2) := by decide +kernel
theorem d_W_overwrite_13 : decode b_W_overwrite 13 = .ok (.invokestatic 15, 3) := by decide +kernel
theorem d_W_overwrite_16 : decode b_W_overwrite 16 = .ok (.ifCond .eq 25, 3) := by decide +kernel
theorem d_W_overwrite_19 : decode b_W_overwrite 19 = .ok (.aload_n 0, 1) := by decide +kernel
theorem d_W_overwrite_20 : decode b_W_overwrite 20 = .ok (.getfield 9, 3) := by decide +kernel
theorem d_W_overwrite_23 : decode b_W_overwrite 23 = .ok (.iload 4, 2) := by decide +kernel
theorem d_W_overwrite_25 : decode b_W_overwrite 25 = .ok (.aload_n 0, 1) := by decide +kernel
theorem d_W_overwrite_26 : decode b_W_overwrite 26 = .ok (.getfield 9, 3) := by decide +kernel
theorem d_W_overwrite_29 : decode b_W_overwrite 29 = .ok (.iload 4, 2) := by decide +kernel
theorem d_W_overwrite_31 : decode b_W_overwrite 31 = .ok (.iaload, 1) := by decide +kernel
theorem d_W_overwrite_32 : decode b_W_overwrite 32 = .ok (.iload_n 2, 1) := by decide +kernel
theorem d_W_overwrite_33 : decode b_W_overwrite 33 = .ok (.iconst (-1), 1) := by decide +kernel
theorem d_W_overwrite_34 : decode b_W_overwrite 34 = .ok (.ixor, 1) := by decide +kernel
theorem d_W_overwrite_35 : decode b_W_overwrite 35 = .ok (.iand, 1) := by decide +kernel
theorem d_W_overwrite_36 : decode b_W_overwrite 36 = .ok (.iload_n 3, 1) := by decide +kernel
theorem d_W_overwrite_37 : decode b_W_overwrite 37 = .ok (.iload_n 2, 1) := by decide +kernel
theorem d_W_overwrite_38 : decode b_W_overwrite 38 = .ok (.iand, 1) := by decide +kernel
theorem d_W_overwrite_39 : decode b_W_overwrite 39 = .ok (.ior, 1) := by decide +kernel
theorem d_W_overwrite_40 : decode b_W_overwrite 40 = .ok (.iastore, 1) := by decide +kernel
theorem d_W_overwrite_41 : decode b_W_overwrite 41 = .ok (.iinc 4 1, 3) := by decide +kernel
theorem d_W_overwrite_44 : decode b_W_overwrite 44 = .ok (.goto (-41), 3) := by decide +kernel
theorem d_W_overwrite_47 : decode b_W_overwrite 47 = .ok (.return_, 1) := by decide +kernel
theorem d_B_responds_0 : decode b_B_responds 0 = .ok (.aload_n 0, 1) := by decide +kernel
theorem d_B_responds_1 : decode b_B_responds 1 = .ok (.iload_n 1, 1) := by decide +kernel
theorem d_B_responds_2 : decode b_B_responds 2 = .ok (.invokevirtual 80, 3) := by decide +kernel
theorem d_B_responds_5 : decode b_B_responds 5 = .ok (.aload_n 0, 1) := by decide +kernel
theorem d_B_responds_6 : decode b_B_responds 6 = .ok (.getfield 19, 3) := by decide +kernel
theorem d_B_responds_9 : decode b_B_responds 9 = .ok (.invokevirtual 111, 3) := by decide +kernel
theorem d_B_responds_12 : decode b_B_responds 12 = .ok (.iload_n 1, 1) := by decide +kernel
theorem d_B_responds_13 : decode b_B_responds 13 = .ok (.invokestatic 133, 3) := by decide +kernel
theorem d_B_responds_16 : decode b_B_responds 16 = .ok (.ireturn, 1) := by decide +kernel
theorem d_B_run_0 : decode b_B_run 0 = .ok (.aload_n 0, 1) := by decide +kernel
theorem d_B_run_1 : decode b_B_run 1 = .ok (.getfield 35, 3) := by decide +kernel
theorem d_B_run_4 : decode b_B_run 4 = .ok (.invokevirtual 149, 3) := by decide +kernel
theorem d_B_run_7 : decode b_B_run 7 = .ok (.aload_n 0, 1) := by decide +kernel
theorem d_B_run_8 : decode b_B_run 8 = .ok (.getfield 35, 3) := by decide +kernel
theorem d_B_run_11 : decode b_B_run 11 = .ok (.invokevirtual 152, 3) := by decide +kernel
theorem d_B_run_14 : decode b_B_run 14 = .ok (.ifCond .eq 11, 3) := by decide +kernel
theorem d_B_run_17 : decode b_B_run 17 = .ok (.new 73, 3) := by decide +kernel
theorem d_B_run_20 : decode b_B_run 20 = .ok (.dup, 1) := by decide +kernel
theorem d_B_run_21 : decode b_B_run 21 = .ok (.invokespecial 75, 3) := by decide +kernel
theorem d_B_run_24 : decode b_B_run 24 = .ok (.athrow, 1) := by decide +kernel
theorem d_B_run_25 : decode b_B_run 25 = .ok (.aload_n 0, 1) := by decide +kernel
theorem d_B_run_26 : decode b_B_run 26 = .ok (.getfield 35, 3) := by decide +kernel
theorem d_B_run_29 : decode b_B_run 29 = .ok (.invokevirtual 155, 3) := by decide +kernel
theorem d_B_run_32 : decode b_B_run 32 = .ok (.istore_n 1, 1) := by decide +kernel
theorem d_B_run_33 : decode b_B_run 33 = .ok (.aload_n 0, 1) := by decide +kernel
theorem d_B_run_34 : decode b_B_run 34 = .ok (.iload_n 1, 1) := by decide +kernel
theorem d_B_run_35 : decode b_B_run 35 = .ok (.invokevirtual 158, 3) := by decide +kernel
theorem d_B_run_38 : decode b_B_run 38 = .ok (.istore_n 2, 1) := by decide +kernel
theorem d_B_run_39 : decode b_B_run 39 = .ok (.aload_n 0, 1) := by decide +kernel
theorem d_B_run_40 : decode b_B_run 40 = .ok (.getfield 19, 3) := by decide +kernel
theorem d_B_run_43 : decode b_B_run 43 = .ok (.iload_n 1, 1) := by decide +kernel
theorem d_B_run_44 : decode b_B_run 44 = .ok (.invokevirtual 120, 3) := by decide +kernel
theorem d_B_run_47 : decode b_B_run 47 = .ok (.aload_n 0, 1) := by decide +kernel
theorem d_B_run_48 : decode b_B_run 48 = .ok (.getfield 19, 3) := by decide +kernel
theorem d_B_run_51 : decode b_B_run 51 = .ok (.iconst (-1), 1) := by decide +kernel
theorem d_B_run_52 : decode b_B_run 52 = .ok (.ldc 161, 2) := by decide +kernel
theorem d_B_run_54 : decode b_B_run 54 = .ok (.iconst 0, 1) := by decide +kernel
theorem d_B_run_55 : decode b_B_run 55 = .ok (.invokevirtual 129, 3) := by decide +kernel
theorem d_B_run_58 : decode b_B_run 58 = .ok (.aload_n 0, 1) := by decide +kernel
theorem d_B_run_59 : decode b_B_run 59 = .ok (.getfield 26, 3) := by decide +kernel
theorem d_B_run_62 : decode b_B_run 62 = .ok (.invokevirtual 146, 3) := by decide +kernel
theorem d_B_run_65 : decode b_B_run 65 = .ok (.iload_n 2, 1) := by decide +kernel
theorem d_B_run_66 : decode b_B_run 66 = .ok (.ireturn, 1) := by decide +kernel
theorem d_T_at_0 : decode b_T_at 0 = .ok (.iload_n 1, 1) := by decide +kernel
theorem d_T_at_1 : decode b_T_at 1 = .ok (.ifCond .lt 20, 3) := by decide +kernel
theorem d_T_at_4 : decode b_T_at 4 = .ok (.iload_n 1, 1) := by decide +kernel
theorem d_T_at_5 : decode b_T_at 5 = .ok (.aload_n 0, 1) := by decide +kernel
theorem d_T_at_6 : decode b_T_at 6 = .ok (.getfield 15, 3) := by decide +kernel
theorem d_T_at_9 : decode b_T_at 9 = .ok (.if_icmp .ge 12, 3) := by decide +kernel
theorem d_T_at_12 : decode b_T_at 12 = .ok (.aload_n 0, 1) := by decide +kernel
theorem d_T_at_13 : decode b_T_at 13 = .ok (.getfield 9, 3) := by decide +kernel
theorem d_T_at_16 : decode b_T_at 16 = .ok (.iload_n 1, 1) := by decide +kernel
theorem d_T_at_17 : decode b_T_at 17 = .ok (.caload, 1) := by decide +kernel
theorem d_T_at_18 : decode b_T_at 18 = .ok (.goto 4, 3) := by decide +kernel
theorem d_T_at_21 : decode b_T_at 21 = .ok (.iconst 0, 1) := by decide +kernel
theorem d_T_at_22 : decode b_T_at 22 = .ok (.ireturn, 1) := by decide +kernel
theorem d_B_carryOut_0 : decode b_B_carryOut 0 = .ok (.aload_n 0, 1) := by decide +kernel
theorem d_B_carryOut_1 : decode b_B_carryOut 1 = .ok (.getfield 35, 3) := by decide +kernel
theorem d_B_carryOut_4 : decode b_B_carryOut 4 = .ok (.invokevirtual 178, 3) := by decide +kernel
theorem d_B_carryOut_7 : decode b_B_carryOut 7 = .ok (.istore_n 2, 1) := by decide +kernel
theorem d_B_carryOut_8 : decode b_B_carryOut 8 = .ok (.aload_n 0, 1) := by decide +kernel
theorem d_B_carryOut_9 : decode b_B_carryOut 9 = .ok (.iconst 0, 1) := by decide +kernel
theorem d_B_carryOut_10 : decode b_B_carryOut 10 = .ok (.putfield 165, 3) := by decide +kernel
theorem d_B_carryOut_13 : decode b_B_carryOut 13 = .ok (.getstatic 181, 3) := by decide +kernel
theorem d_B_carryOut_16 : decode b_B_carryOut 16 = .ok (.aload_n 0, 1) := by decide +kernel
theorem d_B_carryOut_17 : decode b_B_carryOut 17 = .ok (.getfield 35, 3) := by decide +kernel
theorem d_B_carryOut_20 : decode b_B_carryOut 20 = .ok (.invokevirtual 186, 3) := by decide +kernel
theorem d_B_carryOut_23 : decode b_B_carryOut 23 = .ok (.invokevirtual 190, 3) := by decide +kernel
theorem d_B_carryOut_26 : decode b_B_carryOut 26 = .ok (.iaload, 1) := by decide +kernel
theorem d_B_carryOut_27 : decode b_B_carryOut 27 = .ok (.tableswitch 67 1 5 #[33, 39, 46, 53, 60], 33) := by decide +kernel
theorem d_B_carryOut_60 : decode b_B_carryOut 60 = .ok (.aload_n 0, 1) := by decide +kernel
theorem d_B_carryOut_61 : decode b_B_carryOut 61 = .ok (.iload_n 1, 1) := by decide +kernel
theorem d_B_carryOut_62 : decode b_B_carryOut 62 = .ok (.invokevirtual 195, 3) := by decide +kernel
theorem d_B_carryOut_65 : decode b_B_carryOut 65 = .ok (.ireturn, 1) := by decide +kernel
theorem d_B_carryOut_66 : decode b_B_carryOut 66 = .ok (.aload_n 0, 1) := by decide +kernel
theorem d_B_carryOut_67 : decode b_B_carryOut 67 = .ok (.iload_n 2, 1) := by decide +kernel
theorem d_B_carryOut_68 : decode b_B_carryOut 68 = .ok (.iload_n 1, 1) := by decide +kernel
theorem d_B_carryOut_69 : decode b_B_carryOut 69 = .ok (.invokevirtual 198, 3) := by decide +kernel
theorem d_B_carryOut_72 : decode b_B_carryOut 72 = .ok (.ireturn, 1) := by decide +kernel
theorem d_B_carryOut_73 : decode b_B_carryOut 73 = .ok (.aload_n 0, 1) := by decide +kernel
theorem d_B_carryOut_74 : decode b_B_carryOut 74 = .ok (.iload_n 2, 1) := by decide +kernel
theorem d_B_carryOut_75 : decode b_B_carryOut 75 = .ok (.iload_n 1, 1) := by decide +kernel
theorem d_B_carryOut_76 : decode b_B_carryOut 76 = .ok (.invokevirtual 201, 3) := by decide +kernel
theorem d_B_carryOut_79 : decode b_B_carryOut 79 = .ok (.ireturn, 1) := by decide +kernel
theorem d_B_carryOut_80 : decode b_B_carryOut 80 = .ok (.aload_n 0, 1) := by decide +kernel
theorem d_B_carryOut_81 : decode b_B_carryOut 81 = .ok (.iload_n 2, 1) := by decide +kernel
theorem d_B_carryOut_82 : decode b_B_carryOut 82 = .ok (.iload_n 1, 1) := by decide +kernel
theorem d_B_carryOut_83 : decode b_B_carryOut 83 = .ok (.invokevirtual 204, 3) := by decide +kernel
theorem d_B_carryOut_86 : decode b_B_carryOut 86 = .ok (.ireturn, 1) := by decide +kernel
theorem d_B_carryOut_87 : decode b_B_carryOut 87 = .ok (.aload_n 0, 1) := by decide +kernel
theorem d_B_carryOut_88 : decode b_B_carryOut 88 = .ok (.iload_n 2, 1) := by decide +kernel
theorem d_B_carryOut_89 : decode b_B_carryOut 89 = .ok (.iload_n 1, 1) := by decide +kernel
theorem d_B_carryOut_90 : decode b_B_carryOut 90 = .ok (.invokevirtual 207, 3) := by decide +kernel
theorem d_B_carryOut_93 : decode b_B_carryOut 93 = .ok (.ireturn, 1) := by decide +kernel
theorem d_B_carryOut_94 : decode b_B_carryOut 94 = .ok (.iload_n 1, 1) := by decide +kernel
theorem d_B_carryOut_95 : decode b_B_carryOut 95 = .ok (.invokestatic 123, 3) := by decide +kernel
theorem d_B_carryOut_98 : decode b_B_carryOut 98 = .ok (.ireturn, 1) := by decide +kernel
theorem d_B_changeAll_0 : decode b_B_changeAll 0 = .ok (.iconst 0, 1) := by decide +kernel
theorem d_B_changeAll_1 : decode b_B_changeAll 1 = .ok (.istore_n 2, 1) := by decide +kernel
theorem d_B_changeAll_2 : decode b_B_changeAll 2 = .ok (.iconst 0, 1) := by decide +kernel
theorem d_B_changeAll_3 : decode b_B_changeAll 3 = .ok (.istore_n 3, 1) := by decide +kernel
theorem d_B_changeAll_4 : decode b_B_changeAll 4 = .ok (.iload_n 3, 1) := by decide +kernel
theorem d_B_changeAll_5 : decode b_B_changeAll 5 = .ok (.bipush 32, 2) := by decide +kernel
theorem d_B_changeAll_7 : decode b_B_changeAll 7 = .ok (.if_icmp .ge 72, 3) := by decide +kernel
theorem d_B_changeAll_10 : decode b_B_changeAll 10 = .ok (.iload_n 1, 1) := by decide +kernel
theorem d_B_changeAll_11 : decode b_B_changeAll 11 = .ok (.iload_n 3, 1) := by decide +kernel
theorem d_B_changeAll_12 : decode b_B_changeAll 12 = .ok (.invokestatic 133, 3) := by decide +kernel
theorem d_B_changeAll_15 : decode b_B_changeAll 15 = .ok (.ifCond .eq 58, 3) := by decide +kernel
theorem d_B_changeAll_18 : decode b_B_changeAll 18 = .ok (.aload_n 0, 1) := by decide +kernel
theorem d_B_changeAll_19 : decode b_B_changeAll 19 = .ok (.getfield 19, 3) := by decide +kernel
theorem d_B_changeAll_22 : decode b_B_changeAll 22 = .ok (.iload_n 3, 1) := by decide +kernel
theorem d_B_changeAll_23 : decode b_B_changeAll 23 = .ok (.invokevirtual 96, 3) := by decide +kernel
theorem d_B_changeAll_26 : decode b_B_changeAll 26 = .ok (.istore 4, 2) := by decide +kernel
theorem d_B_changeAll_28 : decode b_B_changeAll 28 = .ok (.aload_n 0, 1) := by decide +kernel
theorem d_B_changeAll_29 : decode b_B_changeAll 29 = .ok (.getfield 35, 3) := by decide +kernel
theorem d_B_changeAll_32 : decode b_B_changeAll 32 = .ok (.iload 4, 2) := by decide +kernel
theorem d_B_changeAll_34 : decode b_B_changeAll 34 = .ok (.invokevirtual 224, 3) := by decide +kernel
theorem d_B_changeAll_37 : decode b_B_changeAll 37 = .ok (.ifCond .eq 26, 3) := by decide +kernel
theorem d_B_changeAll_40 : decode b_B_changeAll 40 = .ok (.aload_n 0, 1) := by decide +kernel
theorem d_B_changeAll_41 : decode b_B_changeAll 41 = .ok (.getfield 19, 3) := by decide +kernel
theorem d_B_changeAll_44 : decode b_B_changeAll 44 = .ok (.iload_n 3, 1) := by decide +kernel
theorem d_B_changeAll_45 : decode b_B_changeAll 45 = .ok (.aload_n 0, 1) := by decide +kernel
theorem d_B_changeAll_46 : decode b_B_changeAll 46 = .ok (.getfield 35, 3) := by decide +kernel
theorem d_B_changeAll_49 : decode b_B_changeAll 49 = .ok (.iload 4, 2) := by decide +kernel
theorem d_B_changeAll_51 : decode b_B_changeAll 51 = .ok (.invokevirtual 228, 3) := by decide +kernel
theorem d_B_changeAll_54 : decode b_B_changeAll 54 = .ok (.invokevirtual 103, 3) := by decide +kernel
theorem d_B_changeAll_57 : decode b_B_changeAll 57 = .ok (.iinc 2 1, 3) := by decide +kernel
theorem d_B_changeAll_60 : decode b_B_changeAll 60 = .ok (.goto 13, 3) := by decide +kernel
theorem d_B_changeAll_63 : decode b_B_changeAll 63 = .ok (.aload_n 0, 1) := by decide +kernel
theorem d_B_changeAll_64 : decode b_B_changeAll 64 = .ok (.dup, 1) := by decide +kernel
theorem d_B_changeAll_65 : decode b_B_changeAll 65 = .ok (.getfield 165, 3) := by decide +kernel
theorem d_B_changeAll_68 : decode b_B_changeAll 68 = .ok (.iconst 1, 1) := by decide +kernel
theorem d_B_changeAll_69 : decode b_B_changeAll 69 = .ok (.iadd, 1) := by decide +kernel
theorem d_B_changeAll_70 : decode b_B_changeAll 70 = .ok (.putfield 165, 3) := by decide +kernel
theorem d_B_changeAll_73 : decode b_B_changeAll 73 = .ok (.iinc 3 1, 3) := by decide +kernel
theorem d_B_changeAll_76 : decode b_B_changeAll 76 = .ok (.goto (-72), 3) := by decide +kernel
theorem d_B_changeAll_79 : decode b_B_changeAll 79 = .ok (.iload_n 2, 1) := by decide +kernel
theorem d_B_changeAll_80 : decode b_B_changeAll 80 = .ok (.ireturn, 1) := by decide +kernel
theorem d_B_greatest_0 : decode b_B_greatest 0 = .ok (.sipush (-512), 3) := by decide +kernel
theorem d_B_greatest_3 : decode b_B_greatest 3 = .ok (.istore_n 3, 1) := by decide +kernel
theorem d_B_greatest_4 : decode b_B_greatest 4 = .ok (.iconst 0, 1) := by decide +kernel
theorem d_B_greatest_5 : decode b_B_greatest 5 = .ok (.istore 4, 2) := by decide +kernel
theorem d_B_greatest_7 : decode b_B_greatest 7 = .ok (.iload 4, 2) := by decide +kernel
theorem d_B_greatest_9 : decode b_B_greatest 9 = .ok (.bipush 32, 2) := by decide +kernel
theorem d_B_greatest_11 : decode b_B_greatest 11 = .ok (.if_icmp .ge 30, 3) := by decide +kernel
theorem d_B_greatest_14 : decode b_B_greatest 14 = .ok (.iload_n 2, 1) := by decide +kernel
theorem d_B_greatest_15 : decode b_B_greatest 15 = .ok (.iload 4, 2) := by decide +kernel
theorem d_B_greatest_17 : decode b_B_greatest 17 = .ok (.invokestatic 133, 3) := by decide +kernel
theorem d_B_greatest_20 : decode b_B_greatest 20 = .ok (.ifCond .eq 15, 3) := by decide +kernel
theorem d_B_greatest_23 : decode b_B_greatest 23 = .ok (.iload_n 3, 1) := by decide +kernel
theorem d_B_greatest_24 : decode b_B_greatest 24 = .ok (.aload_n 0, 1) := by decide +kernel
theorem d_B_greatest_25 : decode b_B_greatest 25 = .ok (.iload_n 1, 1) := by decide +kernel
theorem d_B_greatest_26 : decode b_B_greatest 26 = .ok (.iload 4, 2) := by decide +kernel
theorem d_B_greatest_28 : decode b_B_greatest 28 = .ok (.invokevirtual 210, 3) := by decide +kernel
theorem d_B_greatest_31 : decode b_B_greatest 31 = .ok (.invokestatic 213, 3) := by decide +kernel
theorem d_B_greatest_34 : decode b_B_greatest 34 = .ok (.istore_n 3, 1) := by decide +kernel
theorem d_B_greatest_35 : decode b_B_greatest 35 = .ok (.iinc 4 1, 3) := by decide +kernel
theorem d_B_greatest_38 : decode b_B_greatest 38 = .ok (.goto (-31), 3) := by decide +kernel
theorem d_B_greatest_41 : decode b_B_greatest 41 = .ok (.iload_n 3, 1) := by decide +kernel
theorem d_B_greatest_42 : decode b_B_greatest 42 = .ok (.ireturn, 1) := by decide +kernel
theorem d_B_valueOf_0 : decode b_B_valueOf 0 = .ok (.aload_n 0, 1) := by decide +kernel
theorem d_B_valueOf_1 : decode b_B_valueOf 1 = .ok (.getfield 12, 3) := by decide +kernel
theorem d_B_valueOf_4 : decode b_B_valueOf 4 = .ok (.iload_n 1, 1) := by decide +kernel
theorem d_B_valueOf_5 : decode b_B_valueOf 5 = .ok (.aload_n 0, 1) := by decide +kernel
theorem d_B_valueOf_6 : decode b_B_valueOf 6 = .ok (.getfield 19, 3) := by decide +kernel
theorem d_B_valueOf_9 : decode b_B_valueOf 9 = .ok (.iload_n 2, 1) := by decide +kernel
theorem d_B_valueOf_10 : decode b_B_valueOf 10 = .ok (.invokevirtual 96, 3) := by decide +kernel
theorem d_B_valueOf_13 : decode b_B_valueOf 13 = .ok (.invokevirtual 107, 3) := by decide +kernel
theorem d_B_valueOf_16 : decode b_B_valueOf 16 = .ok (.ireturn, 1) := by decide +kernel
theorem d_B_least_0 : decode b_B_least 0 = .ok (.sipush 1023, 3) := by decide +kernel
theorem d_B_least_3 : decode b_B_least 3 = .ok (.istore_n 3, 1) := by decide +kernel
theorem d_B_least_4 : decode b_B_least 4 = .ok (.iconst 0, 1) := by decide +kernel
theorem d_B_least_5 : decode b_B_least 5 = .ok (.istore 4, 2) := by decide +kernel
theorem d_B_least_7 : decode b_B_least 7 = .ok (.iload 4, 2) := by decide +kernel
theorem d_B_least_9 : decode b_B_least 9 = .ok (.bipush 32, 2) := by decide +kernel
theorem d_B_least_11 : decode b_B_least 11 = .ok (.if_icmp .ge 30, 3) := by decide +kernel
theorem d_B_least_14 : decode b_B_least 14 = .ok (.iload_n 2, 1) := by decide +kernel
theorem d_B_least_15 : decode b_B_least 15 = .ok (.iload 4, 2) := by decide +kernel
theorem d_B_least_17 : decode b_B_least 17 = .ok (.invokestatic 133, 3) := by decide +kernel
theorem d_B_least_20 : decode b_B_least 20 = .ok (.ifCond .eq 15, 3) := by decide +kernel
theorem d_B_least_23 : decode b_B_least 23 = .ok (.iload_n 3, 1) := by decide +kernel
theorem d_B_least_24 : decode b_B_least 24 = .ok (.aload_n 0, 1) := by decide +kernel
theorem d_B_least_25 : decode b_B_least 25 = .ok (.iload_n 1, 1) := by decide +kernel
theorem d_B_least_26 : decode b_B_least 26 = .ok (.iload 4, 2) := by decide +kernel
theorem d_B_least_28 : decode b_B_least 28 = .ok (.invokevirtual 210, 3) := by decide +kernel
theorem d_B_least_31 : decode b_B_least 31 = .ok (.invokestatic 218, 3) := by decide +kernel
theorem d_B_least_34 : decode b_B_least 34 = .ok (.istore_n 3, 1) := by decide +kernel
theorem d_B_least_35 : decode b_B_least 35 = .ok (.iinc 4 1, 3) := by decide +kernel
theorem d_B_least_38 : decode b_B_least 38 = .ok (.goto (-31), 3) := by decide +kernel
theorem d_B_least_41 : decode b_B_least 41 = .ok (.iload_n 3, 1) := by decide +kernel
theorem d_B_least_42 : decode b_B_least 42 = .ok (.ireturn, 1) := by decide +kernel
theorem d_B_total_0 : decode b_B_total 0 = .ok (.iconst 0, 1) := by decide +kernel
theorem d_B_total_1 : decode b_B_total 1 = .ok (.istore_n 3, 1) := by decide +kernel
theorem d_B_total_2 : decode b_B_total 2 = .ok (.iconst 0, 1) := by decide +kernel
theorem d_B_total_3 : decode b_B_total 3 = .ok (.istore 4, 2) := by decide +kernel
theorem d_B_total_5 : decode b_B_total 5 = .ok (.iload 4, 2) := by decide +kernel
theorem d_B_total_7 : decode b_B_total 7 = .ok (.bipush 32, 2) := by decide +kernel
theorem d_B_total_9 : decode b_B_total 9 = .ok (.if_icmp .ge 28, 3) := by decide +kernel
theorem d_B_total_12 : decode b_B_total 12 = .ok (.iload_n 2, 1) := by decide +kernel
theorem d_B_total_13 : decode b_B_total 13 = .ok (.iload 4, 2) := by decide +kernel
theorem d_B_total_15 : decode b_B_total 15 = .ok (.invokestatic 133, 3) := by decide +kernel
theorem d_B_total_18 : decode b_B_total 18 = .ok (.ifCond .eq 13, 3) := by decide +kernel
theorem d_B_total_21 : decode b_B_total 21 = .ok (.iload_n 3, 1) := by decide +kernel
theorem d_B_total_22 : decode b_B_total 22 = .ok (.aload_n 0, 1) := by decide +kernel
theorem d_B_total_23 : decode b_B_total 23 = .ok (.iload_n 1, 1) := by decide +kernel
theorem d_B_total_24 : decode b_B_total 24 = .ok (.iload 4, 2) := by decide +kernel
theorem d_B_total_26 : decode b_B_total 26 = .ok (.invokevirtual 210, 3) := by decide +kernel
theorem d_B_total_29 : decode b_B_total 29 = .ok (.iadd, 1) := by decide +kernel
theorem d_B_total_30 : decode b_B_total 30 = .ok (.istore_n 3, 1) := by decide +kernel
theorem d_B_total_31 : decode b_B_total 31 = .ok (.iinc 4 1, 3) := by decide +kernel
theorem d_B_total_34 : decode b_B_total 34 = .ok (.goto (-29), 3) := by decide +kernel
theorem d_B_total_37 : decode b_B_total 37 = .ok (.iload_n 3, 1) := by decide +kernel
theorem d_B_total_38 : decode b_B_total 38 = .ok (.ireturn, 1) := by decide +kernel
theorem d_B_listAll_0 : decode b_B_listAll 0 = .ok (.aload_n 0, 1) := by decide +kernel
theorem d_B_listAll_1 : decode b_B_listAll 1 = .ok (.iconst 0, 1) := by decide +kernel
theorem d_B_listAll_2 : decode b_B_listAll 2 = .ok (.putfield 169, 3) := by decide +kernel
theorem d_B_listAll_5 : decode b_B_listAll 5 = .ok (.iconst 0, 1) := by decide +kernel
theorem d_B_listAll_6 : decode b_B_listAll 6 = .ok (.istore_n 3, 1) := by decide +kernel
theorem d_B_listAll_7 : decode b_B_listAll 7 = .ok (.iload_n 3, 1) := by decide +kernel
theorem d_B_listAll_8 : decode b_B_listAll 8 = .ok (.bipush 32, 2) := by decide +kernel
theorem d_B_listAll_10 : decode b_B_listAll 10 = .ok (.if_icmp .ge 23, 3) := by decide +kernel
theorem d_B_listAll_13 : decode b_B_listAll 13 = .ok (.iload_n 2, 1) := by decide +kernel
theorem d_B_listAll_14 : decode b_B_listAll 14 = .ok (.iload_n 3, 1) := by decide +kernel
theorem d_B_listAll_15 : decode b_B_listAll 15 = .ok (.invokestatic 133, 3) := by decide +kernel
theorem d_B_listAll_18 : decode b_B_listAll 18 = .ok (.ifCond .eq 9, 3) := by decide +kernel
theorem d_B_listAll_21 : decode b_B_listAll 21 = .ok (.aload_n 0, 1) := by decide +kernel
theorem d_B_listAll_22 : decode b_B_listAll 22 = .ok (.iload_n 3, 1) := by decide +kernel
theorem d_B_listAll_23 : decode b_B_listAll 23 = .ok (.iload_n 1, 1) := by decide +kernel
theorem d_B_listAll_24 : decode b_B_listAll 24 = .ok (.invokevirtual 221, 3) := by decide +kernel
theorem d_B_listAll_27 : decode b_B_listAll 27 = .ok (.iinc 3 1, 3) := by decide +kernel
theorem d_B_listAll_30 : decode b_B_listAll 30 = .ok (.goto (-23), 3) := by decide +kernel
theorem d_B_listAll_33 : decode b_B_listAll 33 = .ok (.aload_n 0, 1) := by decide +kernel
theorem d_B_listAll_34 : decode b_B_listAll 34 = .ok (.getfield 169, 3) := by decide +kernel
theorem d_B_listAll_37 : decode b_B_listAll 37 = .ok (.ireturn, 1) := by decide +kernel
theorem d_B_sortIn_0 : decode b_B_sortIn 0 = .ok (.aload_n 0, 1) := by decide +kernel
theorem d_B_sortIn_1 : decode b_B_sortIn 1 = .ok (.iload_n 2, 1) := by decide +kernel
theorem d_B_sortIn_2 : decode b_B_sortIn 2 = .ok (.iload_n 1, 1) := by decide +kernel
theorem d_B_sortIn_3 : decode b_B_sortIn 3 = .ok (.invokevirtual 210, 3) := by decide +kernel
theorem d_B_sortIn_6 : decode b_B_sortIn 6 = .ok (.istore_n 3, 1) := by decide +kernel
theorem d_B_sortIn_7 : decode b_B_sortIn 7 = .ok (.aload_n 0, 1) := by decide +kernel
theorem d_B_sortIn_8 : decode b_B_sortIn 8 = .ok (.getfield 169, 3) := by decide +kernel
theorem d_B_sortIn_11 : decode b_B_sortIn 11 = .ok (.istore 4, 2) := by decide +kernel
theorem d_B_sortIn_13 : decode b_B_sortIn 13 = .ok (.iload 4, 2) := by decide +kernel
theorem d_B_sortIn_15 : decode b_B_sortIn 15 = .ok (.ifCond .le 43, 3) := by decide +kernel
theorem d_B_sortIn_18 : decode b_B_sortIn 18 = .ok (.aload_n 0, 1) := by decide +kernel
theorem d_B_sortIn_19 : decode b_B_sortIn 19 = .ok (.iload_n 2, 1) := by decide +kernel
theorem d_B_sortIn_20 : decode b_B_sortIn 20 = .ok (.aload_n 0, 1) := by decide +kernel
theorem d_B_sortIn_21 : decode b_B_sortIn 21 = .ok (.getfield 39, 3) := by decide +kernel
theorem d_B_sortIn_24 : decode b_B_sortIn 24 = .ok (.iload 4, 2) := by decide +kernel
theorem d_B_sortIn_26 : decode b_B_sortIn 26 = .ok (.iconst 1, 1) := by decide +kernel
theorem d_B_sortIn_27 : decode b_B_sortIn 27 = .ok (.isub, 1) := by decide +kernel
theorem d_B_sortIn_28 : decode b_B_sortIn 28 = .ok (.iaload, 1) := by decide +kernel
theorem d_B_sortIn_29 : decode b_B_sortIn 29 = .ok (.invokevirtual 210, 3) := by decide +kernel
theorem d_B_sortIn_32 : decode b_B_sortIn 32 = .ok (.iload_n 3, 1) := by decide +kernel
theorem d_B_sortIn_33 : decode b_B_sortIn 33 = .ok (.if_icmp .le 25, 3) := by decide +kernel
theorem d_B_sortIn_36 : decode b_B_sortIn 36 = .ok (.aload_n 0, 1) := by decide +kernel
theorem d_B_sortIn_37 : decode b_B_sortIn 37 = .ok (.getfield 39, 3) := by decide +kernel
theorem d_B_sortIn_40 : decode b_B_sortIn 40 = .ok (.iload 4, 2) := by decide +kernel
theorem d_B_sortIn_42 : decode b_B_sortIn 42 = .ok (.aload_n 0, 1) := by decide +kernel
theorem d_B_sortIn_43 : decode b_B_sortIn 43 = .ok (.getfield 39, 3) := by decide +kernel
theorem d_B_sortIn_46 : decode b_B_sortIn 46 = .ok (.iload 4, 2) := by decide +kernel
theorem d_B_sortIn_48 : decode b_B_sortIn 48 = .ok (.iconst 1, 1) := by decide +kernel
theorem d_B_sortIn_49 : decode b_B_sortIn 49 = .ok (.isub, 1) := by decide +kernel
theorem d_B_sortIn_50 : decode b_B_sortIn 50 = .ok (.iaload, 1) := by decide +kernel
theorem d_B_sortIn_51 : decode b_B_sortIn 51 = .ok (.iastore, 1) := by decide +kernel
theorem d_B_sortIn_52 : decode b_B_sortIn 52 = .ok (.iinc 4 (-1), 3) := by decide +kernel
theorem d_B_sortIn_55 : decode b_B_sortIn 55 = .ok (.goto (-42), 3) := by decide +kernel
theorem d_B_sortIn_58 : decode b_B_sortIn 58 = .ok (.aload_n 0, 1) := by decide +kernel
theorem d_B_sortIn_59 : decode b_B_sortIn 59 = .ok (.getfield 39, 3) := by decide +kernel
theorem d_B_sortIn_62 : decode b_B_sortIn 62 = .ok (.iload 4, 2) := by decide +kernel
theorem d_B_sortIn_64 : decode b_B_sortIn 64 = .ok (.iload_n 1, 1) := by decide +kernel
theorem d_B_sortIn_65 : decode b_B_sortIn 65 = .ok (.iastore, 1) := by decide +kernel
theorem d_B_sortIn_66 : decode b_B_sortIn 66 = .ok (.aload_n 0, 1) := by decide +kernel
theorem d_B_sortIn_67 : decode b_B_sortIn 67 = .ok (.dup, 1) := by decide +kernel
theorem d_B_sortIn_68 : decode b_B_sortIn 68 = .ok (.getfield 169, 3) := by decide +kernel
theorem d_B_sortIn_71 : decode b_B_sortIn 71 = .ok (.iconst 1, 1) := by decide +kernel
theorem d_B_sortIn_72 : decode b_B_sortIn 72 = .ok (.iadd, 1) := by decide +kernel
theorem d_B_sortIn_73 : decode b_B_sortIn 73 = .ok (.putfield 169, 3) := by decide +kernel
theorem d_B_sortIn_76 : decode b_B_sortIn 76 = .ok (.return_, 1) := by decide +kernel
theorem d_B_listed_0 : decode b_B_listed 0 = .ok (.iload_n 1, 1) := by decide +kernel
theorem d_B_listed_1 : decode b_B_listed 1 = .ok (.ifCond .lt 11, 3) := by decide +kernel
theorem d_B_listed_4 : decode b_B_listed 4 = .ok (.iload_n 1, 1) := by decide +kernel
theorem d_B_listed_5 : decode b_B_listed 5 = .ok (.aload_n 0, 1) := by decide +kernel
theorem d_B_listed_6 : decode b_B_listed 6 = .ok (.getfield 169, 3) := by decide +kernel
theorem d_B_listed_9 : decode b_B_listed 9 = .ok (.if_icmp .lt 11, 3) := by decide +kernel
theorem d_B_listed_12 : decode b_B_listed 12 = .ok (.new 172, 3) := by decide +kernel
theorem d_B_listed_15 : decode b_B_listed 15 = .ok (.dup, 1) := by decide +kernel
theorem d_B_listed_16 : decode b_B_listed 16 = .ok (.invokespecial 174, 3) := by decide +kernel
theorem d_B_listed_19 : decode b_B_listed 19 = .ok (.athrow, 1) := by decide +kernel
theorem d_B_listed_20 : decode b_B_listed 20 = .ok (.aload_n 0, 1) := by decide +kernel
theorem d_B_listed_21 : decode b_B_listed 21 = .ok (.getfield 39, 3) := by decide +kernel
theorem d_B_listed_24 : decode b_B_listed 24 = .ok (.iload_n 1, 1) := by decide +kernel
theorem d_B_listed_25 : decode b_B_listed 25 = .ok (.iaload, 1) := by decide +kernel
theorem d_B_listed_26 : decode b_B_listed 26 = .ok (.ireturn, 1) := by decide +kernel
