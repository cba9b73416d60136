theorem d_JInteger_bitCount_0 : decode b_JInteger_bitCount 0 = .ok (.iload_n 0, 1) := by decide +kernel
theorem d_JInteger_bitCount_1 : decode b_JInteger_bitCount 1 = .ok (.iload_n 0, 1) := by decide +kernel
theorem d_JInteger_bitCount_2 : decode b_JInteger_bitCount 2 = .ok (.iconst 1, 1) := by decide +kernel
theorem d_JInteger_bitCount_3 : decode b_JInteger_bitCount 3 = .ok (.iushr, 1) := by decide +kernel
theorem d_JInteger_bitCount_4 : decode b_JInteger_bitCount 4 = .ok (.ldc_w 265, 3) := by decide +kernel
theorem d_JInteger_bitCount_7 : decode b_JInteger_bitCount 7 = .ok (.iand, 1) := by decide +kernel
theorem d_JInteger_bitCount_8 : decode b_JInteger_bitCount 8 = .ok (.isub, 1) := by decide +kernel
theorem d_JInteger_bitCount_9 : decode b_JInteger_bitCount 9 = .ok (.istore_n 0, 1) := by decide +kernel
theorem d_JInteger_bitCount_10 : decode b_JInteger_bitCount 10 = .ok (.iload_n 0, 1) := by decide +kernel
theorem d_JInteger_bitCount_11 : decode b_JInteger_bitCount 11 = .ok (.ldc_w 266, 3) := by decide +kernel
theorem d_JInteger_bitCount_14 : decode b_JInteger_bitCount 14 = .ok (.iand, 1) := by decide +kernel
theorem d_JInteger_bitCount_15 : decode b_JInteger_bitCount 15 = .ok (.iload_n 0, 1) := by decide +kernel
theorem d_JInteger_bitCount_16 : decode b_JInteger_bitCount 16 = .ok (.iconst 2, 1) := by decide +kernel
theorem d_JInteger_bitCount_17 : decode b_JInteger_bitCount 17 = .ok (.iushr, 1) := by decide +kernel
theorem d_JInteger_bitCount_18 : decode b_JInteger_bitCount 18 = .ok (.ldc_w 266, 3) := by decide +kernel
theorem d_JInteger_bitCount_21 : decode b_JInteger_bitCount 21 = .ok (.iand, 1) := by decide +kernel
theorem d_JInteger_bitCount_22 : decode b_JInteger_bitCount 22 = .ok (.iadd, 1) := by decide +kernel
theorem d_JInteger_bitCount_23 : decode b_JInteger_bitCount 23 = .ok (.istore_n 0, 1) := by decide +kernel
theorem d_JInteger_bitCount_24 : decode b_JInteger_bitCount 24 = .ok (.iload_n 0, 1) := by decide +kernel
theorem d_JInteger_bitCount_25 : decode b_JInteger_bitCount 25 = .ok (.iload_n 0, 1) := by decide +kernel
theorem d_JInteger_bitCount_26 : decode b_JInteger_bitCount 26 = .ok (.iconst 4, 1) := by decide +kernel
theorem d_JInteger_bitCount_27 : decode b_JInteger_bitCount 27 = .ok (.iushr, 1) := by decide +kernel
theorem d_JInteger_bitCount_28 : decode b_JInteger_bitCount 28 = .ok (.iadd, 1) := by decide +kernel
theorem d_JInteger_bitCount_29 : decode b_JInteger_bitCount 29 = .ok (.ldc_w 267, 3) := by decide +kernel
theorem d_JInteger_bitCount_32 : decode b_JInteger_bitCount 32 = .ok (.iand, 1) := by decide +kernel
theorem d_JInteger_bitCount_33 : decode b_JInteger_bitCount 33 = .ok (.istore_n 0, 1) := by decide +kernel
theorem d_JInteger_bitCount_34 : decode b_JInteger_bitCount 34 = .ok (.iload_n 0, 1) := by decide +kernel
theorem d_JInteger_bitCount_35 : decode b_JInteger_bitCount 35 = .ok (.iload_n 0, 1) := by decide +kernel
theorem d_JInteger_bitCount_36 : decode b_JInteger_bitCount 36 = .ok (.bipush 8, 2) := by decide +kernel
theorem d_JInteger_bitCount_38 : decode b_JInteger_bitCount 38 = .ok (.iushr, 1) := by decide +kernel
theorem d_JInteger_bitCount_39 : decode b_JInteger_bitCount 39 = .ok (.iadd, 1) := by decide +kernel
theorem d_JInteger_bitCount_40 : decode b_JInteger_bitCount 40 = .ok (.istore_n 0, 1) := by decide +kernel
theorem d_JInteger_bitCount_41 : decode b_JInteger_bitCount 41 = .ok (.iload_n 0, 1) := by decide +kernel
theorem d_JInteger_bitCount_42 : decode b_JInteger_bitCount 42 = .ok (.iload_n 0, 1) := by decide +kernel
theorem d_JInteger_bitCount_43 : decode b_JInteger_bitCount 43 = .ok (.bipush 16, 2) := by decide +kernel
theorem d_JInteger_bitCount_45 : decode b_JInteger_bitCount 45 = .ok (.iushr, 1) := by decide +kernel
theorem d_JInteger_bitCount_46 : decode b_JInteger_bitCount 46 = .ok (.iadd, 1) := by decide +kernel
theorem d_JInteger_bitCount_47 : decode b_JInteger_bitCount 47 = .ok (.istore_n 0, 1) := by decide +kernel
theorem d_JInteger_bitCount_48 : decode b_JInteger_bitCount 48 = .ok (.iload_n 0, 1) := by decide +kernel
theorem d_JInteger_bitCount_49 : decode b_JInteger_bitCount 49 = .ok (.bipush 63, 2) := by decide +kernel
theorem d_JInteger_bitCount_51 : decode b_JInteger_bitCount 51 = .ok (.iand, 1) := by decide +kernel
theorem d_JInteger_bitCount_52 : decode b_JInteger_bitCount 52 = .ok (.ireturn, 1) := by decide +kernel
theorem d_JString_indexOf0_0 : decode b_JString_indexOf0 0 = .ok (.aload_n 0, 1) := by decide +kernel
theorem d_JString_indexOf0_1 : decode b_JString_indexOf0 1 = .ok (.iload_n 1, 1) := by decide +kernel
theorem d_JString_indexOf0_2 : decode b_JString_indexOf0 2 = .ok (.iconst 0, 1) := by decide +kernel
theorem d_JString_indexOf0_3 : decode b_JString_indexOf0 3 = .ok (.invokevirtual 633, 3) := by decide +kernel
theorem d_JString_indexOf0_6 : decode b_JString_indexOf0 6 = .ok (.ireturn, 1) := by decide +kernel
theorem d_JString_indexOf1_0 : decode b_JString_indexOf1 0 = .ok (.aload_n 0, 1) := by decide +kernel
theorem d_JString_indexOf1_1 : decode b_JString_indexOf1 1 = .ok (.invokevirtual 492, 3) := by decide +kernel
theorem d_JString_indexOf1_4 : decode b_JString_indexOf1 4 = .ok (.ifCond .eq 19, 3) := by decide +kernel
theorem d_JString_indexOf1_7 : decode b_JString_indexOf1 7 = .ok (.aload_n 0, 1) := by decide +kernel
theorem d_JString_indexOf1_8 : decode b_JString_indexOf1 8 = .ok (.getfield 9, 3) := by decide +kernel
theorem d_JString_indexOf1_11 : decode b_JString_indexOf1 11 = .ok (.iload_n 1, 1) := by decide +kernel
theorem d_JString_indexOf1_12 : decode b_JString_indexOf1 12 = .ok (.iload_n 2, 1) := by decide +kernel
theorem d_JString_indexOf1_13 : decode b_JString_indexOf1 13 = .ok (.aload_n 0, 1) := by decide +kernel
theorem d_JString_indexOf1_14 : decode b_JString_indexOf1 14 = .ok (.invokevirtual 505, 3) := by decide +kernel
theorem d_JString_indexOf1_17 : decode b_JString_indexOf1 17 = .ok (.invokestatic 637, 3) := by decide +kernel
theorem d_JString_indexOf1_20 : decode b_JString_indexOf1 20 = .ok (.goto 16, 3) := by decide +kernel
theorem d_JString_indexOf1_23 : decode b_JString_indexOf1 23 = .ok (.aload_n 0, 1) := by decide +kernel
theorem d_JString_indexOf1_24 : decode b_JString_indexOf1 24 = .ok (.getfield 9, 3) := by decide +kernel
theorem d_JString_indexOf1_27 : decode b_JString_indexOf1 27 = .ok (.iload_n 1, 1) := by decide +kernel
theorem d_JString_indexOf1_28 : decode b_JString_indexOf1 28 = .ok (.iload_n 2, 1) := by decide +kernel
theorem d_JString_indexOf1_29 : decode b_JString_indexOf1 29 = .ok (.aload_n 0, 1) := by decide +kernel
theorem d_JString_indexOf1_30 : decode b_JString_indexOf1 30 = .ok (.invokevirtual 505, 3) := by decide +kernel
theorem d_JString_indexOf1_33 : decode b_JString_indexOf1 33 = .ok (.invokestatic 640, 3) := by decide +kernel
theorem d_JString_indexOf1_36 : decode b_JString_indexOf1 36 = .ok (.ireturn, 1) := by decide +kernel
theorem d_JString_isLatin1_0 : decode b_JString_isLatin1 0 = .ok (.getstatic 38, 3) := by decide +kernel
theorem d_JString_isLatin1_3 : decode b_JString_isLatin1 3 = .ok (.ifCond .eq 14, 3) := by decide +kernel
theorem d_JString_isLatin1_6 : decode b_JString_isLatin1 6 = .ok (.aload_n 0, 1) := by decide +kernel
theorem d_JString_isLatin1_7 : decode b_JString_isLatin1 7 = .ok (.getfield 15, 3) := by decide +kernel
theorem d_JString_isLatin1_10 : decode b_JString_isLatin1 10 = .ok (.ifCond .ne 7, 3) := by decide +kernel
theorem d_JString_isLatin1_13 : decode b_JString_isLatin1 13 = .ok (.iconst 1, 1) := by decide +kernel
theorem d_JString_isLatin1_14 : decode b_JString_isLatin1 14 = .ok (.goto 4, 3) := by decide +kernel
theorem d_JString_isLatin1_17 : decode b_JString_isLatin1 17 = .ok (.iconst 0, 1) := by decide +kernel
theorem d_JString_isLatin1_18 : decode b_JString_isLatin1 18 = .ok (.ireturn, 1) := by decide +kernel
theorem d_JString_length_0 : decode b_JString_length 0 = .ok (.aload_n 0, 1) := by decide +kernel
theorem d_JString_length_1 : decode b_JString_length 1 = .ok (.getfield 9, 3) := by decide +kernel
theorem d_JString_length_4 : decode b_JString_length 4 = .ok (.arraylength, 1) := by decide +kernel
theorem d_JString_length_5 : decode b_JString_length 5 = .ok (.aload_n 0, 1) := by decide +kernel
theorem d_JString_length_6 : decode b_JString_length 6 = .ok (.invokevirtual 335, 3) := by decide +kernel
theorem d_JString_length_9 : decode b_JString_length 9 = .ok (.ishr, 1) := by decide +kernel
theorem d_JString_length_10 : decode b_JString_length 10 = .ok (.ireturn, 1) := by decide +kernel
theorem d_JString_coder_0 : decode b_JString_coder 0 = .ok (.getstatic 38, 3) := by decide +kernel
theorem d_JString_coder_3 : decode b_JString_coder 3 = .ok (.ifCond .eq 10, 3) := by decide +kernel
theorem d_JString_coder_6 : decode b_JString_coder 6 = .ok (.aload_n 0, 1) := by decide +kernel
theorem d_JString_coder_7 : decode b_JString_coder 7 = .ok (.getfield 15, 3) := by decide +kernel
theorem d_JString_coder_10 : decode b_JString_coder 10 = .ok (.goto 4, 3) := by decide +kernel
theorem d_JString_coder_13 : decode b_JString_coder 13 = .ok (.iconst 1, 1) := by decide +kernel
theorem d_JString_coder_14 : decode b_JString_coder 14 = .ok (.ireturn, 1) := by decide +kernel
theorem d_JStringLatin1_indexOf_0 : decode b_JStringLatin1_indexOf 0 = .ok (.iload_n 1, 1) := by decide +kernel
theorem d_JStringLatin1_indexOf_1 : decode b_JStringLatin1_indexOf 1 = .ok (.invokestatic 88, 3) := by decide +kernel
theorem d_JStringLatin1_indexOf_4 : decode b_JStringLatin1_indexOf 4 = .ok (.ifCond .ne 5, 3) := by decide +kernel
theorem d_JStringLatin1_indexOf_7 : decode b_JStringLatin1_indexOf 7 = .ok (.iconst (-1), 1) := by decide +kernel
theorem d_JStringLatin1_indexOf_8 : decode b_JStringLatin1_indexOf 8 = .ok (.ireturn, 1) := by decide +kernel
theorem d_JStringLatin1_indexOf_9 : decode b_JStringLatin1_indexOf 9 = .ok (.iload_n 2, 1) := by decide +kernel
theorem d_JStringLatin1_indexOf_10 : decode b_JStringLatin1_indexOf 10 = .ok (.iconst 0, 1) := by decide +kernel
theorem d_JStringLatin1_indexOf_11 : decode b_JStringLatin1_indexOf 11 = .ok (.invokestatic 92, 3) := by decide +kernel
theorem d_JStringLatin1_indexOf_14 : decode b_JStringLatin1_indexOf 14 = .ok (.istore_n 2, 1) := by decide +kernel
theorem d_JStringLatin1_indexOf_15 : decode b_JStringLatin1_indexOf 15 = .ok (.iload_n 3, 1) := by decide +kernel
theorem d_JStringLatin1_indexOf_16 : decode b_JStringLatin1_indexOf 16 = .ok (.aload_n 0, 1) := by decide +kernel
theorem d_JStringLatin1_indexOf_17 : decode b_JStringLatin1_indexOf 17 = .ok (.arraylength, 1) := by decide +kernel
theorem d_JStringLatin1_indexOf_18 : decode b_JStringLatin1_indexOf 18 = .ok (.invokestatic 38, 3) := by decide +kernel
theorem d_JStringLatin1_indexOf_21 : decode b_JStringLatin1_indexOf 21 = .ok (.istore_n 3, 1) := by decide +kernel
theorem d_JStringLatin1_indexOf_22 : decode b_JStringLatin1_indexOf 22 = .ok (.iload_n 2, 1) := by decide +kernel
theorem d_JStringLatin1_indexOf_23 : decode b_JStringLatin1_indexOf 23 = .ok (.iload_n 3, 1) := by decide +kernel
theorem d_JStringLatin1_indexOf_24 : decode b_JStringLatin1_indexOf 24 = .ok (.if_icmp .lt 5, 3) := by decide +kernel
theorem d_JStringLatin1_indexOf_27 : decode b_JStringLatin1_indexOf 27 = .ok (.iconst (-1), 1) := by decide +kernel
theorem d_JStringLatin1_indexOf_28 : decode b_JStringLatin1_indexOf 28 = .ok (.ireturn, 1) := by decide +kernel
theorem d_JStringLatin1_indexOf_29 : decode b_JStringLatin1_indexOf 29 = .ok (.aload_n 0, 1) := by decide +kernel
theorem d_JStringLatin1_indexOf_30 : decode b_JStringLatin1_indexOf 30 = .ok (.iload_n 1, 1) := by decide +kernel
theorem d_JStringLatin1_indexOf_31 : decode b_JStringLatin1_indexOf 31 = .ok (.iload_n 2, 1) := by decide +kernel
theorem d_JStringLatin1_indexOf_32 : decode b_JStringLatin1_indexOf 32 = .ok (.iload_n 3, 1) := by decide +kernel
theorem d_JStringLatin1_indexOf_33 : decode b_JStringLatin1_indexOf 33 = .ok (.invokestatic 95, 3) := by decide +kernel
theorem d_JStringLatin1_indexOf_36 : decode b_JStringLatin1_indexOf 36 = .ok (.ireturn, 1) := by decide +kernel
theorem d_JStringLatin1_canEncode_0 : decode b_JStringLatin1_canEncode 0 = .ok (.iload_n 0, 1) := by decide +kernel
theorem d_JStringLatin1_canEncode_1 : decode b_JStringLatin1_canEncode 1 = .ok (.ifCond .lt 14, 3) := by decide +kernel
theorem d_JStringLatin1_canEncode_4 : decode b_JStringLatin1_canEncode 4 = .ok (.iload_n 0, 1) := by decide +kernel
theorem d_JStringLatin1_canEncode_5 : decode b_JStringLatin1_canEncode 5 = .ok (.sipush 255, 3) := by decide +kernel
theorem d_JStringLatin1_canEncode_8 : decode b_JStringLatin1_canEncode 8 = .ok (.if_icmp .gt 7, 3) := by decide +kernel
theorem d_JStringLatin1_canEncode_11 : decode b_JStringLatin1_canEncode 11 = .ok (.iconst 1, 1) := by decide +kernel
theorem d_JStringLatin1_canEncode_12 : decode b_JStringLatin1_canEncode 12 = .ok (.goto 4, 3) := by decide +kernel
theorem d_JStringLatin1_canEncode_15 : decode b_JStringLatin1_canEncode 15 = .ok (.iconst 0, 1) := by decide +kernel
theorem d_JStringLatin1_canEncode_16 : decode b_JStringLatin1_canEncode 16 = .ok (.ireturn, 1) := by decide +kernel
theorem d_JMath_max_0 : decode b_JMath_max 0 = .ok (.iload_n 0, 1) := by decide +kernel
theorem d_JMath_max_1 : decode b_JMath_max 1 = .ok (.iload_n 1, 1) := by decide +kernel
theorem d_JMath_max_2 : decode b_JMath_max 2 = .ok (.if_icmp .lt 7, 3) := by decide +kernel
theorem d_JMath_max_5 : decode b_JMath_max 5 = .ok (.iload_n 0, 1) := by decide +kernel
theorem d_JMath_max_6 : decode b_JMath_max 6 = .ok (.goto 4, 3) := by decide +kernel
theorem d_JMath_max_9 : decode b_JMath_max 9 = .ok (.iload_n 1, 1) := by decide +kernel
theorem d_JMath_max_10 : decode b_JMath_max 10 = .ok (.ireturn, 1) := by decide +kernel
theorem d_JMath_min_0 : decode b_JMath_min 0 = .ok (.iload_n 0, 1) := by decide +kernel
theorem d_JMath_min_1 : decode b_JMath_min 1 = .ok (.iload_n 1, 1) := by decide +kernel
theorem d_JMath_min_2 : decode b_JMath_min 2 = .ok (.if_icmp .gt 7, 3) := by decide +kernel
theorem d_JMath_min_5 : decode b_JMath_min 5 = .ok (.iload_n 0, 1) := by decide +kernel
theorem d_JMath_min_6 : decode b_JMath_min 6 = .ok (.goto 4, 3) := by decide +kernel
theorem d_JMath_min_9 : decode b_JMath_min 9 = .ok (.iload_n 1, 1) := by decide +kernel
theorem d_JMath_min_10 : decode b_JMath_min 10 = .ok (.ireturn, 1) := by decide +kernel
theorem d_JStringLatin1_indexOfChar_0 : decode b_JStringLatin1_indexOfChar 0 = .ok (.iload_n 1, 1) := by decide +kernel
theorem d_JStringLatin1_indexOfChar_1 : decode b_JStringLatin1_indexOfChar 1 = .ok (.i2b, 1) := by decide +kernel
theorem d_JStringLatin1_indexOfChar_2 : decode b_JStringLatin1_indexOfChar 2 = .ok (.istore 4, 2) := by decide +kernel
theorem d_JStringLatin1_indexOfChar_4 : decode b_JStringLatin1_indexOfChar 4 = .ok (.iload_n 2, 1) := by decide +kernel
theorem d_JStringLatin1_indexOfChar_5 : decode b_JStringLatin1_indexOfChar 5 = .ok (.istore 5, 2) := by decide +kernel
theorem d_JStringLatin1_indexOfChar_7 : decode b_JStringLatin1_indexOfChar 7 = .ok (.iload 5, 2) := by decide +kernel
theorem d_JStringLatin1_indexOfChar_9 : decode b_JStringLatin1_indexOfChar 9 = .ok (.iload_n 3, 1) := by decide +kernel
theorem d_JStringLatin1_indexOfChar_10 : decode b_JStringLatin1_indexOfChar 10 = .ok (.if_icmp .ge 21, 3) := by decide +kernel
theorem d_JStringLatin1_indexOfChar_13 : decode b_JStringLatin1_indexOfChar 13 = .ok (.aload_n 0, 1) := by decide +kernel
theorem d_JStringLatin1_indexOfChar_14 : decode b_JStringLatin1_indexOfChar 14 = .ok (.iload 5, 2) := by decide +kernel
theorem d_JStringLatin1_indexOfChar_16 : decode b_JStringLatin1_indexOfChar 16 = .ok (.baload, 1) := by decide +kernel
theorem d_JStringLatin1_indexOfChar_17 : decode b_JStringLatin1_indexOfChar 17 = .ok (.iload 4, 2) := by decide +kernel
theorem d_JStringLatin1_indexOfChar_19 : decode b_JStringLatin1_indexOfChar 19 = .ok (.if_icmp .ne 6, 3) := by decide +kernel
theorem d_JStringLatin1_indexOfChar_22 : decode b_JStringLatin1_indexOfChar 22 = .ok (.iload 5, 2) := by decide +kernel
theorem d_JStringLatin1_indexOfChar_24 : decode b_JStringLatin1_indexOfChar 24 = .ok (.ireturn, 1) := by decide +kernel
theorem d_JStringLatin1_indexOfChar_25 : decode b_JStringLatin1_indexOfChar 25 = .ok (.iinc 5 1, 3) := by decide +kernel
theorem d_JStringLatin1_indexOfChar_28 : decode b_JStringLatin1_indexOfChar 28 = .ok (.goto (-21), 3) := by decide +kernel
theorem d_JStringLatin1_indexOfChar_31 : decode b_JStringLatin1_indexOfChar 31 = .ok (.iconst (-1), 1) := by decide +kernel
theorem d_JStringLatin1_indexOfChar_32 : decode b_JStringLatin1_indexOfChar 32 = .ok (.ireturn, 1) := by decide +kernel
theorem d_JString_charAt_0 : decode b_JString_charAt 0 = .ok (.aload_n 0, 1) := by decide +kernel
theorem d_JString_charAt_1 : decode b_JString_charAt 1 = .ok (.invokevirtual 492, 3) := by decide +kernel
theorem d_JString_charAt_4 : decode b_JString_charAt 4 = .ok (.ifCond .eq 12, 3) := by decide +kernel
theorem d_JString_charAt_7 : decode b_JString_charAt 7 = .ok (.aload_n 0, 1) := by decide +kernel
theorem d_JString_charAt_8 : decode b_JString_charAt 8 = .ok (.getfield 9, 3) := by decide +kernel
theorem d_JString_charAt_11 : decode b_JString_charAt 11 = .ok (.iload_n 1, 1) := by decide +kernel
theorem d_JString_charAt_12 : decode b_JString_charAt 12 = .ok (.invokestatic 495, 3) := by decide +kernel
theorem d_JString_charAt_15 : decode b_JString_charAt 15 = .ok (.ireturn, 1) := by decide +kernel
theorem d_JString_charAt_16 : decode b_JString_charAt 16 = .ok (.aload_n 0, 1) := by decide +kernel
theorem d_JString_charAt_17 : decode b_JString_charAt 17 = .ok (.getfield 9, 3) := by decide +kernel
theorem d_JString_charAt_20 : decode b_JString_charAt 20 = .ok (.iload_n 1, 1) := by decide +kernel
theorem d_JString_charAt_21 : decode b_JString_charAt 21 = .ok (.invokestatic 498, 3) := by decide +kernel
theorem d_JString_charAt_24 : decode b_JString_charAt 24 = .ok (.ireturn, 1) := by decide +kernel
theorem d_JStringLatin1_charAt_0 : decode b_JStringLatin1_charAt 0 = .ok (.iload_n 1, 1) := by decide +kernel
theorem d_JStringLatin1_charAt_1 : decode b_JStringLatin1_charAt 1 = .ok (.aload_n 0, 1) := by decide +kernel
theorem d_JStringLatin1_charAt_2 : decode b_JStringLatin1_charAt 2 = .ok (.arraylength, 1) := by decide +kernel
theorem d_JStringLatin1_charAt_3 : decode b_JStringLatin1_charAt 3 = .ok (.invokestatic 9, 3) := by decide +kernel
theorem d_JStringLatin1_charAt_6 : decode b_JStringLatin1_charAt 6 = .ok (.aload_n 0, 1) := by decide +kernel
theorem d_JStringLatin1_charAt_7 : decode b_JStringLatin1_charAt 7 = .ok (.iload_n 1, 1) := by decide +kernel
theorem d_JStringLatin1_charAt_8 : decode b_JStringLatin1_charAt 8 = .ok (.baload, 1) := by decide +kernel
theorem d_JStringLatin1_charAt_9 : decode b_JStringLatin1_charAt 9 = .ok (.sipush 255, 3) := by decide +kernel
theorem d_JStringLatin1_charAt_12 : decode b_JStringLatin1_charAt 12 = .ok (.iand, 1) := by decide +kernel
theorem d_JStringLatin1_charAt_13 : decode b_JStringLatin1_charAt 13 = .ok (.i2c, 1) := by decide +kernel
theorem d_JStringLatin1_charAt_14 : decode b_JStringLatin1_charAt 14 = .ok (.ireturn, 1) := by decide +kernel
theorem d_JString_checkIndex_0 : decode b_JString_checkIndex 0 = .ok (.iload_n 0, 1) := by decide +kernel
theorem d_JString_checkIndex_1 : decode b_JString_checkIndex 1 = .ok (.iload_n 1, 1) := by decide +kernel
theorem d_JString_checkIndex_2 : decode b_JString_checkIndex 2 = .ok (.getstatic 1053, 3) := by decide +kernel
theorem d_JString_checkIndex_5 : decode b_JString_checkIndex 5 = .ok (.invokestatic 1059, 3) := by decide +kernel
theorem d_JString_checkIndex_8 : decode b_JString_checkIndex 8 = .ok (.pop, 1) := by decide +kernel
theorem d_JString_checkIndex_9 : decode b_JString_checkIndex 9 = .ok (.return_, 1) := by decide +kernel
theorem d_JPreconditions_checkIndex_0 : decode b_JPreconditions_checkIndex 0 = .ok (.iload_n 0, 1) := by decide +kernel
theorem d_JPreconditions_checkIndex_1 : decode b_JPreconditions_checkIndex 1 = .ok (.ifCond .lt 8, 3) := by decide +kernel
theorem d_JPreconditions_checkIndex_4 : decode b_JPreconditions_checkIndex 4 = .ok (.iload_n 0, 1) := by decide +kernel
theorem d_JPreconditions_checkIndex_5 : decode b_JPreconditions_checkIndex 5 = .ok (.iload_n 1, 1) := by decide +kernel
theorem d_JPreconditions_checkIndex_6 : decode b_JPreconditions_checkIndex 6 = .ok (.if_icmp .lt 10, 3) := by decide +kernel
theorem d_JPreconditions_checkIndex_9 : decode b_JPreconditions_checkIndex 9 = .ok (.aload_n 2, 1) := by decide +kernel
theorem d_JPreconditions_checkIndex_10 : decode b_JPreconditions_checkIndex 10 = .ok (.iload_n 0, 1) := by decide +kernel
theorem d_JPreconditions_checkIndex_11 : decode b_JPreconditions_checkIndex 11 = .ok (.iload_n 1, 1) := by decide +kernel
theorem d_JPreconditions_checkIndex_12 : decode b_JPreconditions_checkIndex 12 = .ok (.invokestatic 95, 3) := by decide +kernel
theorem d_JPreconditions_checkIndex_15 : decode b_JPreconditions_checkIndex 15 = .ok (.athrow, 1) := by decide +kernel
theorem d_JPreconditions_checkIndex_16 : decode b_JPreconditions_checkIndex 16 = .ok (.iload_n 0, 1) := by decide +kernel
theorem d_JPreconditions_checkIndex_17 : decode b_JPreconditions_checkIndex 17 = .ok (.ireturn, 1) := by decide +kernel
theorem d_JInteger_compare_0 : decode b_JInteger_compare 0 = .ok (.iload_n 0, 1) := by decide +kernel
theorem d_JInteger_compare_1 : decode b_JInteger_compare 1 = .ok (.iload_n 1, 1) := by decide +kernel
theorem d_JInteger_compare_2 : decode b_JInteger_compare 2 = .ok (.if_icmp .ge 7, 3) := by decide +kernel
theorem d_JInteger_compare_5 : decode b_JInteger_compare 5 = .ok (.iconst (-1), 1) := by decide +kernel
theorem d_JInteger_compare_6 : decode b_JInteger_compare 6 = .ok (.goto 13, 3) := by decide +kernel
theorem d_JInteger_compare_9 : decode b_JInteger_compare 9 = .ok (.iload_n 0, 1) := by decide +kernel
theorem d_JInteger_compare_10 : decode b_JInteger_compare 10 = .ok (.iload_n 1, 1) := by decide +kernel
theorem d_JInteger_compare_11 : decode b_JInteger_compare 11 = .ok (.if_icmp .ne 7, 3) := by decide +kernel
theorem d_JInteger_compare_14 : decode b_JInteger_compare 14 = .ok (.iconst 0, 1) := by decide +kernel
theorem d_JInteger_compare_15 : decode b_JInteger_compare 15 = .ok (.goto 4, 3) := by decide +kernel
theorem d_JInteger_compare_18 : decode b_JInteger_compare 18 = .ok (.iconst 1, 1) := by decide +kernel
theorem d_JInteger_compare_19 : decode b_JInteger_compare 19 = .ok (.ireturn, 1) := by decide +kernel
theorem d_JEnum_ordinal_0 : decode b_JEnum_ordinal 0 = .ok (.aload_n 0, 1) := by decide +kernel
theorem d_JEnum_ordinal_1 : decode b_JEnum_ordinal 1 = .ok (.getfield 7, 3) := by decide +kernel
theorem d_JEnum_ordinal_4 : decode b_JEnum_ordinal 4 = .ok (.ireturn, 1) := by decide +kernel
