theorem d_F_init_0 : decode b_F_init 0 = .ok (.aload_n 0, 1) := by decide +kernel
theorem d_F_init_1 : decode b_F_init 1 = .ok (.invokespecial 3, 3) := by decide +kernel
theorem d_F_init_4 : decode b_F_init 4 = .ok (.aload_n 0, 1) := by decide +kernel
theorem d_F_init_5 : decode b_F_init 5 = .ok (.bipush 6, 2) := by decide +kernel
theorem d_F_init_7 : decode b_F_init 7 = .ok (.newarray .char, 2) := by decide +kernel
theorem d_F_init_9 : decode b_F_init 9 = .ok (.putfield 9, 3) := by decide +kernel
theorem d_F_init_12 : decode b_F_init 12 = .ok (.aload_n 0, 1) := by decide +kernel
theorem d_F_init_13 : decode b_F_init 13 = .ok (.bipush 6, 2) := by decide +kernel
theorem d_F_init_15 : decode b_F_init 15 = .ok (.newarray .int, 2) := by decide +kernel
theorem d_F_init_17 : decode b_F_init 17 = .ok (.putfield 15, 3) := by decide +kernel
theorem d_F_init_20 : decode b_F_init 20 = .ok (.aload_n 0, 1) := by decide +kernel
theorem d_F_init_21 : decode b_F_init 21 = .ok (.bipush 6, 2) := by decide +kernel
theorem d_F_init_23 : decode b_F_init 23 = .ok (.newarray .int, 2) := by decide +kernel
theorem d_F_init_25 : decode b_F_init 25 = .ok (.putfield 19, 3) := by decide +kernel
theorem d_F_init_28 : decode b_F_init 28 = .ok (.aload_n 0, 1) := by decide +kernel
theorem d_F_init_29 : decode b_F_init 29 = .ok (.bipush 6, 2) := by decide +kernel
theorem d_F_init_31 : decode b_F_init 31 = .ok (.newarray .boolean, 2) := by decide +kernel
theorem d_F_init_33 : decode b_F_init 33 = .ok (.putfield 22, 3) := by decide +kernel
theorem d_F_init_36 : decode b_F_init 36 = .ok (.return_, 1) := by decide +kernel
theorem d_F_isNewName_0 : decode b_F_isNewName 0 = .ok (.iload_n 1, 1) := by decide +kernel
theorem d_F_isNewName_1 : decode b_F_isNewName 1 = .ok (.bipush 97, 2) := by decide +kernel
theorem d_F_isNewName_3 : decode b_F_isNewName 3 = .ok (.if_icmp .lt 22, 3) := by decide +kernel
theorem d_F_isNewName_6 : decode b_F_isNewName 6 = .ok (.iload_n 1, 1) := by decide +kernel
theorem d_F_isNewName_7 : decode b_F_isNewName 7 = .ok (.bipush 122, 2) := by decide +kernel
theorem d_F_isNewName_9 : decode b_F_isNewName 9 = .ok (.if_icmp .gt 16, 3) := by decide +kernel
theorem d_F_isNewName_12 : decode b_F_isNewName 12 = .ok (.aload_n 0, 1) := by decide +kernel
theorem d_F_isNewName_13 : decode b_F_isNewName 13 = .ok (.iload_n 1, 1) := by decide +kernel
theorem d_F_isNewName_14 : decode b_F_isNewName 14 = .ok (.invokevirtual 30, 3) := by decide +kernel
theorem d_F_isNewName_17 : decode b_F_isNewName 17 = .ok (.iconst (-1), 1) := by decide +kernel
theorem d_F_isNewName_18 : decode b_F_isNewName 18 = .ok (.if_icmp .ne 7, 3) := by decide +kernel
theorem d_F_isNewName_21 : decode b_F_isNewName 21 = .ok (.iconst 1, 1) := by decide +kernel
theorem d_F_isNewName_22 : decode b_F_isNewName 22 = .ok (.goto 4, 3) := by decide +kernel
theorem d_F_isNewName_25 : decode b_F_isNewName 25 = .ok (.iconst 0, 1) := by decide +kernel
theorem d_F_isNewName_26 : decode b_F_isNewName 26 = .ok (.ireturn, 1) := by decide +kernel
theorem d_F_indexOf_0 : decode b_F_indexOf 0 = .ok (.iconst 0, 1) := by decide +kernel
theorem d_F_indexOf_1 : decode b_F_indexOf 1 = .ok (.istore_n 2, 1) := by decide +kernel
theorem d_F_indexOf_2 : decode b_F_indexOf 2 = .ok (.iload_n 2, 1) := by decide +kernel
theorem d_F_indexOf_3 : decode b_F_indexOf 3 = .ok (.aload_n 0, 1) := by decide +kernel
theorem d_F_indexOf_4 : decode b_F_indexOf 4 = .ok (.getfield 26, 3) := by decide +kernel
theorem d_F_indexOf_7 : decode b_F_indexOf 7 = .ok (.if_icmp .ge 21, 3) := by decide +kernel
theorem d_F_indexOf_10 : decode b_F_indexOf 10 = .ok (.aload_n 0, 1) := by decide +kernel
theorem d_F_indexOf_11 : decode b_F_indexOf 11 = .ok (.getfield 9, 3) := by decide +kernel
theorem d_F_indexOf_14 : decode b_F_indexOf 14 = .ok (.iload_n 2, 1) := by decide +kernel
theorem d_F_indexOf_15 : decode b_F_indexOf 15 = .ok (.caload, 1) := by decide +kernel
theorem d_F_indexOf_16 : decode b_F_indexOf 16 = .ok (.iload_n 1, 1) := by decide +kernel
theorem d_F_indexOf_17 : decode b_F_indexOf 17 = .ok (.if_icmp .ne 5, 3) := by decide +kernel
theorem d_F_indexOf_20 : decode b_F_indexOf 20 = .ok (.iload_n 2, 1) := by decide +kernel
theorem d_F_indexOf_21 : decode b_F_indexOf 21 = .ok (.ireturn, 1) := by decide +kernel
theorem d_F_indexOf_22 : decode b_F_indexOf 22 = .ok (.iinc 2 1, 3) := by decide +kernel
theorem d_F_indexOf_25 : decode b_F_indexOf 25 = .ok (.goto (-23), 3) := by decide +kernel
theorem d_F_indexOf_28 : decode b_F_indexOf 28 = .ok (.iconst (-1), 1) := by decide +kernel
theorem d_F_indexOf_29 : decode b_F_indexOf 29 = .ok (.ireturn, 1) := by decide +kernel
theorem d_F_isOpenGround_0 : decode b_F_isOpenGround 0 = .ok (.iload_n 1, 1) := by decide +kernel
theorem d_F_isOpenGround_1 : decode b_F_isOpenGround 1 = .ok (.ifCond .lt 20, 3) := by decide +kernel
theorem d_F_isOpenGround_4 : decode b_F_isOpenGround 4 = .ok (.iload_n 1, 1) := by decide +kernel
theorem d_F_isOpenGround_5 : decode b_F_isOpenGround 5 = .ok (.bipush 24, 2) := by decide +kernel
theorem d_F_isOpenGround_7 : decode b_F_isOpenGround 7 = .ok (.if_icmp .ge 14, 3) := by decide +kernel
theorem d_F_isOpenGround_10 : decode b_F_isOpenGround 10 = .ok (.iload_n 2, 1) := by decide +kernel
theorem d_F_isOpenGround_11 : decode b_F_isOpenGround 11 = .ok (.iconst 1, 1) := by decide +kernel
theorem d_F_isOpenGround_12 : decode b_F_isOpenGround 12 = .ok (.if_icmp .lt 9, 3) := by decide +kernel
theorem d_F_isOpenGround_15 : decode b_F_isOpenGround 15 = .ok (.iload_n 2, 1) := by decide +kernel
theorem d_F_isOpenGround_16 : decode b_F_isOpenGround 16 = .ok (.bipush 10, 2) := by decide +kernel
theorem d_F_isOpenGround_18 : decode b_F_isOpenGround 18 = .ok (.if_icmp .le 5, 3) := by decide +kernel
theorem d_F_isOpenGround_21 : decode b_F_isOpenGround 21 = .ok (.iconst 0, 1) := by decide +kernel
theorem d_F_isOpenGround_22 : decode b_F_isOpenGround 22 = .ok (.ireturn, 1) := by decide +kernel
theorem d_F_isOpenGround_23 : decode b_F_isOpenGround 23 = .ok (.iload_n 1, 1) := by decide +kernel
theorem d_F_isOpenGround_24 : decode b_F_isOpenGround 24 = .ok (.iload_n 2, 1) := by decide +kernel
theorem d_F_isOpenGround_25 : decode b_F_isOpenGround 25 = .ok (.iadd, 1) := by decide +kernel
theorem d_F_isOpenGround_26 : decode b_F_isOpenGround 26 = .ok (.bipush 24, 2) := by decide +kernel
theorem d_F_isOpenGround_28 : decode b_F_isOpenGround 28 = .ok (.if_icmp .gt 20, 3) := by decide +kernel
theorem d_F_isOpenGround_31 : decode b_F_isOpenGround 31 = .ok (.aload_n 0, 1) := by decide +kernel
theorem d_F_isOpenGround_32 : decode b_F_isOpenGround 32 = .ok (.getfield 34, 3) := by decide +kernel
theorem d_F_isOpenGround_35 : decode b_F_isOpenGround 35 = .ok (.iload_n 1, 1) := by decide +kernel
theorem d_F_isOpenGround_36 : decode b_F_isOpenGround 36 = .ok (.iload_n 2, 1) := by decide +kernel
theorem d_F_isOpenGround_37 : decode b_F_isOpenGround 37 = .ok (.invokestatic 37, 3) := by decide +kernel
theorem d_F_isOpenGround_40 : decode b_F_isOpenGround 40 = .ok (.iand, 1) := by decide +kernel
theorem d_F_isOpenGround_41 : decode b_F_isOpenGround 41 = .ok (.ifCond .ne 7, 3) := by decide +kernel
theorem d_F_isOpenGround_44 : decode b_F_isOpenGround 44 = .ok (.iconst 1, 1) := by decide +kernel
theorem d_F_isOpenGround_45 : decode b_F_isOpenGround 45 = .ok (.goto 4, 3) := by decide +kernel
theorem d_F_isOpenGround_48 : decode b_F_isOpenGround 48 = .ok (.iconst 0, 1) := by decide +kernel
theorem d_F_isOpenGround_49 : decode b_F_isOpenGround 49 = .ok (.ireturn, 1) := by decide +kernel
theorem d_F_ground_0 : decode b_F_ground 0 = .ok (.iconst 1, 1) := by decide +kernel
theorem d_F_ground_1 : decode b_F_ground 1 = .ok (.iload_n 1, 1) := by decide +kernel
theorem d_F_ground_2 : decode b_F_ground 2 = .ok (.ishl, 1) := by decide +kernel
theorem d_F_ground_3 : decode b_F_ground 3 = .ok (.iconst 1, 1) := by decide +kernel
theorem d_F_ground_4 : decode b_F_ground 4 = .ok (.isub, 1) := by decide +kernel
theorem d_F_ground_5 : decode b_F_ground 5 = .ok (.iload_n 0, 1) := by decide +kernel
theorem d_F_ground_6 : decode b_F_ground 6 = .ok (.ishl, 1) := by decide +kernel
theorem d_F_ground_7 : decode b_F_ground 7 = .ok (.ireturn, 1) := by decide +kernel
theorem d_F_isFull_0 : decode b_F_isFull 0 = .ok (.aload_n 0, 1) := by decide +kernel
theorem d_F_isFull_1 : decode b_F_isFull 1 = .ok (.getfield 26, 3) := by decide +kernel
theorem d_F_isFull_4 : decode b_F_isFull 4 = .ok (.bipush 6, 2) := by decide +kernel
theorem d_F_isFull_6 : decode b_F_isFull 6 = .ok (.if_icmp .lt 7, 3) := by decide +kernel
theorem d_F_isFull_9 : decode b_F_isFull 9 = .ok (.iconst 1, 1) := by decide +kernel
theorem d_F_isFull_10 : decode b_F_isFull 10 = .ok (.goto 4, 3) := by decide +kernel
theorem d_F_isFull_13 : decode b_F_isFull 13 = .ok (.iconst 0, 1) := by decide +kernel
theorem d_F_isFull_14 : decode b_F_isFull 14 = .ok (.ireturn, 1) := by decide +kernel
theorem d_F_append_0 : decode b_F_append 0 = .ok (.aload_n 0, 1) := by decide +kernel
theorem d_F_append_1 : decode b_F_append 1 = .ok (.getfield 9, 3) := by decide +kernel
theorem d_F_append_4 : decode b_F_append 4 = .ok (.aload_n 0, 1) := by decide +kernel
theorem d_F_append_5 : decode b_F_append 5 = .ok (.getfield 26, 3) := by decide +kernel
theorem d_F_append_8 : decode b_F_append 8 = .ok (.iload_n 1, 1) := by decide +kernel
theorem d_F_append_9 : decode b_F_append 9 = .ok (.castore, 1) := by decide +kernel
theorem d_F_append_10 : decode b_F_append 10 = .ok (.aload_n 0, 1) := by decide +kernel
theorem d_F_append_11 : decode b_F_append 11 = .ok (.getfield 15, 3) := by decide +kernel
theorem d_F_append_14 : decode b_F_append 14 = .ok (.aload_n 0, 1) := by decide +kernel
theorem d_F_append_15 : decode b_F_append 15 = .ok (.getfield 26, 3) := by decide +kernel
theorem d_F_append_18 : decode b_F_append 18 = .ok (.iload_n 2, 1) := by decide +kernel
theorem d_F_append_19 : decode b_F_append 19 = .ok (.iastore, 1) := by decide +kernel
theorem d_F_append_20 : decode b_F_append 20 = .ok (.aload_n 0, 1) := by decide +kernel
theorem d_F_append_21 : decode b_F_append 21 = .ok (.getfield 19, 3) := by decide +kernel
theorem d_F_append_24 : decode b_F_append 24 = .ok (.aload_n 0, 1) := by decide +kernel
theorem d_F_append_25 : decode b_F_append 25 = .ok (.getfield 26, 3) := by decide +kernel
theorem d_F_append_28 : decode b_F_append 28 = .ok (.iload_n 3, 1) := by decide +kernel
theorem d_F_append_29 : decode b_F_append 29 = .ok (.iastore, 1) := by decide +kernel
theorem d_F_append_30 : decode b_F_append 30 = .ok (.aload_n 0, 1) := by decide +kernel
theorem d_F_append_31 : decode b_F_append 31 = .ok (.getfield 22, 3) := by decide +kernel
theorem d_F_append_34 : decode b_F_append 34 = .ok (.aload_n 0, 1) := by decide +kernel
theorem d_F_append_35 : decode b_F_append 35 = .ok (.getfield 26, 3) := by decide +kernel
theorem d_F_append_38 : decode b_F_append 38 = .ok (.iload 4, 2) := by decide +kernel
theorem d_F_append_40 : decode b_F_append 40 = .ok (.bastore, 1) := by decide +kernel
theorem d_F_append_41 : decode b_F_append 41 = .ok (.aload_n 0, 1) := by decide +kernel
theorem d_F_append_42 : decode b_F_append 42 = .ok (.dup, 1) := by decide +kernel
theorem d_F_append_43 : decode b_F_append 43 = .ok (.getfield 26, 3) := by decide +kernel
theorem d_F_append_46 : decode b_F_append 46 = .ok (.iconst 1, 1) := by decide +kernel
theorem d_F_append_47 : decode b_F_append 47 = .ok (.iadd, 1) := by decide +kernel
theorem d_F_append_48 : decode b_F_append 48 = .ok (.putfield 26, 3) := by decide +kernel
theorem d_F_append_51 : decode b_F_append 51 = .ok (.aload_n 0, 1) := by decide +kernel
theorem d_F_append_52 : decode b_F_append 52 = .ok (.dup, 1) := by decide +kernel
theorem d_F_append_53 : decode b_F_append 53 = .ok (.getfield 34, 3) := by decide +kernel
theorem d_F_append_56 : decode b_F_append 56 = .ok (.iload_n 2, 1) := by decide +kernel
theorem d_F_append_57 : decode b_F_append 57 = .ok (.iload_n 3, 1) := by decide +kernel
theorem d_F_append_58 : decode b_F_append 58 = .ok (.invokestatic 37, 3) := by decide +kernel
theorem d_F_append_61 : decode b_F_append 61 = .ok (.ior, 1) := by decide +kernel
theorem d_F_append_62 : decode b_F_append 62 = .ok (.putfield 34, 3) := by decide +kernel
theorem d_F_append_65 : decode b_F_append 65 = .ok (.return_, 1) := by decide +kernel
theorem d_F_fits_0 : decode b_F_fits 0 = .ok (.iconst 1, 1) := by decide +kernel
theorem d_F_fits_1 : decode b_F_fits 1 = .ok (.aload_n 0, 1) := by decide +kernel
theorem d_F_fits_2 : decode b_F_fits 2 = .ok (.getfield 19, 3) := by decide +kernel
theorem d_F_fits_5 : decode b_F_fits 5 = .ok (.iload_n 1, 1) := by decide +kernel
theorem d_F_fits_6 : decode b_F_fits 6 = .ok (.iaload, 1) := by decide +kernel
theorem d_F_fits_7 : decode b_F_fits 7 = .ok (.ishl, 1) := by decide +kernel
theorem d_F_fits_8 : decode b_F_fits 8 = .ok (.istore_n 3, 1) := by decide +kernel
theorem d_F_fits_9 : decode b_F_fits 9 = .ok (.aload_n 0, 1) := by decide +kernel
theorem d_F_fits_10 : decode b_F_fits 10 = .ok (.getfield 22, 3) := by decide +kernel
theorem d_F_fits_13 : decode b_F_fits 13 = .ok (.iload_n 1, 1) := by decide +kernel
theorem d_F_fits_14 : decode b_F_fits 14 = .ok (.baload, 1) := by decide +kernel
theorem d_F_fits_15 : decode b_F_fits 15 = .ok (.ifCond .eq 10, 3) := by decide +kernel
theorem d_F_fits_18 : decode b_F_fits 18 = .ok (.iload_n 3, 1) := by decide +kernel
theorem d_F_fits_19 : decode b_F_fits 19 = .ok (.iconst 1, 1) := by decide +kernel
theorem d_F_fits_20 : decode b_F_fits 20 = .ok (.ishr, 1) := by decide +kernel
theorem d_F_fits_21 : decode b_F_fits 21 = .ok (.ineg, 1) := by decide +kernel
theorem d_F_fits_22 : decode b_F_fits 22 = .ok (.goto 4, 3) := by decide +kernel
theorem d_F_fits_25 : decode b_F_fits 25 = .ok (.iconst 0, 1) := by decide +kernel
theorem d_F_fits_26 : decode b_F_fits 26 = .ok (.istore 4, 2) := by decide +kernel
theorem d_F_fits_28 : decode b_F_fits 28 = .ok (.iload_n 2, 1) := by decide +kernel
theorem d_F_fits_29 : decode b_F_fits 29 = .ok (.iload 4, 2) := by decide +kernel
theorem d_F_fits_31 : decode b_F_fits 31 = .ok (.if_icmp .lt 15, 3) := by decide +kernel
theorem d_F_fits_34 : decode b_F_fits 34 = .ok (.iload_n 2, 1) := by decide +kernel
theorem d_F_fits_35 : decode b_F_fits 35 = .ok (.iload 4, 2) := by decide +kernel
theorem d_F_fits_37 : decode b_F_fits 37 = .ok (.iload_n 3, 1) := by decide +kernel
theorem d_F_fits_38 : decode b_F_fits 38 = .ok (.iadd, 1) := by decide +kernel
theorem d_F_fits_39 : decode b_F_fits 39 = .ok (.if_icmp .ge 7, 3) := by decide +kernel
theorem d_F_fits_42 : decode b_F_fits 42 = .ok (.iconst 1, 1) := by decide +kernel
theorem d_F_fits_43 : decode b_F_fits 43 = .ok (.goto 4, 3) := by decide +kernel
theorem d_F_fits_46 : decode b_F_fits 46 = .ok (.iconst 0, 1) := by decide +kernel
theorem d_F_fits_47 : decode b_F_fits 47 = .ok (.ireturn, 1) := by decide +kernel
theorem d_F_withValue_0 : decode b_F_withValue 0 = .ok (.aload_n 0, 1) := by decide +kernel
theorem d_F_withValue_1 : decode b_F_withValue 1 = .ok (.getfield 15, 3) := by decide +kernel
theorem d_F_withValue_4 : decode b_F_withValue 4 = .ok (.iload_n 1, 1) := by decide +kernel
theorem d_F_withValue_5 : decode b_F_withValue 5 = .ok (.iaload, 1) := by decide +kernel
theorem d_F_withValue_6 : decode b_F_withValue 6 = .ok (.aload_n 0, 1) := by decide +kernel
theorem d_F_withValue_7 : decode b_F_withValue 7 = .ok (.getfield 19, 3) := by decide +kernel
theorem d_F_withValue_10 : decode b_F_withValue 10 = .ok (.iload_n 1, 1) := by decide +kernel
theorem d_F_withValue_11 : decode b_F_withValue 11 = .ok (.iaload, 1) := by decide +kernel
theorem d_F_withValue_12 : decode b_F_withValue 12 = .ok (.invokestatic 37, 3) := by decide +kernel
theorem d_F_withValue_15 : decode b_F_withValue 15 = .ok (.istore 4, 2) := by decide +kernel
theorem d_F_withValue_17 : decode b_F_withValue 17 = .ok (.iload_n 2, 1) := by decide +kernel
theorem d_F_withValue_18 : decode b_F_withValue 18 = .ok (.iload 4, 2) := by decide +kernel
theorem d_F_withValue_20 : decode b_F_withValue 20 = .ok (.iconst (-1), 1) := by decide +kernel
theorem d_F_withValue_21 : decode b_F_withValue 21 = .ok (.ixor, 1) := by decide +kernel
theorem d_F_withValue_22 : decode b_F_withValue 22 = .ok (.iand, 1) := by decide +kernel
theorem d_F_withValue_23 : decode b_F_withValue 23 = .ok (.iload_n 3, 1) := by decide +kernel
theorem d_F_withValue_24 : decode b_F_withValue 24 = .ok (.aload_n 0, 1) := by decide +kernel
theorem d_F_withValue_25 : decode b_F_withValue 25 = .ok (.getfield 15, 3) := by decide +kernel
theorem d_F_withValue_28 : decode b_F_withValue 28 = .ok (.iload_n 1, 1) := by decide +kernel
theorem d_F_withValue_29 : decode b_F_withValue 29 = .ok (.iaload, 1) := by decide +kernel
theorem d_F_withValue_30 : decode b_F_withValue 30 = .ok (.ishl, 1) := by decide +kernel
theorem d_F_withValue_31 : decode b_F_withValue 31 = .ok (.iload 4, 2) := by decide +kernel
theorem d_F_withValue_33 : decode b_F_withValue 33 = .ok (.iand, 1) := by decide +kernel
theorem d_F_withValue_34 : decode b_F_withValue 34 = .ok (.ior, 1) := by decide +kernel
theorem d_F_withValue_35 : decode b_F_withValue 35 = .ok (.ireturn, 1) := by decide +kernel
theorem d_F_valueIn_0 : decode b_F_valueIn 0 = .ok (.iconst 1, 1) := by decide +kernel
theorem d_F_valueIn_1 : decode b_F_valueIn 1 = .ok (.aload_n 0, 1) := by decide +kernel
theorem d_F_valueIn_2 : decode b_F_valueIn 2 = .ok (.getfield 19, 3) := by decide +kernel
theorem d_F_valueIn_5 : decode b_F_valueIn 5 = .ok (.iload_n 1, 1) := by decide +kernel
theorem d_F_valueIn_6 : decode b_F_valueIn 6 = .ok (.iaload, 1) := by decide +kernel
theorem d_F_valueIn_7 : decode b_F_valueIn 7 = .ok (.ishl, 1) := by decide +kernel
theorem d_F_valueIn_8 : decode b_F_valueIn 8 = .ok (.istore_n 3, 1) := by decide +kernel
theorem d_F_valueIn_9 : decode b_F_valueIn 9 = .ok (.iload_n 2, 1) := by decide +kernel
theorem d_F_valueIn_10 : decode b_F_valueIn 10 = .ok (.aload_n 0, 1) := by decide +kernel
theorem d_F_valueIn_11 : decode b_F_valueIn 11 = .ok (.getfield 15, 3) := by decide +kernel
theorem d_F_valueIn_14 : decode b_F_valueIn 14 = .ok (.iload_n 1, 1) := by decide +kernel
theorem d_F_valueIn_15 : decode b_F_valueIn 15 = .ok (.iaload, 1) := by decide +kernel
theorem d_F_valueIn_16 : decode b_F_valueIn 16 = .ok (.iushr, 1) := by decide +kernel
theorem d_F_valueIn_17 : decode b_F_valueIn 17 = .ok (.iload_n 3, 1) := by decide +kernel
theorem d_F_valueIn_18 : decode b_F_valueIn 18 = .ok (.iconst 1, 1) := by decide +kernel
theorem d_F_valueIn_19 : decode b_F_valueIn 19 = .ok (.isub, 1) := by decide +kernel
theorem d_F_valueIn_20 : decode b_F_valueIn 20 = .ok (.iand, 1) := by decide +kernel
theorem d_F_valueIn_21 : decode b_F_valueIn 21 = .ok (.istore 4, 2) := by decide +kernel
theorem d_F_valueIn_23 : decode b_F_valueIn 23 = .ok (.aload_n 0, 1) := by decide +kernel
theorem d_F_valueIn_24 : decode b_F_valueIn 24 = .ok (.getfield 22, 3) := by decide +kernel
theorem d_F_valueIn_27 : decode b_F_valueIn 27 = .ok (.iload_n 1, 1) := by decide +kernel
theorem d_F_valueIn_28 : decode b_F_valueIn 28 = .ok (.baload, 1) := by decide +kernel
theorem d_F_valueIn_29 : decode b_F_valueIn 29 = .ok (.ifCond .eq 18, 3) := by decide +kernel
theorem d_F_valueIn_32 : decode b_F_valueIn 32 = .ok (.iload 4, 2) := by decide +kernel
theorem d_F_valueIn_34 : decode b_F_valueIn 34 = .ok (.iload_n 3, 1) := by decide +kernel
theorem d_F_valueIn_35 : decode b_F_valueIn 35 = .ok (.iconst 1, 1) := by decide +kernel
theorem d_F_valueIn_36 : decode b_F_valueIn 36 = .ok (.ishr, 1) := by decide +kernel
theorem d_F_valueIn_37 : decode b_F_valueIn 37 = .ok (.if_icmp .lt 10, 3) := by decide +kernel
theorem d_F_valueIn_40 : decode b_F_valueIn 40 = .ok (.iload 4, 2) := by decide +kernel
theorem d_F_valueIn_42 : decode b_F_valueIn 42 = .ok (.iload_n 3, 1) := by decide +kernel
theorem d_F_valueIn_43 : decode b_F_valueIn 43 = .ok (.isub, 1) := by decide +kernel
theorem d_F_valueIn_44 : decode b_F_valueIn 44 = .ok (.goto 5, 3) := by decide +kernel
theorem d_F_valueIn_47 : decode b_F_valueIn 47 = .ok (.iload 4, 2) := by decide +kernel
theorem d_F_valueIn_49 : decode b_F_valueIn 49 = .ok (.ireturn, 1) := by decide +kernel
