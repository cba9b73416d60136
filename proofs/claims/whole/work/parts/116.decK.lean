theorem d_S_init_0 : decode b_S_init 0 = .ok (.aload_n 0, 1) := by decide +kernel
theorem d_S_init_1 : decode b_S_init 1 = .ok (.invokespecial 3, 3) := by decide +kernel
theorem d_S_init_4 : decode b_S_init 4 = .ok (.aload_n 0, 1) := by decide +kernel
theorem d_S_init_5 : decode b_S_init 5 = .ok (.aload_n 1, 1) := by decide +kernel
theorem d_S_init_6 : decode b_S_init 6 = .ok (.putfield 9, 3) := by decide +kernel
theorem d_S_init_9 : decode b_S_init 9 = .ok (.aload_n 0, 1) := by decide +kernel
theorem d_S_init_10 : decode b_S_init 10 = .ok (.aload_n 2, 1) := by decide +kernel
theorem d_S_init_11 : decode b_S_init 11 = .ok (.putfield 15, 3) := by decide +kernel
theorem d_S_init_14 : decode b_S_init 14 = .ok (.aload_n 0, 1) := by decide +kernel
theorem d_S_init_15 : decode b_S_init 15 = .ok (.new 19, 3) := by decide +kernel
theorem d_S_init_18 : decode b_S_init 18 = .ok (.dup, 1) := by decide +kernel
theorem d_S_init_19 : decode b_S_init 19 = .ok (.aload_n 3, 1) := by decide +kernel
theorem d_S_init_20 : decode b_S_init 20 = .ok (.invokespecial 21, 3) := by decide +kernel
theorem d_S_init_23 : decode b_S_init 23 = .ok (.putfield 24, 3) := by decide +kernel
theorem d_S_init_26 : decode b_S_init 26 = .ok (.aload_n 0, 1) := by decide +kernel
theorem d_S_init_27 : decode b_S_init 27 = .ok (.new 28, 3) := by decide +kernel
theorem d_S_init_30 : decode b_S_init 30 = .ok (.dup, 1) := by decide +kernel
theorem d_S_init_31 : decode b_S_init 31 = .ok (.aload_n 1, 1) := by decide +kernel
theorem d_S_init_32 : decode b_S_init 32 = .ok (.invokespecial 30, 3) := by decide +kernel
theorem d_S_init_35 : decode b_S_init 35 = .ok (.putfield 33, 3) := by decide +kernel
theorem d_S_init_38 : decode b_S_init 38 = .ok (.aload_n 0, 1) := by decide +kernel
theorem d_S_init_39 : decode b_S_init 39 = .ok (.new 37, 3) := by decide +kernel
theorem d_S_init_42 : decode b_S_init 42 = .ok (.dup, 1) := by decide +kernel
theorem d_S_init_43 : decode b_S_init 43 = .ok (.aload_n 1, 1) := by decide +kernel
theorem d_S_init_44 : decode b_S_init 44 = .ok (.invokespecial 39, 3) := by decide +kernel
theorem d_S_init_47 : decode b_S_init 47 = .ok (.putfield 40, 3) := by decide +kernel
theorem d_S_init_50 : decode b_S_init 50 = .ok (.aload_n 0, 1) := by decide +kernel
theorem d_S_init_51 : decode b_S_init 51 = .ok (.new 37, 3) := by decide +kernel
theorem d_S_init_54 : decode b_S_init 54 = .ok (.dup, 1) := by decide +kernel
theorem d_S_init_55 : decode b_S_init 55 = .ok (.aload_n 1, 1) := by decide +kernel
theorem d_S_init_56 : decode b_S_init 56 = .ok (.invokespecial 39, 3) := by decide +kernel
theorem d_S_init_59 : decode b_S_init 59 = .ok (.putfield 44, 3) := by decide +kernel
theorem d_S_init_62 : decode b_S_init 62 = .ok (.aload_n 0, 1) := by decide +kernel
theorem d_S_init_63 : decode b_S_init 63 = .ok (.getstatic 47, 3) := by decide +kernel
theorem d_S_init_66 : decode b_S_init 66 = .ok (.putfield 53, 3) := by decide +kernel
theorem d_S_init_69 : decode b_S_init 69 = .ok (.aload_n 0, 1) := by decide +kernel
theorem d_S_init_70 : decode b_S_init 70 = .ok (.iconst (-1), 1) := by decide +kernel
theorem d_S_init_71 : decode b_S_init 71 = .ok (.putfield 56, 3) := by decide +kernel
theorem d_S_init_74 : decode b_S_init 74 = .ok (.return_, 1) := by decide +kernel
theorem d_K_init_0 : decode b_K_init 0 = .ok (.aload_n 0, 1) := by decide +kernel
theorem d_K_init_1 : decode b_K_init 1 = .ok (.invokespecial 3, 3) := by decide +kernel
theorem d_K_init_4 : decode b_K_init 4 = .ok (.aload_n 0, 1) := by decide +kernel
theorem d_K_init_5 : decode b_K_init 5 = .ok (.aload_n 1, 1) := by decide +kernel
theorem d_K_init_6 : decode b_K_init 6 = .ok (.putfield 9, 3) := by decide +kernel
theorem d_K_init_9 : decode b_K_init 9 = .ok (.aload_n 0, 1) := by decide +kernel
theorem d_K_init_10 : decode b_K_init 10 = .ok (.bipush 101, 2) := by decide +kernel
theorem d_K_init_12 : decode b_K_init 12 = .ok (.newarray .char, 2) := by decide +kernel
theorem d_K_init_14 : decode b_K_init 14 = .ok (.putfield 15, 3) := by decide +kernel
theorem d_K_init_17 : decode b_K_init 17 = .ok (.aload_n 0, 1) := by decide +kernel
theorem d_K_init_18 : decode b_K_init 18 = .ok (.bipush 101, 2) := by decide +kernel
theorem d_K_init_20 : decode b_K_init 20 = .ok (.newarray .int, 2) := by decide +kernel
theorem d_K_init_22 : decode b_K_init 22 = .ok (.putfield 19, 3) := by decide +kernel
theorem d_K_init_25 : decode b_K_init 25 = .ok (.aload_n 0, 1) := by decide +kernel
theorem d_K_init_26 : decode b_K_init 26 = .ok (.bipush 101, 2) := by decide +kernel
theorem d_K_init_28 : decode b_K_init 28 = .ok (.newarray .int, 2) := by decide +kernel
theorem d_K_init_30 : decode b_K_init 30 = .ok (.putfield 23, 3) := by decide +kernel
theorem d_K_init_33 : decode b_K_init 33 = .ok (.return_, 1) := by decide +kernel
theorem d_P_init_0 : decode b_P_init 0 = .ok (.aload_n 0, 1) := by decide +kernel
theorem d_P_init_1 : decode b_P_init 1 = .ok (.invokespecial 1, 3) := by decide +kernel
theorem d_P_init_4 : decode b_P_init 4 = .ok (.aload_n 0, 1) := by decide +kernel
theorem d_P_init_5 : decode b_P_init 5 = .ok (.new 7, 3) := by decide +kernel
theorem d_P_init_8 : decode b_P_init 8 = .ok (.dup, 1) := by decide +kernel
theorem d_P_init_9 : decode b_P_init 9 = .ok (.aload_n 1, 1) := by decide +kernel
theorem d_P_init_10 : decode b_P_init 10 = .ok (.invokespecial 9, 3) := by decide +kernel
theorem d_P_init_13 : decode b_P_init 13 = .ok (.putfield 12, 3) := by decide +kernel
theorem d_P_init_16 : decode b_P_init 16 = .ok (.aload_n 0, 1) := by decide +kernel
theorem d_P_init_17 : decode b_P_init 17 = .ok (.new 7, 3) := by decide +kernel
theorem d_P_init_20 : decode b_P_init 20 = .ok (.dup, 1) := by decide +kernel
theorem d_P_init_21 : decode b_P_init 21 = .ok (.aload_n 1, 1) := by decide +kernel
theorem d_P_init_22 : decode b_P_init 22 = .ok (.invokespecial 9, 3) := by decide +kernel
theorem d_P_init_25 : decode b_P_init 25 = .ok (.putfield 18, 3) := by decide +kernel
theorem d_P_init_28 : decode b_P_init 28 = .ok (.aload_n 0, 1) := by decide +kernel
theorem d_P_init_29 : decode b_P_init 29 = .ok (.bipush 32, 2) := by decide +kernel
theorem d_P_init_31 : decode b_P_init 31 = .ok (.putfield 21, 3) := by decide +kernel
theorem d_P_init_34 : decode b_P_init 34 = .ok (.return_, 1) := by decide +kernel
theorem d_O_init_0 : decode b_O_init 0 = .ok (.aload_n 0, 1) := by decide +kernel
theorem d_O_init_1 : decode b_O_init 1 = .ok (.invokespecial 3, 3) := by decide +kernel
theorem d_O_init_4 : decode b_O_init 4 = .ok (.aload_n 0, 1) := by decide +kernel
theorem d_O_init_5 : decode b_O_init 5 = .ok (.aload_n 1, 1) := by decide +kernel
theorem d_O_init_6 : decode b_O_init 6 = .ok (.putfield 9, 3) := by decide +kernel
theorem d_O_init_9 : decode b_O_init 9 = .ok (.aload_n 0, 1) := by decide +kernel
theorem d_O_init_10 : decode b_O_init 10 = .ok (.iconst (-1), 1) := by decide +kernel
theorem d_O_init_11 : decode b_O_init 11 = .ok (.putfield 15, 3) := by decide +kernel
theorem d_O_init_14 : decode b_O_init 14 = .ok (.return_, 1) := by decide +kernel
theorem d_C_init_0 : decode b_C_init 0 = .ok (.aload_n 0, 1) := by decide +kernel
theorem d_C_init_1 : decode b_C_init 1 = .ok (.invokespecial 1, 3) := by decide +kernel
theorem d_C_init_4 : decode b_C_init 4 = .ok (.aload_n 0, 1) := by decide +kernel
theorem d_C_init_5 : decode b_C_init 5 = .ok (.aload_n 1, 1) := by decide +kernel
theorem d_C_init_6 : decode b_C_init 6 = .ok (.putfield 7, 3) := by decide +kernel
theorem d_C_init_9 : decode b_C_init 9 = .ok (.aload_n 0, 1) := by decide +kernel
theorem d_C_init_10 : decode b_C_init 10 = .ok (.new 13, 3) := by decide +kernel
theorem d_C_init_13 : decode b_C_init 13 = .ok (.dup, 1) := by decide +kernel
theorem d_C_init_14 : decode b_C_init 14 = .ok (.aload_n 1, 1) := by decide +kernel
theorem d_C_init_15 : decode b_C_init 15 = .ok (.invokespecial 15, 3) := by decide +kernel
theorem d_C_init_18 : decode b_C_init 18 = .ok (.putfield 18, 3) := by decide +kernel
theorem d_C_init_21 : decode b_C_init 21 = .ok (.return_, 1) := by decide +kernel
theorem d_S_wrongAt_0 : decode b_S_wrongAt 0 = .ok (.aload_n 0, 1) := by decide +kernel
theorem d_S_wrongAt_1 : decode b_S_wrongAt 1 = .ok (.getfield 56, 3) := by decide +kernel
theorem d_S_wrongAt_4 : decode b_S_wrongAt 4 = .ok (.ireturn, 1) := by decide +kernel
theorem d_S_read_0 : decode b_S_read 0 = .ok (.aload_n 0, 1) := by decide +kernel
theorem d_S_read_1 : decode b_S_read 1 = .ok (.iconst (-1), 1) := by decide +kernel
theorem d_S_read_2 : decode b_S_read 2 = .ok (.putfield 56, 3) := by decide +kernel
theorem d_S_read_5 : decode b_S_read 5 = .ok (.aload_n 0, 1) := by decide +kernel
theorem d_S_read_6 : decode b_S_read 6 = .ok (.getfield 24, 3) := by decide +kernel
theorem d_S_read_9 : decode b_S_read 9 = .ok (.invokevirtual 84, 3) := by decide +kernel
theorem d_S_read_12 : decode b_S_read 12 = .ok (.aload_n 0, 1) := by decide +kernel
theorem d_S_read_13 : decode b_S_read 13 = .ok (.aload_n 0, 1) := by decide +kernel
theorem d_S_read_14 : decode b_S_read 14 = .ok (.getfield 15, 3) := by decide +kernel
theorem d_S_read_17 : decode b_S_read 17 = .ok (.invokevirtual 87, 3) := by decide +kernel
theorem d_S_read_20 : decode b_S_read 20 = .ok (.putfield 60, 3) := by decide +kernel
theorem d_S_read_23 : decode b_S_read 23 = .ok (.aload_n 0, 1) := by decide +kernel
theorem d_S_read_24 : decode b_S_read 24 = .ok (.getfield 24, 3) := by decide +kernel
theorem d_S_read_27 : decode b_S_read 27 = .ok (.ldc 93, 2) := by decide +kernel
theorem d_S_read_29 : decode b_S_read 29 = .ok (.invokevirtual 95, 3) := by decide +kernel
theorem d_S_read_32 : decode b_S_read 32 = .ok (.ifCond .eq 24, 3) := by decide +kernel
theorem d_S_read_35 : decode b_S_read 35 = .ok (.aload_n 0, 1) := by decide +kernel
theorem d_S_read_36 : decode b_S_read 36 = .ok (.getfield 24, 3) := by decide +kernel
theorem d_S_read_39 : decode b_S_read 39 = .ok (.invokevirtual 99, 3) := by decide +kernel
theorem d_S_read_42 : decode b_S_read 42 = .ok (.aload_n 0, 1) := by decide +kernel
theorem d_S_read_43 : decode b_S_read 43 = .ok (.dup, 1) := by decide +kernel
theorem d_S_read_44 : decode b_S_read 44 = .ok (.getfield 60, 3) := by decide +kernel
theorem d_S_read_47 : decode b_S_read 47 = .ok (.aload_n 0, 1) := by decide +kernel
theorem d_S_read_48 : decode b_S_read 48 = .ok (.iconst 0, 1) := by decide +kernel
theorem d_S_read_49 : decode b_S_read 49 = .ok (.invokevirtual 102, 3) := by decide +kernel
theorem d_S_read_52 : decode b_S_read 52 = .ok (.iand, 1) := by decide +kernel
theorem d_S_read_53 : decode b_S_read 53 = .ok (.putfield 60, 3) := by decide +kernel
theorem d_S_read_56 : decode b_S_read 56 = .ok (.aload_n 0, 1) := by decide +kernel
theorem d_S_read_57 : decode b_S_read 57 = .ok (.invokevirtual 106, 3) := by decide +kernel
theorem d_S_read_60 : decode b_S_read 60 = .ok (.aload_n 0, 1) := by decide +kernel
theorem d_S_read_61 : decode b_S_read 61 = .ok (.getfield 24, 3) := by decide +kernel
theorem d_S_read_64 : decode b_S_read 64 = .ok (.invokevirtual 109, 3) := by decide +kernel
theorem d_S_read_67 : decode b_S_read 67 = .ok (.ifCond .ne 7, 3) := by decide +kernel
theorem d_S_read_70 : decode b_S_read 70 = .ok (.aload_n 0, 1) := by decide +kernel
theorem d_S_read_71 : decode b_S_read 71 = .ok (.invokevirtual 113, 3) := by decide +kernel
theorem d_S_read_74 : decode b_S_read 74 = .ok (.return_, 1) := by decide +kernel
theorem d_K_cut_0 : decode b_K_cut 0 = .ok (.aload_n 0, 1) := by decide +kernel
theorem d_K_cut_1 : decode b_K_cut 1 = .ok (.iconst 0, 1) := by decide +kernel
theorem d_K_cut_2 : decode b_K_cut 2 = .ok (.putfield 26, 3) := by decide +kernel
theorem d_K_cut_5 : decode b_K_cut 5 = .ok (.aload_n 0, 1) := by decide +kernel
theorem d_K_cut_6 : decode b_K_cut 6 = .ok (.iconst 0, 1) := by decide +kernel
theorem d_K_cut_7 : decode b_K_cut 7 = .ok (.putfield 30, 3) := by decide +kernel
theorem d_K_cut_10 : decode b_K_cut 10 = .ok (.iconst 0, 1) := by decide +kernel
theorem d_K_cut_11 : decode b_K_cut 11 = .ok (.istore_n 1, 1) := by decide +kernel
theorem d_K_cut_12 : decode b_K_cut 12 = .ok (.iconst 0, 1) := by decide +kernel
theorem d_K_cut_13 : decode b_K_cut 13 = .ok (.istore_n 2, 1) := by decide +kernel
theorem d_K_cut_14 : decode b_K_cut 14 = .ok (.iload_n 2, 1) := by decide +kernel
theorem d_K_cut_15 : decode b_K_cut 15 = .ok (.bipush 100, 2) := by decide +kernel
theorem d_K_cut_17 : decode b_K_cut 17 = .ok (.if_icmp .ge 45, 3) := by decide +kernel
theorem d_K_cut_20 : decode b_K_cut 20 = .ok (.iload_n 1, 1) := by decide +kernel
theorem d_K_cut_21 : decode b_K_cut 21 = .ok (.aload_n 0, 1) := by decide +kernel
theorem d_K_cut_22 : decode b_K_cut 22 = .ok (.getfield 9, 3) := by decide +kernel
theorem d_K_cut_25 : decode b_K_cut 25 = .ok (.invokevirtual 33, 3) := by decide +kernel
theorem d_K_cut_28 : decode b_K_cut 28 = .ok (.if_icmp .ge 34, 3) := by decide +kernel
theorem d_K_cut_31 : decode b_K_cut 31 = .ok (.aload_n 0, 1) := by decide +kernel
theorem d_K_cut_32 : decode b_K_cut 32 = .ok (.getfield 9, 3) := by decide +kernel
theorem d_K_cut_35 : decode b_K_cut 35 = .ok (.iload_n 1, 1) := by decide +kernel
theorem d_K_cut_36 : decode b_K_cut 36 = .ok (.invokevirtual 39, 3) := by decide +kernel
theorem d_K_cut_39 : decode b_K_cut 39 = .ok (.bipush 32, 2) := by decide +kernel
theorem d_K_cut_41 : decode b_K_cut 41 = .ok (.if_icmp .ne 9, 3) := by decide +kernel
theorem d_K_cut_44 : decode b_K_cut 44 = .ok (.iload_n 1, 1) := by decide +kernel
theorem d_K_cut_45 : decode b_K_cut 45 = .ok (.iconst 1, 1) := by decide +kernel
theorem d_K_cut_46 : decode b_K_cut 46 = .ok (.iadd, 1) := by decide +kernel
theorem d_K_cut_47 : decode b_K_cut 47 = .ok (.goto 8, 3) := by decide +kernel
theorem d_K_cut_50 : decode b_K_cut 50 = .ok (.aload_n 0, 1) := by decide +kernel
theorem d_K_cut_51 : decode b_K_cut 51 = .ok (.iload_n 1, 1) := by decide +kernel
theorem d_K_cut_52 : decode b_K_cut 52 = .ok (.invokevirtual 42, 3) := by decide +kernel
theorem d_K_cut_55 : decode b_K_cut 55 = .ok (.istore_n 1, 1) := by decide +kernel
theorem d_K_cut_56 : decode b_K_cut 56 = .ok (.iinc 2 1, 3) := by decide +kernel
theorem d_K_cut_59 : decode b_K_cut 59 = .ok (.goto (-45), 3) := by decide +kernel
theorem d_K_cut_62 : decode b_K_cut 62 = .ok (.aload_n 0, 1) := by decide +kernel
theorem d_K_cut_63 : decode b_K_cut 63 = .ok (.bipush 46, 2) := by decide +kernel
theorem d_K_cut_65 : decode b_K_cut 65 = .ok (.aload_n 0, 1) := by decide +kernel
theorem d_K_cut_66 : decode b_K_cut 66 = .ok (.getfield 9, 3) := by decide +kernel
theorem d_K_cut_69 : decode b_K_cut 69 = .ok (.invokevirtual 33, 3) := by decide +kernel
theorem d_K_cut_72 : decode b_K_cut 72 = .ok (.aload_n 0, 1) := by decide +kernel
theorem d_K_cut_73 : decode b_K_cut 73 = .ok (.getfield 9, 3) := by decide +kernel
theorem d_K_cut_76 : decode b_K_cut 76 = .ok (.invokevirtual 33, 3) := by decide +kernel
theorem d_K_cut_79 : decode b_K_cut 79 = .ok (.invokevirtual 46, 3) := by decide +kernel
theorem d_K_cut_82 : decode b_K_cut 82 = .ok (.pop, 1) := by decide +kernel
theorem d_K_cut_83 : decode b_K_cut 83 = .ok (.return_, 1) := by decide +kernel
theorem d_K_cutOne_0 : decode b_K_cutOne 0 = .ok (.aload_n 0, 1) := by decide +kernel
theorem d_K_cutOne_1 : decode b_K_cutOne 1 = .ok (.getfield 9, 3) := by decide +kernel
theorem d_K_cutOne_4 : decode b_K_cutOne 4 = .ok (.iload_n 1, 1) := by decide +kernel
theorem d_K_cutOne_5 : decode b_K_cutOne 5 = .ok (.invokevirtual 39, 3) := by decide +kernel
theorem d_K_cutOne_8 : decode b_K_cutOne 8 = .ok (.istore_n 2, 1) := by decide +kernel
theorem d_K_cutOne_9 : decode b_K_cutOne 9 = .ok (.bipush 97, 2) := by decide +kernel
theorem d_K_cutOne_11 : decode b_K_cutOne 11 = .ok (.iload_n 2, 1) := by decide +kernel
theorem d_K_cutOne_12 : decode b_K_cutOne 12 = .ok (.bipush 122, 2) := by decide +kernel
theorem d_K_cutOne_14 : decode b_K_cutOne 14 = .ok (.invokestatic 56, 3) := by decide +kernel
theorem d_K_cutOne_17 : decode b_K_cutOne 17 = .ok (.ifCond .eq 20, 3) := by decide +kernel
theorem d_K_cutOne_20 : decode b_K_cutOne 20 = .ok (.aload_n 0, 1) := by decide +kernel
theorem d_K_cutOne_21 : decode b_K_cutOne 21 = .ok (.bipush 97, 2) := by decide +kernel
theorem d_K_cutOne_23 : decode b_K_cutOne 23 = .ok (.iload_n 1, 1) := by decide +kernel
theorem d_K_cutOne_24 : decode b_K_cutOne 24 = .ok (.aload_n 0, 1) := by decide +kernel
theorem d_K_cutOne_25 : decode b_K_cutOne 25 = .ok (.iload_n 1, 1) := by decide +kernel
theorem d_K_cutOne_26 : decode b_K_cutOne 26 = .ok (.bipush 97, 2) := by decide +kernel
theorem d_K_cutOne_28 : decode b_K_cutOne 28 = .ok (.bipush 122, 2) := by decide +kernel
theorem d_K_cutOne_30 : decode b_K_cutOne 30 = .ok (.invokevirtual 60, 3) := by decide +kernel
theorem d_K_cutOne_33 : decode b_K_cutOne 33 = .ok (.invokevirtual 46, 3) := by decide +kernel
theorem d_K_cutOne_36 : decode b_K_cutOne 36 = .ok (.ireturn, 1) := by decide +kernel
theorem d_K_cutOne_37 : decode b_K_cutOne 37 = .ok (.bipush 48, 2) := by decide +kernel
theorem d_K_cutOne_39 : decode b_K_cutOne 39 = .ok (.iload_n 2, 1) := by decide +kernel
theorem d_K_cutOne_40 : decode b_K_cutOne 40 = .ok (.bipush 57, 2) := by decide +kernel
theorem d_K_cutOne_42 : decode b_K_cutOne 42 = .ok (.invokestatic 56, 3) := by decide +kernel
theorem d_K_cutOne_45 : decode b_K_cutOne 45 = .ok (.ifCond .eq 34, 3) := by decide +kernel
theorem d_K_cutOne_48 : decode b_K_cutOne 48 = .ok (.aload_n 0, 1) := by decide +kernel
theorem d_K_cutOne_49 : decode b_K_cutOne 49 = .ok (.iload_n 1, 1) := by decide +kernel
theorem d_K_cutOne_50 : decode b_K_cutOne 50 = .ok (.bipush 48, 2) := by decide +kernel
theorem d_K_cutOne_52 : decode b_K_cutOne 52 = .ok (.bipush 57, 2) := by decide +kernel
theorem d_K_cutOne_54 : decode b_K_cutOne 54 = .ok (.invokevirtual 60, 3) := by decide +kernel
theorem d_K_cutOne_57 : decode b_K_cutOne 57 = .ok (.istore_n 3, 1) := by decide +kernel
theorem d_K_cutOne_58 : decode b_K_cutOne 58 = .ok (.aload_n 0, 1) := by decide +kernel
theorem d_K_cutOne_59 : decode b_K_cutOne 59 = .ok (.iload_n 3, 1) := by decide +kernel
theorem d_K_cutOne_60 : decode b_K_cutOne 60 = .ok (.iload_n 1, 1) := by decide +kernel
theorem d_K_cutOne_61 : decode b_K_cutOne 61 = .ok (.isub, 1) := by decide +kernel
theorem d_K_cutOne_62 : decode b_K_cutOne 62 = .ok (.iconst 3, 1) := by decide +kernel
theorem d_K_cutOne_63 : decode b_K_cutOne 63 = .ok (.if_icmp .gt 8, 3) := by decide +kernel
theorem d_K_cutOne_66 : decode b_K_cutOne 66 = .ok (.bipush 48, 2) := by decide +kernel
theorem d_K_cutOne_68 : decode b_K_cutOne 68 = .ok (.goto 5, 3) := by decide +kernel
theorem d_K_cutOne_71 : decode b_K_cutOne 71 = .ok (.bipush 63, 2) := by decide +kernel
theorem d_K_cutOne_73 : decode b_K_cutOne 73 = .ok (.iload_n 1, 1) := by decide +kernel
theorem d_K_cutOne_74 : decode b_K_cutOne 74 = .ok (.iload_n 3, 1) := by decide +kernel
theorem d_K_cutOne_75 : decode b_K_cutOne 75 = .ok (.invokevirtual 46, 3) := by decide +kernel
theorem d_K_cutOne_78 : decode b_K_cutOne 78 = .ok (.ireturn, 1) := by decide +kernel
theorem d_K_cutOne_79 : decode b_K_cutOne 79 = .ok (.aload_n 0, 1) := by decide +kernel
theorem d_K_cutOne_80 : decode b_K_cutOne 80 = .ok (.ldc 64, 2) := by decide +kernel
theorem d_K_cutOne_82 : decode b_K_cutOne 82 = .ok (.iload_n 2, 1) := by decide +kernel
theorem d_K_cutOne_83 : decode b_K_cutOne 83 = .ok (.invokevirtual 66, 3) := by decide +kernel
theorem d_K_cutOne_86 : decode b_K_cutOne 86 = .ok (.ifCond .lt 7, 3) := by decide +kernel
theorem d_K_cutOne_89 : decode b_K_cutOne 89 = .ok (.iload_n 2, 1) := by decide +kernel
theorem d_K_cutOne_90 : decode b_K_cutOne 90 = .ok (.goto 5, 3) := by decide +kernel
theorem d_K_cutOne_93 : decode b_K_cutOne 93 = .ok (.bipush 63, 2) := by decide +kernel
theorem d_K_cutOne_95 : decode b_K_cutOne 95 = .ok (.iload_n 1, 1) := by decide +kernel
theorem d_K_cutOne_96 : decode b_K_cutOne 96 = .ok (.iload_n 1, 1) := by decide +kernel
theorem d_K_cutOne_97 : decode b_K_cutOne 97 = .ok (.iconst 1, 1) := by decide +kernel
theorem d_K_cutOne_98 : decode b_K_cutOne 98 = .ok (.iadd, 1) := by decide +kernel
theorem d_K_cutOne_99 : decode b_K_cutOne 99 = .ok (.invokevirtual 46, 3) := by decide +kernel
theorem d_K_cutOne_102 : decode b_K_cutOne 102 = .ok (.ireturn, 1) := by decide +kernel
theorem d_K_isBetween_0 : decode b_K_isBetween 0 = .ok (.iload_n 0, 1) := by decide +kernel
theorem d_K_isBetween_1 : decode b_K_isBetween 1 = .ok (.iload_n 1, 1) := by decide +kernel
theorem d_K_isBetween_2 : decode b_K_isBetween 2 = .ok (.if_icmp .gt 12, 3) := by decide +kernel
theorem d_K_isBetween_5 : decode b_K_isBetween 5 = .ok (.iload_n 1, 1) := by decide +kernel
theorem d_K_isBetween_6 : decode b_K_isBetween 6 = .ok (.iload_n 2, 1) := by decide +kernel
theorem d_K_isBetween_7 : decode b_K_isBetween 7 = .ok (.if_icmp .gt 7, 3) := by decide +kernel
theorem d_K_isBetween_10 : decode b_K_isBetween 10 = .ok (.iconst 1, 1) := by decide +kernel
theorem d_K_isBetween_11 : decode b_K_isBetween 11 = .ok (.goto 4, 3) := by decide +kernel
theorem d_K_isBetween_14 : decode b_K_isBetween 14 = .ok (.iconst 0, 1) := by decide +kernel
theorem d_K_isBetween_15 : decode b_K_isBetween 15 = .ok (.ireturn, 1) := by decide +kernel
theorem d_K_endOf_0 : decode b_K_endOf 0 = .ok (.iload_n 1, 1) := by decide +kernel
theorem d_K_endOf_1 : decode b_K_endOf 1 = .ok (.istore 4, 2) := by decide +kernel
theorem d_K_endOf_3 : decode b_K_endOf 3 = .ok (.iload 4, 2) := by decide +kernel
theorem d_K_endOf_5 : decode b_K_endOf 5 = .ok (.aload_n 0, 1) := by decide +kernel
theorem d_K_endOf_6 : decode b_K_endOf 6 = .ok (.getfield 9, 3) := by decide +kernel
theorem d_K_endOf_9 : decode b_K_endOf 9 = .ok (.invokevirtual 33, 3) := by decide +kernel
theorem d_K_endOf_12 : decode b_K_endOf 12 = .ok (.if_icmp .ge 26, 3) := by decide +kernel
theorem d_K_endOf_15 : decode b_K_endOf 15 = .ok (.iload_n 2, 1) := by decide +kernel
theorem d_K_endOf_16 : decode b_K_endOf 16 = .ok (.aload_n 0, 1) := by decide +kernel
theorem d_K_endOf_17 : decode b_K_endOf 17 = .ok (.getfield 9, 3) := by decide +kernel
theorem d_K_endOf_20 : decode b_K_endOf 20 = .ok (.iload 4, 2) := by decide +kernel
theorem d_K_endOf_22 : decode b_K_endOf 22 = .ok (.invokevirtual 39, 3) := by decide +kernel
theorem d_K_endOf_25 : decode b_K_endOf 25 = .ok (.iload_n 3, 1) := by decide +kernel
theorem d_K_endOf_26 : decode b_K_endOf 26 = .ok (.invokestatic 56, 3) := by decide +kernel
theorem d_K_endOf_29 : decode b_K_endOf 29 = .ok (.ifCond .eq 9, 3) := by decide +kernel
theorem d_K_endOf_32 : decode b_K_endOf 32 = .ok (.iinc 4 1, 3) := by decide +kernel
theorem d_K_endOf_35 : decode b_K_endOf 35 = .ok (.goto (-32), 3) := by decide +kernel
theorem d_K_endOf_38 : decode b_K_endOf 38 = .ok (.iload 4, 2) := by decide +kernel
theorem d_K_endOf_40 : decode b_K_endOf 40 = .ok (.ireturn, 1) := by decide +kernel
theorem d_K_append_0 : decode b_K_append 0 = .ok (.aload_n 0, 1) := by decide +kernel
theorem d_K_append_1 : decode b_K_append 1 = .ok (.getfield 26, 3) := by decide +kernel
theorem d_K_append_4 : decode b_K_append 4 = .ok (.bipush 101, 2) := by decide +kernel
theorem d_K_append_6 : decode b_K_append 6 = .ok (.if_icmp .ge 43, 3) := by decide +kernel
theorem d_K_append_9 : decode b_K_append 9 = .ok (.aload_n 0, 1) := by decide +kernel
theorem d_K_append_10 : decode b_K_append 10 = .ok (.getfield 15, 3) := by decide +kernel
theorem d_K_append_13 : decode b_K_append 13 = .ok (.aload_n 0, 1) := by decide +kernel
theorem d_K_append_14 : decode b_K_append 14 = .ok (.getfield 26, 3) := by decide +kernel
theorem d_K_append_17 : decode b_K_append 17 = .ok (.iload_n 1, 1) := by decide +kernel
theorem d_K_append_18 : decode b_K_append 18 = .ok (.castore, 1) := by decide +kernel
theorem d_K_append_19 : decode b_K_append 19 = .ok (.aload_n 0, 1) := by decide +kernel
theorem d_K_append_20 : decode b_K_append 20 = .ok (.getfield 19, 3) := by decide +kernel
theorem d_K_append_23 : decode b_K_append 23 = .ok (.aload_n 0, 1) := by decide +kernel
theorem d_K_append_24 : decode b_K_append 24 = .ok (.getfield 26, 3) := by decide +kernel
theorem d_K_append_27 : decode b_K_append 27 = .ok (.iload_n 2, 1) := by decide +kernel
theorem d_K_append_28 : decode b_K_append 28 = .ok (.iastore, 1) := by decide +kernel
theorem d_K_append_29 : decode b_K_append 29 = .ok (.aload_n 0, 1) := by decide +kernel
theorem d_K_append_30 : decode b_K_append 30 = .ok (.getfield 23, 3) := by decide +kernel
theorem d_K_append_33 : decode b_K_append 33 = .ok (.aload_n 0, 1) := by decide +kernel
theorem d_K_append_34 : decode b_K_append 34 = .ok (.getfield 26, 3) := by decide +kernel
theorem d_K_append_37 : decode b_K_append 37 = .ok (.iload_n 3, 1) := by decide +kernel
theorem d_K_append_38 : decode b_K_append 38 = .ok (.iastore, 1) := by decide +kernel
theorem d_K_append_39 : decode b_K_append 39 = .ok (.aload_n 0, 1) := by decide +kernel
theorem d_K_append_40 : decode b_K_append 40 = .ok (.dup, 1) := by decide +kernel
theorem d_K_append_41 : decode b_K_append 41 = .ok (.getfield 26, 3) := by decide +kernel
theorem d_K_append_44 : decode b_K_append 44 = .ok (.iconst 1, 1) := by decide +kernel
theorem d_K_append_45 : decode b_K_append 45 = .ok (.iadd, 1) := by decide +kernel
theorem d_K_append_46 : decode b_K_append 46 = .ok (.putfield 26, 3) := by decide +kernel
theorem d_K_append_49 : decode b_K_append 49 = .ok (.iload_n 3, 1) := by decide +kernel
theorem d_K_append_50 : decode b_K_append 50 = .ok (.ireturn, 1) := by decide +kernel
theorem d_K_isWord_0 : decode b_K_isWord 0 = .ok (.aload_n 0, 1) := by decide +kernel
theorem d_K_isWord_1 : decode b_K_isWord 1 = .ok (.getfield 15, 3) := by decide +kernel
theorem d_K_isWord_4 : decode b_K_isWord 4 = .ok (.aload_n 0, 1) := by decide +kernel
theorem d_K_isWord_5 : decode b_K_isWord 5 = .ok (.getfield 30, 3) := by decide +kernel
theorem d_K_isWord_8 : decode b_K_isWord 8 = .ok (.caload, 1) := by decide +kernel
theorem d_K_isWord_9 : decode b_K_isWord 9 = .ok (.bipush 97, 2) := by decide +kernel
theorem d_K_isWord_11 : decode b_K_isWord 11 = .ok (.if_icmp .ne 29, 3) := by decide +kernel
theorem d_K_isWord_14 : decode b_K_isWord 14 = .ok (.aload_n 0, 1) := by decide +kernel
theorem d_K_isWord_15 : decode b_K_isWord 15 = .ok (.getfield 23, 3) := by decide +kernel
theorem d_K_isWord_18 : decode b_K_isWord 18 = .ok (.aload_n 0, 1) := by decide +kernel
theorem d_K_isWord_19 : decode b_K_isWord 19 = .ok (.getfield 30, 3) := by decide +kernel
theorem d_K_isWord_22 : decode b_K_isWord 22 = .ok (.iaload, 1) := by decide +kernel
theorem d_K_isWord_23 : decode b_K_isWord 23 = .ok (.aload_n 0, 1) := by decide +kernel
theorem d_K_isWord_24 : decode b_K_isWord 24 = .ok (.getfield 19, 3) := by decide +kernel
theorem d_K_isWord_27 : decode b_K_isWord 27 = .ok (.aload_n 0, 1) := by decide +kernel
theorem d_K_isWord_28 : decode b_K_isWord 28 = .ok (.getfield 30, 3) := by decide +kernel
theorem d_K_isWord_31 : decode b_K_isWord 31 = .ok (.iaload, 1) := by decide +kernel
theorem d_K_isWord_32 : decode b_K_isWord 32 = .ok (.isub, 1) := by decide +kernel
theorem d_K_isWord_33 : decode b_K_isWord 33 = .ok (.aload_n 1, 1) := by decide +kernel
theorem d_K_isWord_34 : decode b_K_isWord 34 = .ok (.invokevirtual 50, 3) := by decide +kernel
theorem d_K_isWord_37 : decode b_K_isWord 37 = .ok (.if_icmp .eq 5, 3) := by decide +kernel
theorem d_K_isWord_40 : decode b_K_isWord 40 = .ok (.iconst 0, 1) := by decide +kernel
theorem d_K_isWord_41 : decode b_K_isWord 41 = .ok (.ireturn, 1) := by decide +kernel
theorem d_K_isWord_42 : decode b_K_isWord 42 = .ok (.iconst 0, 1) := by decide +kernel
theorem d_K_isWord_43 : decode b_K_isWord 43 = .ok (.istore_n 2, 1) := by decide +kernel
theorem d_K_isWord_44 : decode b_K_isWord 44 = .ok (.iload_n 2, 1) := by decide +kernel
theorem d_K_isWord_45 : decode b_K_isWord 45 = .ok (.aload_n 1, 1) := by decide +kernel
theorem d_K_isWord_46 : decode b_K_isWord 46 = .ok (.invokevirtual 50, 3) := by decide +kernel
theorem d_K_isWord_49 : decode b_K_isWord 49 = .ok (.if_icmp .ge 37, 3) := by decide +kernel
theorem d_K_isWord_52 : decode b_K_isWord 52 = .ok (.aload_n 0, 1) := by decide +kernel
theorem d_K_isWord_53 : decode b_K_isWord 53 = .ok (.getfield 9, 3) := by decide +kernel
theorem d_K_isWord_56 : decode b_K_isWord 56 = .ok (.aload_n 0, 1) := by decide +kernel
theorem d_K_isWord_57 : decode b_K_isWord 57 = .ok (.getfield 19, 3) := by decide +kernel
theorem d_K_isWord_60 : decode b_K_isWord 60 = .ok (.aload_n 0, 1) := by decide +kernel
theorem d_K_isWord_61 : decode b_K_isWord 61 = .ok (.getfield 30, 3) := by decide +kernel
theorem d_K_isWord_64 : decode b_K_isWord 64 = .ok (.iaload, 1) := by decide +kernel
theorem d_K_isWord_65 : decode b_K_isWord 65 = .ok (.iload_n 2, 1) := by decide +kernel
theorem d_K_isWord_66 : decode b_K_isWord 66 = .ok (.iadd, 1) := by decide +kernel
theorem d_K_isWord_67 : decode b_K_isWord 67 = .ok (.invokevirtual 39, 3) := by decide +kernel
theorem d_K_isWord_70 : decode b_K_isWord 70 = .ok (.aload_n 1, 1) := by decide +kernel
theorem d_K_isWord_71 : decode b_K_isWord 71 = .ok (.iload_n 2, 1) := by decide +kernel
theorem d_K_isWord_72 : decode b_K_isWord 72 = .ok (.invokevirtual 53, 3) := by decide +kernel
theorem d_K_isWord_75 : decode b_K_isWord 75 = .ok (.if_icmp .eq 5, 3) := by decide +kernel
theorem d_K_isWord_78 : decode b_K_isWord 78 = .ok (.iconst 0, 1) := by decide +kernel
theorem d_K_isWord_79 : decode b_K_isWord 79 = .ok (.ireturn, 1) := by decide +kernel
theorem d_K_isWord_80 : decode b_K_isWord 80 = .ok (.iinc 2 1, 3) := by decide +kernel
theorem d_K_isWord_83 : decode b_K_isWord 83 = .ok (.goto (-39), 3) := by decide +kernel
theorem d_K_isWord_86 : decode b_K_isWord 86 = .ok (.iconst 1, 1) := by decide +kernel
theorem d_K_isWord_87 : decode b_K_isWord 87 = .ok (.ireturn, 1) := by decide +kernel
theorem d_K_advance_0 : decode b_K_advance 0 = .ok (.aload_n 0, 1) := by decide +kernel
theorem d_K_advance_1 : decode b_K_advance 1 = .ok (.getfield 30, 3) := by decide +kernel
theorem d_K_advance_4 : decode b_K_advance 4 = .ok (.aload_n 0, 1) := by decide +kernel
theorem d_K_advance_5 : decode b_K_advance 5 = .ok (.getfield 26, 3) := by decide +kernel
theorem d_K_advance_8 : decode b_K_advance 8 = .ok (.iconst 1, 1) := by decide +kernel
theorem d_K_advance_9 : decode b_K_advance 9 = .ok (.isub, 1) := by decide +kernel
theorem d_K_advance_10 : decode b_K_advance 10 = .ok (.if_icmp .ge 13, 3) := by decide +kernel
theorem d_K_advance_13 : decode b_K_advance 13 = .ok (.aload_n 0, 1) := by decide +kernel
theorem d_K_advance_14 : decode b_K_advance 14 = .ok (.dup, 1) := by decide +kernel
theorem d_K_advance_15 : decode b_K_advance 15 = .ok (.getfield 30, 3) := by decide +kernel
theorem d_K_advance_18 : decode b_K_advance 18 = .ok (.iconst 1, 1) := by decide +kernel
theorem d_K_advance_19 : decode b_K_advance 19 = .ok (.iadd, 1) := by decide +kernel
theorem d_K_advance_20 : decode b_K_advance 20 = .ok (.putfield 30, 3) := by decide +kernel
theorem d_K_advance_23 : decode b_K_advance 23 = .ok (.return_, 1) := by decide +kernel
theorem d_S_readCondition_0 : decode b_S_readCondition 0 = .ok (.aload_n 0, 1) := by decide +kernel
theorem d_S_readCondition_1 : decode b_S_readCondition 1 = .ok (.iload_n 1, 1) := by decide +kernel
theorem d_S_readCondition_2 : decode b_S_readCondition 2 = .ok (.invokevirtual 122, 3) := by decide +kernel
theorem d_S_readCondition_5 : decode b_S_readCondition 5 = .ok (.istore_n 2, 1) := by decide +kernel
theorem d_S_readCondition_6 : decode b_S_readCondition 6 = .ok (.iconst 0, 1) := by decide +kernel
theorem d_S_readCondition_7 : decode b_S_readCondition 7 = .ok (.istore_n 3, 1) := by decide +kernel
theorem d_S_readCondition_8 : decode b_S_readCondition 8 = .ok (.iload_n 3, 1) := by decide +kernel
theorem d_S_readCondition_9 : decode b_S_readCondition 9 = .ok (.bipush 100, 2) := by decide +kernel
theorem d_S_readCondition_11 : decode b_S_readCondition 11 = .ok (.if_icmp .ge 36, 3) := by decide +kernel
theorem d_S_readCondition_14 : decode b_S_readCondition 14 = .ok (.aload_n 0, 1) := by decide +kernel
theorem d_S_readCondition_15 : decode b_S_readCondition 15 = .ok (.getfield 24, 3) := by decide +kernel
theorem d_S_readCondition_18 : decode b_S_readCondition 18 = .ok (.bipush 124, 2) := by decide +kernel
theorem d_S_readCondition_20 : decode b_S_readCondition 20 = .ok (.invokevirtual 125, 3) := by decide +kernel
theorem d_S_readCondition_23 : decode b_S_readCondition 23 = .ok (.ifCond .eq 24, 3) := by decide +kernel
theorem d_S_readCondition_26 : decode b_S_readCondition 26 = .ok (.aload_n 0, 1) := by decide +kernel
theorem d_S_readCondition_27 : decode b_S_readCondition 27 = .ok (.getfield 24, 3) := by decide +kernel
theorem d_S_readCondition_30 : decode b_S_readCondition 30 = .ok (.invokevirtual 99, 3) := by decide +kernel
theorem d_S_readCondition_33 : decode b_S_readCondition 33 = .ok (.iload_n 2, 1) := by decide +kernel
theorem d_S_readCondition_34 : decode b_S_readCondition 34 = .ok (.aload_n 0, 1) := by decide +kernel
theorem d_S_readCondition_35 : decode b_S_readCondition 35 = .ok (.iload_n 1, 1) := by decide +kernel
theorem d_S_readCondition_36 : decode b_S_readCondition 36 = .ok (.invokevirtual 122, 3) := by decide +kernel
theorem d_S_readCondition_39 : decode b_S_readCondition 39 = .ok (.ior, 1) := by decide +kernel
theorem d_S_readCondition_40 : decode b_S_readCondition 40 = .ok (.istore_n 2, 1) := by decide +kernel
theorem d_S_readCondition_41 : decode b_S_readCondition 41 = .ok (.iinc 3 1, 3) := by decide +kernel
theorem d_S_readCondition_44 : decode b_S_readCondition 44 = .ok (.goto (-36), 3) := by decide +kernel
theorem d_S_readCondition_47 : decode b_S_readCondition 47 = .ok (.iload_n 2, 1) := by decide +kernel
theorem d_S_readCondition_48 : decode b_S_readCondition 48 = .ok (.ireturn, 1) := by decide +kernel
theorem d_S_readClause_0 : decode b_S_readClause 0 = .ok (.aload_n 0, 1) := by decide +kernel
theorem d_S_readClause_1 : decode b_S_readClause 1 = .ok (.iload_n 1, 1) := by decide +kernel
theorem d_S_readClause_2 : decode b_S_readClause 2 = .ok (.invokevirtual 129, 3) := by decide +kernel
theorem d_S_readClause_5 : decode b_S_readClause 5 = .ok (.istore_n 2, 1) := by decide +kernel
theorem d_S_readClause_6 : decode b_S_readClause 6 = .ok (.iconst 0, 1) := by decide +kernel
theorem d_S_readClause_7 : decode b_S_readClause 7 = .ok (.istore_n 3, 1) := by decide +kernel
theorem d_S_readClause_8 : decode b_S_readClause 8 = .ok (.iload_n 3, 1) := by decide +kernel
theorem d_S_readClause_9 : decode b_S_readClause 9 = .ok (.bipush 100, 2) := by decide +kernel
theorem d_S_readClause_11 : decode b_S_readClause 11 = .ok (.if_icmp .ge 36, 3) := by decide +kernel
theorem d_S_readClause_14 : decode b_S_readClause 14 = .ok (.aload_n 0, 1) := by decide +kernel
theorem d_S_readClause_15 : decode b_S_readClause 15 = .ok (.getfield 24, 3) := by decide +kernel
theorem d_S_readClause_18 : decode b_S_readClause 18 = .ok (.bipush 38, 2) := by decide +kernel
theorem d_S_readClause_20 : decode b_S_readClause 20 = .ok (.invokevirtual 125, 3) := by decide +kernel
theorem d_S_readClause_23 : decode b_S_readClause 23 = .ok (.ifCond .eq 24, 3) := by decide +kernel
theorem d_S_readClause_26 : decode b_S_readClause 26 = .ok (.aload_n 0, 1) := by decide +kernel
theorem d_S_readClause_27 : decode b_S_readClause 27 = .ok (.getfield 24, 3) := by decide +kernel
theorem d_S_readClause_30 : decode b_S_readClause 30 = .ok (.invokevirtual 99, 3) := by decide +kernel
theorem d_S_readClause_33 : decode b_S_readClause 33 = .ok (.iload_n 2, 1) := by decide +kernel
theorem d_S_readClause_34 : decode b_S_readClause 34 = .ok (.aload_n 0, 1) := by decide +kernel
theorem d_S_readClause_35 : decode b_S_readClause 35 = .ok (.iload_n 1, 1) := by decide +kernel
theorem d_S_readClause_36 : decode b_S_readClause 36 = .ok (.invokevirtual 129, 3) := by decide +kernel
theorem d_S_readClause_39 : decode b_S_readClause 39 = .ok (.iand, 1) := by decide +kernel
theorem d_S_readClause_40 : decode b_S_readClause 40 = .ok (.istore_n 2, 1) := by decide +kernel
theorem d_S_readClause_41 : decode b_S_readClause 41 = .ok (.iinc 3 1, 3) := by decide +kernel
theorem d_S_readClause_44 : decode b_S_readClause 44 = .ok (.goto (-36), 3) := by decide +kernel
theorem d_S_readClause_47 : decode b_S_readClause 47 = .ok (.iload_n 2, 1) := by decide +kernel
theorem d_S_readClause_48 : decode b_S_readClause 48 = .ok (.ireturn, 1) := by decide +kernel
theorem d_S_readOne_0 : decode b_S_readOne 0 = .ok (.aload_n 0, 1) := by decide +kernel
theorem d_S_readOne_1 : decode b_S_readOne 1 = .ok (.getfield 24, 3) := by decide +kernel
theorem d_S_readOne_4 : decode b_S_readOne 4 = .ok (.bipush 33, 2) := by decide +kernel
theorem d_S_readOne_6 : decode b_S_readOne 6 = .ok (.invokevirtual 125, 3) := by decide +kernel
theorem d_S_readOne_9 : decode b_S_readOne 9 = .ok (.istore_n 2, 1) := by decide +kernel
theorem d_S_readOne_10 : decode b_S_readOne 10 = .ok (.iload_n 2, 1) := by decide +kernel
theorem d_S_readOne_11 : decode b_S_readOne 11 = .ok (.ifCond .ne 20, 3) := by decide +kernel
theorem d_S_readOne_14 : decode b_S_readOne 14 = .ok (.aload_n 0, 1) := by decide +kernel
theorem d_S_readOne_15 : decode b_S_readOne 15 = .ok (.getfield 24, 3) := by decide +kernel
theorem d_S_readOne_18 : decode b_S_readOne 18 = .ok (.bipush 40, 2) := by decide +kernel
theorem d_S_readOne_20 : decode b_S_readOne 20 = .ok (.invokevirtual 125, 3) := by decide +kernel
theorem d_S_readOne_23 : decode b_S_readOne 23 = .ok (.ifCond .ne 8, 3) := by decide +kernel
theorem d_S_readOne_26 : decode b_S_readOne 26 = .ok (.aload_n 0, 1) := by decide +kernel
theorem d_S_readOne_27 : decode b_S_readOne 27 = .ok (.invokevirtual 132, 3) := by decide +kernel
theorem d_S_readOne_30 : decode b_S_readOne 30 = .ok (.ireturn, 1) := by decide +kernel
theorem d_S_readOne_31 : decode b_S_readOne 31 = .ok (.iload_n 1, 1) := by decide +kernel
theorem d_S_readOne_32 : decode b_S_readOne 32 = .ok (.bipush 8, 2) := by decide +kernel
theorem d_S_readOne_34 : decode b_S_readOne 34 = .ok (.if_icmp .lt 7, 3) := by decide +kernel
theorem d_S_readOne_37 : decode b_S_readOne 37 = .ok (.aload_n 0, 1) := by decide +kernel
theorem d_S_readOne_38 : decode b_S_readOne 38 = .ok (.invokevirtual 113, 3) := by decide +kernel
theorem d_S_readOne_41 : decode b_S_readOne 41 = .ok (.aload_n 0, 1) := by decide +kernel
theorem d_S_readOne_42 : decode b_S_readOne 42 = .ok (.getfield 24, 3) := by decide +kernel
theorem d_S_readOne_45 : decode b_S_readOne 45 = .ok (.invokevirtual 99, 3) := by decide +kernel
theorem d_S_readOne_48 : decode b_S_readOne 48 = .ok (.iload_n 2, 1) := by decide +kernel
theorem d_S_readOne_49 : decode b_S_readOne 49 = .ok (.ifCond .eq 13, 3) := by decide +kernel
theorem d_S_readOne_52 : decode b_S_readOne 52 = .ok (.aload_n 0, 1) := by decide +kernel
theorem d_S_readOne_53 : decode b_S_readOne 53 = .ok (.iload_n 1, 1) := by decide +kernel
theorem d_S_readOne_54 : decode b_S_readOne 54 = .ok (.iconst 1, 1) := by decide +kernel
theorem d_S_readOne_55 : decode b_S_readOne 55 = .ok (.iadd, 1) := by decide +kernel
theorem d_S_readOne_56 : decode b_S_readOne 56 = .ok (.invokevirtual 129, 3) := by decide +kernel
theorem d_S_readOne_59 : decode b_S_readOne 59 = .ok (.iconst (-1), 1) := by decide +kernel
theorem d_S_readOne_60 : decode b_S_readOne 60 = .ok (.ixor, 1) := by decide +kernel
theorem d_S_readOne_61 : decode b_S_readOne 61 = .ok (.ireturn, 1) := by decide +kernel
theorem d_S_readOne_62 : decode b_S_readOne 62 = .ok (.aload_n 0, 1) := by decide +kernel
theorem d_S_readOne_63 : decode b_S_readOne 63 = .ok (.iload_n 1, 1) := by decide +kernel
theorem d_S_readOne_64 : decode b_S_readOne 64 = .ok (.iconst 1, 1) := by decide +kernel
theorem d_S_readOne_65 : decode b_S_readOne 65 = .ok (.iadd, 1) := by decide +kernel
theorem d_S_readOne_66 : decode b_S_readOne 66 = .ok (.invokevirtual 102, 3) := by decide +kernel
theorem d_S_readOne_69 : decode b_S_readOne 69 = .ok (.istore_n 3, 1) := by decide +kernel
theorem d_S_readOne_70 : decode b_S_readOne 70 = .ok (.aload_n 0, 1) := by decide +kernel
theorem d_S_readOne_71 : decode b_S_readOne 71 = .ok (.bipush 41, 2) := by decide +kernel
theorem d_S_readOne_73 : decode b_S_readOne 73 = .ok (.invokevirtual 135, 3) := by decide +kernel
theorem d_S_readOne_76 : decode b_S_readOne 76 = .ok (.iload_n 3, 1) := by decide +kernel
theorem d_S_readOne_77 : decode b_S_readOne 77 = .ok (.ireturn, 1) := by decide +kernel
theorem d_K_isSign_0 : decode b_K_isSign 0 = .ok (.aload_n 0, 1) := by decide +kernel
theorem d_K_isSign_1 : decode b_K_isSign 1 = .ok (.getfield 15, 3) := by decide +kernel
theorem d_K_isSign_4 : decode b_K_isSign 4 = .ok (.aload_n 0, 1) := by decide +kernel
theorem d_K_isSign_5 : decode b_K_isSign 5 = .ok (.getfield 30, 3) := by decide +kernel
theorem d_K_isSign_8 : decode b_K_isSign 8 = .ok (.caload, 1) := by decide +kernel
theorem d_K_isSign_9 : decode b_K_isSign 9 = .ok (.iload_n 1, 1) := by decide +kernel
theorem d_K_isSign_10 : decode b_K_isSign 10 = .ok (.if_icmp .ne 7, 3) := by decide +kernel
theorem d_K_isSign_13 : decode b_K_isSign 13 = .ok (.iconst 1, 1) := by decide +kernel
theorem d_K_isSign_14 : decode b_K_isSign 14 = .ok (.goto 4, 3) := by decide +kernel
theorem d_K_isSign_17 : decode b_K_isSign 17 = .ok (.iconst 0, 1) := by decide +kernel
theorem d_K_isSign_18 : decode b_K_isSign 18 = .ok (.ireturn, 1) := by decide +kernel
theorem d_S_readComparison_0 : decode b_S_readComparison 0 = .ok (.aload_n 0, 1) := by decide +kernel
theorem d_S_readComparison_1 : decode b_S_readComparison 1 = .ok (.aload_n 0, 1) := by decide +kernel
theorem d_S_readComparison_2 : decode b_S_readComparison 2 = .ok (.getfield 33, 3) := by decide +kernel
theorem d_S_readComparison_5 : decode b_S_readComparison 5 = .ok (.getfield 139, 3) := by decide +kernel
theorem d_S_readComparison_8 : decode b_S_readComparison 8 = .ok (.invokevirtual 143, 3) := by decide +kernel
theorem d_S_readComparison_11 : decode b_S_readComparison 11 = .ok (.aload_n 0, 1) := by decide +kernel
theorem d_S_readComparison_12 : decode b_S_readComparison 12 = .ok (.getfield 33, 3) := by decide +kernel
theorem d_S_readComparison_15 : decode b_S_readComparison 15 = .ok (.aload_n 0, 1) := by decide +kernel
theorem d_S_readComparison_16 : decode b_S_readComparison 16 = .ok (.bipush 60, 2) := by decide +kernel
theorem d_S_readComparison_18 : decode b_S_readComparison 18 = .ok (.bipush 61, 2) := by decide +kernel
theorem d_S_readComparison_20 : decode b_S_readComparison 20 = .ok (.bipush 62, 2) := by decide +kernel
theorem d_S_readComparison_22 : decode b_S_readComparison 22 = .ok (.invokevirtual 147, 3) := by decide +kernel
theorem d_S_readComparison_25 : decode b_S_readComparison 25 = .ok (.putfield 151, 3) := by decide +kernel
theorem d_S_readComparison_28 : decode b_S_readComparison 28 = .ok (.aload_n 0, 1) := by decide +kernel
theorem d_S_readComparison_29 : decode b_S_readComparison 29 = .ok (.getfield 33, 3) := by decide +kernel
theorem d_S_readComparison_32 : decode b_S_readComparison 32 = .ok (.getfield 151, 3) := by decide +kernel
theorem d_S_readComparison_35 : decode b_S_readComparison 35 = .ok (.bipush 32, 2) := by decide +kernel
theorem d_S_readComparison_37 : decode b_S_readComparison 37 = .ok (.if_icmp .ne 7, 3) := by decide +kernel
theorem d_S_readComparison_40 : decode b_S_readComparison 40 = .ok (.aload_n 0, 1) := by decide +kernel
theorem d_S_readComparison_41 : decode b_S_readComparison 41 = .ok (.invokevirtual 113, 3) := by decide +kernel
theorem d_S_readComparison_44 : decode b_S_readComparison 44 = .ok (.aload_n 0, 1) := by decide +kernel
theorem d_S_readComparison_45 : decode b_S_readComparison 45 = .ok (.aload_n 0, 1) := by decide +kernel
theorem d_S_readComparison_46 : decode b_S_readComparison 46 = .ok (.getfield 33, 3) := by decide +kernel
theorem d_S_readComparison_49 : decode b_S_readComparison 49 = .ok (.getfield 155, 3) := by decide +kernel
theorem d_S_readComparison_52 : decode b_S_readComparison 52 = .ok (.invokevirtual 143, 3) := by decide +kernel
theorem d_S_readComparison_55 : decode b_S_readComparison 55 = .ok (.iconst 0, 1) := by decide +kernel
theorem d_S_readComparison_56 : decode b_S_readComparison 56 = .ok (.istore_n 1, 1) := by decide +kernel
theorem d_S_readComparison_57 : decode b_S_readComparison 57 = .ok (.iconst 0, 1) := by decide +kernel
theorem d_S_readComparison_58 : decode b_S_readComparison 58 = .ok (.istore_n 2, 1) := by decide +kernel
theorem d_S_readComparison_59 : decode b_S_readComparison 59 = .ok (.iload_n 2, 1) := by decide +kernel
theorem d_S_readComparison_60 : decode b_S_readComparison 60 = .ok (.bipush 32, 2) := by decide +kernel
theorem d_S_readComparison_62 : decode b_S_readComparison 62 = .ok (.if_icmp .ge 33, 3) := by decide +kernel
theorem d_S_readComparison_65 : decode b_S_readComparison 65 = .ok (.aload_n 0, 1) := by decide +kernel
theorem d_S_readComparison_66 : decode b_S_readComparison 66 = .ok (.getfield 33, 3) := by decide +kernel
theorem d_S_readComparison_69 : decode b_S_readComparison 69 = .ok (.aload_n 0, 1) := by decide +kernel
theorem d_S_readComparison_70 : decode b_S_readComparison 70 = .ok (.getfield 15, 3) := by decide +kernel
theorem d_S_readComparison_73 : decode b_S_readComparison 73 = .ok (.iload_n 2, 1) := by decide +kernel
theorem d_S_readComparison_74 : decode b_S_readComparison 74 = .ok (.invokevirtual 158, 3) := by decide +kernel
theorem d_S_readComparison_77 : decode b_S_readComparison 77 = .ok (.invokevirtual 161, 3) := by decide +kernel
theorem d_S_readComparison_80 : decode b_S_readComparison 80 = .ok (.ifCond .eq 9, 3) := by decide +kernel
theorem d_S_readComparison_83 : decode b_S_readComparison 83 = .ok (.iload_n 1, 1) := by decide +kernel
theorem d_S_readComparison_84 : decode b_S_readComparison 84 = .ok (.iconst 1, 1) := by decide +kernel
theorem d_S_readComparison_85 : decode b_S_readComparison 85 = .ok (.iload_n 2, 1) := by decide +kernel
theorem d_S_readComparison_86 : decode b_S_readComparison 86 = .ok (.ishl, 1) := by decide +kernel
theorem d_S_readComparison_87 : decode b_S_readComparison 87 = .ok (.ior, 1) := by decide +kernel
theorem d_S_readComparison_88 : decode b_S_readComparison 88 = .ok (.istore_n 1, 1) := by decide +kernel
theorem d_S_readComparison_89 : decode b_S_readComparison 89 = .ok (.iinc 2 1, 3) := by decide +kernel
theorem d_S_readComparison_92 : decode b_S_readComparison 92 = .ok (.goto (-33), 3) := by decide +kernel
theorem d_S_readComparison_95 : decode b_S_readComparison 95 = .ok (.iload_n 1, 1) := by decide +kernel
theorem d_S_readComparison_96 : decode b_S_readComparison 96 = .ok (.ireturn, 1) := by decide +kernel
theorem d_S_readOperand_0 : decode b_S_readOperand 0 = .ok (.aload_n 0, 1) := by decide +kernel
theorem d_S_readOperand_1 : decode b_S_readOperand 1 = .ok (.getfield 24, 3) := by decide +kernel
theorem d_S_readOperand_4 : decode b_S_readOperand 4 = .ok (.bipush 45, 2) := by decide +kernel
theorem d_S_readOperand_6 : decode b_S_readOperand 6 = .ok (.invokevirtual 125, 3) := by decide +kernel
theorem d_S_readOperand_9 : decode b_S_readOperand 9 = .ok (.istore_n 2, 1) := by decide +kernel
theorem d_S_readOperand_10 : decode b_S_readOperand 10 = .ok (.iload_n 2, 1) := by decide +kernel
theorem d_S_readOperand_11 : decode b_S_readOperand 11 = .ok (.ifCond .eq 10, 3) := by decide +kernel
theorem d_S_readOperand_14 : decode b_S_readOperand 14 = .ok (.aload_n 0, 1) := by decide +kernel
theorem d_S_readOperand_15 : decode b_S_readOperand 15 = .ok (.getfield 24, 3) := by decide +kernel
theorem d_S_readOperand_18 : decode b_S_readOperand 18 = .ok (.invokevirtual 99, 3) := by decide +kernel
theorem d_S_readOperand_21 : decode b_S_readOperand 21 = .ok (.aload_n 0, 1) := by decide +kernel
theorem d_S_readOperand_22 : decode b_S_readOperand 22 = .ok (.getfield 24, 3) := by decide +kernel
theorem d_S_readOperand_25 : decode b_S_readOperand 25 = .ok (.invokevirtual 191, 3) := by decide +kernel
theorem d_S_readOperand_28 : decode b_S_readOperand 28 = .ok (.ifCond .eq 39, 3) := by decide +kernel
theorem d_S_readOperand_31 : decode b_S_readOperand 31 = .ok (.aload_n 1, 1) := by decide +kernel
theorem d_S_readOperand_32 : decode b_S_readOperand 32 = .ok (.iload_n 2, 1) := by decide +kernel
theorem d_S_readOperand_33 : decode b_S_readOperand 33 = .ok (.ifCond .eq 14, 3) := by decide +kernel
theorem d_S_readOperand_36 : decode b_S_readOperand 36 = .ok (.aload_n 0, 1) := by decide +kernel
theorem d_S_readOperand_37 : decode b_S_readOperand 37 = .ok (.getfield 24, 3) := by decide +kernel
theorem d_S_readOperand_40 : decode b_S_readOperand 40 = .ok (.invokevirtual 194, 3) := by decide +kernel
theorem d_S_readOperand_43 : decode b_S_readOperand 43 = .ok (.ineg, 1) := by decide +kernel
theorem d_S_readOperand_44 : decode b_S_readOperand 44 = .ok (.goto 10, 3) := by decide +kernel
theorem d_S_readOperand_47 : decode b_S_readOperand 47 = .ok (.aload_n 0, 1) := by decide +kernel
theorem d_S_readOperand_48 : decode b_S_readOperand 48 = .ok (.getfield 24, 3) := by decide +kernel
theorem d_S_readOperand_51 : decode b_S_readOperand 51 = .ok (.invokevirtual 194, 3) := by decide +kernel
theorem d_S_readOperand_54 : decode b_S_readOperand 54 = .ok (.invokevirtual 197, 3) := by decide +kernel
theorem d_S_readOperand_57 : decode b_S_readOperand 57 = .ok (.aload_n 0, 1) := by decide +kernel
theorem d_S_readOperand_58 : decode b_S_readOperand 58 = .ok (.getfield 24, 3) := by decide +kernel
theorem d_S_readOperand_61 : decode b_S_readOperand 61 = .ok (.invokevirtual 99, 3) := by decide +kernel
theorem d_S_readOperand_64 : decode b_S_readOperand 64 = .ok (.goto 22, 3) := by decide +kernel
theorem d_S_readOperand_67 : decode b_S_readOperand 67 = .ok (.iload_n 2, 1) := by decide +kernel
theorem d_S_readOperand_68 : decode b_S_readOperand 68 = .ok (.ifCond .eq 10, 3) := by decide +kernel
theorem d_S_readOperand_71 : decode b_S_readOperand 71 = .ok (.aload_n 0, 1) := by decide +kernel
theorem d_S_readOperand_72 : decode b_S_readOperand 72 = .ok (.invokevirtual 113, 3) := by decide +kernel
theorem d_S_readOperand_75 : decode b_S_readOperand 75 = .ok (.goto 11, 3) := by decide +kernel
theorem d_S_readOperand_78 : decode b_S_readOperand 78 = .ok (.aload_n 1, 1) := by decide +kernel
theorem d_S_readOperand_79 : decode b_S_readOperand 79 = .ok (.aload_n 0, 1) := by decide +kernel
theorem d_S_readOperand_80 : decode b_S_readOperand 80 = .ok (.invokevirtual 174, 3) := by decide +kernel
theorem d_S_readOperand_83 : decode b_S_readOperand 83 = .ok (.invokevirtual 203, 3) := by decide +kernel
theorem d_S_readOperand_86 : decode b_S_readOperand 86 = .ok (.return_, 1) := by decide +kernel
theorem d_K_isNumber_0 : decode b_K_isNumber 0 = .ok (.aload_n 0, 1) := by decide +kernel
theorem d_K_isNumber_1 : decode b_K_isNumber 1 = .ok (.getfield 15, 3) := by decide +kernel
theorem d_K_isNumber_4 : decode b_K_isNumber 4 = .ok (.aload_n 0, 1) := by decide +kernel
theorem d_K_isNumber_5 : decode b_K_isNumber 5 = .ok (.getfield 30, 3) := by decide +kernel
theorem d_K_isNumber_8 : decode b_K_isNumber 8 = .ok (.caload, 1) := by decide +kernel
theorem d_K_isNumber_9 : decode b_K_isNumber 9 = .ok (.bipush 48, 2) := by decide +kernel
theorem d_K_isNumber_11 : decode b_K_isNumber 11 = .ok (.if_icmp .ne 7, 3) := by decide +kernel
theorem d_K_isNumber_14 : decode b_K_isNumber 14 = .ok (.iconst 1, 1) := by decide +kernel
theorem d_K_isNumber_15 : decode b_K_isNumber 15 = .ok (.goto 4, 3) := by decide +kernel
theorem d_K_isNumber_18 : decode b_K_isNumber 18 = .ok (.iconst 0, 1) := by decide +kernel
theorem d_K_isNumber_19 : decode b_K_isNumber 19 = .ok (.ireturn, 1) := by decide +kernel
theorem d_K_number_0 : decode b_K_number 0 = .ok (.iconst 0, 1) := by decide +kernel
theorem d_K_number_1 : decode b_K_number 1 = .ok (.istore_n 1, 1) := by decide +kernel
theorem d_K_number_2 : decode b_K_number 2 = .ok (.aload_n 0, 1) := by decide +kernel
theorem d_K_number_3 : decode b_K_number 3 = .ok (.getfield 19, 3) := by decide +kernel
theorem d_K_number_6 : decode b_K_number 6 = .ok (.aload_n 0, 1) := by decide +kernel
theorem d_K_number_7 : decode b_K_number 7 = .ok (.getfield 30, 3) := by decide +kernel
theorem d_K_number_10 : decode b_K_number 10 = .ok (.iaload, 1) := by decide +kernel
theorem d_K_number_11 : decode b_K_number 11 = .ok (.istore_n 2, 1) := by decide +kernel
theorem d_K_number_12 : decode b_K_number 12 = .ok (.iload_n 2, 1) := by decide +kernel
theorem d_K_number_13 : decode b_K_number 13 = .ok (.aload_n 0, 1) := by decide +kernel
theorem d_K_number_14 : decode b_K_number 14 = .ok (.getfield 23, 3) := by decide +kernel
theorem d_K_number_17 : decode b_K_number 17 = .ok (.aload_n 0, 1) := by decide +kernel
theorem d_K_number_18 : decode b_K_number 18 = .ok (.getfield 30, 3) := by decide +kernel
theorem d_K_number_21 : decode b_K_number 21 = .ok (.iaload, 1) := by decide +kernel
theorem d_K_number_22 : decode b_K_number 22 = .ok (.if_icmp .ge 26, 3) := by decide +kernel
theorem d_K_number_25 : decode b_K_number 25 = .ok (.bipush 10, 2) := by decide +kernel
theorem d_K_number_27 : decode b_K_number 27 = .ok (.iload_n 1, 1) := by decide +kernel
theorem d_K_number_28 : decode b_K_number 28 = .ok (.imul, 1) := by decide +kernel
theorem d_K_number_29 : decode b_K_number 29 = .ok (.aload_n 0, 1) := by decide +kernel
theorem d_K_number_30 : decode b_K_number 30 = .ok (.getfield 9, 3) := by decide +kernel
theorem d_K_number_33 : decode b_K_number 33 = .ok (.iload_n 2, 1) := by decide +kernel
theorem d_K_number_34 : decode b_K_number 34 = .ok (.invokevirtual 39, 3) := by decide +kernel
theorem d_K_number_37 : decode b_K_number 37 = .ok (.bipush 48, 2) := by decide +kernel
theorem d_K_number_39 : decode b_K_number 39 = .ok (.isub, 1) := by decide +kernel
theorem d_K_number_40 : decode b_K_number 40 = .ok (.iadd, 1) := by decide +kernel
theorem d_K_number_41 : decode b_K_number 41 = .ok (.istore_n 1, 1) := by decide +kernel
theorem d_K_number_42 : decode b_K_number 42 = .ok (.iinc 2 1, 3) := by decide +kernel
theorem d_K_number_45 : decode b_K_number 45 = .ok (.goto (-33), 3) := by decide +kernel
theorem d_K_number_48 : decode b_K_number 48 = .ok (.iload_n 1, 1) := by decide +kernel
theorem d_K_number_49 : decode b_K_number 49 = .ok (.ireturn, 1) := by decide +kernel
theorem d_O_becomeNumber_0 : decode b_O_becomeNumber 0 = .ok (.aload_n 0, 1) := by decide +kernel
theorem d_O_becomeNumber_1 : decode b_O_becomeNumber 1 = .ok (.iconst (-1), 1) := by decide +kernel
theorem d_O_becomeNumber_2 : decode b_O_becomeNumber 2 = .ok (.putfield 15, 3) := by decide +kernel
theorem d_O_becomeNumber_5 : decode b_O_becomeNumber 5 = .ok (.aload_n 0, 1) := by decide +kernel
theorem d_O_becomeNumber_6 : decode b_O_becomeNumber 6 = .ok (.iload_n 1, 1) := by decide +kernel
theorem d_O_becomeNumber_7 : decode b_O_becomeNumber 7 = .ok (.putfield 19, 3) := by decide +kernel
theorem d_O_becomeNumber_10 : decode b_O_becomeNumber 10 = .ok (.return_, 1) := by decide +kernel
theorem d_S_refuse_0 : decode b_S_refuse 0 = .ok (.aload_n 0, 1) := by decide +kernel
theorem d_S_refuse_1 : decode b_S_refuse 1 = .ok (.aload_n 0, 1) := by decide +kernel
theorem d_S_refuse_2 : decode b_S_refuse 2 = .ok (.getfield 24, 3) := by decide +kernel
theorem d_S_refuse_5 : decode b_S_refuse 5 = .ok (.invokevirtual 116, 3) := by decide +kernel
theorem d_S_refuse_8 : decode b_S_refuse 8 = .ok (.putfield 56, 3) := by decide +kernel
theorem d_S_refuse_11 : decode b_S_refuse 11 = .ok (.new 119, 3) := by decide +kernel
theorem d_S_refuse_14 : decode b_S_refuse 14 = .ok (.dup, 1) := by decide +kernel
theorem d_S_refuse_15 : decode b_S_refuse 15 = .ok (.invokespecial 121, 3) := by decide +kernel
theorem d_S_refuse_18 : decode b_S_refuse 18 = .ok (.athrow, 1) := by decide +kernel
theorem d_K_start_0 : decode b_K_start 0 = .ok (.aload_n 0, 1) := by decide +kernel
theorem d_K_start_1 : decode b_K_start 1 = .ok (.getfield 19, 3) := by decide +kernel
theorem d_K_start_4 : decode b_K_start 4 = .ok (.aload_n 0, 1) := by decide +kernel
theorem d_K_start_5 : decode b_K_start 5 = .ok (.getfield 30, 3) := by decide +kernel
theorem d_K_start_8 : decode b_K_start 8 = .ok (.iaload, 1) := by decide +kernel
theorem d_K_start_9 : decode b_K_start 9 = .ok (.ireturn, 1) := by decide +kernel
theorem d_S_readField_0 : decode b_S_readField 0 = .ok (.aload_n 0, 1) := by decide +kernel
theorem d_S_readField_1 : decode b_S_readField 1 = .ok (.getfield 24, 3) := by decide +kernel
theorem d_S_readField_4 : decode b_S_readField 4 = .ok (.invokevirtual 206, 3) := by decide +kernel
theorem d_S_readField_7 : decode b_S_readField 7 = .ok (.ifCond .eq 20, 3) := by decide +kernel
theorem d_S_readField_10 : decode b_S_readField 10 = .ok (.aload_n 0, 1) := by decide +kernel
theorem d_S_readField_11 : decode b_S_readField 11 = .ok (.getfield 9, 3) := by decide +kernel
theorem d_S_readField_14 : decode b_S_readField 14 = .ok (.aload_n 0, 1) := by decide +kernel
theorem d_S_readField_15 : decode b_S_readField 15 = .ok (.getfield 24, 3) := by decide +kernel
theorem d_S_readField_18 : decode b_S_readField 18 = .ok (.invokevirtual 209, 3) := by decide +kernel
theorem d_S_readField_21 : decode b_S_readField 21 = .ok (.invokevirtual 213, 3) := by decide +kernel
theorem d_S_readField_24 : decode b_S_readField 24 = .ok (.goto 4, 3) := by decide +kernel
theorem d_S_readField_27 : decode b_S_readField 27 = .ok (.iconst (-1), 1) := by decide +kernel
theorem d_S_readField_28 : decode b_S_readField 28 = .ok (.istore_n 1, 1) := by decide +kernel
theorem d_S_readField_29 : decode b_S_readField 29 = .ok (.iload_n 1, 1) := by decide +kernel
theorem d_S_readField_30 : decode b_S_readField 30 = .ok (.iconst (-1), 1) := by decide +kernel
theorem d_S_readField_31 : decode b_S_readField 31 = .ok (.if_icmp .ne 7, 3) := by decide +kernel
theorem d_S_readField_34 : decode b_S_readField 34 = .ok (.aload_n 0, 1) := by decide +kernel
theorem d_S_readField_35 : decode b_S_readField 35 = .ok (.invokevirtual 113, 3) := by decide +kernel
theorem d_S_readField_38 : decode b_S_readField 38 = .ok (.aload_n 0, 1) := by decide +kernel
theorem d_S_readField_39 : decode b_S_readField 39 = .ok (.getfield 24, 3) := by decide +kernel
theorem d_S_readField_42 : decode b_S_readField 42 = .ok (.invokevirtual 99, 3) := by decide +kernel
theorem d_S_readField_45 : decode b_S_readField 45 = .ok (.iload_n 1, 1) := by decide +kernel
theorem d_S_readField_46 : decode b_S_readField 46 = .ok (.ireturn, 1) := by decide +kernel
theorem d_K_isLetter_0 : decode b_K_isLetter 0 = .ok (.aload_n 0, 1) := by decide +kernel
theorem d_K_isLetter_1 : decode b_K_isLetter 1 = .ok (.getfield 15, 3) := by decide +kernel
theorem d_K_isLetter_4 : decode b_K_isLetter 4 = .ok (.aload_n 0, 1) := by decide +kernel
theorem d_K_isLetter_5 : decode b_K_isLetter 5 = .ok (.getfield 30, 3) := by decide +kernel
theorem d_K_isLetter_8 : decode b_K_isLetter 8 = .ok (.caload, 1) := by decide +kernel
theorem d_K_isLetter_9 : decode b_K_isLetter 9 = .ok (.bipush 97, 2) := by decide +kernel
theorem d_K_isLetter_11 : decode b_K_isLetter 11 = .ok (.if_icmp .ne 30, 3) := by decide +kernel
theorem d_K_isLetter_14 : decode b_K_isLetter 14 = .ok (.aload_n 0, 1) := by decide +kernel
theorem d_K_isLetter_15 : decode b_K_isLetter 15 = .ok (.getfield 23, 3) := by decide +kernel
theorem d_K_isLetter_18 : decode b_K_isLetter 18 = .ok (.aload_n 0, 1) := by decide +kernel
theorem d_K_isLetter_19 : decode b_K_isLetter 19 = .ok (.getfield 30, 3) := by decide +kernel
theorem d_K_isLetter_22 : decode b_K_isLetter 22 = .ok (.iaload, 1) := by decide +kernel
theorem d_K_isLetter_23 : decode b_K_isLetter 23 = .ok (.aload_n 0, 1) := by decide +kernel
theorem d_K_isLetter_24 : decode b_K_isLetter 24 = .ok (.getfield 19, 3) := by decide +kernel
theorem d_K_isLetter_27 : decode b_K_isLetter 27 = .ok (.aload_n 0, 1) := by decide +kernel
theorem d_K_isLetter_28 : decode b_K_isLetter 28 = .ok (.getfield 30, 3) := by decide +kernel
theorem d_K_isLetter_31 : decode b_K_isLetter 31 = .ok (.iaload, 1) := by decide +kernel
theorem d_K_isLetter_32 : decode b_K_isLetter 32 = .ok (.isub, 1) := by decide +kernel
theorem d_K_isLetter_33 : decode b_K_isLetter 33 = .ok (.iconst 1, 1) := by decide +kernel
theorem d_K_isLetter_34 : decode b_K_isLetter 34 = .ok (.if_icmp .ne 7, 3) := by decide +kernel
theorem d_K_isLetter_37 : decode b_K_isLetter 37 = .ok (.iconst 1, 1) := by decide +kernel
theorem d_K_isLetter_38 : decode b_K_isLetter 38 = .ok (.goto 4, 3) := by decide +kernel
theorem d_K_isLetter_41 : decode b_K_isLetter 41 = .ok (.iconst 0, 1) := by decide +kernel
theorem d_K_isLetter_42 : decode b_K_isLetter 42 = .ok (.ireturn, 1) := by decide +kernel
theorem d_K_letter_0 : decode b_K_letter 0 = .ok (.aload_n 0, 1) := by decide +kernel
theorem d_K_letter_1 : decode b_K_letter 1 = .ok (.getfield 9, 3) := by decide +kernel
theorem d_K_letter_4 : decode b_K_letter 4 = .ok (.aload_n 0, 1) := by decide +kernel
theorem d_K_letter_5 : decode b_K_letter 5 = .ok (.getfield 19, 3) := by decide +kernel
theorem d_K_letter_8 : decode b_K_letter 8 = .ok (.aload_n 0, 1) := by decide +kernel
theorem d_K_letter_9 : decode b_K_letter 9 = .ok (.getfield 30, 3) := by decide +kernel
theorem d_K_letter_12 : decode b_K_letter 12 = .ok (.iaload, 1) := by decide +kernel
theorem d_K_letter_13 : decode b_K_letter 13 = .ok (.invokevirtual 39, 3) := by decide +kernel
theorem d_K_letter_16 : decode b_K_letter 16 = .ok (.ireturn, 1) := by decide +kernel
theorem d_O_becomeField_0 : decode b_O_becomeField 0 = .ok (.aload_n 0, 1) := by decide +kernel
theorem d_O_becomeField_1 : decode b_O_becomeField 1 = .ok (.iload_n 1, 1) := by decide +kernel
theorem d_O_becomeField_2 : decode b_O_becomeField 2 = .ok (.putfield 15, 3) := by decide +kernel
theorem d_O_becomeField_5 : decode b_O_becomeField 5 = .ok (.return_, 1) := by decide +kernel
theorem d_S_readSign_0 : decode b_S_readSign 0 = .ok (.bipush 32, 2) := by decide +kernel
theorem d_S_readSign_2 : decode b_S_readSign 2 = .ok (.istore 4, 2) := by decide +kernel
theorem d_S_readSign_4 : decode b_S_readSign 4 = .ok (.aload_n 0, 1) := by decide +kernel
theorem d_S_readSign_5 : decode b_S_readSign 5 = .ok (.getfield 24, 3) := by decide +kernel
theorem d_S_readSign_8 : decode b_S_readSign 8 = .ok (.iload_n 1, 1) := by decide +kernel
theorem d_S_readSign_9 : decode b_S_readSign 9 = .ok (.invokevirtual 125, 3) := by decide +kernel
theorem d_S_readSign_12 : decode b_S_readSign 12 = .ok (.ifCond .eq 9, 3) := by decide +kernel
theorem d_S_readSign_15 : decode b_S_readSign 15 = .ok (.iload_n 1, 1) := by decide +kernel
theorem d_S_readSign_16 : decode b_S_readSign 16 = .ok (.istore 4, 2) := by decide +kernel
theorem d_S_readSign_18 : decode b_S_readSign 18 = .ok (.goto 34, 3) := by decide +kernel
theorem d_S_readSign_21 : decode b_S_readSign 21 = .ok (.aload_n 0, 1) := by decide +kernel
theorem d_S_readSign_22 : decode b_S_readSign 22 = .ok (.getfield 24, 3) := by decide +kernel
theorem d_S_readSign_25 : decode b_S_readSign 25 = .ok (.iload_n 2, 1) := by decide +kernel
theorem d_S_readSign_26 : decode b_S_readSign 26 = .ok (.invokevirtual 125, 3) := by decide +kernel
theorem d_S_readSign_29 : decode b_S_readSign 29 = .ok (.ifCond .eq 9, 3) := by decide +kernel
theorem d_S_readSign_32 : decode b_S_readSign 32 = .ok (.iload_n 2, 1) := by decide +kernel
theorem d_S_readSign_33 : decode b_S_readSign 33 = .ok (.istore 4, 2) := by decide +kernel
theorem d_S_readSign_35 : decode b_S_readSign 35 = .ok (.goto 17, 3) := by decide +kernel
theorem d_S_readSign_38 : decode b_S_readSign 38 = .ok (.aload_n 0, 1) := by decide +kernel
theorem d_S_readSign_39 : decode b_S_readSign 39 = .ok (.getfield 24, 3) := by decide +kernel
theorem d_S_readSign_42 : decode b_S_readSign 42 = .ok (.iload_n 3, 1) := by decide +kernel
theorem d_S_readSign_43 : decode b_S_readSign 43 = .ok (.invokevirtual 125, 3) := by decide +kernel
theorem d_S_readSign_46 : decode b_S_readSign 46 = .ok (.ifCond .eq 6, 3) := by decide +kernel
theorem d_S_readSign_49 : decode b_S_readSign 49 = .ok (.iload_n 3, 1) := by decide +kernel
theorem d_S_readSign_50 : decode b_S_readSign 50 = .ok (.istore 4, 2) := by decide +kernel
theorem d_S_readSign_52 : decode b_S_readSign 52 = .ok (.iload 4, 2) := by decide +kernel
theorem d_S_readSign_54 : decode b_S_readSign 54 = .ok (.bipush 32, 2) := by decide +kernel
theorem d_S_readSign_56 : decode b_S_readSign 56 = .ok (.if_icmp .eq 10, 3) := by decide +kernel
theorem d_S_readSign_59 : decode b_S_readSign 59 = .ok (.aload_n 0, 1) := by decide +kernel
theorem d_S_readSign_60 : decode b_S_readSign 60 = .ok (.getfield 24, 3) := by decide +kernel
theorem d_S_readSign_63 : decode b_S_readSign 63 = .ok (.invokevirtual 99, 3) := by decide +kernel
theorem d_S_readSign_66 : decode b_S_readSign 66 = .ok (.iload 4, 2) := by decide +kernel
theorem d_S_readSign_68 : decode b_S_readSign 68 = .ok (.ireturn, 1) := by decide +kernel
theorem d_P_isTrueIn_0 : decode b_P_isTrueIn 0 = .ok (.aload_n 0, 1) := by decide +kernel
theorem d_P_isTrueIn_1 : decode b_P_isTrueIn 1 = .ok (.getfield 12, 3) := by decide +kernel
theorem d_P_isTrueIn_4 : decode b_P_isTrueIn 4 = .ok (.iload_n 1, 1) := by decide +kernel
theorem d_P_isTrueIn_5 : decode b_P_isTrueIn 5 = .ok (.invokevirtual 25, 3) := by decide +kernel
theorem d_P_isTrueIn_8 : decode b_P_isTrueIn 8 = .ok (.aload_n 0, 1) := by decide +kernel
theorem d_P_isTrueIn_9 : decode b_P_isTrueIn 9 = .ok (.getfield 18, 3) := by decide +kernel
theorem d_P_isTrueIn_12 : decode b_P_isTrueIn 12 = .ok (.iload_n 1, 1) := by decide +kernel
theorem d_P_isTrueIn_13 : decode b_P_isTrueIn 13 = .ok (.invokevirtual 25, 3) := by decide +kernel
theorem d_P_isTrueIn_16 : decode b_P_isTrueIn 16 = .ok (.invokestatic 29, 3) := by decide +kernel
theorem d_P_isTrueIn_19 : decode b_P_isTrueIn 19 = .ok (.istore_n 2, 1) := by decide +kernel
theorem d_P_isTrueIn_20 : decode b_P_isTrueIn 20 = .ok (.aload_n 0, 1) := by decide +kernel
theorem d_P_isTrueIn_21 : decode b_P_isTrueIn 21 = .ok (.getfield 21, 3) := by decide +kernel
theorem d_P_isTrueIn_24 : decode b_P_isTrueIn 24 = .ok (.bipush 60, 2) := by decide +kernel
theorem d_P_isTrueIn_26 : decode b_P_isTrueIn 26 = .ok (.if_icmp .ne 13, 3) := by decide +kernel
theorem d_P_isTrueIn_29 : decode b_P_isTrueIn 29 = .ok (.iload_n 2, 1) := by decide +kernel
theorem d_P_isTrueIn_30 : decode b_P_isTrueIn 30 = .ok (.ifCond .ge 7, 3) := by decide +kernel
theorem d_P_isTrueIn_33 : decode b_P_isTrueIn 33 = .ok (.iconst 1, 1) := by decide +kernel
theorem d_P_isTrueIn_34 : decode b_P_isTrueIn 34 = .ok (.goto 4, 3) := by decide +kernel
theorem d_P_isTrueIn_37 : decode b_P_isTrueIn 37 = .ok (.iconst 0, 1) := by decide +kernel
theorem d_P_isTrueIn_38 : decode b_P_isTrueIn 38 = .ok (.ireturn, 1) := by decide +kernel
theorem d_P_isTrueIn_39 : decode b_P_isTrueIn 39 = .ok (.aload_n 0, 1) := by decide +kernel
theorem d_P_isTrueIn_40 : decode b_P_isTrueIn 40 = .ok (.getfield 21, 3) := by decide +kernel
theorem d_P_isTrueIn_43 : decode b_P_isTrueIn 43 = .ok (.bipush 62, 2) := by decide +kernel
theorem d_P_isTrueIn_45 : decode b_P_isTrueIn 45 = .ok (.if_icmp .ne 15, 3) := by decide +kernel
theorem d_P_isTrueIn_48 : decode b_P_isTrueIn 48 = .ok (.iload_n 2, 1) := by decide +kernel
theorem d_P_isTrueIn_49 : decode b_P_isTrueIn 49 = .ok (.ifCond .le 7, 3) := by decide +kernel
theorem d_P_isTrueIn_52 : decode b_P_isTrueIn 52 = .ok (.iconst 1, 1) := by decide +kernel
theorem d_P_isTrueIn_53 : decode b_P_isTrueIn 53 = .ok (.goto 16, 3) := by decide +kernel
theorem d_P_isTrueIn_56 : decode b_P_isTrueIn 56 = .ok (.iconst 0, 1) := by decide +kernel
theorem d_P_isTrueIn_57 : decode b_P_isTrueIn 57 = .ok (.goto 12, 3) := by decide +kernel
theorem d_P_isTrueIn_60 : decode b_P_isTrueIn 60 = .ok (.iload_n 2, 1) := by decide +kernel
theorem d_P_isTrueIn_61 : decode b_P_isTrueIn 61 = .ok (.ifCond .ne 7, 3) := by decide +kernel
theorem d_P_isTrueIn_64 : decode b_P_isTrueIn 64 = .ok (.iconst 1, 1) := by decide +kernel
theorem d_P_isTrueIn_65 : decode b_P_isTrueIn 65 = .ok (.goto 4, 3) := by decide +kernel
theorem d_P_isTrueIn_68 : decode b_P_isTrueIn 68 = .ok (.iconst 0, 1) := by decide +kernel
theorem d_P_isTrueIn_69 : decode b_P_isTrueIn 69 = .ok (.ireturn, 1) := by decide +kernel
theorem d_O_valueIn_0 : decode b_O_valueIn 0 = .ok (.aload_n 0, 1) := by decide +kernel
theorem d_O_valueIn_1 : decode b_O_valueIn 1 = .ok (.getfield 15, 3) := by decide +kernel
theorem d_O_valueIn_4 : decode b_O_valueIn 4 = .ok (.iconst (-1), 1) := by decide +kernel
theorem d_O_valueIn_5 : decode b_O_valueIn 5 = .ok (.if_icmp .ne 10, 3) := by decide +kernel
theorem d_O_valueIn_8 : decode b_O_valueIn 8 = .ok (.aload_n 0, 1) := by decide +kernel
theorem d_O_valueIn_9 : decode b_O_valueIn 9 = .ok (.getfield 19, 3) := by decide +kernel
theorem d_O_valueIn_12 : decode b_O_valueIn 12 = .ok (.goto 15, 3) := by decide +kernel
theorem d_O_valueIn_15 : decode b_O_valueIn 15 = .ok (.aload_n 0, 1) := by decide +kernel
theorem d_O_valueIn_16 : decode b_O_valueIn 16 = .ok (.getfield 9, 3) := by decide +kernel
theorem d_O_valueIn_19 : decode b_O_valueIn 19 = .ok (.aload_n 0, 1) := by decide +kernel
theorem d_O_valueIn_20 : decode b_O_valueIn 20 = .ok (.getfield 15, 3) := by decide +kernel
theorem d_O_valueIn_23 : decode b_O_valueIn 23 = .ok (.iload_n 1, 1) := by decide +kernel
theorem d_O_valueIn_24 : decode b_O_valueIn 24 = .ok (.invokevirtual 22, 3) := by decide +kernel
theorem d_O_valueIn_27 : decode b_O_valueIn 27 = .ok (.ireturn, 1) := by decide +kernel
theorem d_S_passSign_0 : decode b_S_passSign 0 = .ok (.aload_n 0, 1) := by decide +kernel
theorem d_S_passSign_1 : decode b_S_passSign 1 = .ok (.getfield 24, 3) := by decide +kernel
theorem d_S_passSign_4 : decode b_S_passSign 4 = .ok (.iload_n 1, 1) := by decide +kernel
theorem d_S_passSign_5 : decode b_S_passSign 5 = .ok (.invokevirtual 125, 3) := by decide +kernel
theorem d_S_passSign_8 : decode b_S_passSign 8 = .ok (.ifCond .ne 7, 3) := by decide +kernel
theorem d_S_passSign_11 : decode b_S_passSign 11 = .ok (.aload_n 0, 1) := by decide +kernel
theorem d_S_passSign_12 : decode b_S_passSign 12 = .ok (.invokevirtual 113, 3) := by decide +kernel
theorem d_S_passSign_15 : decode b_S_passSign 15 = .ok (.aload_n 0, 1) := by decide +kernel
theorem d_S_passSign_16 : decode b_S_passSign 16 = .ok (.getfield 24, 3) := by decide +kernel
theorem d_S_passSign_19 : decode b_S_passSign 19 = .ok (.invokevirtual 99, 3) := by decide +kernel
theorem d_S_passSign_22 : decode b_S_passSign 22 = .ok (.return_, 1) := by decide +kernel
theorem d_S_readAction_0 : decode b_S_readAction 0 = .ok (.aload_n 0, 1) := by decide +kernel
theorem d_S_readAction_1 : decode b_S_readAction 1 = .ok (.invokevirtual 164, 3) := by decide +kernel
theorem d_S_readAction_4 : decode b_S_readAction 4 = .ok (.aload_n 0, 1) := by decide +kernel
theorem d_S_readAction_5 : decode b_S_readAction 5 = .ok (.getfield 53, 3) := by decide +kernel
theorem d_S_readAction_8 : decode b_S_readAction 8 = .ok (.getstatic 167, 3) := by decide +kernel
theorem d_S_readAction_11 : decode b_S_readAction 11 = .ok (.if_acmp .ne 49, 3) := by decide +kernel
theorem d_S_readAction_14 : decode b_S_readAction 14 = .ok (.aload_n 0, 1) := by decide +kernel
theorem d_S_readAction_15 : decode b_S_readAction 15 = .ok (.aload_n 0, 1) := by decide +kernel
theorem d_S_readAction_16 : decode b_S_readAction 16 = .ok (.getfield 40, 3) := by decide +kernel
theorem d_S_readAction_19 : decode b_S_readAction 19 = .ok (.invokevirtual 170, 3) := by decide +kernel
theorem d_S_readAction_22 : decode b_S_readAction 22 = .ok (.aload_n 0, 1) := by decide +kernel
theorem d_S_readAction_23 : decode b_S_readAction 23 = .ok (.aload_n 0, 1) := by decide +kernel
theorem d_S_readAction_24 : decode b_S_readAction 24 = .ok (.getfield 24, 3) := by decide +kernel
theorem d_S_readAction_27 : decode b_S_readAction 27 = .ok (.bipush 44, 2) := by decide +kernel
theorem d_S_readAction_29 : decode b_S_readAction 29 = .ok (.invokevirtual 125, 3) := by decide +kernel
theorem d_S_readAction_32 : decode b_S_readAction 32 = .ok (.putfield 76, 3) := by decide +kernel
theorem d_S_readAction_35 : decode b_S_readAction 35 = .ok (.aload_n 0, 1) := by decide +kernel
theorem d_S_readAction_36 : decode b_S_readAction 36 = .ok (.getfield 76, 3) := by decide +kernel
theorem d_S_readAction_39 : decode b_S_readAction 39 = .ok (.ifCond .eq 39, 3) := by decide +kernel
theorem d_S_readAction_42 : decode b_S_readAction 42 = .ok (.aload_n 0, 1) := by decide +kernel
theorem d_S_readAction_43 : decode b_S_readAction 43 = .ok (.getfield 24, 3) := by decide +kernel
theorem d_S_readAction_46 : decode b_S_readAction 46 = .ok (.invokevirtual 99, 3) := by decide +kernel
theorem d_S_readAction_49 : decode b_S_readAction 49 = .ok (.aload_n 0, 1) := by decide +kernel
theorem d_S_readAction_50 : decode b_S_readAction 50 = .ok (.aload_n 0, 1) := by decide +kernel
theorem d_S_readAction_51 : decode b_S_readAction 51 = .ok (.getfield 44, 3) := by decide +kernel
theorem d_S_readAction_54 : decode b_S_readAction 54 = .ok (.invokevirtual 170, 3) := by decide +kernel
theorem d_S_readAction_57 : decode b_S_readAction 57 = .ok (.goto 21, 3) := by decide +kernel
theorem d_S_readAction_60 : decode b_S_readAction 60 = .ok (.aload_n 0, 1) := by decide +kernel
theorem d_S_readAction_61 : decode b_S_readAction 61 = .ok (.getfield 53, 3) := by decide +kernel
theorem d_S_readAction_64 : decode b_S_readAction 64 = .ok (.getstatic 47, 3) := by decide +kernel
theorem d_S_readAction_67 : decode b_S_readAction 67 = .ok (.if_acmp .eq 11, 3) := by decide +kernel
theorem d_S_readAction_70 : decode b_S_readAction 70 = .ok (.aload_n 0, 1) := by decide +kernel
theorem d_S_readAction_71 : decode b_S_readAction 71 = .ok (.aload_n 0, 1) := by decide +kernel
theorem d_S_readAction_72 : decode b_S_readAction 72 = .ok (.invokevirtual 174, 3) := by decide +kernel
theorem d_S_readAction_75 : decode b_S_readAction 75 = .ok (.putfield 63, 3) := by decide +kernel
theorem d_S_readAction_78 : decode b_S_readAction 78 = .ok (.return_, 1) := by decide +kernel
theorem d_S_readVerb_0 : decode b_S_readVerb 0 = .ok (.iconst (-1), 1) := by decide +kernel
theorem d_S_readVerb_1 : decode b_S_readVerb 1 = .ok (.istore_n 1, 1) := by decide +kernel
theorem d_S_readVerb_2 : decode b_S_readVerb 2 = .ok (.iconst 0, 1) := by decide +kernel
theorem d_S_readVerb_3 : decode b_S_readVerb 3 = .ok (.istore_n 2, 1) := by decide +kernel
theorem d_S_readVerb_4 : decode b_S_readVerb 4 = .ok (.iload_n 2, 1) := by decide +kernel
theorem d_S_readVerb_5 : decode b_S_readVerb 5 = .ok (.getstatic 177, 3) := by decide +kernel
theorem d_S_readVerb_8 : decode b_S_readVerb 8 = .ok (.arraylength, 1) := by decide +kernel
theorem d_S_readVerb_9 : decode b_S_readVerb 9 = .ok (.if_icmp .ge 29, 3) := by decide +kernel
theorem d_S_readVerb_12 : decode b_S_readVerb 12 = .ok (.aload_n 0, 1) := by decide +kernel
theorem d_S_readVerb_13 : decode b_S_readVerb 13 = .ok (.getfield 24, 3) := by decide +kernel
theorem d_S_readVerb_16 : decode b_S_readVerb 16 = .ok (.getstatic 177, 3) := by decide +kernel
theorem d_S_readVerb_19 : decode b_S_readVerb 19 = .ok (.iload_n 2, 1) := by decide +kernel
theorem d_S_readVerb_20 : decode b_S_readVerb 20 = .ok (.aaload, 1) := by decide +kernel
theorem d_S_readVerb_21 : decode b_S_readVerb 21 = .ok (.invokevirtual 181, 3) := by decide +kernel
theorem d_S_readVerb_24 : decode b_S_readVerb 24 = .ok (.invokevirtual 95, 3) := by decide +kernel
theorem d_S_readVerb_27 : decode b_S_readVerb 27 = .ok (.ifCond .eq 5, 3) := by decide +kernel
theorem d_S_readVerb_30 : decode b_S_readVerb 30 = .ok (.iload_n 2, 1) := by decide +kernel
theorem d_S_readVerb_31 : decode b_S_readVerb 31 = .ok (.istore_n 1, 1) := by decide +kernel
theorem d_S_readVerb_32 : decode b_S_readVerb 32 = .ok (.iinc 2 1, 3) := by decide +kernel
theorem d_S_readVerb_35 : decode b_S_readVerb 35 = .ok (.goto (-31), 3) := by decide +kernel
theorem d_S_readVerb_38 : decode b_S_readVerb 38 = .ok (.iload_n 1, 1) := by decide +kernel
theorem d_S_readVerb_39 : decode b_S_readVerb 39 = .ok (.iconst (-1), 1) := by decide +kernel
theorem d_S_readVerb_40 : decode b_S_readVerb 40 = .ok (.if_icmp .ne 10, 3) := by decide +kernel
theorem d_S_readVerb_43 : decode b_S_readVerb 43 = .ok (.aload_n 0, 1) := by decide +kernel
theorem d_S_readVerb_44 : decode b_S_readVerb 44 = .ok (.invokevirtual 113, 3) := by decide +kernel
theorem d_S_readVerb_47 : decode b_S_readVerb 47 = .ok (.goto 12, 3) := by decide +kernel
theorem d_S_readVerb_50 : decode b_S_readVerb 50 = .ok (.aload_n 0, 1) := by decide +kernel
theorem d_S_readVerb_51 : decode b_S_readVerb 51 = .ok (.getstatic 177, 3) := by decide +kernel
theorem d_S_readVerb_54 : decode b_S_readVerb 54 = .ok (.iload_n 1, 1) := by decide +kernel
theorem d_S_readVerb_55 : decode b_S_readVerb 55 = .ok (.aaload, 1) := by decide +kernel
theorem d_S_readVerb_56 : decode b_S_readVerb 56 = .ok (.putfield 53, 3) := by decide +kernel
theorem d_S_readVerb_59 : decode b_S_readVerb 59 = .ok (.aload_n 0, 1) := by decide +kernel
theorem d_S_readVerb_60 : decode b_S_readVerb 60 = .ok (.getfield 24, 3) := by decide +kernel
theorem d_S_readVerb_63 : decode b_S_readVerb 63 = .ok (.invokevirtual 99, 3) := by decide +kernel
theorem d_S_readVerb_66 : decode b_S_readVerb 66 = .ok (.return_, 1) := by decide +kernel
theorem d_A_word_0 : decode b_A_word 0 = .ok (.aload_n 0, 1) := by decide +kernel
theorem d_A_word_1 : decode b_A_word 1 = .ok (.getfield 41, 3) := by decide +kernel
theorem d_A_word_4 : decode b_A_word 4 = .ok (.areturn, 1) := by decide +kernel
theorem d_S_readChange_0 : decode b_S_readChange 0 = .ok (.aload_n 1, 1) := by decide +kernel
theorem d_S_readChange_1 : decode b_S_readChange 1 = .ok (.aload_n 0, 1) := by decide +kernel
theorem d_S_readChange_2 : decode b_S_readChange 2 = .ok (.invokevirtual 174, 3) := by decide +kernel
theorem d_S_readChange_5 : decode b_S_readChange 5 = .ok (.putfield 185, 3) := by decide +kernel
theorem d_S_readChange_8 : decode b_S_readChange 8 = .ok (.aload_n 0, 1) := by decide +kernel
theorem d_S_readChange_9 : decode b_S_readChange 9 = .ok (.bipush 61, 2) := by decide +kernel
theorem d_S_readChange_11 : decode b_S_readChange 11 = .ok (.invokevirtual 135, 3) := by decide +kernel
theorem d_S_readChange_14 : decode b_S_readChange 14 = .ok (.aload_n 0, 1) := by decide +kernel
theorem d_S_readChange_15 : decode b_S_readChange 15 = .ok (.aload_n 1, 1) := by decide +kernel
theorem d_S_readChange_16 : decode b_S_readChange 16 = .ok (.getfield 188, 3) := by decide +kernel
theorem d_S_readChange_19 : decode b_S_readChange 19 = .ok (.getfield 139, 3) := by decide +kernel
theorem d_S_readChange_22 : decode b_S_readChange 22 = .ok (.invokevirtual 143, 3) := by decide +kernel
theorem d_S_readChange_25 : decode b_S_readChange 25 = .ok (.aload_n 1, 1) := by decide +kernel
theorem d_S_readChange_26 : decode b_S_readChange 26 = .ok (.getfield 188, 3) := by decide +kernel
theorem d_S_readChange_29 : decode b_S_readChange 29 = .ok (.aload_n 0, 1) := by decide +kernel
theorem d_S_readChange_30 : decode b_S_readChange 30 = .ok (.bipush 43, 2) := by decide +kernel
theorem d_S_readChange_32 : decode b_S_readChange 32 = .ok (.bipush 45, 2) := by decide +kernel
theorem d_S_readChange_34 : decode b_S_readChange 34 = .ok (.bipush 42, 2) := by decide +kernel
theorem d_S_readChange_36 : decode b_S_readChange 36 = .ok (.invokevirtual 147, 3) := by decide +kernel
theorem d_S_readChange_39 : decode b_S_readChange 39 = .ok (.putfield 151, 3) := by decide +kernel
theorem d_S_readChange_42 : decode b_S_readChange 42 = .ok (.aload_n 1, 1) := by decide +kernel
theorem d_S_readChange_43 : decode b_S_readChange 43 = .ok (.getfield 188, 3) := by decide +kernel
theorem d_S_readChange_46 : decode b_S_readChange 46 = .ok (.getfield 151, 3) := by decide +kernel
theorem d_S_readChange_49 : decode b_S_readChange 49 = .ok (.bipush 32, 2) := by decide +kernel
theorem d_S_readChange_51 : decode b_S_readChange 51 = .ok (.if_icmp .eq 14, 3) := by decide +kernel
theorem d_S_readChange_54 : decode b_S_readChange 54 = .ok (.aload_n 0, 1) := by decide +kernel
theorem d_S_readChange_55 : decode b_S_readChange 55 = .ok (.aload_n 1, 1) := by decide +kernel
theorem d_S_readChange_56 : decode b_S_readChange 56 = .ok (.getfield 188, 3) := by decide +kernel
theorem d_S_readChange_59 : decode b_S_readChange 59 = .ok (.getfield 155, 3) := by decide +kernel
theorem d_S_readChange_62 : decode b_S_readChange 62 = .ok (.invokevirtual 143, 3) := by decide +kernel
theorem d_S_readChange_65 : decode b_S_readChange 65 = .ok (.return_, 1) := by decide +kernel
theorem d_K_isEnd_0 : decode b_K_isEnd 0 = .ok (.aload_n 0, 1) := by decide +kernel
theorem d_K_isEnd_1 : decode b_K_isEnd 1 = .ok (.getfield 15, 3) := by decide +kernel
theorem d_K_isEnd_4 : decode b_K_isEnd 4 = .ok (.aload_n 0, 1) := by decide +kernel
theorem d_K_isEnd_5 : decode b_K_isEnd 5 = .ok (.getfield 30, 3) := by decide +kernel
theorem d_K_isEnd_8 : decode b_K_isEnd 8 = .ok (.caload, 1) := by decide +kernel
theorem d_K_isEnd_9 : decode b_K_isEnd 9 = .ok (.bipush 46, 2) := by decide +kernel
theorem d_K_isEnd_11 : decode b_K_isEnd 11 = .ok (.if_icmp .ne 7, 3) := by decide +kernel
theorem d_K_isEnd_14 : decode b_K_isEnd 14 = .ok (.iconst 1, 1) := by decide +kernel
theorem d_K_isEnd_15 : decode b_K_isEnd 15 = .ok (.goto 4, 3) := by decide +kernel
theorem d_K_isEnd_18 : decode b_K_isEnd 18 = .ok (.iconst 0, 1) := by decide +kernel
theorem d_K_isEnd_19 : decode b_K_isEnd 19 = .ok (.ireturn, 1) := by decide +kernel
theorem d_S_lacksWord_0 : decode b_S_lacksWord 0 = .ok (.aload_n 0, 1) := by decide +kernel
theorem d_S_lacksWord_1 : decode b_S_lacksWord 1 = .ok (.getfield 60, 3) := by decide +kernel
theorem d_S_lacksWord_4 : decode b_S_lacksWord 4 = .ok (.ifCond .ne 27, 3) := by decide +kernel
theorem d_S_lacksWord_7 : decode b_S_lacksWord 7 = .ok (.aload_n 0, 1) := by decide +kernel
theorem d_S_lacksWord_8 : decode b_S_lacksWord 8 = .ok (.getfield 53, 3) := by decide +kernel
theorem d_S_lacksWord_11 : decode b_S_lacksWord 11 = .ok (.getstatic 66, 3) := by decide +kernel
theorem d_S_lacksWord_14 : decode b_S_lacksWord 14 = .ok (.if_acmp .eq 13, 3) := by decide +kernel
theorem d_S_lacksWord_17 : decode b_S_lacksWord 17 = .ok (.aload_n 0, 1) := by decide +kernel
theorem d_S_lacksWord_18 : decode b_S_lacksWord 18 = .ok (.getfield 53, 3) := by decide +kernel
theorem d_S_lacksWord_21 : decode b_S_lacksWord 21 = .ok (.getstatic 69, 3) := by decide +kernel
theorem d_S_lacksWord_24 : decode b_S_lacksWord 24 = .ok (.if_acmp .ne 7, 3) := by decide +kernel
theorem d_S_lacksWord_27 : decode b_S_lacksWord 27 = .ok (.iconst 1, 1) := by decide +kernel
theorem d_S_lacksWord_28 : decode b_S_lacksWord 28 = .ok (.goto 4, 3) := by decide +kernel
theorem d_S_lacksWord_31 : decode b_S_lacksWord 31 = .ok (.iconst 0, 1) := by decide +kernel
theorem d_S_lacksWord_32 : decode b_S_lacksWord 32 = .ok (.ireturn, 1) := by decide +kernel
theorem d_S_taken_0 : decode b_S_taken 0 = .ok (.aload_n 0, 1) := by decide +kernel
theorem d_S_taken_1 : decode b_S_taken 1 = .ok (.getfield 60, 3) := by decide +kernel
theorem d_S_taken_4 : decode b_S_taken 4 = .ok (.ireturn, 1) := by decide +kernel
theorem d_S_subject_0 : decode b_S_subject 0 = .ok (.aload_n 0, 1) := by decide +kernel
theorem d_S_subject_1 : decode b_S_subject 1 = .ok (.getfield 63, 3) := by decide +kernel
theorem d_S_subject_4 : decode b_S_subject 4 = .ok (.ireturn, 1) := by decide +kernel
theorem d_S_action_0 : decode b_S_action 0 = .ok (.aload_n 0, 1) := by decide +kernel
theorem d_S_action_1 : decode b_S_action 1 = .ok (.getfield 53, 3) := by decide +kernel
theorem d_S_action_4 : decode b_S_action 4 = .ok (.areturn, 1) := by decide +kernel
theorem d_S_canChange_0 : decode b_S_canChange 0 = .ok (.aload_n 0, 1) := by decide +kernel
theorem d_S_canChange_1 : decode b_S_canChange 1 = .ok (.getfield 40, 3) := by decide +kernel
theorem d_S_canChange_4 : decode b_S_canChange 4 = .ok (.iload_n 1, 1) := by decide +kernel
theorem d_S_canChange_5 : decode b_S_canChange 5 = .ok (.invokevirtual 72, 3) := by decide +kernel
theorem d_S_canChange_8 : decode b_S_canChange 8 = .ok (.ifCond .eq 25, 3) := by decide +kernel
theorem d_S_canChange_11 : decode b_S_canChange 11 = .ok (.aload_n 0, 1) := by decide +kernel
theorem d_S_canChange_12 : decode b_S_canChange 12 = .ok (.getfield 76, 3) := by decide +kernel
theorem d_S_canChange_15 : decode b_S_canChange 15 = .ok (.ifCond .eq 14, 3) := by decide +kernel
theorem d_S_canChange_18 : decode b_S_canChange 18 = .ok (.aload_n 0, 1) := by decide +kernel
theorem d_S_canChange_19 : decode b_S_canChange 19 = .ok (.getfield 44, 3) := by decide +kernel
theorem d_S_canChange_22 : decode b_S_canChange 22 = .ok (.iload_n 1, 1) := by decide +kernel
theorem d_S_canChange_23 : decode b_S_canChange 23 = .ok (.invokevirtual 72, 3) := by decide +kernel
theorem d_S_canChange_26 : decode b_S_canChange 26 = .ok (.ifCond .eq 7, 3) := by decide +kernel
theorem d_S_canChange_29 : decode b_S_canChange 29 = .ok (.iconst 1, 1) := by decide +kernel
theorem d_S_canChange_30 : decode b_S_canChange 30 = .ok (.goto 4, 3) := by decide +kernel
theorem d_S_canChange_33 : decode b_S_canChange 33 = .ok (.iconst 0, 1) := by decide +kernel
theorem d_S_canChange_34 : decode b_S_canChange 34 = .ok (.ireturn, 1) := by decide +kernel
theorem d_C_fitsIn_0 : decode b_C_fitsIn 0 = .ok (.aload_n 0, 1) := by decide +kernel
theorem d_C_fitsIn_1 : decode b_C_fitsIn 1 = .ok (.getfield 7, 3) := by decide +kernel
theorem d_C_fitsIn_4 : decode b_C_fitsIn 4 = .ok (.aload_n 0, 1) := by decide +kernel
theorem d_C_fitsIn_5 : decode b_C_fitsIn 5 = .ok (.getfield 22, 3) := by decide +kernel
theorem d_C_fitsIn_8 : decode b_C_fitsIn 8 = .ok (.aload_n 0, 1) := by decide +kernel
theorem d_C_fitsIn_9 : decode b_C_fitsIn 9 = .ok (.getfield 18, 3) := by decide +kernel
theorem d_C_fitsIn_12 : decode b_C_fitsIn 12 = .ok (.iload_n 1, 1) := by decide +kernel
theorem d_C_fitsIn_13 : decode b_C_fitsIn 13 = .ok (.invokevirtual 26, 3) := by decide +kernel
theorem d_C_fitsIn_16 : decode b_C_fitsIn 16 = .ok (.invokevirtual 30, 3) := by decide +kernel
theorem d_C_fitsIn_19 : decode b_C_fitsIn 19 = .ok (.ireturn, 1) := by decide +kernel
theorem d_P_resultIn_0 : decode b_P_resultIn 0 = .ok (.aload_n 0, 1) := by decide +kernel
theorem d_P_resultIn_1 : decode b_P_resultIn 1 = .ok (.getfield 12, 3) := by decide +kernel
theorem d_P_resultIn_4 : decode b_P_resultIn 4 = .ok (.iload_n 1, 1) := by decide +kernel
theorem d_P_resultIn_5 : decode b_P_resultIn 5 = .ok (.invokevirtual 25, 3) := by decide +kernel
theorem d_P_resultIn_8 : decode b_P_resultIn 8 = .ok (.istore_n 2, 1) := by decide +kernel
theorem d_P_resultIn_9 : decode b_P_resultIn 9 = .ok (.aload_n 0, 1) := by decide +kernel
theorem d_P_resultIn_10 : decode b_P_resultIn 10 = .ok (.getfield 21, 3) := by decide +kernel
theorem d_P_resultIn_13 : decode b_P_resultIn 13 = .ok (.bipush 43, 2) := by decide +kernel
theorem d_P_resultIn_15 : decode b_P_resultIn 15 = .ok (.if_icmp .ne 14, 3) := by decide +kernel
theorem d_P_resultIn_18 : decode b_P_resultIn 18 = .ok (.iload_n 2, 1) := by decide +kernel
theorem d_P_resultIn_19 : decode b_P_resultIn 19 = .ok (.aload_n 0, 1) := by decide +kernel
theorem d_P_resultIn_20 : decode b_P_resultIn 20 = .ok (.getfield 18, 3) := by decide +kernel
theorem d_P_resultIn_23 : decode b_P_resultIn 23 = .ok (.iload_n 1, 1) := by decide +kernel
theorem d_P_resultIn_24 : decode b_P_resultIn 24 = .ok (.invokevirtual 25, 3) := by decide +kernel
theorem d_P_resultIn_27 : decode b_P_resultIn 27 = .ok (.iadd, 1) := by decide +kernel
theorem d_P_resultIn_28 : decode b_P_resultIn 28 = .ok (.ireturn, 1) := by decide +kernel
theorem d_P_resultIn_29 : decode b_P_resultIn 29 = .ok (.aload_n 0, 1) := by decide +kernel
theorem d_P_resultIn_30 : decode b_P_resultIn 30 = .ok (.getfield 21, 3) := by decide +kernel
theorem d_P_resultIn_33 : decode b_P_resultIn 33 = .ok (.bipush 45, 2) := by decide +kernel
theorem d_P_resultIn_35 : decode b_P_resultIn 35 = .ok (.if_icmp .ne 14, 3) := by decide +kernel
theorem d_P_resultIn_38 : decode b_P_resultIn 38 = .ok (.iload_n 2, 1) := by decide +kernel
theorem d_P_resultIn_39 : decode b_P_resultIn 39 = .ok (.aload_n 0, 1) := by decide +kernel
theorem d_P_resultIn_40 : decode b_P_resultIn 40 = .ok (.getfield 18, 3) := by decide +kernel
theorem d_P_resultIn_43 : decode b_P_resultIn 43 = .ok (.iload_n 1, 1) := by decide +kernel
theorem d_P_resultIn_44 : decode b_P_resultIn 44 = .ok (.invokevirtual 25, 3) := by decide +kernel
theorem d_P_resultIn_47 : decode b_P_resultIn 47 = .ok (.isub, 1) := by decide +kernel
theorem d_P_resultIn_48 : decode b_P_resultIn 48 = .ok (.ireturn, 1) := by decide +kernel
theorem d_P_resultIn_49 : decode b_P_resultIn 49 = .ok (.aload_n 0, 1) := by decide +kernel
theorem d_P_resultIn_50 : decode b_P_resultIn 50 = .ok (.getfield 21, 3) := by decide +kernel
theorem d_P_resultIn_53 : decode b_P_resultIn 53 = .ok (.bipush 42, 2) := by decide +kernel
theorem d_P_resultIn_55 : decode b_P_resultIn 55 = .ok (.if_icmp .ne 16, 3) := by decide +kernel
theorem d_P_resultIn_58 : decode b_P_resultIn 58 = .ok (.iload_n 2, 1) := by decide +kernel
theorem d_P_resultIn_59 : decode b_P_resultIn 59 = .ok (.aload_n 0, 1) := by decide +kernel
theorem d_P_resultIn_60 : decode b_P_resultIn 60 = .ok (.getfield 18, 3) := by decide +kernel
theorem d_P_resultIn_63 : decode b_P_resultIn 63 = .ok (.iload_n 1, 1) := by decide +kernel
theorem d_P_resultIn_64 : decode b_P_resultIn 64 = .ok (.invokevirtual 25, 3) := by decide +kernel
theorem d_P_resultIn_67 : decode b_P_resultIn 67 = .ok (.imul, 1) := by decide +kernel
theorem d_P_resultIn_68 : decode b_P_resultIn 68 = .ok (.goto 4, 3) := by decide +kernel
theorem d_P_resultIn_71 : decode b_P_resultIn 71 = .ok (.iload_n 2, 1) := by decide +kernel
theorem d_P_resultIn_72 : decode b_P_resultIn 72 = .ok (.ireturn, 1) := by decide +kernel
theorem d_S_changed_0 : decode b_S_changed 0 = .ok (.aload_n 0, 1) := by decide +kernel
theorem d_S_changed_1 : decode b_S_changed 1 = .ok (.getfield 40, 3) := by decide +kernel
theorem d_S_changed_4 : decode b_S_changed 4 = .ok (.iload_n 1, 1) := by decide +kernel
theorem d_S_changed_5 : decode b_S_changed 5 = .ok (.iload_n 1, 1) := by decide +kernel
theorem d_S_changed_6 : decode b_S_changed 6 = .ok (.invokevirtual 80, 3) := by decide +kernel
theorem d_S_changed_9 : decode b_S_changed 9 = .ok (.istore_n 2, 1) := by decide +kernel
theorem d_S_changed_10 : decode b_S_changed 10 = .ok (.aload_n 0, 1) := by decide +kernel
theorem d_S_changed_11 : decode b_S_changed 11 = .ok (.getfield 76, 3) := by decide +kernel
theorem d_S_changed_14 : decode b_S_changed 14 = .ok (.ifCond .eq 15, 3) := by decide +kernel
theorem d_S_changed_17 : decode b_S_changed 17 = .ok (.aload_n 0, 1) := by decide +kernel
theorem d_S_changed_18 : decode b_S_changed 18 = .ok (.getfield 44, 3) := by decide +kernel
theorem d_S_changed_21 : decode b_S_changed 21 = .ok (.iload_n 2, 1) := by decide +kernel
theorem d_S_changed_22 : decode b_S_changed 22 = .ok (.iload_n 1, 1) := by decide +kernel
theorem d_S_changed_23 : decode b_S_changed 23 = .ok (.invokevirtual 80, 3) := by decide +kernel
theorem d_S_changed_26 : decode b_S_changed 26 = .ok (.goto 4, 3) := by decide +kernel
theorem d_S_changed_29 : decode b_S_changed 29 = .ok (.iload_n 2, 1) := by decide +kernel
theorem d_S_changed_30 : decode b_S_changed 30 = .ok (.ireturn, 1) := by decide +kernel
theorem d_C_appliedTo_0 : decode b_C_appliedTo 0 = .ok (.aload_n 0, 1) := by decide +kernel
theorem d_C_appliedTo_1 : decode b_C_appliedTo 1 = .ok (.getfield 7, 3) := by decide +kernel
theorem d_C_appliedTo_4 : decode b_C_appliedTo 4 = .ok (.aload_n 0, 1) := by decide +kernel
theorem d_C_appliedTo_5 : decode b_C_appliedTo 5 = .ok (.getfield 22, 3) := by decide +kernel
theorem d_C_appliedTo_8 : decode b_C_appliedTo 8 = .ok (.iload_n 1, 1) := by decide +kernel
theorem d_C_appliedTo_9 : decode b_C_appliedTo 9 = .ok (.aload_n 0, 1) := by decide +kernel
theorem d_C_appliedTo_10 : decode b_C_appliedTo 10 = .ok (.getfield 18, 3) := by decide +kernel
theorem d_C_appliedTo_13 : decode b_C_appliedTo 13 = .ok (.iload_n 2, 1) := by decide +kernel
theorem d_C_appliedTo_14 : decode b_C_appliedTo 14 = .ok (.invokevirtual 26, 3) := by decide +kernel
theorem d_C_appliedTo_17 : decode b_C_appliedTo 17 = .ok (.invokevirtual 36, 3) := by decide +kernel
theorem d_C_appliedTo_20 : decode b_C_appliedTo 20 = .ok (.ireturn, 1) := by decide +kernel
