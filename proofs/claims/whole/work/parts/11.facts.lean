/-! what the words say of each field, method and call, by program -/
theorem in_B : ∀ w ∈ u_ws R_B T_B 7, w ∈ jt := by
  intro w hw
  obtain ⟨k, hk, rfl⟩ := List.mem_map.mp hw
  have hk := List.mem_range.mp hk
  have key : ∀ k, k < 7 → tables_1[([222, 224, 226, 228, 230, 232, 234] : List Nat).getD k 0]? = some (u_lay R_B T_B k) ∧ j_ok (u_lay R_B T_B k) = true := by decide +kernel
  exact j_in _ (key k hk).1 (key k hk).2
theorem in_F : ∀ w ∈ u_ws R_F T_F 6, w ∈ jt := by
  intro w hw
  obtain ⟨k, hk, rfl⟩ := List.mem_map.mp hw
  have hk := List.mem_range.mp hk
  have key : ∀ k, k < 6 → tables_1[([48, 50, 52, 54, 56, 58] : List Nat).getD k 0]? = some (u_lay R_F T_F k) ∧ j_ok (u_lay R_F T_F k) = true := by decide +kernel
  exact j_in _ (key k hk).1 (key k hk).2
theorem in_W : ∀ w ∈ u_ws R_W T_W 3, w ∈ jt := by
  intro w hw
  obtain ⟨k, hk, rfl⟩ := List.mem_map.mp hw
  have hk := List.mem_range.mp hk
  have key : ∀ k, k < 3 → tables_1[([73, 75, 77] : List Nat).getD k 0]? = some (u_lay R_W T_W k) ∧ j_ok (u_lay R_W T_W k) = true := by decide +kernel
  exact j_in _ (key k hk).1 (key k hk).2
theorem in_T : ∀ w ∈ u_ws R_T T_T 2, w ∈ jt := by
  intro w hw
  obtain ⟨k, hk, rfl⟩ := List.mem_map.mp hw
  have hk := List.mem_range.mp hk
  have key : ∀ k, k < 2 → tables_1[([88, 90] : List Nat).getD k 0]? = some (u_lay R_T T_T k) ∧ j_ok (u_lay R_T T_T k) = true := by decide +kernel
  exact j_in _ (key k hk).1 (key k hk).2
theorem in_K : ∀ w ∈ u_ws R_K T_K 6, w ∈ jt := by
  intro w hw
  obtain ⟨k, hk, rfl⟩ := List.mem_map.mp hw
  have hk := List.mem_range.mp hk
  have key : ∀ k, k < 6 → tables_1[([111, 113, 115, 117, 119, 121] : List Nat).getD k 0]? = some (u_lay R_K T_K k) ∧ j_ok (u_lay R_K T_K k) = true := by decide +kernel
  exact j_in _ (key k hk).1 (key k hk).2
theorem in_O : ∀ w ∈ u_ws R_O T_O 3, w ∈ jt := by
  intro w hw
  obtain ⟨k, hk, rfl⟩ := List.mem_map.mp hw
  have hk := List.mem_range.mp hk
  have key : ∀ k, k < 3 → tables_1[([139, 141, 143] : List Nat).getD k 0]? = some (u_lay R_O T_O k) ∧ j_ok (u_lay R_O T_O k) = true := by decide +kernel
  exact j_in _ (key k hk).1 (key k hk).2
theorem in_P : ∀ w ∈ u_ws R_P T_P 3, w ∈ jt := by
  intro w hw
  obtain ⟨k, hk, rfl⟩ := List.mem_map.mp hw
  have hk := List.mem_range.mp hk
  have key : ∀ k, k < 3 → tables_1[([152, 154, 156] : List Nat).getD k 0]? = some (u_lay R_P T_P k) ∧ j_ok (u_lay R_P T_P k) = true := by decide +kernel
  exact j_in _ (key k hk).1 (key k hk).2
theorem in_C : ∀ w ∈ u_ws R_C T_C 3, w ∈ jt := by
  intro w hw
  obtain ⟨k, hk, rfl⟩ := List.mem_map.mp hw
  have hk := List.mem_range.mp hk
  have key : ∀ k, k < 3 → tables_1[([172, 174, 176] : List Nat).getD k 0]? = some (u_lay R_C T_C k) ∧ j_ok (u_lay R_C T_C k) = true := by decide +kernel
  exact j_in _ (key k hk).1 (key k hk).2
theorem in_S : ∀ w ∈ u_ws R_S T_S 11, w ∈ jt := by
  intro w hw
  obtain ⟨k, hk, rfl⟩ := List.mem_map.mp hw
  have hk := List.mem_range.mp hk
  have key : ∀ k, k < 11 → tables_1[([192, 194, 196, 198, 200, 202, 204, 206, 208, 210, 212] : List Nat).getD k 0]? = some (u_lay R_S T_S k) ∧ j_ok (u_lay R_S T_S k) = true := by decide +kernel
  exact j_in _ (key k hk).1 (key k hk).2
theorem in_M : ∀ w ∈ u_ws R_M T_M 38, w ∈ jt := by
  intro w hw
  obtain ⟨k, hk, rfl⟩ := List.mem_map.mp hw
  have hk := List.mem_range.mp hk
  have key : ∀ k, k < 38 → tables_1[([954, 956, 958, 960, 962, 964, 966, 968, 970, 972, 974, 976, 978, 980, 982, 984, 986, 988, 990, 992, 994, 996, 998, 1000, 1002, 1004, 1006, 1008, 1010, 1012, 1014, 1016, 1018, 1020, 1022, 1024, 1026, 1028] : List Nat).getD k 0]? = some (u_lay R_M T_M k) ∧ j_ok (u_lay R_M T_M k) = true := by decide +kernel
  exact j_in _ (key k hk).1 (key k hk).2
theorem f_F_9 : jF "BitLoom$Fields" 9 1 0 (.array .char) true := ⟨R_F, T_F, 6, ty_F, rfl, by decide, in_F, rfl, Or.inl (j_in 42 (by decide +kernel) rfl), tk_F, nm_F, rfl, rfl⟩
theorem g_F_9 : ∃ C T N, classes[1]? = some (C, T, N) ∧ Cond.fieldLink "BitLoom$Fields" 9 C (T 0).2.1 (T 0).2.2.1 ∈ jt := ⟨R_F, T_F, 6, rfl, j_in 42 (by decide +kernel) rfl⟩
theorem f_F_15 : jF "BitLoom$Fields" 15 1 1 (.array .int) true := ⟨R_F, T_F, 6, ty_F, rfl, by decide, in_F, rfl, Or.inl (j_in 43 (by decide +kernel) rfl), tk_F, nm_F, rfl, rfl⟩
theorem g_F_15 : ∃ C T N, classes[1]? = some (C, T, N) ∧ Cond.fieldLink "BitLoom$Fields" 15 C (T 1).2.1 (T 1).2.2.1 ∈ jt := ⟨R_F, T_F, 6, rfl, j_in 43 (by decide +kernel) rfl⟩
theorem f_F_19 : jF "BitLoom$Fields" 19 1 2 (.array .int) true := ⟨R_F, T_F, 6, ty_F, rfl, by decide, in_F, rfl, Or.inl (j_in 44 (by decide +kernel) rfl), tk_F, nm_F, rfl, rfl⟩
theorem g_F_19 : ∃ C T N, classes[1]? = some (C, T, N) ∧ Cond.fieldLink "BitLoom$Fields" 19 C (T 2).2.1 (T 2).2.2.1 ∈ jt := ⟨R_F, T_F, 6, rfl, j_in 44 (by decide +kernel) rfl⟩
theorem f_F_22 : jF "BitLoom$Fields" 22 1 3 (.array .boolean) true := ⟨R_F, T_F, 6, ty_F, rfl, by decide, in_F, rfl, Or.inl (j_in 45 (by decide +kernel) rfl), tk_F, nm_F, rfl, rfl⟩
theorem g_F_22 : ∃ C T N, classes[1]? = some (C, T, N) ∧ Cond.fieldLink "BitLoom$Fields" 22 C (T 3).2.1 (T 3).2.2.1 ∈ jt := ⟨R_F, T_F, 6, rfl, j_in 45 (by decide +kernel) rfl⟩
theorem f_F_26 : jF "BitLoom$Fields" 26 1 4 .int false := ⟨R_F, T_F, 6, ty_F, rfl, by decide, in_F, rfl, Or.inl (j_in 46 (by decide +kernel) rfl), tk_F, nm_F, rfl, rfl⟩
theorem f_F_34 : jF "BitLoom$Fields" 34 1 5 .int false := ⟨R_F, T_F, 6, ty_F, rfl, by decide, in_F, rfl, Or.inl (j_in 47 (by decide +kernel) rfl), tk_F, nm_F, rfl, rfl⟩
theorem f_W_9 : jF "BitLoom$Words" 9 2 0 (.array .int) true := ⟨R_W, T_W, 3, ty_W, rfl, by decide, in_W, rfl, Or.inl (j_in 70 (by decide +kernel) rfl), tk_W, nm_W, rfl, rfl⟩
theorem g_W_9 : ∃ C T N, classes[2]? = some (C, T, N) ∧ Cond.fieldLink "BitLoom$Words" 9 C (T 0).2.1 (T 0).2.2.1 ∈ jt := ⟨R_W, T_W, 3, rfl, j_in 70 (by decide +kernel) rfl⟩
theorem f_W_19 : jF "BitLoom$Words" 19 2 1 .int false := ⟨R_W, T_W, 3, ty_W, rfl, by decide, in_W, rfl, Or.inl (j_in 71 (by decide +kernel) rfl), tk_W, nm_W, rfl, rfl⟩
theorem f_W_23 : jF "BitLoom$Words" 23 2 2 .int false := ⟨R_W, T_W, 3, ty_W, rfl, by decide, in_W, rfl, Or.inl (j_in 72 (by decide +kernel) rfl), tk_W, nm_W, rfl, rfl⟩
theorem f_T_9 : jF "BitLoom$Text" 9 3 0 (.array .char) true := ⟨R_T, T_T, 2, ty_T, rfl, by decide, in_T, rfl, Or.inl (j_in 86 (by decide +kernel) rfl), tk_T, nm_T, rfl, rfl⟩
theorem g_T_9 : ∃ C T N, classes[3]? = some (C, T, N) ∧ Cond.fieldLink "BitLoom$Text" 9 C (T 0).2.1 (T 0).2.2.1 ∈ jt := ⟨R_T, T_T, 2, rfl, j_in 86 (by decide +kernel) rfl⟩
theorem f_T_15 : jF "BitLoom$Text" 15 3 1 .int false := ⟨R_T, T_T, 2, ty_T, rfl, by decide, in_T, rfl, Or.inl (j_in 87 (by decide +kernel) rfl), tk_T, nm_T, rfl, rfl⟩
theorem f_K_9 : jF "BitLoom$Tokens" 9 4 0 (.object "BitLoom$Text") true := ⟨R_K, T_K, 6, ty_K, rfl, by decide, in_K, rfl, Or.inl (j_in 105 (by decide +kernel) rfl), tk_K, nm_K, rfl, rfl⟩
theorem g_K_9 : ∃ C T N, classes[4]? = some (C, T, N) ∧ Cond.fieldLink "BitLoom$Tokens" 9 C (T 0).2.1 (T 0).2.2.1 ∈ jt := ⟨R_K, T_K, 6, rfl, j_in 105 (by decide +kernel) rfl⟩
theorem f_K_15 : jF "BitLoom$Tokens" 15 4 1 (.array .char) true := ⟨R_K, T_K, 6, ty_K, rfl, by decide, in_K, rfl, Or.inl (j_in 106 (by decide +kernel) rfl), tk_K, nm_K, rfl, rfl⟩
theorem g_K_15 : ∃ C T N, classes[4]? = some (C, T, N) ∧ Cond.fieldLink "BitLoom$Tokens" 15 C (T 1).2.1 (T 1).2.2.1 ∈ jt := ⟨R_K, T_K, 6, rfl, j_in 106 (by decide +kernel) rfl⟩
theorem f_K_19 : jF "BitLoom$Tokens" 19 4 2 (.array .int) true := ⟨R_K, T_K, 6, ty_K, rfl, by decide, in_K, rfl, Or.inl (j_in 107 (by decide +kernel) rfl), tk_K, nm_K, rfl, rfl⟩
theorem g_K_19 : ∃ C T N, classes[4]? = some (C, T, N) ∧ Cond.fieldLink "BitLoom$Tokens" 19 C (T 2).2.1 (T 2).2.2.1 ∈ jt := ⟨R_K, T_K, 6, rfl, j_in 107 (by decide +kernel) rfl⟩
theorem f_K_23 : jF "BitLoom$Tokens" 23 4 3 (.array .int) true := ⟨R_K, T_K, 6, ty_K, rfl, by decide, in_K, rfl, Or.inl (j_in 108 (by decide +kernel) rfl), tk_K, nm_K, rfl, rfl⟩
theorem g_K_23 : ∃ C T N, classes[4]? = some (C, T, N) ∧ Cond.fieldLink "BitLoom$Tokens" 23 C (T 3).2.1 (T 3).2.2.1 ∈ jt := ⟨R_K, T_K, 6, rfl, j_in 108 (by decide +kernel) rfl⟩
theorem f_K_26 : jF "BitLoom$Tokens" 26 4 4 .int false := ⟨R_K, T_K, 6, ty_K, rfl, by decide, in_K, rfl, Or.inl (j_in 109 (by decide +kernel) rfl), tk_K, nm_K, rfl, rfl⟩
theorem f_K_30 : jF "BitLoom$Tokens" 30 4 5 .int false := ⟨R_K, T_K, 6, ty_K, rfl, by decide, in_K, rfl, Or.inl (j_in 110 (by decide +kernel) rfl), tk_K, nm_K, rfl, rfl⟩
theorem f_O_9 : jF "BitLoom$Operand" 9 5 0 (.object "BitLoom$Fields") true := ⟨R_O, T_O, 3, ty_O, rfl, by decide, in_O, rfl, Or.inl (j_in 136 (by decide +kernel) rfl), tk_O, nm_O, rfl, rfl⟩
theorem g_O_9 : ∃ C T N, classes[5]? = some (C, T, N) ∧ Cond.fieldLink "BitLoom$Operand" 9 C (T 0).2.1 (T 0).2.2.1 ∈ jt := ⟨R_O, T_O, 3, rfl, j_in 136 (by decide +kernel) rfl⟩
theorem f_O_15 : jF "BitLoom$Operand" 15 5 1 .int false := ⟨R_O, T_O, 3, ty_O, rfl, by decide, in_O, rfl, Or.inl (j_in 137 (by decide +kernel) rfl), tk_O, nm_O, rfl, rfl⟩
theorem f_O_19 : jF "BitLoom$Operand" 19 5 2 .int false := ⟨R_O, T_O, 3, ty_O, rfl, by decide, in_O, rfl, Or.inl (j_in 138 (by decide +kernel) rfl), tk_O, nm_O, rfl, rfl⟩
theorem f_P_12 : jF "BitLoom$Pair" 12 6 0 (.object "BitLoom$Operand") true := ⟨R_P, T_P, 3, ty_P, rfl, by decide, in_P, rfl, Or.inl (j_in 146 (by decide +kernel) rfl), tk_P, nm_P, rfl, rfl⟩
theorem g_P_12 : ∃ C T N, classes[6]? = some (C, T, N) ∧ Cond.fieldLink "BitLoom$Pair" 12 C (T 0).2.1 (T 0).2.2.1 ∈ jt := ⟨R_P, T_P, 3, rfl, j_in 146 (by decide +kernel) rfl⟩
theorem f_S_139 : jF "BitLoom$Statement" 139 6 0 (.object "BitLoom$Operand") true := ⟨R_P, T_P, 3, ty_P, rfl, by decide, in_P, rfl, Or.inr ⟨"BitLoom", j_in 147 (by decide +kernel) rfl⟩, tk_P, nm_P, rfl, rfl⟩
theorem f_P_18 : jF "BitLoom$Pair" 18 6 1 (.object "BitLoom$Operand") true := ⟨R_P, T_P, 3, ty_P, rfl, by decide, in_P, rfl, Or.inl (j_in 148 (by decide +kernel) rfl), tk_P, nm_P, rfl, rfl⟩
theorem g_P_18 : ∃ C T N, classes[6]? = some (C, T, N) ∧ Cond.fieldLink "BitLoom$Pair" 18 C (T 1).2.1 (T 1).2.2.1 ∈ jt := ⟨R_P, T_P, 3, rfl, j_in 148 (by decide +kernel) rfl⟩
theorem f_S_155 : jF "BitLoom$Statement" 155 6 1 (.object "BitLoom$Operand") true := ⟨R_P, T_P, 3, ty_P, rfl, by decide, in_P, rfl, Or.inr ⟨"BitLoom", j_in 149 (by decide +kernel) rfl⟩, tk_P, nm_P, rfl, rfl⟩
theorem f_P_21 : jF "BitLoom$Pair" 21 6 2 .char false := ⟨R_P, T_P, 3, ty_P, rfl, by decide, in_P, rfl, Or.inl (j_in 150 (by decide +kernel) rfl), tk_P, nm_P, rfl, rfl⟩
theorem f_S_151 : jF "BitLoom$Statement" 151 6 2 .char false := ⟨R_P, T_P, 3, ty_P, rfl, by decide, in_P, rfl, Or.inr ⟨"BitLoom", j_in 151 (by decide +kernel) rfl⟩, tk_P, nm_P, rfl, rfl⟩
theorem f_C_7 : jF "BitLoom$Change" 7 7 0 (.object "BitLoom$Fields") true := ⟨R_C, T_C, 3, ty_C, rfl, by decide, in_C, rfl, Or.inl (j_in 167 (by decide +kernel) rfl), tk_C, nm_C, rfl, rfl⟩
theorem g_C_7 : ∃ C T N, classes[7]? = some (C, T, N) ∧ Cond.fieldLink "BitLoom$Change" 7 C (T 0).2.1 (T 0).2.2.1 ∈ jt := ⟨R_C, T_C, 3, rfl, j_in 167 (by decide +kernel) rfl⟩
theorem f_C_18 : jF "BitLoom$Change" 18 7 1 (.object "BitLoom$Pair") true := ⟨R_C, T_C, 3, ty_C, rfl, by decide, in_C, rfl, Or.inl (j_in 168 (by decide +kernel) rfl), tk_C, nm_C, rfl, rfl⟩
theorem g_C_18 : ∃ C T N, classes[7]? = some (C, T, N) ∧ Cond.fieldLink "BitLoom$Change" 18 C (T 1).2.1 (T 1).2.2.1 ∈ jt := ⟨R_C, T_C, 3, rfl, j_in 168 (by decide +kernel) rfl⟩
theorem f_S_188 : jF "BitLoom$Statement" 188 7 1 (.object "BitLoom$Pair") true := ⟨R_C, T_C, 3, ty_C, rfl, by decide, in_C, rfl, Or.inr ⟨"BitLoom", j_in 169 (by decide +kernel) rfl⟩, tk_C, nm_C, rfl, rfl⟩
theorem f_C_22 : jF "BitLoom$Change" 22 7 2 .int false := ⟨R_C, T_C, 3, ty_C, rfl, by decide, in_C, rfl, Or.inl (j_in 170 (by decide +kernel) rfl), tk_C, nm_C, rfl, rfl⟩
theorem f_S_185 : jF "BitLoom$Statement" 185 7 2 .int false := ⟨R_C, T_C, 3, ty_C, rfl, by decide, in_C, rfl, Or.inr ⟨"BitLoom", j_in 171 (by decide +kernel) rfl⟩, tk_C, nm_C, rfl, rfl⟩
theorem f_S_9 : jF "BitLoom$Statement" 9 8 0 (.object "BitLoom$Fields") true := ⟨R_S, T_S, 11, ty_S, rfl, by decide, in_S, rfl, Or.inl (j_in 181 (by decide +kernel) rfl), tk_S, nm_S, rfl, rfl⟩
theorem g_S_9 : ∃ C T N, classes[8]? = some (C, T, N) ∧ Cond.fieldLink "BitLoom$Statement" 9 C (T 0).2.1 (T 0).2.2.1 ∈ jt := ⟨R_S, T_S, 11, rfl, j_in 181 (by decide +kernel) rfl⟩
theorem f_S_15 : jF "BitLoom$Statement" 15 8 1 (.object "BitLoom$Words") true := ⟨R_S, T_S, 11, ty_S, rfl, by decide, in_S, rfl, Or.inl (j_in 182 (by decide +kernel) rfl), tk_S, nm_S, rfl, rfl⟩
theorem g_S_15 : ∃ C T N, classes[8]? = some (C, T, N) ∧ Cond.fieldLink "BitLoom$Statement" 15 C (T 1).2.1 (T 1).2.2.1 ∈ jt := ⟨R_S, T_S, 11, rfl, j_in 182 (by decide +kernel) rfl⟩
theorem f_S_24 : jF "BitLoom$Statement" 24 8 2 (.object "BitLoom$Tokens") true := ⟨R_S, T_S, 11, ty_S, rfl, by decide, in_S, rfl, Or.inl (j_in 183 (by decide +kernel) rfl), tk_S, nm_S, rfl, rfl⟩
theorem g_S_24 : ∃ C T N, classes[8]? = some (C, T, N) ∧ Cond.fieldLink "BitLoom$Statement" 24 C (T 2).2.1 (T 2).2.2.1 ∈ jt := ⟨R_S, T_S, 11, rfl, j_in 183 (by decide +kernel) rfl⟩
theorem f_S_33 : jF "BitLoom$Statement" 33 8 3 (.object "BitLoom$Pair") true := ⟨R_S, T_S, 11, ty_S, rfl, by decide, in_S, rfl, Or.inl (j_in 184 (by decide +kernel) rfl), tk_S, nm_S, rfl, rfl⟩
theorem g_S_33 : ∃ C T N, classes[8]? = some (C, T, N) ∧ Cond.fieldLink "BitLoom$Statement" 33 C (T 3).2.1 (T 3).2.2.1 ∈ jt := ⟨R_S, T_S, 11, rfl, j_in 184 (by decide +kernel) rfl⟩
theorem f_S_40 : jF "BitLoom$Statement" 40 8 4 (.object "BitLoom$Change") true := ⟨R_S, T_S, 11, ty_S, rfl, by decide, in_S, rfl, Or.inl (j_in 185 (by decide +kernel) rfl), tk_S, nm_S, rfl, rfl⟩
theorem g_S_40 : ∃ C T N, classes[8]? = some (C, T, N) ∧ Cond.fieldLink "BitLoom$Statement" 40 C (T 4).2.1 (T 4).2.2.1 ∈ jt := ⟨R_S, T_S, 11, rfl, j_in 185 (by decide +kernel) rfl⟩
theorem f_S_44 : jF "BitLoom$Statement" 44 8 5 (.object "BitLoom$Change") true := ⟨R_S, T_S, 11, ty_S, rfl, by decide, in_S, rfl, Or.inl (j_in 186 (by decide +kernel) rfl), tk_S, nm_S, rfl, rfl⟩
theorem g_S_44 : ∃ C T N, classes[8]? = some (C, T, N) ∧ Cond.fieldLink "BitLoom$Statement" 44 C (T 5).2.1 (T 5).2.2.1 ∈ jt := ⟨R_S, T_S, 11, rfl, j_in 186 (by decide +kernel) rfl⟩
theorem f_S_76 : jF "BitLoom$Statement" 76 8 6 .boolean false := ⟨R_S, T_S, 11, ty_S, rfl, by decide, in_S, rfl, Or.inl (j_in 187 (by decide +kernel) rfl), tk_S, nm_S, rfl, rfl⟩
theorem f_S_53 : jF "BitLoom$Statement" 53 8 7 (.object "BitLoom$Action") false := ⟨R_S, T_S, 11, ty_S, rfl, by decide, in_S, rfl, Or.inl (j_in 188 (by decide +kernel) rfl), tk_S, nm_S, rfl, rfl⟩
theorem f_S_63 : jF "BitLoom$Statement" 63 8 8 .int false := ⟨R_S, T_S, 11, ty_S, rfl, by decide, in_S, rfl, Or.inl (j_in 189 (by decide +kernel) rfl), tk_S, nm_S, rfl, rfl⟩
theorem f_S_60 : jF "BitLoom$Statement" 60 8 9 .int false := ⟨R_S, T_S, 11, ty_S, rfl, by decide, in_S, rfl, Or.inl (j_in 190 (by decide +kernel) rfl), tk_S, nm_S, rfl, rfl⟩
theorem f_S_56 : jF "BitLoom$Statement" 56 8 10 .int false := ⟨R_S, T_S, 11, ty_S, rfl, by decide, in_S, rfl, Or.inl (j_in 191 (by decide +kernel) rfl), tk_S, nm_S, rfl, rfl⟩
theorem f_B_12 : jF "BitLoom" 12 0 0 (.object "BitLoom$Fields") true := ⟨R_B, T_B, 7, ty_B, rfl, by decide, in_B, rfl, Or.inl (j_in 215 (by decide +kernel) rfl), tk_B, nm_B, rfl, rfl⟩
theorem g_B_12 : ∃ C T N, classes[0]? = some (C, T, N) ∧ Cond.fieldLink "BitLoom" 12 C (T 0).2.1 (T 0).2.2.1 ∈ jt := ⟨R_B, T_B, 7, rfl, j_in 215 (by decide +kernel) rfl⟩
theorem f_B_19 : jF "BitLoom" 19 0 1 (.object "BitLoom$Words") true := ⟨R_B, T_B, 7, ty_B, rfl, by decide, in_B, rfl, Or.inl (j_in 216 (by decide +kernel) rfl), tk_B, nm_B, rfl, rfl⟩
theorem g_B_19 : ∃ C T N, classes[0]? = some (C, T, N) ∧ Cond.fieldLink "BitLoom" 19 C (T 1).2.1 (T 1).2.2.1 ∈ jt := ⟨R_B, T_B, 7, rfl, j_in 216 (by decide +kernel) rfl⟩
theorem f_B_26 : jF "BitLoom" 26 0 2 (.object "BitLoom$Text") true := ⟨R_B, T_B, 7, ty_B, rfl, by decide, in_B, rfl, Or.inl (j_in 217 (by decide +kernel) rfl), tk_B, nm_B, rfl, rfl⟩
theorem g_B_26 : ∃ C T N, classes[0]? = some (C, T, N) ∧ Cond.fieldLink "BitLoom" 26 C (T 2).2.1 (T 2).2.2.1 ∈ jt := ⟨R_B, T_B, 7, rfl, j_in 217 (by decide +kernel) rfl⟩
theorem f_B_35 : jF "BitLoom" 35 0 3 (.object "BitLoom$Statement") true := ⟨R_B, T_B, 7, ty_B, rfl, by decide, in_B, rfl, Or.inl (j_in 218 (by decide +kernel) rfl), tk_B, nm_B, rfl, rfl⟩
theorem g_B_35 : ∃ C T N, classes[0]? = some (C, T, N) ∧ Cond.fieldLink "BitLoom" 35 C (T 3).2.1 (T 3).2.2.1 ∈ jt := ⟨R_B, T_B, 7, rfl, j_in 218 (by decide +kernel) rfl⟩
theorem f_B_39 : jF "BitLoom" 39 0 4 (.array .int) true := ⟨R_B, T_B, 7, ty_B, rfl, by decide, in_B, rfl, Or.inl (j_in 219 (by decide +kernel) rfl), tk_B, nm_B, rfl, rfl⟩
theorem g_B_39 : ∃ C T N, classes[0]? = some (C, T, N) ∧ Cond.fieldLink "BitLoom" 39 C (T 4).2.1 (T 4).2.2.1 ∈ jt := ⟨R_B, T_B, 7, rfl, j_in 219 (by decide +kernel) rfl⟩
theorem f_B_169 : jF "BitLoom" 169 0 5 .int false := ⟨R_B, T_B, 7, ty_B, rfl, by decide, in_B, rfl, Or.inl (j_in 220 (by decide +kernel) rfl), tk_B, nm_B, rfl, rfl⟩
theorem f_B_165 : jF "BitLoom" 165 0 6 .int false := ⟨R_B, T_B, 7, ty_B, rfl, by decide, in_B, rfl, Or.inl (j_in 221 (by decide +kernel) rfl), tk_B, nm_B, rfl, rfl⟩
theorem f_M_73 : jF "BitLoomModel" 73 9 0 .int false := ⟨R_M, T_M, 38, ty_M, rfl, by decide, in_M, rfl, Or.inl (j_in 916 (by decide +kernel) rfl), tk_M, nm_M, rfl, rfl⟩
theorem f_M_7 : jF "BitLoomModel" 7 9 1 (.array .boolean) true := ⟨R_M, T_M, 38, ty_M, rfl, by decide, in_M, rfl, Or.inl (j_in 917 (by decide +kernel) rfl), tk_M, nm_M, rfl, rfl⟩
theorem g_M_7 : ∃ C T N, classes[9]? = some (C, T, N) ∧ Cond.fieldLink "BitLoomModel" 7 C (T 1).2.1 (T 1).2.2.1 ∈ jt := ⟨R_M, T_M, 38, rfl, j_in 917 (by decide +kernel) rfl⟩
theorem f_M_13 : jF "BitLoomModel" 13 9 2 (.array .int) true := ⟨R_M, T_M, 38, ty_M, rfl, by decide, in_M, rfl, Or.inl (j_in 918 (by decide +kernel) rfl), tk_M, nm_M, rfl, rfl⟩
theorem g_M_13 : ∃ C T N, classes[9]? = some (C, T, N) ∧ Cond.fieldLink "BitLoomModel" 13 C (T 2).2.1 (T 2).2.2.1 ∈ jt := ⟨R_M, T_M, 38, rfl, j_in 918 (by decide +kernel) rfl⟩
theorem f_M_17 : jF "BitLoomModel" 17 9 3 (.array .boolean) true := ⟨R_M, T_M, 38, ty_M, rfl, by decide, in_M, rfl, Or.inl (j_in 919 (by decide +kernel) rfl), tk_M, nm_M, rfl, rfl⟩
theorem g_M_17 : ∃ C T N, classes[9]? = some (C, T, N) ∧ Cond.fieldLink "BitLoomModel" 17 C (T 3).2.1 (T 3).2.2.1 ∈ jt := ⟨R_M, T_M, 38, rfl, j_in 919 (by decide +kernel) rfl⟩
theorem f_M_76 : jF "BitLoomModel" 76 9 4 .int false := ⟨R_M, T_M, 38, ty_M, rfl, by decide, in_M, rfl, Or.inl (j_in 920 (by decide +kernel) rfl), tk_M, nm_M, rfl, rfl⟩
theorem f_M_20 : jF "BitLoomModel" 20 9 5 (.array .char) true := ⟨R_M, T_M, 38, ty_M, rfl, by decide, in_M, rfl, Or.inl (j_in 921 (by decide +kernel) rfl), tk_M, nm_M, rfl, rfl⟩
theorem g_M_20 : ∃ C T N, classes[9]? = some (C, T, N) ∧ Cond.fieldLink "BitLoomModel" 20 C (T 5).2.1 (T 5).2.2.1 ∈ jt := ⟨R_M, T_M, 38, rfl, j_in 921 (by decide +kernel) rfl⟩
theorem f_M_24 : jF "BitLoomModel" 24 9 6 (.array .int) true := ⟨R_M, T_M, 38, ty_M, rfl, by decide, in_M, rfl, Or.inl (j_in 922 (by decide +kernel) rfl), tk_M, nm_M, rfl, rfl⟩
theorem g_M_24 : ∃ C T N, classes[9]? = some (C, T, N) ∧ Cond.fieldLink "BitLoomModel" 24 C (T 6).2.1 (T 6).2.2.1 ∈ jt := ⟨R_M, T_M, 38, rfl, j_in 922 (by decide +kernel) rfl⟩
theorem f_M_27 : jF "BitLoomModel" 27 9 7 (.array .int) true := ⟨R_M, T_M, 38, ty_M, rfl, by decide, in_M, rfl, Or.inl (j_in 923 (by decide +kernel) rfl), tk_M, nm_M, rfl, rfl⟩
theorem g_M_27 : ∃ C T N, classes[9]? = some (C, T, N) ∧ Cond.fieldLink "BitLoomModel" 27 C (T 7).2.1 (T 7).2.2.1 ∈ jt := ⟨R_M, T_M, 38, rfl, j_in 923 (by decide +kernel) rfl⟩
theorem f_M_30 : jF "BitLoomModel" 30 9 8 (.array .boolean) true := ⟨R_M, T_M, 38, ty_M, rfl, by decide, in_M, rfl, Or.inl (j_in 924 (by decide +kernel) rfl), tk_M, nm_M, rfl, rfl⟩
theorem g_M_30 : ∃ C T N, classes[9]? = some (C, T, N) ∧ Cond.fieldLink "BitLoomModel" 30 C (T 8).2.1 (T 8).2.2.1 ∈ jt := ⟨R_M, T_M, 38, rfl, j_in 924 (by decide +kernel) rfl⟩
theorem f_M_102 : jF "BitLoomModel" 102 9 9 .int false := ⟨R_M, T_M, 38, ty_M, rfl, by decide, in_M, rfl, Or.inl (j_in 925 (by decide +kernel) rfl), tk_M, nm_M, rfl, rfl⟩
theorem f_M_33 : jF "BitLoomModel" 33 9 10 (.array .char) true := ⟨R_M, T_M, 38, ty_M, rfl, by decide, in_M, rfl, Or.inl (j_in 926 (by decide +kernel) rfl), tk_M, nm_M, rfl, rfl⟩
theorem g_M_33 : ∃ C T N, classes[9]? = some (C, T, N) ∧ Cond.fieldLink "BitLoomModel" 33 C (T 10).2.1 (T 10).2.2.1 ∈ jt := ⟨R_M, T_M, 38, rfl, j_in 926 (by decide +kernel) rfl⟩
theorem f_M_36 : jF "BitLoomModel" 36 9 11 .int false := ⟨R_M, T_M, 38, ty_M, rfl, by decide, in_M, rfl, Or.inl (j_in 927 (by decide +kernel) rfl), tk_M, nm_M, rfl, rfl⟩
theorem f_M_257 : jF "BitLoomModel" 257 9 12 .int false := ⟨R_M, T_M, 38, ty_M, rfl, by decide, in_M, rfl, Or.inl (j_in 928 (by decide +kernel) rfl), tk_M, nm_M, rfl, rfl⟩
theorem f_M_260 : jF "BitLoomModel" 260 9 13 .int false := ⟨R_M, T_M, 38, ty_M, rfl, by decide, in_M, rfl, Or.inl (j_in 929 (by decide +kernel) rfl), tk_M, nm_M, rfl, rfl⟩
theorem f_M_40 : jF "BitLoomModel" 40 9 14 (.array .int) true := ⟨R_M, T_M, 38, ty_M, rfl, by decide, in_M, rfl, Or.inl (j_in 930 (by decide +kernel) rfl), tk_M, nm_M, rfl, rfl⟩
theorem g_M_40 : ∃ C T N, classes[9]? = some (C, T, N) ∧ Cond.fieldLink "BitLoomModel" 40 C (T 14).2.1 (T 14).2.2.1 ∈ jt := ⟨R_M, T_M, 38, rfl, j_in 930 (by decide +kernel) rfl⟩
theorem f_M_132 : jF "BitLoomModel" 132 9 15 .int false := ⟨R_M, T_M, 38, ty_M, rfl, by decide, in_M, rfl, Or.inl (j_in 931 (by decide +kernel) rfl), tk_M, nm_M, rfl, rfl⟩
theorem f_M_105 : jF "BitLoomModel" 105 9 16 .int false := ⟨R_M, T_M, 38, ty_M, rfl, by decide, in_M, rfl, Or.inl (j_in 932 (by decide +kernel) rfl), tk_M, nm_M, rfl, rfl⟩
theorem f_M_112 : jF "BitLoomModel" 112 9 17 .int false := ⟨R_M, T_M, 38, ty_M, rfl, by decide, in_M, rfl, Or.inl (j_in 933 (by decide +kernel) rfl), tk_M, nm_M, rfl, rfl⟩
theorem f_M_115 : jF "BitLoomModel" 115 9 18 .int false := ⟨R_M, T_M, 38, ty_M, rfl, by decide, in_M, rfl, Or.inl (j_in 934 (by decide +kernel) rfl), tk_M, nm_M, rfl, rfl⟩
theorem f_M_118 : jF "BitLoomModel" 118 9 19 .long false := ⟨R_M, T_M, 38, ty_M, rfl, by decide, in_M, rfl, Or.inl (j_in 935 (by decide +kernel) rfl), tk_M, nm_M, rfl, rfl⟩
theorem f_M_149 : jF "BitLoomModel" 149 9 20 .int false := ⟨R_M, T_M, 38, ty_M, rfl, by decide, in_M, rfl, Or.inl (j_in 936 (by decide +kernel) rfl), tk_M, nm_M, rfl, rfl⟩
theorem f_M_43 : jF "BitLoomModel" 43 9 21 (.array .int) true := ⟨R_M, T_M, 38, ty_M, rfl, by decide, in_M, rfl, Or.inl (j_in 937 (by decide +kernel) rfl), tk_M, nm_M, rfl, rfl⟩
theorem g_M_43 : ∃ C T N, classes[9]? = some (C, T, N) ∧ Cond.fieldLink "BitLoomModel" 43 C (T 21).2.1 (T 21).2.2.1 ∈ jt := ⟨R_M, T_M, 38, rfl, j_in 937 (by decide +kernel) rfl⟩
theorem f_M_46 : jF "BitLoomModel" 46 9 22 (.array .int) true := ⟨R_M, T_M, 38, ty_M, rfl, by decide, in_M, rfl, Or.inl (j_in 938 (by decide +kernel) rfl), tk_M, nm_M, rfl, rfl⟩
theorem g_M_46 : ∃ C T N, classes[9]? = some (C, T, N) ∧ Cond.fieldLink "BitLoomModel" 46 C (T 22).2.1 (T 22).2.2.1 ∈ jt := ⟨R_M, T_M, 38, rfl, j_in 938 (by decide +kernel) rfl⟩
theorem f_M_152 : jF "BitLoomModel" 152 9 23 .int false := ⟨R_M, T_M, 38, ty_M, rfl, by decide, in_M, rfl, Or.inl (j_in 939 (by decide +kernel) rfl), tk_M, nm_M, rfl, rfl⟩
theorem f_M_49 : jF "BitLoomModel" 49 9 24 (.array .int) true := ⟨R_M, T_M, 38, ty_M, rfl, by decide, in_M, rfl, Or.inl (j_in 940 (by decide +kernel) rfl), tk_M, nm_M, rfl, rfl⟩
theorem g_M_49 : ∃ C T N, classes[9]? = some (C, T, N) ∧ Cond.fieldLink "BitLoomModel" 49 C (T 24).2.1 (T 24).2.2.1 ∈ jt := ⟨R_M, T_M, 38, rfl, j_in 940 (by decide +kernel) rfl⟩
theorem f_M_178 : jF "BitLoomModel" 178 9 25 .int false := ⟨R_M, T_M, 38, ty_M, rfl, by decide, in_M, rfl, Or.inl (j_in 941 (by decide +kernel) rfl), tk_M, nm_M, rfl, rfl⟩
theorem f_M_194 : jF "BitLoomModel" 194 9 26 .int false := ⟨R_M, T_M, 38, ty_M, rfl, by decide, in_M, rfl, Or.inl (j_in 942 (by decide +kernel) rfl), tk_M, nm_M, rfl, rfl⟩
theorem f_M_167 : jF "BitLoomModel" 167 9 27 .int false := ⟨R_M, T_M, 38, ty_M, rfl, by decide, in_M, rfl, Or.inl (j_in 943 (by decide +kernel) rfl), tk_M, nm_M, rfl, rfl⟩
theorem f_M_206 : jF "BitLoomModel" 206 9 28 .int false := ⟨R_M, T_M, 38, ty_M, rfl, by decide, in_M, rfl, Or.inl (j_in 944 (by decide +kernel) rfl), tk_M, nm_M, rfl, rfl⟩
theorem f_M_203 : jF "BitLoomModel" 203 9 29 .int false := ⟨R_M, T_M, 38, ty_M, rfl, by decide, in_M, rfl, Or.inl (j_in 945 (by decide +kernel) rfl), tk_M, nm_M, rfl, rfl⟩
theorem f_M_52 : jF "BitLoomModel" 52 9 30 (.array .int) true := ⟨R_M, T_M, 38, ty_M, rfl, by decide, in_M, rfl, Or.inl (j_in 946 (by decide +kernel) rfl), tk_M, nm_M, rfl, rfl⟩
theorem g_M_52 : ∃ C T N, classes[9]? = some (C, T, N) ∧ Cond.fieldLink "BitLoomModel" 52 C (T 30).2.1 (T 30).2.2.1 ∈ jt := ⟨R_M, T_M, 38, rfl, j_in 946 (by decide +kernel) rfl⟩
theorem f_M_55 : jF "BitLoomModel" 55 9 31 (.array .int) true := ⟨R_M, T_M, 38, ty_M, rfl, by decide, in_M, rfl, Or.inl (j_in 947 (by decide +kernel) rfl), tk_M, nm_M, rfl, rfl⟩
theorem g_M_55 : ∃ C T N, classes[9]? = some (C, T, N) ∧ Cond.fieldLink "BitLoomModel" 55 C (T 31).2.1 (T 31).2.2.1 ∈ jt := ⟨R_M, T_M, 38, rfl, j_in 947 (by decide +kernel) rfl⟩
theorem f_M_58 : jF "BitLoomModel" 58 9 32 (.array .int) true := ⟨R_M, T_M, 38, ty_M, rfl, by decide, in_M, rfl, Or.inl (j_in 948 (by decide +kernel) rfl), tk_M, nm_M, rfl, rfl⟩
theorem g_M_58 : ∃ C T N, classes[9]? = some (C, T, N) ∧ Cond.fieldLink "BitLoomModel" 58 C (T 32).2.1 (T 32).2.2.1 ∈ jt := ⟨R_M, T_M, 38, rfl, j_in 948 (by decide +kernel) rfl⟩
theorem f_M_61 : jF "BitLoomModel" 61 9 33 (.array .int) true := ⟨R_M, T_M, 38, ty_M, rfl, by decide, in_M, rfl, Or.inl (j_in 949 (by decide +kernel) rfl), tk_M, nm_M, rfl, rfl⟩
theorem g_M_61 : ∃ C T N, classes[9]? = some (C, T, N) ∧ Cond.fieldLink "BitLoomModel" 61 C (T 33).2.1 (T 33).2.2.1 ∈ jt := ⟨R_M, T_M, 38, rfl, j_in 949 (by decide +kernel) rfl⟩
theorem f_M_64 : jF "BitLoomModel" 64 9 34 (.array .int) true := ⟨R_M, T_M, 38, ty_M, rfl, by decide, in_M, rfl, Or.inl (j_in 950 (by decide +kernel) rfl), tk_M, nm_M, rfl, rfl⟩
theorem g_M_64 : ∃ C T N, classes[9]? = some (C, T, N) ∧ Cond.fieldLink "BitLoomModel" 64 C (T 34).2.1 (T 34).2.2.1 ∈ jt := ⟨R_M, T_M, 38, rfl, j_in 950 (by decide +kernel) rfl⟩
theorem f_M_67 : jF "BitLoomModel" 67 9 35 (.array .int) true := ⟨R_M, T_M, 38, ty_M, rfl, by decide, in_M, rfl, Or.inl (j_in 951 (by decide +kernel) rfl), tk_M, nm_M, rfl, rfl⟩
theorem g_M_67 : ∃ C T N, classes[9]? = some (C, T, N) ∧ Cond.fieldLink "BitLoomModel" 67 C (T 35).2.1 (T 35).2.2.1 ∈ jt := ⟨R_M, T_M, 38, rfl, j_in 951 (by decide +kernel) rfl⟩
theorem f_M_244 : jF "BitLoomModel" 244 9 36 .int false := ⟨R_M, T_M, 38, ty_M, rfl, by decide, in_M, rfl, Or.inl (j_in 952 (by decide +kernel) rfl), tk_M, nm_M, rfl, rfl⟩
theorem f_M_70 : jF "BitLoomModel" 70 9 37 (.array .int) true := ⟨R_M, T_M, 38, ty_M, rfl, by decide, in_M, rfl, Or.inl (j_in 953 (by decide +kernel) rfl), tk_M, nm_M, rfl, rfl⟩
theorem g_M_70 : ∃ C T N, classes[9]? = some (C, T, N) ∧ Cond.fieldLink "BitLoomModel" 70 C (T 37).2.1 (T 37).2.2.1 ∈ jt := ⟨R_M, T_M, 38, rfl, j_in 953 (by decide +kernel) rfl⟩
theorem i_B_init : jMI M_B_init 0 := ⟨j_in 31 (by decide +kernel) rfl, j_in 32 (by decide +kernel) rfl, rfl, rfl, rfl, j_in 1 (by decide +kernel) rfl, ⟨by decide, by decide⟩, by decide +kernel⟩
theorem i_F_init : jMI M_F_init 0 := ⟨j_in 39 (by decide +kernel) rfl, j_in 40 (by decide +kernel) rfl, rfl, rfl, rfl, j_in 2 (by decide +kernel) rfl, ⟨by decide, by decide⟩, by decide +kernel⟩
theorem i_W_init : jMI M_W_init 0 := ⟨j_in 67 (by decide +kernel) rfl, j_in 68 (by decide +kernel) rfl, rfl, rfl, rfl, j_in 3 (by decide +kernel) rfl, ⟨by decide, by decide⟩, by decide +kernel⟩
theorem i_T_init : jMI M_T_init 0 := ⟨j_in 83 (by decide +kernel) rfl, j_in 84 (by decide +kernel) rfl, rfl, rfl, rfl, j_in 4 (by decide +kernel) rfl, ⟨by decide, by decide⟩, by decide +kernel⟩
theorem i_S_init : jMI M_S_init 3 := ⟨j_in 96 (by decide +kernel) rfl, j_in 97 (by decide +kernel) rfl, rfl, rfl, rfl, j_in 5 (by decide +kernel) rfl, ⟨by decide, by decide⟩, by decide +kernel⟩
theorem i_K_init : jMI M_K_init 1 := ⟨j_in 102 (by decide +kernel) rfl, j_in 103 (by decide +kernel) rfl, rfl, rfl, rfl, j_in 6 (by decide +kernel) rfl, ⟨by decide, by decide⟩, by decide +kernel⟩
theorem i_P_init : jMI M_P_init 1 := ⟨j_in 127 (by decide +kernel) rfl, j_in 128 (by decide +kernel) rfl, rfl, rfl, rfl, j_in 7 (by decide +kernel) rfl, ⟨by decide, by decide⟩, by decide +kernel⟩
theorem i_O_init : jMI M_O_init 1 := ⟨j_in 133 (by decide +kernel) rfl, j_in 134 (by decide +kernel) rfl, rfl, rfl, rfl, j_in 8 (by decide +kernel) rfl, ⟨by decide, by decide⟩, by decide +kernel⟩
theorem i_C_init : jMI M_C_init 1 := ⟨j_in 162 (by decide +kernel) rfl, j_in 163 (by decide +kernel) rfl, rfl, rfl, rfl, j_in 9 (by decide +kernel) rfl, ⟨by decide, by decide⟩, by decide +kernel⟩
theorem v_B_search : jMV M_B_search 0 3 := ⟨j_in 238 (by decide +kernel) rfl, j_in 239 (by decide +kernel) rfl, j_in 240 (by decide +kernel) rfl, j_in 1 (by decide +kernel) rfl, ⟨by decide, by decide⟩, by decide +kernel, T_B, 7, rfl⟩
theorem v_W_responding : jMV M_W_responding 2 0 := ⟨j_in 242 (by decide +kernel) rfl, j_in 243 (by decide +kernel) rfl, j_in 244 (by decide +kernel) rfl, j_in 3 (by decide +kernel) rfl, ⟨by decide, by decide⟩, by decide +kernel, T_W, 3, rfl⟩
theorem v_W_inUse : jMV M_W_inUse 2 0 := ⟨j_in 246 (by decide +kernel) rfl, j_in 247 (by decide +kernel) rfl, j_in 248 (by decide +kernel) rfl, j_in 3 (by decide +kernel) rfl, ⟨by decide, by decide⟩, by decide +kernel, T_W, 3, rfl⟩
theorem v_W_matching : jMV M_W_matching 2 3 := ⟨j_in 250 (by decide +kernel) rfl, j_in 251 (by decide +kernel) rfl, j_in 252 (by decide +kernel) rfl, j_in 3 (by decide +kernel) rfl, ⟨by decide, by decide⟩, by decide +kernel, T_W, 3, rfl⟩
theorem s_W_holds : jMS M_W_holds 2 := ⟨j_in 254 (by decide +kernel) rfl, j_in 255 (by decide +kernel) rfl, j_in 3 (by decide +kernel) rfl, ⟨by decide, by decide⟩, by decide +kernel⟩
theorem v_W_respondOnly : jMV M_W_respondOnly 2 1 := ⟨j_in 257 (by decide +kernel) rfl, j_in 258 (by decide +kernel) rfl, j_in 259 (by decide +kernel) rfl, j_in 3 (by decide +kernel) rfl, ⟨by decide, by decide⟩, by decide +kernel, T_W, 3, rfl⟩
theorem s_JInteger_bitCount : jMS M_JInteger_bitCount 1 := ⟨j_in 261 (by decide +kernel) rfl, j_in 262 (by decide +kernel) rfl, j_in 19 (by decide +kernel) rfl, ⟨by decide, by decide⟩, by decide +kernel⟩
theorem v_B_first : jMV M_B_first 0 0 := ⟨j_in 267 (by decide +kernel) rfl, j_in 268 (by decide +kernel) rfl, j_in 269 (by decide +kernel) rfl, j_in 1 (by decide +kernel) rfl, ⟨by decide, by decide⟩, by decide +kernel, T_B, 7, rfl⟩
theorem s_W_lowestOf : jMS M_W_lowestOf 1 := ⟨j_in 271 (by decide +kernel) rfl, j_in 272 (by decide +kernel) rfl, j_in 3 (by decide +kernel) rfl, ⟨by decide, by decide⟩, by decide +kernel⟩
theorem v_B_write : jMV M_B_write 0 1 := ⟨j_in 274 (by decide +kernel) rfl, j_in 275 (by decide +kernel) rfl, j_in 276 (by decide +kernel) rfl, j_in 1 (by decide +kernel) rfl, ⟨by decide, by decide⟩, by decide +kernel, T_B, 7, rfl⟩
theorem v_T_canTake : jMV M_T_canTake 3 1 := ⟨j_in 278 (by decide +kernel) rfl, j_in 279 (by decide +kernel) rfl, j_in 280 (by decide +kernel) rfl, j_in 4 (by decide +kernel) rfl, ⟨by decide, by decide⟩, by decide +kernel, T_T, 2, rfl⟩
theorem s_T_codeOf : jMS M_T_codeOf 2 := ⟨j_in 282 (by decide +kernel) rfl, j_in 283 (by decide +kernel) rfl, j_in 4 (by decide +kernel) rfl, ⟨by decide, by decide⟩, by decide +kernel⟩
theorem v_T_append : jMV M_T_append 3 1 := ⟨j_in 286 (by decide +kernel) rfl, j_in 287 (by decide +kernel) rfl, j_in 288 (by decide +kernel) rfl, j_in 4 (by decide +kernel) rfl, ⟨by decide, by decide⟩, by decide +kernel, T_T, 2, rfl⟩
theorem v_B_wipe : jMV M_B_wipe 0 0 := ⟨j_in 290 (by decide +kernel) rfl, j_in 291 (by decide +kernel) rfl, j_in 292 (by decide +kernel) rfl, j_in 1 (by decide +kernel) rfl, ⟨by decide, by decide⟩, by decide +kernel, T_B, 7, rfl⟩
theorem v_T_length : jMV M_T_length 3 0 := ⟨j_in 294 (by decide +kernel) rfl, j_in 295 (by decide +kernel) rfl, j_in 296 (by decide +kernel) rfl, j_in 4 (by decide +kernel) rfl, ⟨by decide, by decide⟩, by decide +kernel, T_T, 2, rfl⟩
theorem v_T_clear : jMV M_T_clear 3 0 := ⟨j_in 298 (by decide +kernel) rfl, j_in 299 (by decide +kernel) rfl, j_in 300 (by decide +kernel) rfl, j_in 4 (by decide +kernel) rfl, ⟨by decide, by decide⟩, by decide +kernel, T_T, 2, rfl⟩
theorem v_B_place : jMV M_B_place 0 0 := ⟨j_in 302 (by decide +kernel) rfl, j_in 303 (by decide +kernel) rfl, j_in 304 (by decide +kernel) rfl, j_in 1 (by decide +kernel) rfl, ⟨by decide, by decide⟩, by decide +kernel, T_B, 7, rfl⟩
theorem v_S_wrongAt : jMV M_S_wrongAt 8 0 := ⟨j_in 306 (by decide +kernel) rfl, j_in 307 (by decide +kernel) rfl, j_in 308 (by decide +kernel) rfl, j_in 5 (by decide +kernel) rfl, ⟨by decide, by decide⟩, by decide +kernel, T_S, 11, rfl⟩
theorem v_B_refused : jMV M_B_refused 0 0 := ⟨j_in 310 (by decide +kernel) rfl, j_in 311 (by decide +kernel) rfl, j_in 312 (by decide +kernel) rfl, j_in 1 (by decide +kernel) rfl, ⟨by decide, by decide⟩, by decide +kernel, T_B, 7, rfl⟩
theorem v_B_field : jMV M_B_field 0 4 := ⟨j_in 319 (by decide +kernel) rfl, j_in 320 (by decide +kernel) rfl, j_in 321 (by decide +kernel) rfl, j_in 1 (by decide +kernel) rfl, ⟨by decide, by decide⟩, by decide +kernel, T_B, 7, rfl⟩
theorem v_F_isNewName : jMV M_F_isNewName 1 1 := ⟨j_in 323 (by decide +kernel) rfl, j_in 324 (by decide +kernel) rfl, j_in 325 (by decide +kernel) rfl, j_in 2 (by decide +kernel) rfl, ⟨by decide, by decide⟩, by decide +kernel, T_F, 6, rfl⟩
theorem v_F_indexOf : jMV M_F_indexOf 1 1 := ⟨j_in 327 (by decide +kernel) rfl, j_in 328 (by decide +kernel) rfl, j_in 329 (by decide +kernel) rfl, j_in 2 (by decide +kernel) rfl, ⟨by decide, by decide⟩, by decide +kernel, T_F, 6, rfl⟩
theorem v_F_isOpenGround : jMV M_F_isOpenGround 1 2 := ⟨j_in 331 (by decide +kernel) rfl, j_in 332 (by decide +kernel) rfl, j_in 333 (by decide +kernel) rfl, j_in 2 (by decide +kernel) rfl, ⟨by decide, by decide⟩, by decide +kernel, T_F, 6, rfl⟩
theorem s_F_ground : jMS M_F_ground 2 := ⟨j_in 335 (by decide +kernel) rfl, j_in 336 (by decide +kernel) rfl, j_in 2 (by decide +kernel) rfl, ⟨by decide, by decide⟩, by decide +kernel⟩
theorem v_F_isFull : jMV M_F_isFull 1 0 := ⟨j_in 402 (by decide +kernel) rfl, j_in 403 (by decide +kernel) rfl, j_in 404 (by decide +kernel) rfl, j_in 2 (by decide +kernel) rfl, ⟨by decide, by decide⟩, by decide +kernel, T_F, 6, rfl⟩
theorem v_F_append : jMV M_F_append 1 4 := ⟨j_in 421 (by decide +kernel) rfl, j_in 422 (by decide +kernel) rfl, j_in 423 (by decide +kernel) rfl, j_in 2 (by decide +kernel) rfl, ⟨by decide, by decide⟩, by decide +kernel, T_F, 6, rfl⟩
theorem v_B_insert : jMV M_B_insert 0 0 := ⟨j_in 429 (by decide +kernel) rfl, j_in 430 (by decide +kernel) rfl, j_in 431 (by decide +kernel) rfl, j_in 1 (by decide +kernel) rfl, ⟨by decide, by decide⟩, by decide +kernel, T_B, 7, rfl⟩
theorem v_W_free : jMV M_W_free 2 0 := ⟨j_in 433 (by decide +kernel) rfl, j_in 434 (by decide +kernel) rfl, j_in 435 (by decide +kernel) rfl, j_in 3 (by decide +kernel) rfl, ⟨by decide, by decide⟩, by decide +kernel, T_W, 3, rfl⟩
theorem v_W_occupy : jMV M_W_occupy 2 1 := ⟨j_in 452 (by decide +kernel) rfl, j_in 453 (by decide +kernel) rfl, j_in 454 (by decide +kernel) rfl, j_in 3 (by decide +kernel) rfl, ⟨by decide, by decide⟩, by decide +kernel, T_W, 3, rfl⟩
theorem v_B_remove : jMV M_B_remove 0 1 := ⟨j_in 459 (by decide +kernel) rfl, j_in 460 (by decide +kernel) rfl, j_in 461 (by decide +kernel) rfl, j_in 1 (by decide +kernel) rfl, ⟨by decide, by decide⟩, by decide +kernel, T_B, 7, rfl⟩
theorem v_B_requireWord : jMV M_B_requireWord 0 1 := ⟨j_in 464 (by decide +kernel) rfl, j_ip (n := 7) 1 (by decide +kernel), j_in 465 (by decide +kernel) rfl, j_in 1 (by decide +kernel) rfl, ⟨by decide, by decide⟩, by decide +kernel, T_B, 7, rfl⟩
theorem v_B_requireInUse : jMV M_B_requireInUse 0 1 := ⟨j_in 468 (by decide +kernel) rfl, j_ip (n := 7) 2 (by decide +kernel), j_in 469 (by decide +kernel) rfl, j_in 1 (by decide +kernel) rfl, ⟨by decide, by decide⟩, by decide +kernel, T_B, 7, rfl⟩
theorem v_W_release : jMV M_W_release 2 1 := ⟨j_in 472 (by decide +kernel) rfl, j_in 473 (by decide +kernel) rfl, j_in 474 (by decide +kernel) rfl, j_in 3 (by decide +kernel) rfl, ⟨by decide, by decide⟩, by decide +kernel, T_W, 3, rfl⟩
theorem v_B_put : jMV M_B_put 0 3 := ⟨j_in 479 (by decide +kernel) rfl, j_in 480 (by decide +kernel) rfl, j_in 481 (by decide +kernel) rfl, j_in 1 (by decide +kernel) rfl, ⟨by decide, by decide⟩, by decide +kernel, T_B, 7, rfl⟩
theorem v_B_requireField : jMV M_B_requireField 0 1 := ⟨j_in 484 (by decide +kernel) rfl, j_ip (n := 7) 3 (by decide +kernel), j_in 485 (by decide +kernel) rfl, j_in 1 (by decide +kernel) rfl, ⟨by decide, by decide⟩, by decide +kernel, T_B, 7, rfl⟩
theorem v_F_fits : jMV M_F_fits 1 2 := ⟨j_in 488 (by decide +kernel) rfl, j_in 489 (by decide +kernel) rfl, j_in 490 (by decide +kernel) rfl, j_in 2 (by decide +kernel) rfl, ⟨by decide, by decide⟩, by decide +kernel, T_F, 6, rfl⟩
theorem v_W_bitsOf : jMV M_W_bitsOf 2 1 := ⟨j_in 492 (by decide +kernel) rfl, j_in 493 (by decide +kernel) rfl, j_in 494 (by decide +kernel) rfl, j_in 3 (by decide +kernel) rfl, ⟨by decide, by decide⟩, by decide +kernel, T_W, 3, rfl⟩
theorem v_F_withValue : jMV M_F_withValue 1 3 := ⟨j_in 496 (by decide +kernel) rfl, j_in 497 (by decide +kernel) rfl, j_in 498 (by decide +kernel) rfl, j_in 2 (by decide +kernel) rfl, ⟨by decide, by decide⟩, by decide +kernel, T_F, 6, rfl⟩
theorem v_W_replace : jMV M_W_replace 2 2 := ⟨j_in 500 (by decide +kernel) rfl, j_in 501 (by decide +kernel) rfl, j_in 502 (by decide +kernel) rfl, j_in 3 (by decide +kernel) rfl, ⟨by decide, by decide⟩, by decide +kernel, T_W, 3, rfl⟩
theorem v_B_get : jMV M_B_get 0 2 := ⟨j_in 507 (by decide +kernel) rfl, j_in 508 (by decide +kernel) rfl, j_in 509 (by decide +kernel) rfl, j_in 1 (by decide +kernel) rfl, ⟨by decide, by decide⟩, by decide +kernel, T_B, 7, rfl⟩
theorem v_F_valueIn : jMV M_F_valueIn 1 2 := ⟨j_in 511 (by decide +kernel) rfl, j_in 512 (by decide +kernel) rfl, j_in 513 (by decide +kernel) rfl, j_in 2 (by decide +kernel) rfl, ⟨by decide, by decide⟩, by decide +kernel, T_F, 6, rfl⟩
theorem v_B_bit : jMV M_B_bit 0 2 := ⟨j_in 518 (by decide +kernel) rfl, j_in 519 (by decide +kernel) rfl, j_in 520 (by decide +kernel) rfl, j_in 1 (by decide +kernel) rfl, ⟨by decide, by decide⟩, by decide +kernel, T_B, 7, rfl⟩
theorem v_B_multi : jMV M_B_multi 0 2 := ⟨j_in 525 (by decide +kernel) rfl, j_in 526 (by decide +kernel) rfl, j_in 527 (by decide +kernel) rfl, j_in 1 (by decide +kernel) rfl, ⟨by decide, by decide⟩, by decide +kernel, T_B, 7, rfl⟩
theorem v_W_overwrite : jMV M_W_overwrite 2 3 := ⟨j_in 530 (by decide +kernel) rfl, j_in 531 (by decide +kernel) rfl, j_in 532 (by decide +kernel) rfl, j_in 3 (by decide +kernel) rfl, ⟨by decide, by decide⟩, by decide +kernel, T_W, 3, rfl⟩
theorem v_B_responds : jMV M_B_responds 0 1 := ⟨j_in 537 (by decide +kernel) rfl, j_in 538 (by decide +kernel) rfl, j_in 539 (by decide +kernel) rfl, j_in 1 (by decide +kernel) rfl, ⟨by decide, by decide⟩, by decide +kernel, T_B, 7, rfl⟩
theorem v_B_run : jMV M_B_run 0 0 := ⟨j_in 544 (by decide +kernel) rfl, j_in 545 (by decide +kernel) rfl, j_in 546 (by decide +kernel) rfl, j_in 1 (by decide +kernel) rfl, ⟨by decide, by decide⟩, by decide +kernel, T_B, 7, rfl⟩
theorem v_S_read : jMV M_S_read 8 0 := ⟨j_in 548 (by decide +kernel) rfl, j_in 549 (by decide +kernel) rfl, j_in 550 (by decide +kernel) rfl, j_in 5 (by decide +kernel) rfl, ⟨by decide, by decide⟩, by decide +kernel, T_S, 11, rfl⟩
theorem v_K_cut : jMV M_K_cut 4 0 := ⟨j_in 552 (by decide +kernel) rfl, j_in 553 (by decide +kernel) rfl, j_in 554 (by decide +kernel) rfl, j_in 6 (by decide +kernel) rfl, ⟨by decide, by decide⟩, by decide +kernel, T_K, 6, rfl⟩
theorem v_T_at : jMV M_T_at 3 1 := ⟨j_in 557 (by decide +kernel) rfl, j_in 558 (by decide +kernel) rfl, j_in 559 (by decide +kernel) rfl, j_in 4 (by decide +kernel) rfl, ⟨by decide, by decide⟩, by decide +kernel, T_T, 2, rfl⟩
theorem v_K_cutOne : jMV M_K_cutOne 4 1 := ⟨j_in 562 (by decide +kernel) rfl, j_ip (n := 6) 4 (by decide +kernel), j_in 563 (by decide +kernel) rfl, j_in 6 (by decide +kernel) rfl, ⟨by decide, by decide⟩, by decide +kernel, T_K, 6, rfl⟩
theorem s_K_isBetween : jMS M_K_isBetween 3 := ⟨j_in 565 (by decide +kernel) rfl, j_in 566 (by decide +kernel) rfl, j_in 6 (by decide +kernel) rfl, ⟨by decide, by decide⟩, by decide +kernel⟩
theorem v_K_endOf : jMV M_K_endOf 4 3 := ⟨j_in 569 (by decide +kernel) rfl, j_ip (n := 6) 5 (by decide +kernel), j_in 570 (by decide +kernel) rfl, j_in 6 (by decide +kernel) rfl, ⟨by decide, by decide⟩, by decide +kernel, T_K, 6, rfl⟩
theorem v_K_append : jMV M_K_append 4 3 := ⟨j_in 573 (by decide +kernel) rfl, j_ip (n := 6) 6 (by decide +kernel), j_in 574 (by decide +kernel) rfl, j_in 6 (by decide +kernel) rfl, ⟨by decide, by decide⟩, by decide +kernel, T_K, 6, rfl⟩
theorem s_JStringLatin1_indexOf : jMS M_JStringLatin1_indexOf 4 := ⟨j_in 599 (by decide +kernel) rfl, j_in 600 (by decide +kernel) rfl, j_in 21 (by decide +kernel) rfl, ⟨by decide, by decide⟩, by decide +kernel⟩
theorem s_JStringLatin1_canEncode : jMS M_JStringLatin1_canEncode 1 := ⟨j_in 602 (by decide +kernel) rfl, j_in 603 (by decide +kernel) rfl, j_in 21 (by decide +kernel) rfl, ⟨by decide, by decide⟩, by decide +kernel⟩
theorem s_JMath_max : jMS M_JMath_max 2 := ⟨j_in 605 (by decide +kernel) rfl, j_in 606 (by decide +kernel) rfl, j_in 22 (by decide +kernel) rfl, ⟨by decide, by decide⟩, by decide +kernel⟩
theorem s_JMath_min : jMS M_JMath_min 2 := ⟨j_in 608 (by decide +kernel) rfl, j_in 609 (by decide +kernel) rfl, j_in 22 (by decide +kernel) rfl, ⟨by decide, by decide⟩, by decide +kernel⟩
theorem s_JStringLatin1_indexOfChar : jMS M_JStringLatin1_indexOfChar 4 := ⟨j_in 611 (by decide +kernel) rfl, j_in 612 (by decide +kernel) rfl, j_in 21 (by decide +kernel) rfl, ⟨by decide, by decide⟩, by decide +kernel⟩
theorem v_K_isWord : jMV M_K_isWord 4 1 := ⟨j_in 665 (by decide +kernel) rfl, j_in 666 (by decide +kernel) rfl, j_in 667 (by decide +kernel) rfl, j_in 6 (by decide +kernel) rfl, ⟨by decide, by decide⟩, by decide +kernel, T_K, 6, rfl⟩
theorem s_JStringLatin1_charAt : jMS M_JStringLatin1_charAt 2 := ⟨j_in 674 (by decide +kernel) rfl, j_in 675 (by decide +kernel) rfl, j_in 21 (by decide +kernel) rfl, ⟨by decide, by decide⟩, by decide +kernel⟩
theorem s_JString_checkIndex : jMS M_JString_checkIndex 2 := ⟨j_in 677 (by decide +kernel) rfl, j_in 678 (by decide +kernel) rfl, j_in 20 (by decide +kernel) rfl, ⟨by decide, by decide⟩, by decide +kernel⟩
theorem s_JPreconditions_checkIndex : jMS M_JPreconditions_checkIndex 3 := ⟨j_in 680 (by decide +kernel) rfl, j_in 681 (by decide +kernel) rfl, j_in 24 (by decide +kernel) rfl, ⟨by decide, by decide⟩, by decide +kernel⟩
theorem v_K_advance : jMV M_K_advance 4 0 := ⟨j_in 690 (by decide +kernel) rfl, j_in 691 (by decide +kernel) rfl, j_in 692 (by decide +kernel) rfl, j_in 6 (by decide +kernel) rfl, ⟨by decide, by decide⟩, by decide +kernel, T_K, 6, rfl⟩
theorem v_S_readCondition : jMV M_S_readCondition 8 1 := ⟨j_in 695 (by decide +kernel) rfl, j_ip (n := 11) 7 (by decide +kernel), j_in 696 (by decide +kernel) rfl, j_in 5 (by decide +kernel) rfl, ⟨by decide, by decide⟩, by decide +kernel, T_S, 11, rfl⟩
theorem v_S_readClause : jMV M_S_readClause 8 1 := ⟨j_in 699 (by decide +kernel) rfl, j_ip (n := 11) 8 (by decide +kernel), j_in 700 (by decide +kernel) rfl, j_in 5 (by decide +kernel) rfl, ⟨by decide, by decide⟩, by decide +kernel, T_S, 11, rfl⟩
theorem v_S_readOne : jMV M_S_readOne 8 1 := ⟨j_in 703 (by decide +kernel) rfl, j_ip (n := 11) 9 (by decide +kernel), j_in 704 (by decide +kernel) rfl, j_in 5 (by decide +kernel) rfl, ⟨by decide, by decide⟩, by decide +kernel, T_S, 11, rfl⟩
theorem v_K_isSign : jMV M_K_isSign 4 1 := ⟨j_in 706 (by decide +kernel) rfl, j_in 707 (by decide +kernel) rfl, j_in 708 (by decide +kernel) rfl, j_in 6 (by decide +kernel) rfl, ⟨by decide, by decide⟩, by decide +kernel, T_K, 6, rfl⟩
theorem v_S_readComparison : jMV M_S_readComparison 8 0 := ⟨j_in 711 (by decide +kernel) rfl, j_ip (n := 11) 10 (by decide +kernel), j_in 712 (by decide +kernel) rfl, j_in 5 (by decide +kernel) rfl, ⟨by decide, by decide⟩, by decide +kernel, T_S, 11, rfl⟩
theorem v_S_readOperand : jMV M_S_readOperand 8 1 := ⟨j_in 715 (by decide +kernel) rfl, j_ip (n := 11) 11 (by decide +kernel), j_in 716 (by decide +kernel) rfl, j_in 5 (by decide +kernel) rfl, ⟨by decide, by decide⟩, by decide +kernel, T_S, 11, rfl⟩
theorem v_K_isNumber : jMV M_K_isNumber 4 0 := ⟨j_in 718 (by decide +kernel) rfl, j_in 719 (by decide +kernel) rfl, j_in 720 (by decide +kernel) rfl, j_in 6 (by decide +kernel) rfl, ⟨by decide, by decide⟩, by decide +kernel, T_K, 6, rfl⟩
theorem v_K_number : jMV M_K_number 4 0 := ⟨j_in 722 (by decide +kernel) rfl, j_in 723 (by decide +kernel) rfl, j_in 724 (by decide +kernel) rfl, j_in 6 (by decide +kernel) rfl, ⟨by decide, by decide⟩, by decide +kernel, T_K, 6, rfl⟩
theorem v_O_becomeNumber : jMV M_O_becomeNumber 5 1 := ⟨j_in 726 (by decide +kernel) rfl, j_in 727 (by decide +kernel) rfl, j_in 728 (by decide +kernel) rfl, j_in 8 (by decide +kernel) rfl, ⟨by decide, by decide⟩, by decide +kernel, T_O, 3, rfl⟩
theorem v_S_refuse : jMV M_S_refuse 8 0 := ⟨j_in 731 (by decide +kernel) rfl, j_ip (n := 11) 12 (by decide +kernel), j_in 732 (by decide +kernel) rfl, j_in 5 (by decide +kernel) rfl, ⟨by decide, by decide⟩, by decide +kernel, T_S, 11, rfl⟩
theorem v_K_start : jMV M_K_start 4 0 := ⟨j_in 734 (by decide +kernel) rfl, j_in 735 (by decide +kernel) rfl, j_in 736 (by decide +kernel) rfl, j_in 6 (by decide +kernel) rfl, ⟨by decide, by decide⟩, by decide +kernel, T_K, 6, rfl⟩
theorem v_S_readField : jMV M_S_readField 8 0 := ⟨j_in 741 (by decide +kernel) rfl, j_ip (n := 11) 13 (by decide +kernel), j_in 742 (by decide +kernel) rfl, j_in 5 (by decide +kernel) rfl, ⟨by decide, by decide⟩, by decide +kernel, T_S, 11, rfl⟩
theorem v_K_isLetter : jMV M_K_isLetter 4 0 := ⟨j_in 744 (by decide +kernel) rfl, j_in 745 (by decide +kernel) rfl, j_in 746 (by decide +kernel) rfl, j_in 6 (by decide +kernel) rfl, ⟨by decide, by decide⟩, by decide +kernel, T_K, 6, rfl⟩
theorem v_K_letter : jMV M_K_letter 4 0 := ⟨j_in 748 (by decide +kernel) rfl, j_in 749 (by decide +kernel) rfl, j_in 750 (by decide +kernel) rfl, j_in 6 (by decide +kernel) rfl, ⟨by decide, by decide⟩, by decide +kernel, T_K, 6, rfl⟩
theorem v_O_becomeField : jMV M_O_becomeField 5 1 := ⟨j_in 753 (by decide +kernel) rfl, j_in 754 (by decide +kernel) rfl, j_in 755 (by decide +kernel) rfl, j_in 8 (by decide +kernel) rfl, ⟨by decide, by decide⟩, by decide +kernel, T_O, 3, rfl⟩
theorem v_S_readSign : jMV M_S_readSign 8 3 := ⟨j_in 758 (by decide +kernel) rfl, j_ip (n := 11) 14 (by decide +kernel), j_in 759 (by decide +kernel) rfl, j_in 5 (by decide +kernel) rfl, ⟨by decide, by decide⟩, by decide +kernel, T_S, 11, rfl⟩
theorem v_P_isTrueIn : jMV M_P_isTrueIn 6 1 := ⟨j_in 762 (by decide +kernel) rfl, j_in 763 (by decide +kernel) rfl, j_in 764 (by decide +kernel) rfl, j_in 7 (by decide +kernel) rfl, ⟨by decide, by decide⟩, by decide +kernel, T_P, 3, rfl⟩
theorem v_O_valueIn : jMV M_O_valueIn 5 1 := ⟨j_in 766 (by decide +kernel) rfl, j_in 767 (by decide +kernel) rfl, j_in 768 (by decide +kernel) rfl, j_in 8 (by decide +kernel) rfl, ⟨by decide, by decide⟩, by decide +kernel, T_O, 3, rfl⟩
theorem s_JInteger_compare : jMS M_JInteger_compare 2 := ⟨j_in 771 (by decide +kernel) rfl, j_in 772 (by decide +kernel) rfl, j_in 19 (by decide +kernel) rfl, ⟨by decide, by decide⟩, by decide +kernel⟩
theorem v_S_passSign : jMV M_S_passSign 8 1 := ⟨j_in 775 (by decide +kernel) rfl, j_ip (n := 11) 15 (by decide +kernel), j_in 776 (by decide +kernel) rfl, j_in 5 (by decide +kernel) rfl, ⟨by decide, by decide⟩, by decide +kernel, T_S, 11, rfl⟩
theorem v_S_readAction : jMV M_S_readAction 8 0 := ⟨j_in 779 (by decide +kernel) rfl, j_ip (n := 11) 16 (by decide +kernel), j_in 780 (by decide +kernel) rfl, j_in 5 (by decide +kernel) rfl, ⟨by decide, by decide⟩, by decide +kernel, T_S, 11, rfl⟩
theorem v_S_readVerb : jMV M_S_readVerb 8 0 := ⟨j_in 783 (by decide +kernel) rfl, j_ip (n := 11) 17 (by decide +kernel), j_in 784 (by decide +kernel) rfl, j_in 5 (by decide +kernel) rfl, ⟨by decide, by decide⟩, by decide +kernel, T_S, 11, rfl⟩
theorem v_S_readChange : jMV M_S_readChange 8 1 := ⟨j_in 795 (by decide +kernel) rfl, j_ip (n := 11) 18 (by decide +kernel), j_in 796 (by decide +kernel) rfl, j_in 5 (by decide +kernel) rfl, ⟨by decide, by decide⟩, by decide +kernel, T_S, 11, rfl⟩
theorem v_K_isEnd : jMV M_K_isEnd 4 0 := ⟨j_in 798 (by decide +kernel) rfl, j_in 799 (by decide +kernel) rfl, j_in 800 (by decide +kernel) rfl, j_in 6 (by decide +kernel) rfl, ⟨by decide, by decide⟩, by decide +kernel, T_K, 6, rfl⟩
theorem v_S_lacksWord : jMV M_S_lacksWord 8 0 := ⟨j_in 802 (by decide +kernel) rfl, j_in 803 (by decide +kernel) rfl, j_in 804 (by decide +kernel) rfl, j_in 5 (by decide +kernel) rfl, ⟨by decide, by decide⟩, by decide +kernel, T_S, 11, rfl⟩
theorem v_S_taken : jMV M_S_taken 8 0 := ⟨j_in 810 (by decide +kernel) rfl, j_in 811 (by decide +kernel) rfl, j_in 812 (by decide +kernel) rfl, j_in 5 (by decide +kernel) rfl, ⟨by decide, by decide⟩, by decide +kernel, T_S, 11, rfl⟩
theorem v_B_carryOut : jMV M_B_carryOut 0 1 := ⟨j_in 815 (by decide +kernel) rfl, j_ip (n := 7) 19 (by decide +kernel), j_in 816 (by decide +kernel) rfl, j_in 1 (by decide +kernel) rfl, ⟨by decide, by decide⟩, by decide +kernel, T_B, 7, rfl⟩
theorem v_S_subject : jMV M_S_subject 8 0 := ⟨j_in 818 (by decide +kernel) rfl, j_in 819 (by decide +kernel) rfl, j_in 820 (by decide +kernel) rfl, j_in 5 (by decide +kernel) rfl, ⟨by decide, by decide⟩, by decide +kernel, T_S, 11, rfl⟩
theorem v_S_action : jMV M_S_action 8 0 := ⟨j_in 824 (by decide +kernel) rfl, j_in 825 (by decide +kernel) rfl, j_in 826 (by decide +kernel) rfl, j_in 5 (by decide +kernel) rfl, ⟨by decide, by decide⟩, by decide +kernel, T_S, 11, rfl⟩
theorem v_B_changeAll : jMV M_B_changeAll 0 1 := ⟨j_in 835 (by decide +kernel) rfl, j_ip (n := 7) 20 (by decide +kernel), j_in 836 (by decide +kernel) rfl, j_in 1 (by decide +kernel) rfl, ⟨by decide, by decide⟩, by decide +kernel, T_B, 7, rfl⟩
theorem v_S_canChange : jMV M_S_canChange 8 1 := ⟨j_in 838 (by decide +kernel) rfl, j_in 839 (by decide +kernel) rfl, j_in 840 (by decide +kernel) rfl, j_in 5 (by decide +kernel) rfl, ⟨by decide, by decide⟩, by decide +kernel, T_S, 11, rfl⟩
theorem v_C_fitsIn : jMV M_C_fitsIn 7 1 := ⟨j_in 842 (by decide +kernel) rfl, j_in 843 (by decide +kernel) rfl, j_in 844 (by decide +kernel) rfl, j_in 9 (by decide +kernel) rfl, ⟨by decide, by decide⟩, by decide +kernel, T_C, 3, rfl⟩
theorem v_P_resultIn : jMV M_P_resultIn 6 1 := ⟨j_in 846 (by decide +kernel) rfl, j_in 847 (by decide +kernel) rfl, j_in 848 (by decide +kernel) rfl, j_in 7 (by decide +kernel) rfl, ⟨by decide, by decide⟩, by decide +kernel, T_P, 3, rfl⟩
theorem v_S_changed : jMV M_S_changed 8 1 := ⟨j_in 851 (by decide +kernel) rfl, j_in 852 (by decide +kernel) rfl, j_in 853 (by decide +kernel) rfl, j_in 5 (by decide +kernel) rfl, ⟨by decide, by decide⟩, by decide +kernel, T_S, 11, rfl⟩
theorem v_C_appliedTo : jMV M_C_appliedTo 7 2 := ⟨j_in 855 (by decide +kernel) rfl, j_in 856 (by decide +kernel) rfl, j_in 857 (by decide +kernel) rfl, j_in 9 (by decide +kernel) rfl, ⟨by decide, by decide⟩, by decide +kernel, T_C, 3, rfl⟩
theorem v_B_greatest : jMV M_B_greatest 0 2 := ⟨j_in 861 (by decide +kernel) rfl, j_ip (n := 7) 21 (by decide +kernel), j_in 862 (by decide +kernel) rfl, j_in 1 (by decide +kernel) rfl, ⟨by decide, by decide⟩, by decide +kernel, T_B, 7, rfl⟩
theorem v_B_valueOf : jMV M_B_valueOf 0 2 := ⟨j_in 865 (by decide +kernel) rfl, j_ip (n := 7) 22 (by decide +kernel), j_in 866 (by decide +kernel) rfl, j_in 1 (by decide +kernel) rfl, ⟨by decide, by decide⟩, by decide +kernel, T_B, 7, rfl⟩
theorem v_B_least : jMV M_B_least 0 2 := ⟨j_in 870 (by decide +kernel) rfl, j_ip (n := 7) 23 (by decide +kernel), j_in 871 (by decide +kernel) rfl, j_in 1 (by decide +kernel) rfl, ⟨by decide, by decide⟩, by decide +kernel, T_B, 7, rfl⟩
theorem v_B_total : jMV M_B_total 0 2 := ⟨j_in 875 (by decide +kernel) rfl, j_ip (n := 7) 24 (by decide +kernel), j_in 876 (by decide +kernel) rfl, j_in 1 (by decide +kernel) rfl, ⟨by decide, by decide⟩, by decide +kernel, T_B, 7, rfl⟩
theorem v_B_listAll : jMV M_B_listAll 0 2 := ⟨j_in 879 (by decide +kernel) rfl, j_ip (n := 7) 25 (by decide +kernel), j_in 880 (by decide +kernel) rfl, j_in 1 (by decide +kernel) rfl, ⟨by decide, by decide⟩, by decide +kernel, T_B, 7, rfl⟩
theorem v_B_sortIn : jMV M_B_sortIn 0 2 := ⟨j_in 883 (by decide +kernel) rfl, j_ip (n := 7) 26 (by decide +kernel), j_in 884 (by decide +kernel) rfl, j_in 1 (by decide +kernel) rfl, ⟨by decide, by decide⟩, by decide +kernel, T_B, 7, rfl⟩
theorem v_B_listed : jMV M_B_listed 0 1 := ⟨j_in 892 (by decide +kernel) rfl, j_in 893 (by decide +kernel) rfl, j_in 894 (by decide +kernel) rfl, j_in 1 (by decide +kernel) rfl, ⟨by decide, by decide⟩, by decide +kernel, T_B, 7, rfl⟩
theorem i_M_init : jMI M_M_init 0 := ⟨j_in 913 (by decide +kernel) rfl, j_in 914 (by decide +kernel) rfl, rfl, rfl, rfl, j_in 12 (by decide +kernel) rfl, ⟨by decide, by decide⟩, by decide +kernel⟩
theorem v_M_thrown : jMV M_M_thrown 9 0 := ⟨j_in 1032 (by decide +kernel) rfl, j_in 1033 (by decide +kernel) rfl, j_in 1034 (by decide +kernel) rfl, j_in 12 (by decide +kernel) rfl, ⟨by decide, by decide⟩, by decide +kernel, T_M, 38, rfl⟩
theorem v_M_field : jMV M_M_field 9 4 := ⟨j_in 1036 (by decide +kernel) rfl, j_in 1037 (by decide +kernel) rfl, j_in 1038 (by decide +kernel) rfl, j_in 12 (by decide +kernel) rfl, ⟨by decide, by decide⟩, by decide +kernel, T_M, 38, rfl⟩
theorem v_M_fieldOf : jMV M_M_fieldOf 9 1 := ⟨j_in 1041 (by decide +kernel) rfl, j_ip (n := 38) 27 (by decide +kernel), j_in 1042 (by decide +kernel) rfl, j_in 12 (by decide +kernel) rfl, ⟨by decide, by decide⟩, by decide +kernel, T_M, 38, rfl⟩
theorem v_M_insert : jMV M_M_insert 9 0 := ⟨j_in 1044 (by decide +kernel) rfl, j_in 1045 (by decide +kernel) rfl, j_in 1046 (by decide +kernel) rfl, j_in 12 (by decide +kernel) rfl, ⟨by decide, by decide⟩, by decide +kernel, T_M, 38, rfl⟩
theorem v_M_remove : jMV M_M_remove 9 1 := ⟨j_in 1048 (by decide +kernel) rfl, j_in 1049 (by decide +kernel) rfl, j_in 1050 (by decide +kernel) rfl, j_in 12 (by decide +kernel) rfl, ⟨by decide, by decide⟩, by decide +kernel, T_M, 38, rfl⟩
theorem s_M_isWord : jMS M_M_isWord 1 := ⟨j_in 1052 (by decide +kernel) rfl, j_in 1053 (by decide +kernel) rfl, j_in 12 (by decide +kernel) rfl, ⟨by decide, by decide⟩, by decide +kernel⟩
theorem v_M_put : jMV M_M_put 9 3 := ⟨j_in 1055 (by decide +kernel) rfl, j_in 1056 (by decide +kernel) rfl, j_in 1057 (by decide +kernel) rfl, j_in 12 (by decide +kernel) rfl, ⟨by decide, by decide⟩, by decide +kernel, T_M, 38, rfl⟩
theorem v_M_fits : jMV M_M_fits 9 2 := ⟨j_in 1060 (by decide +kernel) rfl, j_ip (n := 38) 28 (by decide +kernel), j_in 1061 (by decide +kernel) rfl, j_in 12 (by decide +kernel) rfl, ⟨by decide, by decide⟩, by decide +kernel, T_M, 38, rfl⟩
theorem v_M_setValue : jMV M_M_setValue 9 3 := ⟨j_in 1064 (by decide +kernel) rfl, j_ip (n := 38) 29 (by decide +kernel), j_in 1065 (by decide +kernel) rfl, j_in 12 (by decide +kernel) rfl, ⟨by decide, by decide⟩, by decide +kernel, T_M, 38, rfl⟩
theorem v_M_get : jMV M_M_get 9 2 := ⟨j_in 1067 (by decide +kernel) rfl, j_in 1068 (by decide +kernel) rfl, j_in 1069 (by decide +kernel) rfl, j_in 12 (by decide +kernel) rfl, ⟨by decide, by decide⟩, by decide +kernel, T_M, 38, rfl⟩
theorem v_M_valueOf : jMV M_M_valueOf 9 2 := ⟨j_in 1072 (by decide +kernel) rfl, j_ip (n := 38) 30 (by decide +kernel), j_in 1073 (by decide +kernel) rfl, j_in 12 (by decide +kernel) rfl, ⟨by decide, by decide⟩, by decide +kernel, T_M, 38, rfl⟩
theorem v_M_bit : jMV M_M_bit 9 2 := ⟨j_in 1075 (by decide +kernel) rfl, j_in 1076 (by decide +kernel) rfl, j_in 1077 (by decide +kernel) rfl, j_in 12 (by decide +kernel) rfl, ⟨by decide, by decide⟩, by decide +kernel, T_M, 38, rfl⟩
theorem v_M_search : jMV M_M_search 9 3 := ⟨j_in 1079 (by decide +kernel) rfl, j_in 1080 (by decide +kernel) rfl, j_in 1081 (by decide +kernel) rfl, j_in 12 (by decide +kernel) rfl, ⟨by decide, by decide⟩, by decide +kernel, T_M, 38, rfl⟩
theorem v_M_multi : jMV M_M_multi 9 2 := ⟨j_in 1083 (by decide +kernel) rfl, j_in 1084 (by decide +kernel) rfl, j_in 1085 (by decide +kernel) rfl, j_in 12 (by decide +kernel) rfl, ⟨by decide, by decide⟩, by decide +kernel, T_M, 38, rfl⟩
theorem v_M_responds : jMV M_M_responds 9 1 := ⟨j_in 1088 (by decide +kernel) rfl, j_in 1089 (by decide +kernel) rfl, j_in 1090 (by decide +kernel) rfl, j_in 12 (by decide +kernel) rfl, ⟨by decide, by decide⟩, by decide +kernel, T_M, 38, rfl⟩
theorem v_M_first : jMV M_M_first 9 0 := ⟨j_in 1092 (by decide +kernel) rfl, j_in 1093 (by decide +kernel) rfl, j_in 1094 (by decide +kernel) rfl, j_in 12 (by decide +kernel) rfl, ⟨by decide, by decide⟩, by decide +kernel, T_M, 38, rfl⟩
theorem v_M_write : jMV M_M_write 9 1 := ⟨j_in 1096 (by decide +kernel) rfl, j_in 1097 (by decide +kernel) rfl, j_in 1098 (by decide +kernel) rfl, j_in 12 (by decide +kernel) rfl, ⟨by decide, by decide⟩, by decide +kernel, T_M, 38, rfl⟩
theorem v_M_wipe : jMV M_M_wipe 9 0 := ⟨j_in 1101 (by decide +kernel) rfl, j_in 1102 (by decide +kernel) rfl, j_in 1103 (by decide +kernel) rfl, j_in 12 (by decide +kernel) rfl, ⟨by decide, by decide⟩, by decide +kernel, T_M, 38, rfl⟩
theorem v_M_run : jMV M_M_run 9 0 := ⟨j_in 1105 (by decide +kernel) rfl, j_in 1106 (by decide +kernel) rfl, j_in 1107 (by decide +kernel) rfl, j_in 12 (by decide +kernel) rfl, ⟨by decide, by decide⟩, by decide +kernel, T_M, 38, rfl⟩
theorem v_M_readText : jMV M_M_readText 9 0 := ⟨j_in 1110 (by decide +kernel) rfl, j_ip (n := 38) 31 (by decide +kernel), j_in 1111 (by decide +kernel) rfl, j_in 12 (by decide +kernel) rfl, ⟨by decide, by decide⟩, by decide +kernel, T_M, 38, rfl⟩
theorem v_M_scan : jMV M_M_scan 9 1 := ⟨j_in 1114 (by decide +kernel) rfl, j_ip (n := 38) 32 (by decide +kernel), j_in 1115 (by decide +kernel) rfl, j_in 12 (by decide +kernel) rfl, ⟨by decide, by decide⟩, by decide +kernel, T_M, 38, rfl⟩
theorem v_M_see : jMV M_M_see 9 1 := ⟨j_in 1118 (by decide +kernel) rfl, j_ip (n := 38) 33 (by decide +kernel), j_in 1119 (by decide +kernel) rfl, j_in 12 (by decide +kernel) rfl, ⟨by decide, by decide⟩, by decide +kernel, T_M, 38, rfl⟩
theorem s_M_isLetter : jMS M_M_isLetter 1 := ⟨j_in 1121 (by decide +kernel) rfl, j_in 1122 (by decide +kernel) rfl, j_in 12 (by decide +kernel) rfl, ⟨by decide, by decide⟩, by decide +kernel⟩
theorem s_M_isDigit : jMS M_M_isDigit 1 := ⟨j_in 1124 (by decide +kernel) rfl, j_in 1125 (by decide +kernel) rfl, j_in 12 (by decide +kernel) rfl, ⟨by decide, by decide⟩, by decide +kernel⟩
theorem s_M_isSign : jMS M_M_isSign 1 := ⟨j_in 1127 (by decide +kernel) rfl, j_in 1128 (by decide +kernel) rfl, j_in 12 (by decide +kernel) rfl, ⟨by decide, by decide⟩, by decide +kernel⟩
theorem v_M_next : jMV M_M_next 9 1 := ⟨j_in 1132 (by decide +kernel) rfl, j_ip (n := 38) 34 (by decide +kernel), j_in 1133 (by decide +kernel) rfl, j_in 12 (by decide +kernel) rfl, ⟨by decide, by decide⟩, by decide +kernel, T_M, 38, rfl⟩
theorem v_M_start : jMV M_M_start 9 0 := ⟨j_in 1136 (by decide +kernel) rfl, j_ip (n := 38) 35 (by decide +kernel), j_in 1137 (by decide +kernel) rfl, j_in 12 (by decide +kernel) rfl, ⟨by decide, by decide⟩, by decide +kernel, T_M, 38, rfl⟩
theorem v_M_emit : jMV M_M_emit 9 2 := ⟨j_in 1141 (by decide +kernel) rfl, j_ip (n := 38) 36 (by decide +kernel), j_in 1142 (by decide +kernel) rfl, j_in 12 (by decide +kernel) rfl, ⟨by decide, by decide⟩, by decide +kernel, T_M, 38, rfl⟩
theorem v_M_act : jMV M_M_act 9 0 := ⟨j_in 1145 (by decide +kernel) rfl, j_ip (n := 38) 37 (by decide +kernel), j_in 1146 (by decide +kernel) rfl, j_in 12 (by decide +kernel) rfl, ⟨by decide, by decide⟩, by decide +kernel, T_M, 38, rfl⟩
theorem s_M_actionOf : jMS M_M_actionOf 1 := ⟨j_in 1148 (by decide +kernel) rfl, j_in 1149 (by decide +kernel) rfl, j_in 12 (by decide +kernel) rfl, ⟨by decide, by decide⟩, by decide +kernel⟩
theorem v_M_one : jMV M_M_one 9 0 := ⟨j_in 1158 (by decide +kernel) rfl, j_ip (n := 38) 38 (by decide +kernel), j_in 1159 (by decide +kernel) rfl, j_in 12 (by decide +kernel) rfl, ⟨by decide, by decide⟩, by decide +kernel, T_M, 38, rfl⟩
theorem v_M_isIt : jMV M_M_isIt 9 1 := ⟨j_in 1162 (by decide +kernel) rfl, j_ip (n := 38) 39 (by decide +kernel), j_in 1163 (by decide +kernel) rfl, j_in 12 (by decide +kernel) rfl, ⟨by decide, by decide⟩, by decide +kernel, T_M, 38, rfl⟩
theorem v_M_push : jMV M_M_push 9 1 := ⟨j_in 1166 (by decide +kernel) rfl, j_ip (n := 38) 40 (by decide +kernel), j_in 1167 (by decide +kernel) rfl, j_in 12 (by decide +kernel) rfl, ⟨by decide, by decide⟩, by decide +kernel, T_M, 38, rfl⟩
theorem v_M_operand : jMV M_M_operand 9 2 := ⟨j_in 1170 (by decide +kernel) rfl, j_ip (n := 38) 41 (by decide +kernel), j_in 1171 (by decide +kernel) rfl, j_in 12 (by decide +kernel) rfl, ⟨by decide, by decide⟩, by decide +kernel, T_M, 38, rfl⟩
theorem v_M_wholeOne : jMV M_M_wholeOne 9 0 := ⟨j_in 1174 (by decide +kernel) rfl, j_ip (n := 38) 42 (by decide +kernel), j_in 1175 (by decide +kernel) rfl, j_in 12 (by decide +kernel) rfl, ⟨by decide, by decide⟩, by decide +kernel, T_M, 38, rfl⟩
theorem v_M_denied : jMV M_M_denied 9 0 := ⟨j_in 1178 (by decide +kernel) rfl, j_ip (n := 38) 43 (by decide +kernel), j_in 1179 (by decide +kernel) rfl, j_in 12 (by decide +kernel) rfl, ⟨by decide, by decide⟩, by decide +kernel, T_M, 38, rfl⟩
theorem v_M_upper : jMV M_M_upper 9 0 := ⟨j_in 1182 (by decide +kernel) rfl, j_ip (n := 38) 44 (by decide +kernel), j_in 1183 (by decide +kernel) rfl, j_in 12 (by decide +kernel) rfl, ⟨by decide, by decide⟩, by decide +kernel, T_M, 38, rfl⟩
theorem v_M_named : jMV M_M_named 9 0 := ⟨j_in 1186 (by decide +kernel) rfl, j_ip (n := 38) 45 (by decide +kernel), j_in 1187 (by decide +kernel) rfl, j_in 12 (by decide +kernel) rfl, ⟨by decide, by decide⟩, by decide +kernel, T_M, 38, rfl⟩
theorem v_M_negative : jMV M_M_negative 9 1 := ⟨j_in 1190 (by decide +kernel) rfl, j_ip (n := 38) 46 (by decide +kernel), j_in 1191 (by decide +kernel) rfl, j_in 12 (by decide +kernel) rfl, ⟨by decide, by decide⟩, by decide +kernel, T_M, 38, rfl⟩
theorem v_M_relate : jMV M_M_relate 9 0 := ⟨j_in 1194 (by decide +kernel) rfl, j_ip (n := 38) 47 (by decide +kernel), j_in 1195 (by decide +kernel) rfl, j_in 12 (by decide +kernel) rfl, ⟨by decide, by decide⟩, by decide +kernel, T_M, 38, rfl⟩
theorem v_M_afterOne : jMV M_M_afterOne 9 0 := ⟨j_in 1198 (by decide +kernel) rfl, j_ip (n := 38) 48 (by decide +kernel), j_in 1199 (by decide +kernel) rfl, j_in 12 (by decide +kernel) rfl, ⟨by decide, by decide⟩, by decide +kernel, T_M, 38, rfl⟩
theorem v_M_settle : jMV M_M_settle 9 2 := ⟨j_in 1202 (by decide +kernel) rfl, j_ip (n := 38) 49 (by decide +kernel), j_in 1203 (by decide +kernel) rfl, j_in 12 (by decide +kernel) rfl, ⟨by decide, by decide⟩, by decide +kernel, T_M, 38, rfl⟩
theorem v_M_pick : jMV M_M_pick 9 1 := ⟨j_in 1206 (by decide +kernel) rfl, j_ip (n := 38) 50 (by decide +kernel), j_in 1207 (by decide +kernel) rfl, j_in 12 (by decide +kernel) rfl, ⟨by decide, by decide⟩, by decide +kernel, T_M, 38, rfl⟩
theorem v_M_part : jMV M_M_part 9 4 := ⟨j_in 1210 (by decide +kernel) rfl, j_ip (n := 38) 51 (by decide +kernel), j_in 1211 (by decide +kernel) rfl, j_in 12 (by decide +kernel) rfl, ⟨by decide, by decide⟩, by decide +kernel, T_M, 38, rfl⟩
theorem v_M_afterFirst : jMV M_M_afterFirst 9 0 := ⟨j_in 1214 (by decide +kernel) rfl, j_ip (n := 38) 52 (by decide +kernel), j_in 1215 (by decide +kernel) rfl, j_in 12 (by decide +kernel) rfl, ⟨by decide, by decide⟩, by decide +kernel, T_M, 38, rfl⟩
theorem v_M_afterChange : jMV M_M_afterChange 9 0 := ⟨j_in 1218 (by decide +kernel) rfl, j_ip (n := 38) 53 (by decide +kernel), j_in 1219 (by decide +kernel) rfl, j_in 12 (by decide +kernel) rfl, ⟨by decide, by decide⟩, by decide +kernel, T_M, 38, rfl⟩
theorem v_M_isTaken : jMV M_M_isTaken 9 1 := ⟨j_in 1222 (by decide +kernel) rfl, j_ip (n := 38) 54 (by decide +kernel), j_in 1223 (by decide +kernel) rfl, j_in 12 (by decide +kernel) rfl, ⟨by decide, by decide⟩, by decide +kernel, T_M, 38, rfl⟩
theorem s_M_reckon : jMS M_M_reckon 3 := ⟨j_in 1225 (by decide +kernel) rfl, j_in 1226 (by decide +kernel) rfl, j_in 12 (by decide +kernel) rfl, ⟨by decide, by decide⟩, by decide +kernel⟩
theorem v_M_changeAll : jMV M_M_changeAll 9 0 := ⟨j_in 1229 (by decide +kernel) rfl, j_ip (n := 38) 55 (by decide +kernel), j_in 1230 (by decide +kernel) rfl, j_in 12 (by decide +kernel) rfl, ⟨by decide, by decide⟩, by decide +kernel, T_M, 38, rfl⟩
theorem v_M_change : jMV M_M_change 9 1 := ⟨j_in 1233 (by decide +kernel) rfl, j_ip (n := 38) 56 (by decide +kernel), j_in 1234 (by decide +kernel) rfl, j_in 12 (by decide +kernel) rfl, ⟨by decide, by decide⟩, by decide +kernel, T_M, 38, rfl⟩
theorem v_M_resultOf : jMV M_M_resultOf 9 2 := ⟨j_in 1237 (by decide +kernel) rfl, j_ip (n := 38) 57 (by decide +kernel), j_in 1238 (by decide +kernel) rfl, j_in 12 (by decide +kernel) rfl, ⟨by decide, by decide⟩, by decide +kernel, T_M, 38, rfl⟩
theorem v_M_listAll : jMV M_M_listAll 9 0 := ⟨j_in 1241 (by decide +kernel) rfl, j_ip (n := 38) 58 (by decide +kernel), j_in 1242 (by decide +kernel) rfl, j_in 12 (by decide +kernel) rfl, ⟨by decide, by decide⟩, by decide +kernel, T_M, 38, rfl⟩
theorem v_M_gather : jMV M_M_gather 9 0 := ⟨j_in 1245 (by decide +kernel) rfl, j_ip (n := 38) 59 (by decide +kernel), j_in 1246 (by decide +kernel) rfl, j_in 12 (by decide +kernel) rfl, ⟨by decide, by decide⟩, by decide +kernel, T_M, 38, rfl⟩
theorem v_M_place : jMV M_M_place 9 0 := ⟨j_in 1248 (by decide +kernel) rfl, j_in 1249 (by decide +kernel) rfl, j_in 1250 (by decide +kernel) rfl, j_in 12 (by decide +kernel) rfl, ⟨by decide, by decide⟩, by decide +kernel, T_M, 38, rfl⟩
theorem v_M_refused : jMV M_M_refused 9 0 := ⟨j_in 1252 (by decide +kernel) rfl, j_in 1253 (by decide +kernel) rfl, j_in 1254 (by decide +kernel) rfl, j_in 12 (by decide +kernel) rfl, ⟨by decide, by decide⟩, by decide +kernel, T_M, 38, rfl⟩
theorem v_M_listed : jMV M_M_listed 9 1 := ⟨j_in 1256 (by decide +kernel) rfl, j_in 1257 (by decide +kernel) rfl, j_in 1258 (by decide +kernel) rfl, j_in 12 (by decide +kernel) rfl, ⟨by decide, by decide⟩, by decide +kernel, T_M, 38, rfl⟩
theorem s_L_field : jMS M_L_field 5 := ⟨j_in 314 (by decide +kernel) rfl, j_in 315 (by decide +kernel) rfl, j_in 0 (by decide +kernel) rfl, ⟨by decide, by decide⟩, by decide +kernel⟩
theorem s_L_insert : jMS M_L_insert 2 := ⟨j_in 425 (by decide +kernel) rfl, j_in 426 (by decide +kernel) rfl, j_in 0 (by decide +kernel) rfl, ⟨by decide, by decide⟩, by decide +kernel⟩
theorem s_L_remove : jMS M_L_remove 2 := ⟨j_in 456 (by decide +kernel) rfl, j_in 457 (by decide +kernel) rfl, j_in 0 (by decide +kernel) rfl, ⟨by decide, by decide⟩, by decide +kernel⟩
theorem s_L_put : jMS M_L_put 4 := ⟨j_in 476 (by decide +kernel) rfl, j_in 477 (by decide +kernel) rfl, j_in 0 (by decide +kernel) rfl, ⟨by decide, by decide⟩, by decide +kernel⟩
theorem s_L_get : jMS M_L_get 4 := ⟨j_in 504 (by decide +kernel) rfl, j_in 505 (by decide +kernel) rfl, j_in 0 (by decide +kernel) rfl, ⟨by decide, by decide⟩, by decide +kernel⟩
theorem s_L_bit : jMS M_L_bit 4 := ⟨j_in 515 (by decide +kernel) rfl, j_in 516 (by decide +kernel) rfl, j_in 0 (by decide +kernel) rfl, ⟨by decide, by decide⟩, by decide +kernel⟩
theorem s_L_multi : jMS M_L_multi 3 := ⟨j_in 522 (by decide +kernel) rfl, j_in 523 (by decide +kernel) rfl, j_in 0 (by decide +kernel) rfl, ⟨by decide, by decide⟩, by decide +kernel⟩
theorem s_L_responds : jMS M_L_responds 3 := ⟨j_in 534 (by decide +kernel) rfl, j_in 535 (by decide +kernel) rfl, j_in 0 (by decide +kernel) rfl, ⟨by decide, by decide⟩, by decide +kernel⟩
theorem s_L_run : jMS M_L_run 2 := ⟨j_in 541 (by decide +kernel) rfl, j_in 542 (by decide +kernel) rfl, j_in 0 (by decide +kernel) rfl, ⟨by decide, by decide⟩, by decide +kernel⟩
theorem s_L_listed : jMS M_L_listed 3 := ⟨j_in 888 (by decide +kernel) rfl, j_in 889 (by decide +kernel) rfl, j_in 0 (by decide +kernel) rfl, ⟨by decide, by decide⟩, by decide +kernel⟩
theorem l_L_56 : Cond.methodLink "BitLoomLaw" 56 y_B_init ∈ jt := j_in 30 (by decide +kernel) rfl
theorem l_B_3 : Cond.methodLink "BitLoom" 3 Lib.objectInit ∈ jt := j_in 33 (by decide +kernel) rfl
theorem l_B_11 : Cond.methodLink "BitLoom" 11 y_F_init ∈ jt := j_in 38 (by decide +kernel) rfl
theorem l_F_3 : Cond.methodLink "BitLoom$Fields" 3 Lib.objectInit ∈ jt := j_in 41 (by decide +kernel) rfl
theorem l_B_18 : Cond.methodLink "BitLoom" 18 y_W_init ∈ jt := j_in 66 (by decide +kernel) rfl
theorem l_W_3 : Cond.methodLink "BitLoom$Words" 3 Lib.objectInit ∈ jt := j_in 69 (by decide +kernel) rfl
theorem l_B_25 : Cond.methodLink "BitLoom" 25 y_T_init ∈ jt := j_in 82 (by decide +kernel) rfl
theorem l_T_3 : Cond.methodLink "BitLoom$Text" 3 Lib.objectInit ∈ jt := j_in 85 (by decide +kernel) rfl
theorem l_B_32 : Cond.methodLink "BitLoom" 32 y_S_init ∈ jt := j_in 95 (by decide +kernel) rfl
theorem l_S_3 : Cond.methodLink "BitLoom$Statement" 3 Lib.objectInit ∈ jt := j_in 98 (by decide +kernel) rfl
theorem l_S_21 : Cond.methodLink "BitLoom$Statement" 21 y_K_init ∈ jt := j_in 101 (by decide +kernel) rfl
theorem l_K_3 : Cond.methodLink "BitLoom$Tokens" 3 Lib.objectInit ∈ jt := j_in 104 (by decide +kernel) rfl
theorem l_S_30 : Cond.methodLink "BitLoom$Statement" 30 y_P_init ∈ jt := j_in 126 (by decide +kernel) rfl
theorem l_P_1 : Cond.methodLink "BitLoom$Pair" 1 Lib.objectInit ∈ jt := j_in 129 (by decide +kernel) rfl
theorem l_P_9 : Cond.methodLink "BitLoom$Pair" 9 y_O_init ∈ jt := j_in 132 (by decide +kernel) rfl
theorem l_O_3 : Cond.methodLink "BitLoom$Operand" 3 Lib.objectInit ∈ jt := j_in 135 (by decide +kernel) rfl
theorem l_S_39 : Cond.methodLink "BitLoom$Statement" 39 y_C_init ∈ jt := j_in 161 (by decide +kernel) rfl
theorem l_C_1 : Cond.methodLink "BitLoom$Change" 1 Lib.objectInit ∈ jt := j_in 164 (by decide +kernel) rfl
theorem l_C_15 : Cond.methodLink "BitLoom$Change" 15 y_P_init ∈ jt := j_in 166 (by decide +kernel) rfl
theorem l_L_89 : Cond.methodLink "BitLoomLaw" 89 y_B_search ∈ jt := j_in 237 (by decide +kernel) rfl
theorem l_B_111 : Cond.methodLink "BitLoom" 111 y_W_responding ∈ jt := j_in 241 (by decide +kernel) rfl
theorem l_B_114 : Cond.methodLink "BitLoom" 114 y_W_inUse ∈ jt := j_in 245 (by decide +kernel) rfl
theorem l_B_117 : Cond.methodLink "BitLoom" 117 y_W_matching ∈ jt := j_in 249 (by decide +kernel) rfl
theorem l_W_15 : Cond.methodLink "BitLoom$Words" 15 y_W_holds ∈ jt := j_in 253 (by decide +kernel) rfl
theorem l_B_120 : Cond.methodLink "BitLoom" 120 y_W_respondOnly ∈ jt := j_in 256 (by decide +kernel) rfl
theorem l_B_123 : Cond.methodLink "BitLoom" 123 y_JInteger_bitCount ∈ jt := j_in 260 (by decide +kernel) rfl
theorem l_L_102 : Cond.methodLink "BitLoomLaw" 102 y_B_first ∈ jt := j_in 266 (by decide +kernel) rfl
theorem l_B_69 : Cond.methodLink "BitLoom" 69 y_W_lowestOf ∈ jt := j_in 270 (by decide +kernel) rfl
theorem l_L_108 : Cond.methodLink "BitLoomLaw" 108 y_B_write ∈ jt := j_in 273 (by decide +kernel) rfl
theorem l_B_136 : Cond.methodLink "BitLoom" 136 y_T_canTake ∈ jt := j_in 277 (by decide +kernel) rfl
theorem l_T_19 : Cond.methodLink "BitLoom$Text" 19 y_T_codeOf ∈ jt := j_in 281 (by decide +kernel) rfl
theorem l_B_140 : Cond.methodLink "BitLoom" 140 y_T_append ∈ jt := j_in 285 (by decide +kernel) rfl
theorem l_L_113 : Cond.methodLink "BitLoomLaw" 113 y_B_wipe ∈ jt := j_in 289 (by decide +kernel) rfl
theorem l_B_143 : Cond.methodLink "BitLoom" 143 y_T_length ∈ jt := j_in 293 (by decide +kernel) rfl
theorem l_B_146 : Cond.methodLink "BitLoom" 146 y_T_clear ∈ jt := j_in 297 (by decide +kernel) rfl
theorem l_L_120 : Cond.methodLink "BitLoomLaw" 120 y_B_place ∈ jt := j_in 301 (by decide +kernel) rfl
theorem l_B_162 : Cond.methodLink "BitLoom" 162 y_S_wrongAt ∈ jt := j_in 305 (by decide +kernel) rfl
theorem l_L_124 : Cond.methodLink "BitLoomLaw" 124 y_B_refused ∈ jt := j_in 309 (by decide +kernel) rfl
theorem l_L_60 : Cond.methodLink "BitLoomLaw" 60 y_L_field ∈ jt := j_in 313 (by decide +kernel) rfl
theorem l_L_7 : Cond.methodLink "BitLoomLaw" 7 y_B_field ∈ jt := j_in 318 (by decide +kernel) rfl
theorem l_B_43 : Cond.methodLink "BitLoom" 43 y_F_isNewName ∈ jt := j_in 322 (by decide +kernel) rfl
theorem l_F_30 : Cond.methodLink "BitLoom$Fields" 30 y_F_indexOf ∈ jt := j_in 326 (by decide +kernel) rfl
theorem l_B_47 : Cond.methodLink "BitLoom" 47 y_F_isOpenGround ∈ jt := j_in 330 (by decide +kernel) rfl
theorem l_F_37 : Cond.methodLink "BitLoom$Fields" 37 y_F_ground ∈ jt := j_in 334 (by decide +kernel) rfl
theorem l_JThrowable_1 : Cond.methodLink "java/lang/Throwable" 1 Lib.objectInit ∈ jt := j_in 362 (by decide +kernel) rfl
theorem l_B_54 : Cond.methodLink "BitLoom" 54 y_F_isFull ∈ jt := j_in 401 (by decide +kernel) rfl
theorem l_B_61 : Cond.methodLink "BitLoom" 61 y_F_append ∈ jt := j_in 420 (by decide +kernel) rfl
theorem l_L_69 : Cond.methodLink "BitLoomLaw" 69 y_L_insert ∈ jt := j_in 424 (by decide +kernel) rfl
theorem l_L_17 : Cond.methodLink "BitLoomLaw" 17 y_B_insert ∈ jt := j_in 428 (by decide +kernel) rfl
theorem l_B_65 : Cond.methodLink "BitLoom" 65 y_W_free ∈ jt := j_in 432 (by decide +kernel) rfl
theorem l_B_76 : Cond.methodLink "BitLoom" 76 y_W_occupy ∈ jt := j_in 451 (by decide +kernel) rfl
theorem l_L_73 : Cond.methodLink "BitLoomLaw" 73 y_L_remove ∈ jt := j_in 455 (by decide +kernel) rfl
theorem l_L_23 : Cond.methodLink "BitLoomLaw" 23 y_B_remove ∈ jt := j_in 458 (by decide +kernel) rfl
theorem l_B_80 : Cond.methodLink "BitLoom" 80 y_B_requireWord ∈ jt := j_in 462 (by decide +kernel) rfl
theorem l_B_83 : Cond.methodLink "BitLoom" 83 y_B_requireInUse ∈ jt := j_in 466 (by decide +kernel) rfl
theorem l_B_133 : Cond.methodLink "BitLoom" 133 y_W_holds ∈ jt := j_in 470 (by decide +kernel) rfl
theorem l_B_86 : Cond.methodLink "BitLoom" 86 y_W_release ∈ jt := j_in 471 (by decide +kernel) rfl
theorem l_L_77 : Cond.methodLink "BitLoomLaw" 77 y_L_put ∈ jt := j_in 475 (by decide +kernel) rfl
theorem l_L_27 : Cond.methodLink "BitLoomLaw" 27 y_B_put ∈ jt := j_in 478 (by decide +kernel) rfl
theorem l_B_89 : Cond.methodLink "BitLoom" 89 y_B_requireField ∈ jt := j_in 482 (by decide +kernel) rfl
theorem l_B_175 : Cond.methodLink "BitLoom" 175 y_F_indexOf ∈ jt := j_in 486 (by decide +kernel) rfl
theorem l_B_93 : Cond.methodLink "BitLoom" 93 y_F_fits ∈ jt := j_in 487 (by decide +kernel) rfl
theorem l_B_96 : Cond.methodLink "BitLoom" 96 y_W_bitsOf ∈ jt := j_in 491 (by decide +kernel) rfl
theorem l_B_99 : Cond.methodLink "BitLoom" 99 y_F_withValue ∈ jt := j_in 495 (by decide +kernel) rfl
theorem l_B_103 : Cond.methodLink "BitLoom" 103 y_W_replace ∈ jt := j_in 499 (by decide +kernel) rfl
theorem l_L_81 : Cond.methodLink "BitLoomLaw" 81 y_L_get ∈ jt := j_in 503 (by decide +kernel) rfl
theorem l_L_31 : Cond.methodLink "BitLoomLaw" 31 y_B_get ∈ jt := j_in 506 (by decide +kernel) rfl
theorem l_B_107 : Cond.methodLink "BitLoom" 107 y_F_valueIn ∈ jt := j_in 510 (by decide +kernel) rfl
theorem l_L_85 : Cond.methodLink "BitLoomLaw" 85 y_L_bit ∈ jt := j_in 514 (by decide +kernel) rfl
theorem l_L_35 : Cond.methodLink "BitLoomLaw" 35 y_B_bit ∈ jt := j_in 517 (by decide +kernel) rfl
theorem l_L_94 : Cond.methodLink "BitLoomLaw" 94 y_L_multi ∈ jt := j_in 521 (by decide +kernel) rfl
theorem l_L_39 : Cond.methodLink "BitLoomLaw" 39 y_B_multi ∈ jt := j_in 524 (by decide +kernel) rfl
theorem l_B_129 : Cond.methodLink "BitLoom" 129 y_W_overwrite ∈ jt := j_in 529 (by decide +kernel) rfl
theorem l_L_98 : Cond.methodLink "BitLoomLaw" 98 y_L_responds ∈ jt := j_in 533 (by decide +kernel) rfl
theorem l_L_43 : Cond.methodLink "BitLoomLaw" 43 y_B_responds ∈ jt := j_in 536 (by decide +kernel) rfl
theorem l_L_117 : Cond.methodLink "BitLoomLaw" 117 y_L_run ∈ jt := j_in 540 (by decide +kernel) rfl
theorem l_L_47 : Cond.methodLink "BitLoomLaw" 47 y_B_run ∈ jt := j_in 543 (by decide +kernel) rfl
theorem l_B_149 : Cond.methodLink "BitLoom" 149 y_S_read ∈ jt := j_in 547 (by decide +kernel) rfl
theorem l_S_84 : Cond.methodLink "BitLoom$Statement" 84 y_K_cut ∈ jt := j_in 551 (by decide +kernel) rfl
theorem l_K_33 : Cond.methodLink "BitLoom$Tokens" 33 y_T_length ∈ jt := j_in 555 (by decide +kernel) rfl
theorem l_K_39 : Cond.methodLink "BitLoom$Tokens" 39 y_T_at ∈ jt := j_in 556 (by decide +kernel) rfl
theorem l_K_42 : Cond.methodLink "BitLoom$Tokens" 42 y_K_cutOne ∈ jt := j_in 560 (by decide +kernel) rfl
theorem l_K_56 : Cond.methodLink "BitLoom$Tokens" 56 y_K_isBetween ∈ jt := j_in 564 (by decide +kernel) rfl
theorem l_K_60 : Cond.methodLink "BitLoom$Tokens" 60 y_K_endOf ∈ jt := j_in 567 (by decide +kernel) rfl
theorem l_K_46 : Cond.methodLink "BitLoom$Tokens" 46 y_K_append ∈ jt := j_in 571 (by decide +kernel) rfl
theorem l_K_66 : Cond.methodLink "BitLoom$Tokens" 66 y_JString_indexOf0 ∈ jt := j_in 576 (by decide +kernel) rfl
theorem l_JString_633 : Cond.methodLink "java/lang/String" 633 y_JString_indexOf1 ∈ jt := j_in 580 (by decide +kernel) rfl
theorem l_JString_492 : Cond.methodLink "java/lang/String" 492 y_JString_isLatin1 ∈ jt := j_in 584 (by decide +kernel) rfl
theorem l_JString_505 : Cond.methodLink "java/lang/String" 505 y_JString_length ∈ jt := j_in 590 (by decide +kernel) rfl
theorem l_JString_335 : Cond.methodLink "java/lang/String" 335 y_JString_coder ∈ jt := j_in 594 (by decide +kernel) rfl
theorem l_JString_637 : Cond.methodLink "java/lang/String" 637 y_JStringLatin1_indexOf ∈ jt := j_in 598 (by decide +kernel) rfl
theorem l_JStringLatin1_88 : Cond.methodLink "java/lang/StringLatin1" 88 y_JStringLatin1_canEncode ∈ jt := j_in 601 (by decide +kernel) rfl
theorem l_JStringLatin1_92 : Cond.methodLink "java/lang/StringLatin1" 92 y_JMath_max ∈ jt := j_in 604 (by decide +kernel) rfl
theorem l_JStringLatin1_38 : Cond.methodLink "java/lang/StringLatin1" 38 y_JMath_min ∈ jt := j_in 607 (by decide +kernel) rfl
theorem l_JStringLatin1_95 : Cond.methodLink "java/lang/StringLatin1" 95 y_JStringLatin1_indexOfChar ∈ jt := j_in 610 (by decide +kernel) rfl
theorem l_JStringUTF16_224 : Cond.methodLink "java/lang/StringUTF16" 224 y_JMath_max ∈ jt := j_in 616 (by decide +kernel) rfl
theorem l_JStringUTF16_183 : Cond.methodLink "java/lang/StringUTF16" 183 y_JMath_min ∈ jt := j_in 617 (by decide +kernel) rfl
theorem l_S_87 : Cond.methodLink "BitLoom$Statement" 87 y_W_inUse ∈ jt := j_in 662 (by decide +kernel) rfl
theorem l_S_95 : Cond.methodLink "BitLoom$Statement" 95 y_K_isWord ∈ jt := j_in 664 (by decide +kernel) rfl
theorem l_K_50 : Cond.methodLink "BitLoom$Tokens" 50 y_JString_length ∈ jt := j_in 668 (by decide +kernel) rfl
theorem l_K_53 : Cond.methodLink "BitLoom$Tokens" 53 y_JString_charAt ∈ jt := j_in 669 (by decide +kernel) rfl
theorem l_JString_495 : Cond.methodLink "java/lang/String" 495 y_JStringLatin1_charAt ∈ jt := j_in 673 (by decide +kernel) rfl
theorem l_JStringLatin1_9 : Cond.methodLink "java/lang/StringLatin1" 9 y_JString_checkIndex ∈ jt := j_in 676 (by decide +kernel) rfl
theorem l_JString_1059 : Cond.methodLink "java/lang/String" 1059 y_JPreconditions_checkIndex ∈ jt := j_in 679 (by decide +kernel) rfl
theorem l_JStringUTF16_414 : Cond.methodLink "java/lang/StringUTF16" 414 y_JString_checkIndex ∈ jt := j_in 688 (by decide +kernel) rfl
theorem l_S_99 : Cond.methodLink "BitLoom$Statement" 99 y_K_advance ∈ jt := j_in 689 (by decide +kernel) rfl
theorem l_S_102 : Cond.methodLink "BitLoom$Statement" 102 y_S_readCondition ∈ jt := j_in 693 (by decide +kernel) rfl
theorem l_S_122 : Cond.methodLink "BitLoom$Statement" 122 y_S_readClause ∈ jt := j_in 697 (by decide +kernel) rfl
theorem l_S_129 : Cond.methodLink "BitLoom$Statement" 129 y_S_readOne ∈ jt := j_in 701 (by decide +kernel) rfl
theorem l_S_125 : Cond.methodLink "BitLoom$Statement" 125 y_K_isSign ∈ jt := j_in 705 (by decide +kernel) rfl
theorem l_S_132 : Cond.methodLink "BitLoom$Statement" 132 y_S_readComparison ∈ jt := j_in 709 (by decide +kernel) rfl
theorem l_S_143 : Cond.methodLink "BitLoom$Statement" 143 y_S_readOperand ∈ jt := j_in 713 (by decide +kernel) rfl
theorem l_S_191 : Cond.methodLink "BitLoom$Statement" 191 y_K_isNumber ∈ jt := j_in 717 (by decide +kernel) rfl
theorem l_S_194 : Cond.methodLink "BitLoom$Statement" 194 y_K_number ∈ jt := j_in 721 (by decide +kernel) rfl
theorem l_S_197 : Cond.methodLink "BitLoom$Statement" 197 y_O_becomeNumber ∈ jt := j_in 725 (by decide +kernel) rfl
theorem l_S_113 : Cond.methodLink "BitLoom$Statement" 113 y_S_refuse ∈ jt := j_in 729 (by decide +kernel) rfl
theorem l_S_116 : Cond.methodLink "BitLoom$Statement" 116 y_K_start ∈ jt := j_in 733 (by decide +kernel) rfl
theorem l_S_174 : Cond.methodLink "BitLoom$Statement" 174 y_S_readField ∈ jt := j_in 739 (by decide +kernel) rfl
theorem l_S_206 : Cond.methodLink "BitLoom$Statement" 206 y_K_isLetter ∈ jt := j_in 743 (by decide +kernel) rfl
theorem l_S_209 : Cond.methodLink "BitLoom$Statement" 209 y_K_letter ∈ jt := j_in 747 (by decide +kernel) rfl
theorem l_S_213 : Cond.methodLink "BitLoom$Statement" 213 y_F_indexOf ∈ jt := j_in 751 (by decide +kernel) rfl
theorem l_S_203 : Cond.methodLink "BitLoom$Statement" 203 y_O_becomeField ∈ jt := j_in 752 (by decide +kernel) rfl
theorem l_S_147 : Cond.methodLink "BitLoom$Statement" 147 y_S_readSign ∈ jt := j_in 756 (by decide +kernel) rfl
theorem l_S_158 : Cond.methodLink "BitLoom$Statement" 158 y_W_bitsOf ∈ jt := j_in 760 (by decide +kernel) rfl
theorem l_S_161 : Cond.methodLink "BitLoom$Statement" 161 y_P_isTrueIn ∈ jt := j_in 761 (by decide +kernel) rfl
theorem l_P_25 : Cond.methodLink "BitLoom$Pair" 25 y_O_valueIn ∈ jt := j_in 765 (by decide +kernel) rfl
theorem l_O_22 : Cond.methodLink "BitLoom$Operand" 22 y_F_valueIn ∈ jt := j_in 769 (by decide +kernel) rfl
theorem l_P_29 : Cond.methodLink "BitLoom$Pair" 29 y_JInteger_compare ∈ jt := j_in 770 (by decide +kernel) rfl
theorem l_S_135 : Cond.methodLink "BitLoom$Statement" 135 y_S_passSign ∈ jt := j_in 773 (by decide +kernel) rfl
theorem l_S_106 : Cond.methodLink "BitLoom$Statement" 106 y_S_readAction ∈ jt := j_in 777 (by decide +kernel) rfl
theorem l_S_164 : Cond.methodLink "BitLoom$Statement" 164 y_S_readVerb ∈ jt := j_in 781 (by decide +kernel) rfl
theorem l_S_181 : Cond.methodLink "BitLoom$Statement" 181 y_A_word ∈ jt := j_in 787 (by decide +kernel) rfl
theorem l_S_170 : Cond.methodLink "BitLoom$Statement" 170 y_S_readChange ∈ jt := j_in 793 (by decide +kernel) rfl
theorem l_S_109 : Cond.methodLink "BitLoom$Statement" 109 y_K_isEnd ∈ jt := j_in 797 (by decide +kernel) rfl
theorem l_B_152 : Cond.methodLink "BitLoom" 152 y_S_lacksWord ∈ jt := j_in 801 (by decide +kernel) rfl
theorem l_B_155 : Cond.methodLink "BitLoom" 155 y_S_taken ∈ jt := j_in 809 (by decide +kernel) rfl
theorem l_B_158 : Cond.methodLink "BitLoom" 158 y_B_carryOut ∈ jt := j_in 813 (by decide +kernel) rfl
theorem l_B_178 : Cond.methodLink "BitLoom" 178 y_S_subject ∈ jt := j_in 817 (by decide +kernel) rfl
theorem l_B_186 : Cond.methodLink "BitLoom" 186 y_S_action ∈ jt := j_in 823 (by decide +kernel) rfl
theorem l_B_195 : Cond.methodLink "BitLoom" 195 y_B_changeAll ∈ jt := j_in 833 (by decide +kernel) rfl
theorem l_B_224 : Cond.methodLink "BitLoom" 224 y_S_canChange ∈ jt := j_in 837 (by decide +kernel) rfl
theorem l_S_72 : Cond.methodLink "BitLoom$Statement" 72 y_C_fitsIn ∈ jt := j_in 841 (by decide +kernel) rfl
theorem l_C_26 : Cond.methodLink "BitLoom$Change" 26 y_P_resultIn ∈ jt := j_in 845 (by decide +kernel) rfl
theorem l_C_30 : Cond.methodLink "BitLoom$Change" 30 y_F_fits ∈ jt := j_in 849 (by decide +kernel) rfl
theorem l_B_228 : Cond.methodLink "BitLoom" 228 y_S_changed ∈ jt := j_in 850 (by decide +kernel) rfl
theorem l_S_80 : Cond.methodLink "BitLoom$Statement" 80 y_C_appliedTo ∈ jt := j_in 854 (by decide +kernel) rfl
theorem l_C_36 : Cond.methodLink "BitLoom$Change" 36 y_F_withValue ∈ jt := j_in 858 (by decide +kernel) rfl
theorem l_B_198 : Cond.methodLink "BitLoom" 198 y_B_greatest ∈ jt := j_in 859 (by decide +kernel) rfl
theorem l_B_210 : Cond.methodLink "BitLoom" 210 y_B_valueOf ∈ jt := j_in 863 (by decide +kernel) rfl
theorem l_B_213 : Cond.methodLink "BitLoom" 213 y_JMath_max ∈ jt := j_in 867 (by decide +kernel) rfl
theorem l_B_201 : Cond.methodLink "BitLoom" 201 y_B_least ∈ jt := j_in 868 (by decide +kernel) rfl
theorem l_B_218 : Cond.methodLink "BitLoom" 218 y_JMath_min ∈ jt := j_in 872 (by decide +kernel) rfl
theorem l_B_204 : Cond.methodLink "BitLoom" 204 y_B_total ∈ jt := j_in 873 (by decide +kernel) rfl
theorem l_B_207 : Cond.methodLink "BitLoom" 207 y_B_listAll ∈ jt := j_in 877 (by decide +kernel) rfl
theorem l_B_221 : Cond.methodLink "BitLoom" 221 y_B_sortIn ∈ jt := j_in 881 (by decide +kernel) rfl
theorem l_L_128 : Cond.methodLink "BitLoomLaw" 128 y_L_listed ∈ jt := j_in 887 (by decide +kernel) rfl
theorem l_L_50 : Cond.methodLink "BitLoomLaw" 50 y_B_listed ∈ jt := j_in 891 (by decide +kernel) rfl
theorem l_L_59 : Cond.methodLink "BitLoomLaw" 59 y_M_init ∈ jt := j_in 912 (by decide +kernel) rfl
theorem l_M_1 : Cond.methodLink "BitLoomModel" 1 Lib.objectInit ∈ jt := j_in 915 (by decide +kernel) rfl
theorem l_L_66 : Cond.methodLink "BitLoomLaw" 66 y_M_thrown ∈ jt := j_in 1031 (by decide +kernel) rfl
theorem l_L_65 : Cond.methodLink "BitLoomLaw" 65 y_M_field ∈ jt := j_in 1035 (by decide +kernel) rfl
theorem l_M_79 : Cond.methodLink "BitLoomModel" 79 y_M_fieldOf ∈ jt := j_in 1039 (by decide +kernel) rfl
theorem l_L_72 : Cond.methodLink "BitLoomLaw" 72 y_M_insert ∈ jt := j_in 1043 (by decide +kernel) rfl
theorem l_L_76 : Cond.methodLink "BitLoomLaw" 76 y_M_remove ∈ jt := j_in 1047 (by decide +kernel) rfl
theorem l_M_83 : Cond.methodLink "BitLoomModel" 83 y_M_isWord ∈ jt := j_in 1051 (by decide +kernel) rfl
theorem l_L_80 : Cond.methodLink "BitLoomLaw" 80 y_M_put ∈ jt := j_in 1054 (by decide +kernel) rfl
theorem l_M_87 : Cond.methodLink "BitLoomModel" 87 y_M_fits ∈ jt := j_in 1058 (by decide +kernel) rfl
theorem l_M_91 : Cond.methodLink "BitLoomModel" 91 y_M_setValue ∈ jt := j_in 1062 (by decide +kernel) rfl
theorem l_L_84 : Cond.methodLink "BitLoomLaw" 84 y_M_get ∈ jt := j_in 1066 (by decide +kernel) rfl
theorem l_M_95 : Cond.methodLink "BitLoomModel" 95 y_M_valueOf ∈ jt := j_in 1070 (by decide +kernel) rfl
theorem l_L_88 : Cond.methodLink "BitLoomLaw" 88 y_M_bit ∈ jt := j_in 1074 (by decide +kernel) rfl
theorem l_L_93 : Cond.methodLink "BitLoomLaw" 93 y_M_search ∈ jt := j_in 1078 (by decide +kernel) rfl
theorem l_L_97 : Cond.methodLink "BitLoomLaw" 97 y_M_multi ∈ jt := j_in 1082 (by decide +kernel) rfl
theorem l_L_101 : Cond.methodLink "BitLoomLaw" 101 y_M_responds ∈ jt := j_in 1087 (by decide +kernel) rfl
theorem l_L_105 : Cond.methodLink "BitLoomLaw" 105 y_M_first ∈ jt := j_in 1091 (by decide +kernel) rfl
theorem l_L_112 : Cond.methodLink "BitLoomLaw" 112 y_M_write ∈ jt := j_in 1095 (by decide +kernel) rfl
theorem l_L_116 : Cond.methodLink "BitLoomLaw" 116 y_M_wipe ∈ jt := j_in 1100 (by decide +kernel) rfl
theorem l_L_119 : Cond.methodLink "BitLoomLaw" 119 y_M_run ∈ jt := j_in 1104 (by decide +kernel) rfl
theorem l_M_263 : Cond.methodLink "BitLoomModel" 263 y_M_readText ∈ jt := j_in 1108 (by decide +kernel) rfl
theorem l_M_238 : Cond.methodLink "BitLoomModel" 238 y_M_scan ∈ jt := j_in 1112 (by decide +kernel) rfl
theorem l_M_108 : Cond.methodLink "BitLoomModel" 108 y_M_see ∈ jt := j_in 1116 (by decide +kernel) rfl
theorem l_M_122 : Cond.methodLink "BitLoomModel" 122 y_M_isLetter ∈ jt := j_in 1120 (by decide +kernel) rfl
theorem l_M_126 : Cond.methodLink "BitLoomModel" 126 y_M_isDigit ∈ jt := j_in 1123 (by decide +kernel) rfl
theorem l_M_129 : Cond.methodLink "BitLoomModel" 129 y_M_isSign ∈ jt := j_in 1126 (by decide +kernel) rfl
theorem l_M_241 : Cond.methodLink "BitLoomModel" 241 y_M_next ∈ jt := j_in 1130 (by decide +kernel) rfl
theorem l_M_212 : Cond.methodLink "BitLoomModel" 212 y_M_start ∈ jt := j_in 1134 (by decide +kernel) rfl
theorem l_M_159 : Cond.methodLink "BitLoomModel" 159 y_M_emit ∈ jt := j_in 1139 (by decide +kernel) rfl
theorem l_M_172 : Cond.methodLink "BitLoomModel" 172 y_M_act ∈ jt := j_in 1143 (by decide +kernel) rfl
theorem l_M_163 : Cond.methodLink "BitLoomModel" 163 y_M_actionOf ∈ jt := j_in 1147 (by decide +kernel) rfl
theorem l_M_215 : Cond.methodLink "BitLoomModel" 215 y_M_one ∈ jt := j_in 1156 (by decide +kernel) rfl
theorem l_M_175 : Cond.methodLink "BitLoomModel" 175 y_M_isIt ∈ jt := j_in 1160 (by decide +kernel) rfl
theorem l_M_181 : Cond.methodLink "BitLoomModel" 181 y_M_push ∈ jt := j_in 1164 (by decide +kernel) rfl
theorem l_M_185 : Cond.methodLink "BitLoomModel" 185 y_M_operand ∈ jt := j_in 1168 (by decide +kernel) rfl
theorem l_M_188 : Cond.methodLink "BitLoomModel" 188 y_M_wholeOne ∈ jt := j_in 1172 (by decide +kernel) rfl
theorem l_M_197 : Cond.methodLink "BitLoomModel" 197 y_M_denied ∈ jt := j_in 1176 (by decide +kernel) rfl
theorem l_M_155 : Cond.methodLink "BitLoomModel" 155 y_M_upper ∈ jt := j_in 1180 (by decide +kernel) rfl
theorem l_M_191 : Cond.methodLink "BitLoomModel" 191 y_M_named ∈ jt := j_in 1184 (by decide +kernel) rfl
theorem l_M_218 : Cond.methodLink "BitLoomModel" 218 y_M_negative ∈ jt := j_in 1188 (by decide +kernel) rfl
theorem l_M_222 : Cond.methodLink "BitLoomModel" 222 y_M_relate ∈ jt := j_in 1192 (by decide +kernel) rfl
theorem l_M_225 : Cond.methodLink "BitLoomModel" 225 y_M_afterOne ∈ jt := j_in 1196 (by decide +kernel) rfl
theorem l_M_200 : Cond.methodLink "BitLoomModel" 200 y_M_settle ∈ jt := j_in 1200 (by decide +kernel) rfl
theorem l_M_228 : Cond.methodLink "BitLoomModel" 228 y_M_pick ∈ jt := j_in 1204 (by decide +kernel) rfl
theorem l_M_231 : Cond.methodLink "BitLoomModel" 231 y_M_part ∈ jt := j_in 1208 (by decide +kernel) rfl
theorem l_M_235 : Cond.methodLink "BitLoomModel" 235 y_M_afterFirst ∈ jt := j_in 1212 (by decide +kernel) rfl
theorem l_M_209 : Cond.methodLink "BitLoomModel" 209 y_M_afterChange ∈ jt := j_in 1216 (by decide +kernel) rfl
theorem l_M_266 : Cond.methodLink "BitLoomModel" 266 y_M_isTaken ∈ jt := j_in 1220 (by decide +kernel) rfl
theorem l_M_247 : Cond.methodLink "BitLoomModel" 247 y_M_reckon ∈ jt := j_in 1224 (by decide +kernel) rfl
theorem l_M_269 : Cond.methodLink "BitLoomModel" 269 y_M_changeAll ∈ jt := j_in 1227 (by decide +kernel) rfl
theorem l_M_254 : Cond.methodLink "BitLoomModel" 254 y_M_change ∈ jt := j_in 1231 (by decide +kernel) rfl
theorem l_M_251 : Cond.methodLink "BitLoomModel" 251 y_M_resultOf ∈ jt := j_in 1235 (by decide +kernel) rfl
theorem l_M_272 : Cond.methodLink "BitLoomModel" 272 y_M_listAll ∈ jt := j_in 1239 (by decide +kernel) rfl
theorem l_M_275 : Cond.methodLink "BitLoomModel" 275 y_M_gather ∈ jt := j_in 1243 (by decide +kernel) rfl
theorem l_L_123 : Cond.methodLink "BitLoomLaw" 123 y_M_place ∈ jt := j_in 1247 (by decide +kernel) rfl
theorem l_L_127 : Cond.methodLink "BitLoomLaw" 127 y_M_refused ∈ jt := j_in 1251 (by decide +kernel) rfl
theorem l_L_130 : Cond.methodLink "BitLoomLaw" 130 y_M_listed ∈ jt := j_in 1255 (by decide +kernel) rfl
theorem o_inst : Cond.instanceMethod Lib.objectInit ∈ jt := j_in 34 (by decide +kernel) rfl
theorem o_code : Cond.code Lib.objectInit ⟨#[0xb1]⟩ 1 none ∈ jt := j_in 35 (by decide +kernel) rfl
theorem n_L_8 : jN "BitLoomLaw" 8 0 7 [.null, .null, .null, .null, .null, .int 0, .int 0] := ⟨R_B, T_B, ty_B, rfl, in_B, tk_B, j_in 28 (by decide +kernel) rfl, j_in 29 (by decide +kernel) rfl, j_in 1 (by decide +kernel) rfl, by decide +kernel⟩
theorem n_B_9 : jN "BitLoom" 9 1 6 [.null, .null, .null, .null, .int 0, .int 0] := ⟨R_F, T_F, ty_F, rfl, in_F, tk_F, j_in 36 (by decide +kernel) rfl, j_in 37 (by decide +kernel) rfl, j_in 2 (by decide +kernel) rfl, by decide +kernel⟩
theorem n_B_16 : jN "BitLoom" 16 2 3 [.null, .int 0, .int 0] := ⟨R_W, T_W, ty_W, rfl, in_W, tk_W, j_in 64 (by decide +kernel) rfl, j_in 65 (by decide +kernel) rfl, j_in 3 (by decide +kernel) rfl, by decide +kernel⟩
theorem n_B_23 : jN "BitLoom" 23 3 2 [.null, .int 0] := ⟨R_T, T_T, ty_T, rfl, in_T, tk_T, j_in 80 (by decide +kernel) rfl, j_in 81 (by decide +kernel) rfl, j_in 4 (by decide +kernel) rfl, by decide +kernel⟩
theorem n_B_30 : jN "BitLoom" 30 8 11 [.null, .null, .null, .null, .null, .null, .int 0, .null, .int 0, .int 0, .int 0] := ⟨R_S, T_S, ty_S, rfl, in_S, tk_S, j_in 93 (by decide +kernel) rfl, j_in 94 (by decide +kernel) rfl, j_in 5 (by decide +kernel) rfl, by decide +kernel⟩
theorem n_S_19 : jN "BitLoom$Statement" 19 4 6 [.null, .null, .null, .null, .int 0, .int 0] := ⟨R_K, T_K, ty_K, rfl, in_K, tk_K, j_in 99 (by decide +kernel) rfl, j_in 100 (by decide +kernel) rfl, j_in 6 (by decide +kernel) rfl, by decide +kernel⟩
theorem n_S_28 : jN "BitLoom$Statement" 28 6 3 [.null, .null, .int 0] := ⟨R_P, T_P, ty_P, rfl, in_P, tk_P, j_in 124 (by decide +kernel) rfl, j_in 125 (by decide +kernel) rfl, j_in 7 (by decide +kernel) rfl, by decide +kernel⟩
theorem n_P_7 : jN "BitLoom$Pair" 7 5 3 [.null, .int 0, .int 0] := ⟨R_O, T_O, ty_O, rfl, in_O, tk_O, j_in 130 (by decide +kernel) rfl, j_in 131 (by decide +kernel) rfl, j_in 8 (by decide +kernel) rfl, by decide +kernel⟩
theorem n_S_37 : jN "BitLoom$Statement" 37 7 3 [.null, .null, .int 0] := ⟨R_C, T_C, ty_C, rfl, in_C, tk_C, j_in 159 (by decide +kernel) rfl, j_in 160 (by decide +kernel) rfl, j_in 9 (by decide +kernel) rfl, by decide +kernel⟩
theorem n_C_13 : jN "BitLoom$Change" 13 6 3 [.null, .null, .int 0] := ⟨R_P, T_P, ty_P, rfl, in_P, tk_P, j_in 165 (by decide +kernel) rfl, j_in 125 (by decide +kernel) rfl, j_in 7 (by decide +kernel) rfl, by decide +kernel⟩
theorem k_L_13 : Cond.classLink "BitLoomLaw" 13 "java/lang/IllegalArgumentException" ∈ jt := j_in 316 (by decide +kernel) rfl
theorem k_L_15 : Cond.classLink "BitLoomLaw" 15 "java/lang/IllegalStateException" ∈ jt := j_in 317 (by decide +kernel) rfl
theorem x_B_51 : jXT "BitLoom" 51 53 10 "java/lang/IllegalArgumentException" := ⟨⟨T_XA, rfl⟩, by decide +kernel, j_in 337 (by decide +kernel) rfl, j_in 338 (by decide +kernel) rfl, j_in 16 (by decide +kernel) rfl, by decide +kernel⟩
theorem k_B_51 : Cond.classLink "BitLoom" 51 "java/lang/IllegalArgumentException" ∈ jt := j_in 337 (by decide +kernel) rfl
theorem x_B_58 : jXT "BitLoom" 58 60 12 "java/lang/IllegalStateException" := ⟨⟨T_XS, rfl⟩, by decide +kernel, j_in 405 (by decide +kernel) rfl, j_in 406 (by decide +kernel) rfl, j_in 17 (by decide +kernel) rfl, by decide +kernel⟩
theorem k_B_58 : Cond.classLink "BitLoom" 58 "java/lang/IllegalStateException" ∈ jt := j_in 405 (by decide +kernel) rfl
theorem k_L_21 : Cond.classLink "BitLoomLaw" 21 "java/util/NoSuchElementException" ∈ jt := j_in 427 (by decide +kernel) rfl
theorem x_B_73 : jXT "BitLoom" 73 75 11 "java/util/NoSuchElementException" := ⟨⟨T_XN, rfl⟩, by decide +kernel, j_in 436 (by decide +kernel) rfl, j_in 437 (by decide +kernel) rfl, j_in 18 (by decide +kernel) rfl, by decide +kernel⟩
theorem k_B_73 : Cond.classLink "BitLoom" 73 "java/util/NoSuchElementException" ∈ jt := j_in 436 (by decide +kernel) rfl
theorem x_S_119 : jXT "BitLoom$Statement" 119 121 10 "java/lang/IllegalArgumentException" := ⟨⟨T_XA, rfl⟩, by decide +kernel, j_in 737 (by decide +kernel) rfl, j_in 338 (by decide +kernel) rfl, j_in 16 (by decide +kernel) rfl, by decide +kernel⟩
theorem k_S_119 : Cond.classLink "BitLoom$Statement" 119 "java/lang/IllegalArgumentException" ∈ jt := j_in 737 (by decide +kernel) rfl
theorem k_L_54 : Cond.classLink "BitLoomLaw" 54 "java/lang/IndexOutOfBoundsException" ∈ jt := j_in 890 (by decide +kernel) rfl
theorem x_B_172 : jXT "BitLoom" 172 174 13 "java/lang/IndexOutOfBoundsException" := ⟨⟨T_XI, rfl⟩, by decide +kernel, j_in 895 (by decide +kernel) rfl, j_in 896 (by decide +kernel) rfl, j_in 27 (by decide +kernel) rfl, by decide +kernel⟩
theorem k_B_172 : Cond.classLink "BitLoom" 172 "java/lang/IndexOutOfBoundsException" ∈ jt := j_in 895 (by decide +kernel) rfl
theorem n_L_57 : jN "BitLoomLaw" 57 9 38 [.int 0, .null, .null, .null, .int 0, .null, .null, .null, .null, .int 0, .null, .int 0, .int 0, .int 0, .null, .int 0, .int 0, .int 0, .int 0, .long 0, .int 0, .null, .null, .int 0, .null, .int 0, .int 0, .int 0, .int 0, .int 0, .null, .null, .null, .null, .null, .null, .int 0, .null] := ⟨R_M, T_M, ty_M, rfl, in_M, tk_M, j_in 910 (by decide +kernel) rfl, j_in 911 (by decide +kernel) rfl, j_in 12 (by decide +kernel) rfl, by decide +kernel⟩
theorem a_char : Cond.arrayClass .char ∈ jt := j_in 61 (by decide +kernel) rfl
theorem a_int : Cond.arrayClass .int ∈ jt := j_in 62 (by decide +kernel) rfl
theorem a_boolean : Cond.arrayClass .boolean ∈ jt := j_in 63 (by decide +kernel) rfl
theorem c_JInteger_265 : Cond.constant "java/lang/Integer" 265 (1431655765) ∈ jt := j_in 263 (by decide +kernel) rfl
theorem c_JInteger_266 : Cond.constant "java/lang/Integer" 266 (858993459) ∈ jt := j_in 264 (by decide +kernel) rfl
theorem c_JInteger_267 : Cond.constant "java/lang/Integer" 267 (252645135) ∈ jt := j_in 265 (by decide +kernel) rfl
theorem c_T_23 : Cond.constantLong "BitLoom$Text" 23 (255) ∈ jt := j_in 284 (by decide +kernel) rfl
theorem c_B_128 : Cond.constant "BitLoom" 128 (16777215) ∈ jt := j_in 528 (by decide +kernel) rfl
theorem c_JStringUTF16_227 : Cond.constant "java/lang/StringUTF16" 227 (65536) ∈ jt := j_in 618 (by decide +kernel) rfl
theorem c_JCharacter_110 : Cond.constant "java/lang/Character" 110 (55232) ∈ jt := j_in 657 (by decide +kernel) rfl
theorem c_JCharacter_76 : Cond.constant "java/lang/Character" 76 (56320) ∈ jt := j_in 661 (by decide +kernel) rfl
theorem c_B_161 : Cond.constant "BitLoom" 161 (-16777216) ∈ jt := j_in 885 (by decide +kernel) rfl
theorem c_M_99 : Cond.constant "BitLoomModel" 99 (16777215) ∈ jt := j_in 1086 (by decide +kernel) rfl
theorem c_M_100 : Cond.constantLong "BitLoomModel" 100 (255) ∈ jt := j_in 1099 (by decide +kernel) rfl
theorem c_M_135 : Cond.constantLong "BitLoomModel" 135 (-1) ∈ jt := j_in 1129 (by decide +kernel) rfl
theorem c_M_170 : Cond.constantLong "BitLoomModel" 170 (512852587109) ∈ jt := j_in 1138 (by decide +kernel) rfl
theorem c_M_137 : Cond.constantLong "BitLoomModel" 137 (7562612) ∈ jt := j_in 1150 (by decide +kernel) rfl
theorem c_M_139 : Cond.constantLong "BitLoomModel" 139 (7168376) ∈ jt := j_in 1151 (by decide +kernel) rfl
theorem c_M_141 : Cond.constantLong "BitLoomModel" 141 (7170414) ∈ jt := j_in 1152 (by decide +kernel) rfl
theorem c_M_143 : Cond.constantLong "BitLoomModel" 143 (7566701) ∈ jt := j_in 1153 (by decide +kernel) rfl
theorem c_M_145 : Cond.constantLong "BitLoomModel" 145 (1818850164) ∈ jt := j_in 1154 (by decide +kernel) rfl
theorem c_M_147 : Cond.constantLong "BitLoomModel" 147 (427071729268) ∈ jt := j_in 1155 (by decide +kernel) rfl
theorem c_L_106 : Cond.constantLong "BitLoomLaw" 106 (4294967295) ∈ jt := j_in 1259 (by decide +kernel) rfl
theorem a_long : Cond.arrayClass .long ∈ jt := j_in 1260 (by decide +kernel) rfl
