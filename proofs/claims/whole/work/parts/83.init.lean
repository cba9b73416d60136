/-! constructors: the world is built cell by cell -/
section JNEWA
variable {K : jK} {M : jR} {d pc : Nat} {ls : List (Nat × Value)} {st : List Value} {h : jH} {Q : jO → jH → Prop} {mc ms : Nat}
theorem j_new_int {N : Nat} {x : Int32} (hd : decode M.2.1 pc = .ok (.newarray .int, 2)) (hx : ¬ x < 0) (hN : x.toNatClampNeg = N) (hb : N ≤ 1000) (kk : jE K M d (pc + 2) ls (.ref (32 + h.length) :: st) (h ++ [.inl (0, N, .inl (fun _ => 0))]) Q mc ms) : jE K M d pc ls (.int x :: st) h Q (mc + 1) (ms + N) :=
  j_newa hd rfl rfl (fun _ _ q => va_nm_int q) a_int (fun _ => rfl) hx hN (Nat.le_trans (Nat.mul_le_mul hb (Nat.le_of_ble_eq_true rfl : componentBytes .int ≤ 8)) (by decide)) kk
theorem j_new_char {N : Nat} {x : Int32} (hd : decode M.2.1 pc = .ok (.newarray .char, 2)) (hx : ¬ x < 0) (hN : x.toNatClampNeg = N) (hb : N ≤ 1000) (kk : jE K M d (pc + 2) ls (.ref (32 + h.length) :: st) (h ++ [.inl (1, N, .inl (fun _ => 0))]) Q mc ms) : jE K M d pc ls (.int x :: st) h Q (mc + 1) (ms + N) :=
  j_newa hd rfl rfl (fun _ _ q => va_nm_char q) a_char (fun _ => rfl) hx hN (Nat.le_trans (Nat.mul_le_mul hb (Nat.le_of_ble_eq_true rfl : componentBytes .char ≤ 8)) (by decide)) kk
theorem j_new_boolean {N : Nat} {x : Int32} (hd : decode M.2.1 pc = .ok (.newarray .boolean, 2)) (hx : ¬ x < 0) (hN : x.toNatClampNeg = N) (hb : N ≤ 1000) (kk : jE K M d (pc + 2) ls (.ref (32 + h.length) :: st) (h ++ [.inl (2, N, .inl (fun _ => 0))]) Q mc ms) : jE K M d pc ls (.int x :: st) h Q (mc + 1) (ms + N) :=
  j_newa hd rfl rfl (fun _ _ q => va_nm_boolean q) a_boolean (fun _ => rfl) hx hN (Nat.le_trans (Nat.mul_le_mul hb (Nat.le_of_ble_eq_true rfl : componentBytes .boolean ≤ 8)) (by decide)) kk
theorem j_new_long {N : Nat} {x : Int32} (hd : decode M.2.1 pc = .ok (.newarray .long, 2)) (hx : ¬ x < 0) (hN : x.toNatClampNeg = N) (hb : N ≤ 1000) (kk : jE K M d (pc + 2) ls (.ref (32 + h.length) :: st) (h ++ [.inl (3, N, .inr (.inl (fun _ => 0)))]) Q mc ms) : jE K M d pc ls (.int x :: st) h Q (mc + 1) (ms + N) :=
  j_newa hd rfl rfl (fun _ _ q => va_nm_long q) a_long (fun _ => rfl) hx hN (Nat.le_trans (Nat.mul_le_mul hb (Nat.le_of_ble_eq_true rfl : componentBytes .long ≤ 8)) (by decide)) kk
theorem j_retV' {st0 : List Value} {g : jH} {mc' ms' : Nat} (hcall : jCall K M d pc ls st0 st h (rV g) mc' ms') (hh : M.2.2.2.2 = []) (k : jE K M d (pc + 3) ls st g Q mc ms) : jE K M d pc ls st0 h Q (mc' + mc) (ms' + ms) :=
  j_ret hcall hh (fun v' g' hq => by
    obtain ⟨hv, rfl⟩ := hq
    cases hv
    exact k) (fun k' g' hq => by cases hq.1)
end JNEWA
abbrev hC1 : jH := [.inr (0, [.null, .null, .null, .null, .null, .int 0, .int 0])]
abbrev hC2 : jH := [.inr (0, [.null, .null, .null, .null, .null, .int 0, .int 0]), .inr (1, [.null, .null, .null, .null, .int 0, .int 0])]
abbrev hC3 : jH := [.inr (0, [.null, .null, .null, .null, .null, .int 0, .int 0]), .inr (1, [.ref 34, .ref 35, .ref 36, .ref 37, .int 0, .int 0]), .inl (1, 6, .inl (fun _ => 0)), .inl (0, 6, .inl (fun _ => 0)), .inl (0, 6, .inl (fun _ => 0)), .inl (2, 6, .inl (fun _ => 0))]
theorem m_F_init_33 (K : jK) (d : Nat) (hd : 2 ≤ d) : jM K M_F_init d [.ref 33] hC2 (rV hC3) 4 24 := by
  refine jM.of (by decide) (Nat.le_of_ble_eq_true rfl) ?_
  refine j_aload_n d_F_init_0 rfl ?_
  refine j_objInit d_F_init_1 l_F_3 o_inst o_code (by omega) (Nat.le_of_ble_eq_true rfl) ?_
  refine j_aload_n d_F_init_4 rfl ?_
  refine j_bipush (v := 6) d_F_init_5 (by decide) ?_
  refine j_new_char (mc := 3) (ms := 18) (N := 6) d_F_init_7 (by decide) (by decide) (by decide) ?_
  refine j_putF d_F_init_9 f_F_9 rfl g_F_9 (fun _ _ _ q => by cases q; rfl) rfl (by decide) rfl rfl rfl ?_
  refine j_aload_n d_F_init_12 rfl ?_
  refine j_bipush (v := 6) d_F_init_13 (by decide) ?_
  refine j_new_int (mc := 2) (ms := 12) (N := 6) d_F_init_15 (by decide) (by decide) (by decide) ?_
  refine j_putF d_F_init_17 f_F_15 rfl g_F_15 (fun _ _ _ q => by cases q; rfl) rfl (by decide) rfl rfl rfl ?_
  refine j_aload_n d_F_init_20 rfl ?_
  refine j_bipush (v := 6) d_F_init_21 (by decide) ?_
  refine j_new_int (mc := 1) (ms := 6) (N := 6) d_F_init_23 (by decide) (by decide) (by decide) ?_
  refine j_putF d_F_init_25 f_F_19 rfl g_F_19 (fun _ _ _ q => by cases q; rfl) rfl (by decide) rfl rfl rfl ?_
  refine j_aload_n d_F_init_28 rfl ?_
  refine j_bipush (v := 6) d_F_init_29 (by decide) ?_
  refine j_new_boolean (mc := 0) (ms := 0) (N := 6) d_F_init_31 (by decide) (by decide) (by decide) ?_
  refine j_putF d_F_init_33 f_F_22 rfl g_F_22 (fun _ _ _ q => by cases q; rfl) rfl (by decide) rfl rfl rfl ?_
  exact j_vret rfl d_F_init_36 ⟨rfl, rfl⟩
abbrev hC4 : jH := [.inr (0, [.ref 33, .null, .null, .null, .null, .int 0, .int 0]), .inr (1, [.ref 34, .ref 35, .ref 36, .ref 37, .int 0, .int 0]), .inl (1, 6, .inl (fun _ => 0)), .inl (0, 6, .inl (fun _ => 0)), .inl (0, 6, .inl (fun _ => 0)), .inl (2, 6, .inl (fun _ => 0)), .inr (2, [.null, .int 0, .int 0])]
abbrev hC5 : jH := [.inr (0, [.ref 33, .null, .null, .null, .null, .int 0, .int 0]), .inr (1, [.ref 34, .ref 35, .ref 36, .ref 37, .int 0, .int 0]), .inl (1, 6, .inl (fun _ => 0)), .inl (0, 6, .inl (fun _ => 0)), .inl (0, 6, .inl (fun _ => 0)), .inl (2, 6, .inl (fun _ => 0)), .inr (2, [.ref 39, .int 0, .int 0]), .inl (0, 32, .inl (fun _ => 0))]
theorem m_W_init_38 (K : jK) (d : Nat) (hd : 2 ≤ d) : jM K M_W_init d [.ref 38] hC4 (rV hC5) 1 32 := by
  refine jM.of (by decide) (Nat.le_of_ble_eq_true rfl) ?_
  refine j_aload_n d_W_init_0 rfl ?_
  refine j_objInit d_W_init_1 l_W_3 o_inst o_code (by omega) (Nat.le_of_ble_eq_true rfl) ?_
  refine j_aload_n d_W_init_4 rfl ?_
  refine j_bipush (v := 32) d_W_init_5 (by decide) ?_
  refine j_new_int (mc := 0) (ms := 0) (N := 32) d_W_init_7 (by decide) (by decide) (by decide) ?_
  refine j_putF d_W_init_9 f_W_9 rfl g_W_9 (fun _ _ _ q => by cases q; rfl) rfl (by decide) rfl rfl rfl ?_
  exact j_vret rfl d_W_init_12 ⟨rfl, rfl⟩
abbrev hC6 : jH := [.inr (0, [.ref 33, .ref 38, .null, .null, .null, .int 0, .int 0]), .inr (1, [.ref 34, .ref 35, .ref 36, .ref 37, .int 0, .int 0]), .inl (1, 6, .inl (fun _ => 0)), .inl (0, 6, .inl (fun _ => 0)), .inl (0, 6, .inl (fun _ => 0)), .inl (2, 6, .inl (fun _ => 0)), .inr (2, [.ref 39, .int 0, .int 0]), .inl (0, 32, .inl (fun _ => 0)), .inr (3, [.null, .int 0])]
abbrev hC7 : jH := [.inr (0, [.ref 33, .ref 38, .null, .null, .null, .int 0, .int 0]), .inr (1, [.ref 34, .ref 35, .ref 36, .ref 37, .int 0, .int 0]), .inl (1, 6, .inl (fun _ => 0)), .inl (0, 6, .inl (fun _ => 0)), .inl (0, 6, .inl (fun _ => 0)), .inl (2, 6, .inl (fun _ => 0)), .inr (2, [.ref 39, .int 0, .int 0]), .inl (0, 32, .inl (fun _ => 0)), .inr (3, [.ref 41, .int 0]), .inl (1, 100, .inl (fun _ => 0))]
theorem m_T_init_40 (K : jK) (d : Nat) (hd : 2 ≤ d) : jM K M_T_init d [.ref 40] hC6 (rV hC7) 1 100 := by
  refine jM.of (by decide) (Nat.le_of_ble_eq_true rfl) ?_
  refine j_aload_n d_T_init_0 rfl ?_
  refine j_objInit d_T_init_1 l_T_3 o_inst o_code (by omega) (Nat.le_of_ble_eq_true rfl) ?_
  refine j_aload_n d_T_init_4 rfl ?_
  refine j_bipush (v := 100) d_T_init_5 (by decide) ?_
  refine j_new_char (mc := 0) (ms := 0) (N := 100) d_T_init_7 (by decide) (by decide) (by decide) ?_
  refine j_putF d_T_init_9 f_T_9 rfl g_T_9 (fun _ _ _ q => by cases q; rfl) rfl (by decide) rfl rfl rfl ?_
  exact j_vret rfl d_T_init_12 ⟨rfl, rfl⟩
abbrev hC8 : jH := [.inr (0, [.ref 33, .ref 38, .ref 40, .null, .null, .int 0, .int 0]), .inr (1, [.ref 34, .ref 35, .ref 36, .ref 37, .int 0, .int 0]), .inl (1, 6, .inl (fun _ => 0)), .inl (0, 6, .inl (fun _ => 0)), .inl (0, 6, .inl (fun _ => 0)), .inl (2, 6, .inl (fun _ => 0)), .inr (2, [.ref 39, .int 0, .int 0]), .inl (0, 32, .inl (fun _ => 0)), .inr (3, [.ref 41, .int 0]), .inl (1, 100, .inl (fun _ => 0)), .inr (8, [.null, .null, .null, .null, .null, .null, .int 0, .null, .int 0, .int 0, .int 0])]
abbrev hC9 : jH := [.inr (0, [.ref 33, .ref 38, .ref 40, .null, .null, .int 0, .int 0]), .inr (1, [.ref 34, .ref 35, .ref 36, .ref 37, .int 0, .int 0]), .inl (1, 6, .inl (fun _ => 0)), .inl (0, 6, .inl (fun _ => 0)), .inl (0, 6, .inl (fun _ => 0)), .inl (2, 6, .inl (fun _ => 0)), .inr (2, [.ref 39, .int 0, .int 0]), .inl (0, 32, .inl (fun _ => 0)), .inr (3, [.ref 41, .int 0]), .inl (1, 100, .inl (fun _ => 0)), .inr (8, [.ref 33, .ref 38, .null, .null, .null, .null, .int 0, .null, .int 0, .int 0, .int 0]), .inr (4, [.null, .null, .null, .null, .int 0, .int 0])]
abbrev hC10 : jH := [.inr (0, [.ref 33, .ref 38, .ref 40, .null, .null, .int 0, .int 0]), .inr (1, [.ref 34, .ref 35, .ref 36, .ref 37, .int 0, .int 0]), .inl (1, 6, .inl (fun _ => 0)), .inl (0, 6, .inl (fun _ => 0)), .inl (0, 6, .inl (fun _ => 0)), .inl (2, 6, .inl (fun _ => 0)), .inr (2, [.ref 39, .int 0, .int 0]), .inl (0, 32, .inl (fun _ => 0)), .inr (3, [.ref 41, .int 0]), .inl (1, 100, .inl (fun _ => 0)), .inr (8, [.ref 33, .ref 38, .null, .null, .null, .null, .int 0, .null, .int 0, .int 0, .int 0]), .inr (4, [.ref 40, .ref 44, .ref 45, .ref 46, .int 0, .int 0]), .inl (1, 101, .inl (fun _ => 0)), .inl (0, 101, .inl (fun _ => 0)), .inl (0, 101, .inl (fun _ => 0))]
theorem m_K_init_43 (K : jK) (d : Nat) (hd : 2 ≤ d) : jM K M_K_init d [.ref 43, .ref 40] hC9 (rV hC10) 3 303 := by
  refine jM.of (by decide) (Nat.le_of_ble_eq_true rfl) ?_
  refine j_aload_n d_K_init_0 rfl ?_
  refine j_objInit d_K_init_1 l_K_3 o_inst o_code (by omega) (Nat.le_of_ble_eq_true rfl) ?_
  refine j_aload_n d_K_init_4 rfl ?_
  refine j_aload_n d_K_init_5 rfl ?_
  refine j_putF d_K_init_6 f_K_9 rfl g_K_9 (fun _ _ _ q => by cases q; rfl) rfl (by decide) rfl rfl rfl ?_
  refine j_aload_n d_K_init_9 rfl ?_
  refine j_bipush (v := 101) d_K_init_10 (by decide) ?_
  refine j_new_char (mc := 2) (ms := 202) (N := 101) d_K_init_12 (by decide) (by decide) (by decide) ?_
  refine j_putF d_K_init_14 f_K_15 rfl g_K_15 (fun _ _ _ q => by cases q; rfl) rfl (by decide) rfl rfl rfl ?_
  refine j_aload_n d_K_init_17 rfl ?_
  refine j_bipush (v := 101) d_K_init_18 (by decide) ?_
  refine j_new_int (mc := 1) (ms := 101) (N := 101) d_K_init_20 (by decide) (by decide) (by decide) ?_
  refine j_putF d_K_init_22 f_K_19 rfl g_K_19 (fun _ _ _ q => by cases q; rfl) rfl (by decide) rfl rfl rfl ?_
  refine j_aload_n d_K_init_25 rfl ?_
  refine j_bipush (v := 101) d_K_init_26 (by decide) ?_
  refine j_new_int (mc := 0) (ms := 0) (N := 101) d_K_init_28 (by decide) (by decide) (by decide) ?_
  refine j_putF d_K_init_30 f_K_23 rfl g_K_23 (fun _ _ _ q => by cases q; rfl) rfl (by decide) rfl rfl rfl ?_
  exact j_vret rfl d_K_init_33 ⟨rfl, rfl⟩
abbrev hC11 : jH := [.inr (0, [.ref 33, .ref 38, .ref 40, .null, .null, .int 0, .int 0]), .inr (1, [.ref 34, .ref 35, .ref 36, .ref 37, .int 0, .int 0]), .inl (1, 6, .inl (fun _ => 0)), .inl (0, 6, .inl (fun _ => 0)), .inl (0, 6, .inl (fun _ => 0)), .inl (2, 6, .inl (fun _ => 0)), .inr (2, [.ref 39, .int 0, .int 0]), .inl (0, 32, .inl (fun _ => 0)), .inr (3, [.ref 41, .int 0]), .inl (1, 100, .inl (fun _ => 0)), .inr (8, [.ref 33, .ref 38, .ref 43, .null, .null, .null, .int 0, .null, .int 0, .int 0, .int 0]), .inr (4, [.ref 40, .ref 44, .ref 45, .ref 46, .int 0, .int 0]), .inl (1, 101, .inl (fun _ => 0)), .inl (0, 101, .inl (fun _ => 0)), .inl (0, 101, .inl (fun _ => 0)), .inr (6, [.null, .null, .int 0])]
abbrev hC12 : jH := [.inr (0, [.ref 33, .ref 38, .ref 40, .null, .null, .int 0, .int 0]), .inr (1, [.ref 34, .ref 35, .ref 36, .ref 37, .int 0, .int 0]), .inl (1, 6, .inl (fun _ => 0)), .inl (0, 6, .inl (fun _ => 0)), .inl (0, 6, .inl (fun _ => 0)), .inl (2, 6, .inl (fun _ => 0)), .inr (2, [.ref 39, .int 0, .int 0]), .inl (0, 32, .inl (fun _ => 0)), .inr (3, [.ref 41, .int 0]), .inl (1, 100, .inl (fun _ => 0)), .inr (8, [.ref 33, .ref 38, .ref 43, .null, .null, .null, .int 0, .null, .int 0, .int 0, .int 0]), .inr (4, [.ref 40, .ref 44, .ref 45, .ref 46, .int 0, .int 0]), .inl (1, 101, .inl (fun _ => 0)), .inl (0, 101, .inl (fun _ => 0)), .inl (0, 101, .inl (fun _ => 0)), .inr (6, [.null, .null, .int 0]), .inr (5, [.null, .int 0, .int 0])]
abbrev hC13 : jH := [.inr (0, [.ref 33, .ref 38, .ref 40, .null, .null, .int 0, .int 0]), .inr (1, [.ref 34, .ref 35, .ref 36, .ref 37, .int 0, .int 0]), .inl (1, 6, .inl (fun _ => 0)), .inl (0, 6, .inl (fun _ => 0)), .inl (0, 6, .inl (fun _ => 0)), .inl (2, 6, .inl (fun _ => 0)), .inr (2, [.ref 39, .int 0, .int 0]), .inl (0, 32, .inl (fun _ => 0)), .inr (3, [.ref 41, .int 0]), .inl (1, 100, .inl (fun _ => 0)), .inr (8, [.ref 33, .ref 38, .ref 43, .null, .null, .null, .int 0, .null, .int 0, .int 0, .int 0]), .inr (4, [.ref 40, .ref 44, .ref 45, .ref 46, .int 0, .int 0]), .inl (1, 101, .inl (fun _ => 0)), .inl (0, 101, .inl (fun _ => 0)), .inl (0, 101, .inl (fun _ => 0)), .inr (6, [.null, .null, .int 0]), .inr (5, [.ref 33, .int (-1), .int 0])]
theorem m_O_init_48 (K : jK) (d : Nat) (hd : 2 ≤ d) : jM K M_O_init d [.ref 48, .ref 33] hC12 (rV hC13) 0 0 := by
  refine jM.of (by decide) (Nat.le_of_ble_eq_true rfl) ?_
  refine j_aload_n d_O_init_0 rfl ?_
  refine j_objInit d_O_init_1 l_O_3 o_inst o_code (by omega) (Nat.le_of_ble_eq_true rfl) ?_
  refine j_aload_n d_O_init_4 rfl ?_
  refine j_aload_n d_O_init_5 rfl ?_
  refine j_putF d_O_init_6 f_O_9 rfl g_O_9 (fun _ _ _ q => by cases q; rfl) rfl (by decide) rfl rfl rfl ?_
  refine j_aload_n d_O_init_9 rfl ?_
  refine j_iconst (v := -1) d_O_init_10 rfl ?_
  refine j_putf d_O_init_11 f_O_15 rfl (Nat.le_of_ble_eq_true rfl) rfl rfl rfl ?_
  exact j_vret rfl d_O_init_14 ⟨rfl, rfl⟩
abbrev hC14 : jH := [.inr (0, [.ref 33, .ref 38, .ref 40, .null, .null, .int 0, .int 0]), .inr (1, [.ref 34, .ref 35, .ref 36, .ref 37, .int 0, .int 0]), .inl (1, 6, .inl (fun _ => 0)), .inl (0, 6, .inl (fun _ => 0)), .inl (0, 6, .inl (fun _ => 0)), .inl (2, 6, .inl (fun _ => 0)), .inr (2, [.ref 39, .int 0, .int 0]), .inl (0, 32, .inl (fun _ => 0)), .inr (3, [.ref 41, .int 0]), .inl (1, 100, .inl (fun _ => 0)), .inr (8, [.ref 33, .ref 38, .ref 43, .null, .null, .null, .int 0, .null, .int 0, .int 0, .int 0]), .inr (4, [.ref 40, .ref 44, .ref 45, .ref 46, .int 0, .int 0]), .inl (1, 101, .inl (fun _ => 0)), .inl (0, 101, .inl (fun _ => 0)), .inl (0, 101, .inl (fun _ => 0)), .inr (6, [.ref 48, .null, .int 0]), .inr (5, [.ref 33, .int (-1), .int 0]), .inr (5, [.null, .int 0, .int 0])]
abbrev hC15 : jH := [.inr (0, [.ref 33, .ref 38, .ref 40, .null, .null, .int 0, .int 0]), .inr (1, [.ref 34, .ref 35, .ref 36, .ref 37, .int 0, .int 0]), .inl (1, 6, .inl (fun _ => 0)), .inl (0, 6, .inl (fun _ => 0)), .inl (0, 6, .inl (fun _ => 0)), .inl (2, 6, .inl (fun _ => 0)), .inr (2, [.ref 39, .int 0, .int 0]), .inl (0, 32, .inl (fun _ => 0)), .inr (3, [.ref 41, .int 0]), .inl (1, 100, .inl (fun _ => 0)), .inr (8, [.ref 33, .ref 38, .ref 43, .null, .null, .null, .int 0, .null, .int 0, .int 0, .int 0]), .inr (4, [.ref 40, .ref 44, .ref 45, .ref 46, .int 0, .int 0]), .inl (1, 101, .inl (fun _ => 0)), .inl (0, 101, .inl (fun _ => 0)), .inl (0, 101, .inl (fun _ => 0)), .inr (6, [.ref 48, .null, .int 0]), .inr (5, [.ref 33, .int (-1), .int 0]), .inr (5, [.ref 33, .int (-1), .int 0])]
theorem m_O_init_49 (K : jK) (d : Nat) (hd : 2 ≤ d) : jM K M_O_init d [.ref 49, .ref 33] hC14 (rV hC15) 0 0 := by
  refine jM.of (by decide) (Nat.le_of_ble_eq_true rfl) ?_
  refine j_aload_n d_O_init_0 rfl ?_
  refine j_objInit d_O_init_1 l_O_3 o_inst o_code (by omega) (Nat.le_of_ble_eq_true rfl) ?_
  refine j_aload_n d_O_init_4 rfl ?_
  refine j_aload_n d_O_init_5 rfl ?_
  refine j_putF d_O_init_6 f_O_9 rfl g_O_9 (fun _ _ _ q => by cases q; rfl) rfl (by decide) rfl rfl rfl ?_
  refine j_aload_n d_O_init_9 rfl ?_
  refine j_iconst (v := -1) d_O_init_10 rfl ?_
  refine j_putf d_O_init_11 f_O_15 rfl (Nat.le_of_ble_eq_true rfl) rfl rfl rfl ?_
  exact j_vret rfl d_O_init_14 ⟨rfl, rfl⟩
abbrev hC16 : jH := [.inr (0, [.ref 33, .ref 38, .ref 40, .null, .null, .int 0, .int 0]), .inr (1, [.ref 34, .ref 35, .ref 36, .ref 37, .int 0, .int 0]), .inl (1, 6, .inl (fun _ => 0)), .inl (0, 6, .inl (fun _ => 0)), .inl (0, 6, .inl (fun _ => 0)), .inl (2, 6, .inl (fun _ => 0)), .inr (2, [.ref 39, .int 0, .int 0]), .inl (0, 32, .inl (fun _ => 0)), .inr (3, [.ref 41, .int 0]), .inl (1, 100, .inl (fun _ => 0)), .inr (8, [.ref 33, .ref 38, .ref 43, .null, .null, .null, .int 0, .null, .int 0, .int 0, .int 0]), .inr (4, [.ref 40, .ref 44, .ref 45, .ref 46, .int 0, .int 0]), .inl (1, 101, .inl (fun _ => 0)), .inl (0, 101, .inl (fun _ => 0)), .inl (0, 101, .inl (fun _ => 0)), .inr (6, [.ref 48, .ref 49, .int 32]), .inr (5, [.ref 33, .int (-1), .int 0]), .inr (5, [.ref 33, .int (-1), .int 0])]
theorem m_P_init_47 (K : jK) (d : Nat) (hd : 4 ≤ d) : jM K M_P_init d [.ref 47, .ref 33] hC11 (rV hC16) 2 6 := by
  refine jM.of (by decide) (Nat.le_of_ble_eq_true rfl) ?_
  refine j_aload_n d_P_init_0 rfl ?_
  refine j_objInit d_P_init_1 l_P_1 o_inst o_code (by omega) (Nat.le_of_ble_eq_true rfl) ?_
  refine j_aload_n d_P_init_4 rfl ?_
  refine j_new (mc := 1) (ms := 3) d_P_init_5 n_P_7 rfl ?_
  refine j_dup d_P_init_8 rfl ?_
  refine j_aload_n d_P_init_9 rfl ?_
  refine j_hp (h' := hC12) rfl ?_
  refine j_retV' (mc := 1) (ms := 3) (j_callI d_P_init_10 i_O_init l_P_9 rfl (m_O_init_48 K (d - 1) (by omega)) (by omega) (by decide) (Nat.le_of_ble_eq_true rfl) rfl) rfl ?_
  refine j_putF d_P_init_13 f_P_12 rfl g_P_12 (fun _ _ _ q => by cases q; rfl) rfl (by decide) rfl rfl rfl ?_
  refine j_aload_n d_P_init_16 rfl ?_
  refine j_new (mc := 0) (ms := 0) d_P_init_17 n_P_7 rfl ?_
  refine j_dup d_P_init_20 rfl ?_
  refine j_aload_n d_P_init_21 rfl ?_
  refine j_hp (h' := hC14) rfl ?_
  refine j_retV' (mc := 0) (ms := 0) (j_callI d_P_init_22 i_O_init l_P_9 rfl (m_O_init_49 K (d - 1) (by omega)) (by omega) (by decide) (Nat.le_of_ble_eq_true rfl) rfl) rfl ?_
  refine j_putF d_P_init_25 f_P_18 rfl g_P_18 (fun _ _ _ q => by cases q; rfl) rfl (by decide) rfl rfl rfl ?_
  refine j_aload_n d_P_init_28 rfl ?_
  refine j_bipush (v := 32) d_P_init_29 (by decide) ?_
  refine j_putf d_P_init_31 f_P_21 rfl (Nat.le_of_ble_eq_true rfl) rfl rfl rfl ?_
  exact j_vret rfl d_P_init_34 ⟨rfl, rfl⟩
abbrev hC17 : jH := [.inr (0, [.ref 33, .ref 38, .ref 40, .null, .null, .int 0, .int 0]), .inr (1, [.ref 34, .ref 35, .ref 36, .ref 37, .int 0, .int 0]), .inl (1, 6, .inl (fun _ => 0)), .inl (0, 6, .inl (fun _ => 0)), .inl (0, 6, .inl (fun _ => 0)), .inl (2, 6, .inl (fun _ => 0)), .inr (2, [.ref 39, .int 0, .int 0]), .inl (0, 32, .inl (fun _ => 0)), .inr (3, [.ref 41, .int 0]), .inl (1, 100, .inl (fun _ => 0)), .inr (8, [.ref 33, .ref 38, .ref 43, .ref 47, .null, .null, .int 0, .null, .int 0, .int 0, .int 0]), .inr (4, [.ref 40, .ref 44, .ref 45, .ref 46, .int 0, .int 0]), .inl (1, 101, .inl (fun _ => 0)), .inl (0, 101, .inl (fun _ => 0)), .inl (0, 101, .inl (fun _ => 0)), .inr (6, [.ref 48, .ref 49, .int 32]), .inr (5, [.ref 33, .int (-1), .int 0]), .inr (5, [.ref 33, .int (-1), .int 0]), .inr (7, [.null, .null, .int 0])]
abbrev hC18 : jH := [.inr (0, [.ref 33, .ref 38, .ref 40, .null, .null, .int 0, .int 0]), .inr (1, [.ref 34, .ref 35, .ref 36, .ref 37, .int 0, .int 0]), .inl (1, 6, .inl (fun _ => 0)), .inl (0, 6, .inl (fun _ => 0)), .inl (0, 6, .inl (fun _ => 0)), .inl (2, 6, .inl (fun _ => 0)), .inr (2, [.ref 39, .int 0, .int 0]), .inl (0, 32, .inl (fun _ => 0)), .inr (3, [.ref 41, .int 0]), .inl (1, 100, .inl (fun _ => 0)), .inr (8, [.ref 33, .ref 38, .ref 43, .ref 47, .null, .null, .int 0, .null, .int 0, .int 0, .int 0]), .inr (4, [.ref 40, .ref 44, .ref 45, .ref 46, .int 0, .int 0]), .inl (1, 101, .inl (fun _ => 0)), .inl (0, 101, .inl (fun _ => 0)), .inl (0, 101, .inl (fun _ => 0)), .inr (6, [.ref 48, .ref 49, .int 32]), .inr (5, [.ref 33, .int (-1), .int 0]), .inr (5, [.ref 33, .int (-1), .int 0]), .inr (7, [.ref 33, .null, .int 0]), .inr (6, [.null, .null, .int 0])]
abbrev hC19 : jH := [.inr (0, [.ref 33, .ref 38, .ref 40, .null, .null, .int 0, .int 0]), .inr (1, [.ref 34, .ref 35, .ref 36, .ref 37, .int 0, .int 0]), .inl (1, 6, .inl (fun _ => 0)), .inl (0, 6, .inl (fun _ => 0)), .inl (0, 6, .inl (fun _ => 0)), .inl (2, 6, .inl (fun _ => 0)), .inr (2, [.ref 39, .int 0, .int 0]), .inl (0, 32, .inl (fun _ => 0)), .inr (3, [.ref 41, .int 0]), .inl (1, 100, .inl (fun _ => 0)), .inr (8, [.ref 33, .ref 38, .ref 43, .ref 47, .null, .null, .int 0, .null, .int 0, .int 0, .int 0]), .inr (4, [.ref 40, .ref 44, .ref 45, .ref 46, .int 0, .int 0]), .inl (1, 101, .inl (fun _ => 0)), .inl (0, 101, .inl (fun _ => 0)), .inl (0, 101, .inl (fun _ => 0)), .inr (6, [.ref 48, .ref 49, .int 32]), .inr (5, [.ref 33, .int (-1), .int 0]), .inr (5, [.ref 33, .int (-1), .int 0]), .inr (7, [.ref 33, .null, .int 0]), .inr (6, [.null, .null, .int 0]), .inr (5, [.null, .int 0, .int 0])]
abbrev hC20 : jH := [.inr (0, [.ref 33, .ref 38, .ref 40, .null, .null, .int 0, .int 0]), .inr (1, [.ref 34, .ref 35, .ref 36, .ref 37, .int 0, .int 0]), .inl (1, 6, .inl (fun _ => 0)), .inl (0, 6, .inl (fun _ => 0)), .inl (0, 6, .inl (fun _ => 0)), .inl (2, 6, .inl (fun _ => 0)), .inr (2, [.ref 39, .int 0, .int 0]), .inl (0, 32, .inl (fun _ => 0)), .inr (3, [.ref 41, .int 0]), .inl (1, 100, .inl (fun _ => 0)), .inr (8, [.ref 33, .ref 38, .ref 43, .ref 47, .null, .null, .int 0, .null, .int 0, .int 0, .int 0]), .inr (4, [.ref 40, .ref 44, .ref 45, .ref 46, .int 0, .int 0]), .inl (1, 101, .inl (fun _ => 0)), .inl (0, 101, .inl (fun _ => 0)), .inl (0, 101, .inl (fun _ => 0)), .inr (6, [.ref 48, .ref 49, .int 32]), .inr (5, [.ref 33, .int (-1), .int 0]), .inr (5, [.ref 33, .int (-1), .int 0]), .inr (7, [.ref 33, .null, .int 0]), .inr (6, [.null, .null, .int 0]), .inr (5, [.ref 33, .int (-1), .int 0])]
theorem m_O_init_52 (K : jK) (d : Nat) (hd : 2 ≤ d) : jM K M_O_init d [.ref 52, .ref 33] hC19 (rV hC20) 0 0 := by
  refine jM.of (by decide) (Nat.le_of_ble_eq_true rfl) ?_
  refine j_aload_n d_O_init_0 rfl ?_
  refine j_objInit d_O_init_1 l_O_3 o_inst o_code (by omega) (Nat.le_of_ble_eq_true rfl) ?_
  refine j_aload_n d_O_init_4 rfl ?_
  refine j_aload_n d_O_init_5 rfl ?_
  refine j_putF d_O_init_6 f_O_9 rfl g_O_9 (fun _ _ _ q => by cases q; rfl) rfl (by decide) rfl rfl rfl ?_
  refine j_aload_n d_O_init_9 rfl ?_
  refine j_iconst (v := -1) d_O_init_10 rfl ?_
  refine j_putf d_O_init_11 f_O_15 rfl (Nat.le_of_ble_eq_true rfl) rfl rfl rfl ?_
  exact j_vret rfl d_O_init_14 ⟨rfl, rfl⟩
abbrev hC21 : jH := [.inr (0, [.ref 33, .ref 38, .ref 40, .null, .null, .int 0, .int 0]), .inr (1, [.ref 34, .ref 35, .ref 36, .ref 37, .int 0, .int 0]), .inl (1, 6, .inl (fun _ => 0)), .inl (0, 6, .inl (fun _ => 0)), .inl (0, 6, .inl (fun _ => 0)), .inl (2, 6, .inl (fun _ => 0)), .inr (2, [.ref 39, .int 0, .int 0]), .inl (0, 32, .inl (fun _ => 0)), .inr (3, [.ref 41, .int 0]), .inl (1, 100, .inl (fun _ => 0)), .inr (8, [.ref 33, .ref 38, .ref 43, .ref 47, .null, .null, .int 0, .null, .int 0, .int 0, .int 0]), .inr (4, [.ref 40, .ref 44, .ref 45, .ref 46, .int 0, .int 0]), .inl (1, 101, .inl (fun _ => 0)), .inl (0, 101, .inl (fun _ => 0)), .inl (0, 101, .inl (fun _ => 0)), .inr (6, [.ref 48, .ref 49, .int 32]), .inr (5, [.ref 33, .int (-1), .int 0]), .inr (5, [.ref 33, .int (-1), .int 0]), .inr (7, [.ref 33, .null, .int 0]), .inr (6, [.ref 52, .null, .int 0]), .inr (5, [.ref 33, .int (-1), .int 0]), .inr (5, [.null, .int 0, .int 0])]
abbrev hC22 : jH := [.inr (0, [.ref 33, .ref 38, .ref 40, .null, .null, .int 0, .int 0]), .inr (1, [.ref 34, .ref 35, .ref 36, .ref 37, .int 0, .int 0]), .inl (1, 6, .inl (fun _ => 0)), .inl (0, 6, .inl (fun _ => 0)), .inl (0, 6, .inl (fun _ => 0)), .inl (2, 6, .inl (fun _ => 0)), .inr (2, [.ref 39, .int 0, .int 0]), .inl (0, 32, .inl (fun _ => 0)), .inr (3, [.ref 41, .int 0]), .inl (1, 100, .inl (fun _ => 0)), .inr (8, [.ref 33, .ref 38, .ref 43, .ref 47, .null, .null, .int 0, .null, .int 0, .int 0, .int 0]), .inr (4, [.ref 40, .ref 44, .ref 45, .ref 46, .int 0, .int 0]), .inl (1, 101, .inl (fun _ => 0)), .inl (0, 101, .inl (fun _ => 0)), .inl (0, 101, .inl (fun _ => 0)), .inr (6, [.ref 48, .ref 49, .int 32]), .inr (5, [.ref 33, .int (-1), .int 0]), .inr (5, [.ref 33, .int (-1), .int 0]), .inr (7, [.ref 33, .null, .int 0]), .inr (6, [.ref 52, .null, .int 0]), .inr (5, [.ref 33, .int (-1), .int 0]), .inr (5, [.ref 33, .int (-1), .int 0])]
theorem m_O_init_53 (K : jK) (d : Nat) (hd : 2 ≤ d) : jM K M_O_init d [.ref 53, .ref 33] hC21 (rV hC22) 0 0 := by
  refine jM.of (by decide) (Nat.le_of_ble_eq_true rfl) ?_
  refine j_aload_n d_O_init_0 rfl ?_
  refine j_objInit d_O_init_1 l_O_3 o_inst o_code (by omega) (Nat.le_of_ble_eq_true rfl) ?_
  refine j_aload_n d_O_init_4 rfl ?_
  refine j_aload_n d_O_init_5 rfl ?_
  refine j_putF d_O_init_6 f_O_9 rfl g_O_9 (fun _ _ _ q => by cases q; rfl) rfl (by decide) rfl rfl rfl ?_
  refine j_aload_n d_O_init_9 rfl ?_
  refine j_iconst (v := -1) d_O_init_10 rfl ?_
  refine j_putf d_O_init_11 f_O_15 rfl (Nat.le_of_ble_eq_true rfl) rfl rfl rfl ?_
  exact j_vret rfl d_O_init_14 ⟨rfl, rfl⟩
abbrev hC23 : jH := [.inr (0, [.ref 33, .ref 38, .ref 40, .null, .null, .int 0, .int 0]), .inr (1, [.ref 34, .ref 35, .ref 36, .ref 37, .int 0, .int 0]), .inl (1, 6, .inl (fun _ => 0)), .inl (0, 6, .inl (fun _ => 0)), .inl (0, 6, .inl (fun _ => 0)), .inl (2, 6, .inl (fun _ => 0)), .inr (2, [.ref 39, .int 0, .int 0]), .inl (0, 32, .inl (fun _ => 0)), .inr (3, [.ref 41, .int 0]), .inl (1, 100, .inl (fun _ => 0)), .inr (8, [.ref 33, .ref 38, .ref 43, .ref 47, .null, .null, .int 0, .null, .int 0, .int 0, .int 0]), .inr (4, [.ref 40, .ref 44, .ref 45, .ref 46, .int 0, .int 0]), .inl (1, 101, .inl (fun _ => 0)), .inl (0, 101, .inl (fun _ => 0)), .inl (0, 101, .inl (fun _ => 0)), .inr (6, [.ref 48, .ref 49, .int 32]), .inr (5, [.ref 33, .int (-1), .int 0]), .inr (5, [.ref 33, .int (-1), .int 0]), .inr (7, [.ref 33, .null, .int 0]), .inr (6, [.ref 52, .ref 53, .int 32]), .inr (5, [.ref 33, .int (-1), .int 0]), .inr (5, [.ref 33, .int (-1), .int 0])]
theorem m_P_init_51 (K : jK) (d : Nat) (hd : 4 ≤ d) : jM K M_P_init d [.ref 51, .ref 33] hC18 (rV hC23) 2 6 := by
  refine jM.of (by decide) (Nat.le_of_ble_eq_true rfl) ?_
  refine j_aload_n d_P_init_0 rfl ?_
  refine j_objInit d_P_init_1 l_P_1 o_inst o_code (by omega) (Nat.le_of_ble_eq_true rfl) ?_
  refine j_aload_n d_P_init_4 rfl ?_
  refine j_new (mc := 1) (ms := 3) d_P_init_5 n_P_7 rfl ?_
  refine j_dup d_P_init_8 rfl ?_
  refine j_aload_n d_P_init_9 rfl ?_
  refine j_hp (h' := hC19) rfl ?_
  refine j_retV' (mc := 1) (ms := 3) (j_callI d_P_init_10 i_O_init l_P_9 rfl (m_O_init_52 K (d - 1) (by omega)) (by omega) (by decide) (Nat.le_of_ble_eq_true rfl) rfl) rfl ?_
  refine j_putF d_P_init_13 f_P_12 rfl g_P_12 (fun _ _ _ q => by cases q; rfl) rfl (by decide) rfl rfl rfl ?_
  refine j_aload_n d_P_init_16 rfl ?_
  refine j_new (mc := 0) (ms := 0) d_P_init_17 n_P_7 rfl ?_
  refine j_dup d_P_init_20 rfl ?_
  refine j_aload_n d_P_init_21 rfl ?_
  refine j_hp (h' := hC21) rfl ?_
  refine j_retV' (mc := 0) (ms := 0) (j_callI d_P_init_22 i_O_init l_P_9 rfl (m_O_init_53 K (d - 1) (by omega)) (by omega) (by decide) (Nat.le_of_ble_eq_true rfl) rfl) rfl ?_
  refine j_putF d_P_init_25 f_P_18 rfl g_P_18 (fun _ _ _ q => by cases q; rfl) rfl (by decide) rfl rfl rfl ?_
  refine j_aload_n d_P_init_28 rfl ?_
  refine j_bipush (v := 32) d_P_init_29 (by decide) ?_
  refine j_putf d_P_init_31 f_P_21 rfl (Nat.le_of_ble_eq_true rfl) rfl rfl rfl ?_
  exact j_vret rfl d_P_init_34 ⟨rfl, rfl⟩
abbrev hC24 : jH := [.inr (0, [.ref 33, .ref 38, .ref 40, .null, .null, .int 0, .int 0]), .inr (1, [.ref 34, .ref 35, .ref 36, .ref 37, .int 0, .int 0]), .inl (1, 6, .inl (fun _ => 0)), .inl (0, 6, .inl (fun _ => 0)), .inl (0, 6, .inl (fun _ => 0)), .inl (2, 6, .inl (fun _ => 0)), .inr (2, [.ref 39, .int 0, .int 0]), .inl (0, 32, .inl (fun _ => 0)), .inr (3, [.ref 41, .int 0]), .inl (1, 100, .inl (fun _ => 0)), .inr (8, [.ref 33, .ref 38, .ref 43, .ref 47, .null, .null, .int 0, .null, .int 0, .int 0, .int 0]), .inr (4, [.ref 40, .ref 44, .ref 45, .ref 46, .int 0, .int 0]), .inl (1, 101, .inl (fun _ => 0)), .inl (0, 101, .inl (fun _ => 0)), .inl (0, 101, .inl (fun _ => 0)), .inr (6, [.ref 48, .ref 49, .int 32]), .inr (5, [.ref 33, .int (-1), .int 0]), .inr (5, [.ref 33, .int (-1), .int 0]), .inr (7, [.ref 33, .ref 51, .int 0]), .inr (6, [.ref 52, .ref 53, .int 32]), .inr (5, [.ref 33, .int (-1), .int 0]), .inr (5, [.ref 33, .int (-1), .int 0])]
theorem m_C_init_50 (K : jK) (d : Nat) (hd : 6 ≤ d) : jM K M_C_init d [.ref 50, .ref 33] hC17 (rV hC24) 3 9 := by
  refine jM.of (by decide) (Nat.le_of_ble_eq_true rfl) ?_
  refine j_aload_n d_C_init_0 rfl ?_
  refine j_objInit d_C_init_1 l_C_1 o_inst o_code (by omega) (Nat.le_of_ble_eq_true rfl) ?_
  refine j_aload_n d_C_init_4 rfl ?_
  refine j_aload_n d_C_init_5 rfl ?_
  refine j_putF d_C_init_6 f_C_7 rfl g_C_7 (fun _ _ _ q => by cases q; rfl) rfl (by decide) rfl rfl rfl ?_
  refine j_aload_n d_C_init_9 rfl ?_
  refine j_new (mc := 2) (ms := 6) d_C_init_10 n_C_13 rfl ?_
  refine j_dup d_C_init_13 rfl ?_
  refine j_aload_n d_C_init_14 rfl ?_
  refine j_hp (h' := hC18) rfl ?_
  refine j_retV' (mc := 0) (ms := 0) (j_callI d_C_init_15 i_P_init l_C_15 rfl (m_P_init_51 K (d - 1) (by omega)) (by omega) (by decide) (Nat.le_of_ble_eq_true rfl) rfl) rfl ?_
  refine j_putF d_C_init_18 f_C_18 rfl g_C_18 (fun _ _ _ q => by cases q; rfl) rfl (by decide) rfl rfl rfl ?_
  exact j_vret rfl d_C_init_21 ⟨rfl, rfl⟩
abbrev hC25 : jH := [.inr (0, [.ref 33, .ref 38, .ref 40, .null, .null, .int 0, .int 0]), .inr (1, [.ref 34, .ref 35, .ref 36, .ref 37, .int 0, .int 0]), .inl (1, 6, .inl (fun _ => 0)), .inl (0, 6, .inl (fun _ => 0)), .inl (0, 6, .inl (fun _ => 0)), .inl (2, 6, .inl (fun _ => 0)), .inr (2, [.ref 39, .int 0, .int 0]), .inl (0, 32, .inl (fun _ => 0)), .inr (3, [.ref 41, .int 0]), .inl (1, 100, .inl (fun _ => 0)), .inr (8, [.ref 33, .ref 38, .ref 43, .ref 47, .ref 50, .null, .int 0, .null, .int 0, .int 0, .int 0]), .inr (4, [.ref 40, .ref 44, .ref 45, .ref 46, .int 0, .int 0]), .inl (1, 101, .inl (fun _ => 0)), .inl (0, 101, .inl (fun _ => 0)), .inl (0, 101, .inl (fun _ => 0)), .inr (6, [.ref 48, .ref 49, .int 32]), .inr (5, [.ref 33, .int (-1), .int 0]), .inr (5, [.ref 33, .int (-1), .int 0]), .inr (7, [.ref 33, .ref 51, .int 0]), .inr (6, [.ref 52, .ref 53, .int 32]), .inr (5, [.ref 33, .int (-1), .int 0]), .inr (5, [.ref 33, .int (-1), .int 0]), .inr (7, [.null, .null, .int 0])]
abbrev hC26 : jH := [.inr (0, [.ref 33, .ref 38, .ref 40, .null, .null, .int 0, .int 0]), .inr (1, [.ref 34, .ref 35, .ref 36, .ref 37, .int 0, .int 0]), .inl (1, 6, .inl (fun _ => 0)), .inl (0, 6, .inl (fun _ => 0)), .inl (0, 6, .inl (fun _ => 0)), .inl (2, 6, .inl (fun _ => 0)), .inr (2, [.ref 39, .int 0, .int 0]), .inl (0, 32, .inl (fun _ => 0)), .inr (3, [.ref 41, .int 0]), .inl (1, 100, .inl (fun _ => 0)), .inr (8, [.ref 33, .ref 38, .ref 43, .ref 47, .ref 50, .null, .int 0, .null, .int 0, .int 0, .int 0]), .inr (4, [.ref 40, .ref 44, .ref 45, .ref 46, .int 0, .int 0]), .inl (1, 101, .inl (fun _ => 0)), .inl (0, 101, .inl (fun _ => 0)), .inl (0, 101, .inl (fun _ => 0)), .inr (6, [.ref 48, .ref 49, .int 32]), .inr (5, [.ref 33, .int (-1), .int 0]), .inr (5, [.ref 33, .int (-1), .int 0]), .inr (7, [.ref 33, .ref 51, .int 0]), .inr (6, [.ref 52, .ref 53, .int 32]), .inr (5, [.ref 33, .int (-1), .int 0]), .inr (5, [.ref 33, .int (-1), .int 0]), .inr (7, [.ref 33, .null, .int 0]), .inr (6, [.null, .null, .int 0])]
abbrev hC27 : jH := [.inr (0, [.ref 33, .ref 38, .ref 40, .null, .null, .int 0, .int 0]), .inr (1, [.ref 34, .ref 35, .ref 36, .ref 37, .int 0, .int 0]), .inl (1, 6, .inl (fun _ => 0)), .inl (0, 6, .inl (fun _ => 0)), .inl (0, 6, .inl (fun _ => 0)), .inl (2, 6, .inl (fun _ => 0)), .inr (2, [.ref 39, .int 0, .int 0]), .inl (0, 32, .inl (fun _ => 0)), .inr (3, [.ref 41, .int 0]), .inl (1, 100, .inl (fun _ => 0)), .inr (8, [.ref 33, .ref 38, .ref 43, .ref 47, .ref 50, .null, .int 0, .null, .int 0, .int 0, .int 0]), .inr (4, [.ref 40, .ref 44, .ref 45, .ref 46, .int 0, .int 0]), .inl (1, 101, .inl (fun _ => 0)), .inl (0, 101, .inl (fun _ => 0)), .inl (0, 101, .inl (fun _ => 0)), .inr (6, [.ref 48, .ref 49, .int 32]), .inr (5, [.ref 33, .int (-1), .int 0]), .inr (5, [.ref 33, .int (-1), .int 0]), .inr (7, [.ref 33, .ref 51, .int 0]), .inr (6, [.ref 52, .ref 53, .int 32]), .inr (5, [.ref 33, .int (-1), .int 0]), .inr (5, [.ref 33, .int (-1), .int 0]), .inr (7, [.ref 33, .null, .int 0]), .inr (6, [.null, .null, .int 0]), .inr (5, [.null, .int 0, .int 0])]
abbrev hC28 : jH := [.inr (0, [.ref 33, .ref 38, .ref 40, .null, .null, .int 0, .int 0]), .inr (1, [.ref 34, .ref 35, .ref 36, .ref 37, .int 0, .int 0]), .inl (1, 6, .inl (fun _ => 0)), .inl (0, 6, .inl (fun _ => 0)), .inl (0, 6, .inl (fun _ => 0)), .inl (2, 6, .inl (fun _ => 0)), .inr (2, [.ref 39, .int 0, .int 0]), .inl (0, 32, .inl (fun _ => 0)), .inr (3, [.ref 41, .int 0]), .inl (1, 100, .inl (fun _ => 0)), .inr (8, [.ref 33, .ref 38, .ref 43, .ref 47, .ref 50, .null, .int 0, .null, .int 0, .int 0, .int 0]), .inr (4, [.ref 40, .ref 44, .ref 45, .ref 46, .int 0, .int 0]), .inl (1, 101, .inl (fun _ => 0)), .inl (0, 101, .inl (fun _ => 0)), .inl (0, 101, .inl (fun _ => 0)), .inr (6, [.ref 48, .ref 49, .int 32]), .inr (5, [.ref 33, .int (-1), .int 0]), .inr (5, [.ref 33, .int (-1), .int 0]), .inr (7, [.ref 33, .ref 51, .int 0]), .inr (6, [.ref 52, .ref 53, .int 32]), .inr (5, [.ref 33, .int (-1), .int 0]), .inr (5, [.ref 33, .int (-1), .int 0]), .inr (7, [.ref 33, .null, .int 0]), .inr (6, [.null, .null, .int 0]), .inr (5, [.ref 33, .int (-1), .int 0])]
theorem m_O_init_56 (K : jK) (d : Nat) (hd : 2 ≤ d) : jM K M_O_init d [.ref 56, .ref 33] hC27 (rV hC28) 0 0 := by
  refine jM.of (by decide) (Nat.le_of_ble_eq_true rfl) ?_
  refine j_aload_n d_O_init_0 rfl ?_
  refine j_objInit d_O_init_1 l_O_3 o_inst o_code (by omega) (Nat.le_of_ble_eq_true rfl) ?_
  refine j_aload_n d_O_init_4 rfl ?_
  refine j_aload_n d_O_init_5 rfl ?_
  refine j_putF d_O_init_6 f_O_9 rfl g_O_9 (fun _ _ _ q => by cases q; rfl) rfl (by decide) rfl rfl rfl ?_
  refine j_aload_n d_O_init_9 rfl ?_
  refine j_iconst (v := -1) d_O_init_10 rfl ?_
  refine j_putf d_O_init_11 f_O_15 rfl (Nat.le_of_ble_eq_true rfl) rfl rfl rfl ?_
  exact j_vret rfl d_O_init_14 ⟨rfl, rfl⟩
abbrev hC29 : jH := [.inr (0, [.ref 33, .ref 38, .ref 40, .null, .null, .int 0, .int 0]), .inr (1, [.ref 34, .ref 35, .ref 36, .ref 37, .int 0, .int 0]), .inl (1, 6, .inl (fun _ => 0)), .inl (0, 6, .inl (fun _ => 0)), .inl (0, 6, .inl (fun _ => 0)), .inl (2, 6, .inl (fun _ => 0)), .inr (2, [.ref 39, .int 0, .int 0]), .inl (0, 32, .inl (fun _ => 0)), .inr (3, [.ref 41, .int 0]), .inl (1, 100, .inl (fun _ => 0)), .inr (8, [.ref 33, .ref 38, .ref 43, .ref 47, .ref 50, .null, .int 0, .null, .int 0, .int 0, .int 0]), .inr (4, [.ref 40, .ref 44, .ref 45, .ref 46, .int 0, .int 0]), .inl (1, 101, .inl (fun _ => 0)), .inl (0, 101, .inl (fun _ => 0)), .inl (0, 101, .inl (fun _ => 0)), .inr (6, [.ref 48, .ref 49, .int 32]), .inr (5, [.ref 33, .int (-1), .int 0]), .inr (5, [.ref 33, .int (-1), .int 0]), .inr (7, [.ref 33, .ref 51, .int 0]), .inr (6, [.ref 52, .ref 53, .int 32]), .inr (5, [.ref 33, .int (-1), .int 0]), .inr (5, [.ref 33, .int (-1), .int 0]), .inr (7, [.ref 33, .null, .int 0]), .inr (6, [.ref 56, .null, .int 0]), .inr (5, [.ref 33, .int (-1), .int 0]), .inr (5, [.null, .int 0, .int 0])]
abbrev hC30 : jH := [.inr (0, [.ref 33, .ref 38, .ref 40, .null, .null, .int 0, .int 0]), .inr (1, [.ref 34, .ref 35, .ref 36, .ref 37, .int 0, .int 0]), .inl (1, 6, .inl (fun _ => 0)), .inl (0, 6, .inl (fun _ => 0)), .inl (0, 6, .inl (fun _ => 0)), .inl (2, 6, .inl (fun _ => 0)), .inr (2, [.ref 39, .int 0, .int 0]), .inl (0, 32, .inl (fun _ => 0)), .inr (3, [.ref 41, .int 0]), .inl (1, 100, .inl (fun _ => 0)), .inr (8, [.ref 33, .ref 38, .ref 43, .ref 47, .ref 50, .null, .int 0, .null, .int 0, .int 0, .int 0]), .inr (4, [.ref 40, .ref 44, .ref 45, .ref 46, .int 0, .int 0]), .inl (1, 101, .inl (fun _ => 0)), .inl (0, 101, .inl (fun _ => 0)), .inl (0, 101, .inl (fun _ => 0)), .inr (6, [.ref 48, .ref 49, .int 32]), .inr (5, [.ref 33, .int (-1), .int 0]), .inr (5, [.ref 33, .int (-1), .int 0]), .inr (7, [.ref 33, .ref 51, .int 0]), .inr (6, [.ref 52, .ref 53, .int 32]), .inr (5, [.ref 33, .int (-1), .int 0]), .inr (5, [.ref 33, .int (-1), .int 0]), .inr (7, [.ref 33, .null, .int 0]), .inr (6, [.ref 56, .null, .int 0]), .inr (5, [.ref 33, .int (-1), .int 0]), .inr (5, [.ref 33, .int (-1), .int 0])]
theorem m_O_init_57 (K : jK) (d : Nat) (hd : 2 ≤ d) : jM K M_O_init d [.ref 57, .ref 33] hC29 (rV hC30) 0 0 := by
  refine jM.of (by decide) (Nat.le_of_ble_eq_true rfl) ?_
  refine j_aload_n d_O_init_0 rfl ?_
  refine j_objInit d_O_init_1 l_O_3 o_inst o_code (by omega) (Nat.le_of_ble_eq_true rfl) ?_
  refine j_aload_n d_O_init_4 rfl ?_
  refine j_aload_n d_O_init_5 rfl ?_
  refine j_putF d_O_init_6 f_O_9 rfl g_O_9 (fun _ _ _ q => by cases q; rfl) rfl (by decide) rfl rfl rfl ?_
  refine j_aload_n d_O_init_9 rfl ?_
  refine j_iconst (v := -1) d_O_init_10 rfl ?_
  refine j_putf d_O_init_11 f_O_15 rfl (Nat.le_of_ble_eq_true rfl) rfl rfl rfl ?_
  exact j_vret rfl d_O_init_14 ⟨rfl, rfl⟩
abbrev hC31 : jH := [.inr (0, [.ref 33, .ref 38, .ref 40, .null, .null, .int 0, .int 0]), .inr (1, [.ref 34, .ref 35, .ref 36, .ref 37, .int 0, .int 0]), .inl (1, 6, .inl (fun _ => 0)), .inl (0, 6, .inl (fun _ => 0)), .inl (0, 6, .inl (fun _ => 0)), .inl (2, 6, .inl (fun _ => 0)), .inr (2, [.ref 39, .int 0, .int 0]), .inl (0, 32, .inl (fun _ => 0)), .inr (3, [.ref 41, .int 0]), .inl (1, 100, .inl (fun _ => 0)), .inr (8, [.ref 33, .ref 38, .ref 43, .ref 47, .ref 50, .null, .int 0, .null, .int 0, .int 0, .int 0]), .inr (4, [.ref 40, .ref 44, .ref 45, .ref 46, .int 0, .int 0]), .inl (1, 101, .inl (fun _ => 0)), .inl (0, 101, .inl (fun _ => 0)), .inl (0, 101, .inl (fun _ => 0)), .inr (6, [.ref 48, .ref 49, .int 32]), .inr (5, [.ref 33, .int (-1), .int 0]), .inr (5, [.ref 33, .int (-1), .int 0]), .inr (7, [.ref 33, .ref 51, .int 0]), .inr (6, [.ref 52, .ref 53, .int 32]), .inr (5, [.ref 33, .int (-1), .int 0]), .inr (5, [.ref 33, .int (-1), .int 0]), .inr (7, [.ref 33, .null, .int 0]), .inr (6, [.ref 56, .ref 57, .int 32]), .inr (5, [.ref 33, .int (-1), .int 0]), .inr (5, [.ref 33, .int (-1), .int 0])]
theorem m_P_init_55 (K : jK) (d : Nat) (hd : 4 ≤ d) : jM K M_P_init d [.ref 55, .ref 33] hC26 (rV hC31) 2 6 := by
  refine jM.of (by decide) (Nat.le_of_ble_eq_true rfl) ?_
  refine j_aload_n d_P_init_0 rfl ?_
  refine j_objInit d_P_init_1 l_P_1 o_inst o_code (by omega) (Nat.le_of_ble_eq_true rfl) ?_
  refine j_aload_n d_P_init_4 rfl ?_
  refine j_new (mc := 1) (ms := 3) d_P_init_5 n_P_7 rfl ?_
  refine j_dup d_P_init_8 rfl ?_
  refine j_aload_n d_P_init_9 rfl ?_
  refine j_hp (h' := hC27) rfl ?_
  refine j_retV' (mc := 1) (ms := 3) (j_callI d_P_init_10 i_O_init l_P_9 rfl (m_O_init_56 K (d - 1) (by omega)) (by omega) (by decide) (Nat.le_of_ble_eq_true rfl) rfl) rfl ?_
  refine j_putF d_P_init_13 f_P_12 rfl g_P_12 (fun _ _ _ q => by cases q; rfl) rfl (by decide) rfl rfl rfl ?_
  refine j_aload_n d_P_init_16 rfl ?_
  refine j_new (mc := 0) (ms := 0) d_P_init_17 n_P_7 rfl ?_
  refine j_dup d_P_init_20 rfl ?_
  refine j_aload_n d_P_init_21 rfl ?_
  refine j_hp (h' := hC29) rfl ?_
  refine j_retV' (mc := 0) (ms := 0) (j_callI d_P_init_22 i_O_init l_P_9 rfl (m_O_init_57 K (d - 1) (by omega)) (by omega) (by decide) (Nat.le_of_ble_eq_true rfl) rfl) rfl ?_
  refine j_putF d_P_init_25 f_P_18 rfl g_P_18 (fun _ _ _ q => by cases q; rfl) rfl (by decide) rfl rfl rfl ?_
  refine j_aload_n d_P_init_28 rfl ?_
  refine j_bipush (v := 32) d_P_init_29 (by decide) ?_
  refine j_putf d_P_init_31 f_P_21 rfl (Nat.le_of_ble_eq_true rfl) rfl rfl rfl ?_
  exact j_vret rfl d_P_init_34 ⟨rfl, rfl⟩
abbrev hC32 : jH := [.inr (0, [.ref 33, .ref 38, .ref 40, .null, .null, .int 0, .int 0]), .inr (1, [.ref 34, .ref 35, .ref 36, .ref 37, .int 0, .int 0]), .inl (1, 6, .inl (fun _ => 0)), .inl (0, 6, .inl (fun _ => 0)), .inl (0, 6, .inl (fun _ => 0)), .inl (2, 6, .inl (fun _ => 0)), .inr (2, [.ref 39, .int 0, .int 0]), .inl (0, 32, .inl (fun _ => 0)), .inr (3, [.ref 41, .int 0]), .inl (1, 100, .inl (fun _ => 0)), .inr (8, [.ref 33, .ref 38, .ref 43, .ref 47, .ref 50, .null, .int 0, .null, .int 0, .int 0, .int 0]), .inr (4, [.ref 40, .ref 44, .ref 45, .ref 46, .int 0, .int 0]), .inl (1, 101, .inl (fun _ => 0)), .inl (0, 101, .inl (fun _ => 0)), .inl (0, 101, .inl (fun _ => 0)), .inr (6, [.ref 48, .ref 49, .int 32]), .inr (5, [.ref 33, .int (-1), .int 0]), .inr (5, [.ref 33, .int (-1), .int 0]), .inr (7, [.ref 33, .ref 51, .int 0]), .inr (6, [.ref 52, .ref 53, .int 32]), .inr (5, [.ref 33, .int (-1), .int 0]), .inr (5, [.ref 33, .int (-1), .int 0]), .inr (7, [.ref 33, .ref 55, .int 0]), .inr (6, [.ref 56, .ref 57, .int 32]), .inr (5, [.ref 33, .int (-1), .int 0]), .inr (5, [.ref 33, .int (-1), .int 0])]
theorem m_C_init_54 (K : jK) (d : Nat) (hd : 6 ≤ d) : jM K M_C_init d [.ref 54, .ref 33] hC25 (rV hC32) 3 9 := by
  refine jM.of (by decide) (Nat.le_of_ble_eq_true rfl) ?_
  refine j_aload_n d_C_init_0 rfl ?_
  refine j_objInit d_C_init_1 l_C_1 o_inst o_code (by omega) (Nat.le_of_ble_eq_true rfl) ?_
  refine j_aload_n d_C_init_4 rfl ?_
  refine j_aload_n d_C_init_5 rfl ?_
  refine j_putF d_C_init_6 f_C_7 rfl g_C_7 (fun _ _ _ q => by cases q; rfl) rfl (by decide) rfl rfl rfl ?_
  refine j_aload_n d_C_init_9 rfl ?_
  refine j_new (mc := 2) (ms := 6) d_C_init_10 n_C_13 rfl ?_
  refine j_dup d_C_init_13 rfl ?_
  refine j_aload_n d_C_init_14 rfl ?_
  refine j_hp (h' := hC26) rfl ?_
  refine j_retV' (mc := 0) (ms := 0) (j_callI d_C_init_15 i_P_init l_C_15 rfl (m_P_init_55 K (d - 1) (by omega)) (by omega) (by decide) (Nat.le_of_ble_eq_true rfl) rfl) rfl ?_
  refine j_putF d_C_init_18 f_C_18 rfl g_C_18 (fun _ _ _ q => by cases q; rfl) rfl (by decide) rfl rfl rfl ?_
  exact j_vret rfl d_C_init_21 ⟨rfl, rfl⟩
abbrev hC33 : jH := [.inr (0, [.ref 33, .ref 38, .ref 40, .null, .null, .int 0, .int 0]), .inr (1, [.ref 34, .ref 35, .ref 36, .ref 37, .int 0, .int 0]), .inl (1, 6, .inl (fun _ => 0)), .inl (0, 6, .inl (fun _ => 0)), .inl (0, 6, .inl (fun _ => 0)), .inl (2, 6, .inl (fun _ => 0)), .inr (2, [.ref 39, .int 0, .int 0]), .inl (0, 32, .inl (fun _ => 0)), .inr (3, [.ref 41, .int 0]), .inl (1, 100, .inl (fun _ => 0)), .inr (8, [.ref 33, .ref 38, .ref 43, .ref 47, .ref 50, .ref 54, .int 0, .ref 7, .int 0, .int 0, .int (-1)]), .inr (4, [.ref 40, .ref 44, .ref 45, .ref 46, .int 0, .int 0]), .inl (1, 101, .inl (fun _ => 0)), .inl (0, 101, .inl (fun _ => 0)), .inl (0, 101, .inl (fun _ => 0)), .inr (6, [.ref 48, .ref 49, .int 32]), .inr (5, [.ref 33, .int (-1), .int 0]), .inr (5, [.ref 33, .int (-1), .int 0]), .inr (7, [.ref 33, .ref 51, .int 0]), .inr (6, [.ref 52, .ref 53, .int 32]), .inr (5, [.ref 33, .int (-1), .int 0]), .inr (5, [.ref 33, .int (-1), .int 0]), .inr (7, [.ref 33, .ref 55, .int 0]), .inr (6, [.ref 56, .ref 57, .int 32]), .inr (5, [.ref 33, .int (-1), .int 0]), .inr (5, [.ref 33, .int (-1), .int 0])]
theorem m_S_init_42 (K : jK) (d : Nat) (hd : 8 ≤ d) : jM K M_S_init d [.ref 42, .ref 33, .ref 38, .ref 40] hC8 (rV hC33) 15 342 := by
  refine jM.of (by decide) (Nat.le_of_ble_eq_true rfl) ?_
  refine j_aload_n d_S_init_0 rfl ?_
  refine j_objInit d_S_init_1 l_S_3 o_inst o_code (by omega) (Nat.le_of_ble_eq_true rfl) ?_
  refine j_aload_n d_S_init_4 rfl ?_
  refine j_aload_n d_S_init_5 rfl ?_
  refine j_putF d_S_init_6 f_S_9 rfl g_S_9 (fun _ _ _ q => by cases q; rfl) rfl (by decide) rfl rfl rfl ?_
  refine j_aload_n d_S_init_9 rfl ?_
  refine j_aload_n d_S_init_10 rfl ?_
  refine j_putF d_S_init_11 f_S_15 rfl g_S_15 (fun _ _ _ q => by cases q; rfl) rfl (by decide) rfl rfl rfl ?_
  refine j_aload_n d_S_init_14 rfl ?_
  refine j_new (mc := 14) (ms := 336) d_S_init_15 n_S_19 rfl ?_
  refine j_dup d_S_init_18 rfl ?_
  refine j_aload_n d_S_init_19 rfl ?_
  refine j_hp (h' := hC9) rfl ?_
  refine j_retV' (mc := 11) (ms := 33) (j_callI d_S_init_20 i_K_init l_S_21 rfl (m_K_init_43 K (d - 1) (by omega)) (by omega) (by decide) (Nat.le_of_ble_eq_true rfl) rfl) rfl ?_
  refine j_putF d_S_init_23 f_S_24 rfl g_S_24 (fun _ _ _ q => by cases q; rfl) rfl (by decide) rfl rfl rfl ?_
  refine j_aload_n d_S_init_26 rfl ?_
  refine j_new (mc := 10) (ms := 30) d_S_init_27 n_S_28 rfl ?_
  refine j_dup d_S_init_30 rfl ?_
  refine j_aload_n d_S_init_31 rfl ?_
  refine j_hp (h' := hC11) rfl ?_
  refine j_retV' (mc := 8) (ms := 24) (j_callI d_S_init_32 i_P_init l_S_30 rfl (m_P_init_47 K (d - 1) (by omega)) (by omega) (by decide) (Nat.le_of_ble_eq_true rfl) rfl) rfl ?_
  refine j_putF d_S_init_35 f_S_33 rfl g_S_33 (fun _ _ _ q => by cases q; rfl) rfl (by decide) rfl rfl rfl ?_
  refine j_aload_n d_S_init_38 rfl ?_
  refine j_new (mc := 7) (ms := 21) d_S_init_39 n_S_37 rfl ?_
  refine j_dup d_S_init_42 rfl ?_
  refine j_aload_n d_S_init_43 rfl ?_
  refine j_hp (h' := hC17) rfl ?_
  refine j_retV' (mc := 4) (ms := 12) (j_callI d_S_init_44 i_C_init l_S_39 rfl (m_C_init_50 K (d - 1) (by omega)) (by omega) (by decide) (Nat.le_of_ble_eq_true rfl) rfl) rfl ?_
  refine j_putF d_S_init_47 f_S_40 rfl g_S_40 (fun _ _ _ q => by cases q; rfl) rfl (by decide) rfl rfl rfl ?_
  refine j_aload_n d_S_init_50 rfl ?_
  refine j_new (mc := 3) (ms := 9) d_S_init_51 n_S_37 rfl ?_
  refine j_dup d_S_init_54 rfl ?_
  refine j_aload_n d_S_init_55 rfl ?_
  refine j_hp (h' := hC25) rfl ?_
  refine j_retV' (mc := 0) (ms := 0) (j_callI d_S_init_56 i_C_init l_S_39 rfl (m_C_init_54 K (d - 1) (by omega)) (by omega) (by decide) (Nat.le_of_ble_eq_true rfl) rfl) rfl ?_
  refine j_putF d_S_init_59 f_S_44 rfl g_S_44 (fun _ _ _ q => by cases q; rfl) rfl (by decide) rfl rfl rfl ?_
  refine j_aload_n d_S_init_62 rfl ?_
  refine j_gets d_S_init_63 (.inl z_S_47) (x_actN K (i := 5) (by omega)) ?_
  refine j_putf d_S_init_66 f_S_53 rfl (Nat.le_of_ble_eq_true rfl) rfl rfl rfl ?_
  refine j_aload_n d_S_init_69 rfl ?_
  refine j_iconst (v := -1) d_S_init_70 rfl ?_
  refine j_putf d_S_init_71 f_S_56 rfl (Nat.le_of_ble_eq_true rfl) rfl rfl rfl ?_
  exact j_vret rfl d_S_init_74 ⟨rfl, rfl⟩
abbrev hC34 : jH := [.inr (0, [.ref 33, .ref 38, .ref 40, .ref 42, .ref 58, .int 0, .int 0]), .inr (1, [.ref 34, .ref 35, .ref 36, .ref 37, .int 0, .int 0]), .inl (1, 6, .inl (fun _ => 0)), .inl (0, 6, .inl (fun _ => 0)), .inl (0, 6, .inl (fun _ => 0)), .inl (2, 6, .inl (fun _ => 0)), .inr (2, [.ref 39, .int 0, .int 0]), .inl (0, 32, .inl (fun _ => 0)), .inr (3, [.ref 41, .int 0]), .inl (1, 100, .inl (fun _ => 0)), .inr (8, [.ref 33, .ref 38, .ref 43, .ref 47, .ref 50, .ref 54, .int 0, .ref 7, .int 0, .int 0, .int (-1)]), .inr (4, [.ref 40, .ref 44, .ref 45, .ref 46, .int 0, .int 0]), .inl (1, 101, .inl (fun _ => 0)), .inl (0, 101, .inl (fun _ => 0)), .inl (0, 101, .inl (fun _ => 0)), .inr (6, [.ref 48, .ref 49, .int 32]), .inr (5, [.ref 33, .int (-1), .int 0]), .inr (5, [.ref 33, .int (-1), .int 0]), .inr (7, [.ref 33, .ref 51, .int 0]), .inr (6, [.ref 52, .ref 53, .int 32]), .inr (5, [.ref 33, .int (-1), .int 0]), .inr (5, [.ref 33, .int (-1), .int 0]), .inr (7, [.ref 33, .ref 55, .int 0]), .inr (6, [.ref 56, .ref 57, .int 32]), .inr (5, [.ref 33, .int (-1), .int 0]), .inr (5, [.ref 33, .int (-1), .int 0]), .inl (0, 32, .inl (fun _ => 0))]
theorem m_B_init_32 (K : jK) (d : Nat) (hd : 10 ≤ d) : jM K M_B_init d [.ref 32] hC1 (rV hC34) 26 552 := by
  refine jM.of (by decide) (Nat.le_of_ble_eq_true rfl) ?_
  refine j_aload_n d_B_init_0 rfl ?_
  refine j_objInit d_B_init_1 l_B_3 o_inst o_code (by omega) (Nat.le_of_ble_eq_true rfl) ?_
  refine j_aload_n d_B_init_4 rfl ?_
  refine j_new (mc := 25) (ms := 546) d_B_init_5 n_B_9 rfl ?_
  refine j_dup d_B_init_8 rfl ?_
  refine j_hp (h' := hC2) rfl ?_
  refine j_retV' (mc := 21) (ms := 522) (j_callI d_B_init_9 i_F_init l_B_11 rfl (m_F_init_33 K (d - 1) (by omega)) (by omega) (by decide) (Nat.le_of_ble_eq_true rfl) rfl) rfl ?_
  refine j_putF d_B_init_12 f_B_12 rfl g_B_12 (fun _ _ _ q => by cases q; rfl) rfl (by decide) rfl rfl rfl ?_
  refine j_aload_n d_B_init_15 rfl ?_
  refine j_new (mc := 20) (ms := 519) d_B_init_16 n_B_16 rfl ?_
  refine j_dup d_B_init_19 rfl ?_
  refine j_hp (h' := hC4) rfl ?_
  refine j_retV' (mc := 19) (ms := 487) (j_callI d_B_init_20 i_W_init l_B_18 rfl (m_W_init_38 K (d - 1) (by omega)) (by omega) (by decide) (Nat.le_of_ble_eq_true rfl) rfl) rfl ?_
  refine j_putF d_B_init_23 f_B_19 rfl g_B_19 (fun _ _ _ q => by cases q; rfl) rfl (by decide) rfl rfl rfl ?_
  refine j_aload_n d_B_init_26 rfl ?_
  refine j_new (mc := 18) (ms := 485) d_B_init_27 n_B_23 rfl ?_
  refine j_dup d_B_init_30 rfl ?_
  refine j_hp (h' := hC6) rfl ?_
  refine j_retV' (mc := 17) (ms := 385) (j_callI d_B_init_31 i_T_init l_B_25 rfl (m_T_init_40 K (d - 1) (by omega)) (by omega) (by decide) (Nat.le_of_ble_eq_true rfl) rfl) rfl ?_
  refine j_putF d_B_init_34 f_B_26 rfl g_B_26 (fun _ _ _ q => by cases q; rfl) rfl (by decide) rfl rfl rfl ?_
  refine j_aload_n d_B_init_37 rfl ?_
  refine j_new (mc := 16) (ms := 374) d_B_init_38 n_B_30 rfl ?_
  refine j_dup d_B_init_41 rfl ?_
  refine j_aload_n d_B_init_42 rfl ?_
  refine j_getf d_B_init_43 f_B_12 rfl rfl ?_
  refine j_aload_n d_B_init_46 rfl ?_
  refine j_getf d_B_init_47 f_B_19 rfl rfl ?_
  refine j_aload_n d_B_init_50 rfl ?_
  refine j_getf d_B_init_51 f_B_26 rfl rfl ?_
  refine j_hp (h' := hC8) rfl ?_
  refine j_retV' (mc := 1) (ms := 32) (j_callI d_B_init_54 i_S_init l_B_32 rfl (m_S_init_42 K (d - 1) (by omega)) (by omega) (by decide) (Nat.le_of_ble_eq_true rfl) rfl) rfl ?_
  refine j_putF d_B_init_57 f_B_35 rfl g_B_35 (fun _ _ _ q => by cases q; rfl) rfl (by decide) rfl rfl rfl ?_
  refine j_aload_n d_B_init_60 rfl ?_
  refine j_bipush (v := 32) d_B_init_61 (by decide) ?_
  refine j_new_int (mc := 0) (ms := 0) (N := 32) d_B_init_63 (by decide) (by decide) (by decide) ?_
  refine j_putF d_B_init_65 f_B_39 rfl g_B_39 (fun _ _ _ q => by cases q; rfl) rfl (by decide) rfl rfl rfl ?_
  exact j_vret rfl d_B_init_68 ⟨rfl, rfl⟩
abbrev hC35 : jH := [.inr (0, [.ref 33, .ref 38, .ref 40, .ref 42, .ref 58, .int 0, .int 0]), .inr (1, [.ref 34, .ref 35, .ref 36, .ref 37, .int 0, .int 0]), .inl (1, 6, .inl (fun _ => 0)), .inl (0, 6, .inl (fun _ => 0)), .inl (0, 6, .inl (fun _ => 0)), .inl (2, 6, .inl (fun _ => 0)), .inr (2, [.ref 39, .int 0, .int 0]), .inl (0, 32, .inl (fun _ => 0)), .inr (3, [.ref 41, .int 0]), .inl (1, 100, .inl (fun _ => 0)), .inr (8, [.ref 33, .ref 38, .ref 43, .ref 47, .ref 50, .ref 54, .int 0, .ref 7, .int 0, .int 0, .int (-1)]), .inr (4, [.ref 40, .ref 44, .ref 45, .ref 46, .int 0, .int 0]), .inl (1, 101, .inl (fun _ => 0)), .inl (0, 101, .inl (fun _ => 0)), .inl (0, 101, .inl (fun _ => 0)), .inr (6, [.ref 48, .ref 49, .int 32]), .inr (5, [.ref 33, .int (-1), .int 0]), .inr (5, [.ref 33, .int (-1), .int 0]), .inr (7, [.ref 33, .ref 51, .int 0]), .inr (6, [.ref 52, .ref 53, .int 32]), .inr (5, [.ref 33, .int (-1), .int 0]), .inr (5, [.ref 33, .int (-1), .int 0]), .inr (7, [.ref 33, .ref 55, .int 0]), .inr (6, [.ref 56, .ref 57, .int 32]), .inr (5, [.ref 33, .int (-1), .int 0]), .inr (5, [.ref 33, .int (-1), .int 0]), .inl (0, 32, .inl (fun _ => 0)), .inr (9, [.int 0, .null, .null, .null, .int 0, .null, .null, .null, .null, .int 0, .null, .int 0, .int 0, .int 0, .null, .int 0, .int 0, .int 0, .int 0, .long 0, .int 0, .null, .null, .int 0, .null, .int 0, .int 0, .int 0, .int 0, .int 0, .null, .null, .null, .null, .null, .null, .int 0, .null])]
abbrev hC36 : jH := [.inr (0, [.ref 33, .ref 38, .ref 40, .ref 42, .ref 58, .int 0, .int 0]), .inr (1, [.ref 34, .ref 35, .ref 36, .ref 37, .int 0, .int 0]), .inl (1, 6, .inl (fun _ => 0)), .inl (0, 6, .inl (fun _ => 0)), .inl (0, 6, .inl (fun _ => 0)), .inl (2, 6, .inl (fun _ => 0)), .inr (2, [.ref 39, .int 0, .int 0]), .inl (0, 32, .inl (fun _ => 0)), .inr (3, [.ref 41, .int 0]), .inl (1, 100, .inl (fun _ => 0)), .inr (8, [.ref 33, .ref 38, .ref 43, .ref 47, .ref 50, .ref 54, .int 0, .ref 7, .int 0, .int 0, .int (-1)]), .inr (4, [.ref 40, .ref 44, .ref 45, .ref 46, .int 0, .int 0]), .inl (1, 101, .inl (fun _ => 0)), .inl (0, 101, .inl (fun _ => 0)), .inl (0, 101, .inl (fun _ => 0)), .inr (6, [.ref 48, .ref 49, .int 32]), .inr (5, [.ref 33, .int (-1), .int 0]), .inr (5, [.ref 33, .int (-1), .int 0]), .inr (7, [.ref 33, .ref 51, .int 0]), .inr (6, [.ref 52, .ref 53, .int 32]), .inr (5, [.ref 33, .int (-1), .int 0]), .inr (5, [.ref 33, .int (-1), .int 0]), .inr (7, [.ref 33, .ref 55, .int 0]), .inr (6, [.ref 56, .ref 57, .int 32]), .inr (5, [.ref 33, .int (-1), .int 0]), .inr (5, [.ref 33, .int (-1), .int 0]), .inl (0, 32, .inl (fun _ => 0)), .inr (9, [.int 0, .ref 60, .ref 61, .ref 62, .int 0, .ref 63, .ref 64, .ref 65, .ref 66, .int 0, .ref 67, .int (-1), .int 0, .int 0, .ref 68, .int 0, .int 0, .int 0, .int 0, .long 0, .int 0, .ref 69, .ref 70, .int 0, .ref 71, .int 0, .int 0, .int 0, .int 0, .int 0, .ref 72, .ref 73, .ref 74, .ref 75, .ref 76, .ref 77, .int 0, .ref 78]), .inl (2, 32, .inl (fun _ => 0)), .inl (0, 32, .inl (fun _ => 0)), .inl (2, 32, .inl (fun _ => 0)), .inl (1, 6, .inl (fun _ => 0)), .inl (0, 6, .inl (fun _ => 0)), .inl (0, 6, .inl (fun _ => 0)), .inl (2, 6, .inl (fun _ => 0)), .inl (1, 100, .inl (fun _ => 0)), .inl (0, 32, .inl (fun _ => 0)), .inl (0, 120, .inl (fun _ => 0)), .inl (0, 120, .inl (fun _ => 0)), .inl (0, 120, .inl (fun _ => 0)), .inl (0, 2, .inl (fun _ => 0)), .inl (0, 2, .inl (fun _ => 0)), .inl (0, 2, .inl (fun _ => 0)), .inl (0, 2, .inl (fun _ => 0)), .inl (0, 2, .inl (fun _ => 0)), .inl (0, 2, .inl (fun _ => 0)), .inl (0, 120, .inl (fun _ => 0))]
theorem m_M_init_59 (K : jK) (d : Nat) (hd : 2 ≤ d) : jM K M_M_init d [.ref 59] hC35 (rV hC36) 19 744 := by
  refine jM.of (by decide) (Nat.le_of_ble_eq_true rfl) ?_
  refine j_aload_n d_M_init_0 rfl ?_
  refine j_objInit d_M_init_1 l_M_1 o_inst o_code (by omega) (Nat.le_of_ble_eq_true rfl) ?_
  refine j_aload_n d_M_init_4 rfl ?_
  refine j_bipush (v := 32) d_M_init_5 (by decide) ?_
  refine j_new_boolean (mc := 18) (ms := 712) (N := 32) d_M_init_7 (by decide) (by decide) (by decide) ?_
  refine j_putF d_M_init_9 f_M_7 rfl g_M_7 (fun _ _ _ q => by cases q; rfl) rfl (by decide) rfl rfl rfl ?_
  refine j_aload_n d_M_init_12 rfl ?_
  refine j_bipush (v := 32) d_M_init_13 (by decide) ?_
  refine j_new_int (mc := 17) (ms := 680) (N := 32) d_M_init_15 (by decide) (by decide) (by decide) ?_
  refine j_putF d_M_init_17 f_M_13 rfl g_M_13 (fun _ _ _ q => by cases q; rfl) rfl (by decide) rfl rfl rfl ?_
  refine j_aload_n d_M_init_20 rfl ?_
  refine j_bipush (v := 32) d_M_init_21 (by decide) ?_
  refine j_new_boolean (mc := 16) (ms := 648) (N := 32) d_M_init_23 (by decide) (by decide) (by decide) ?_
  refine j_putF d_M_init_25 f_M_17 rfl g_M_17 (fun _ _ _ q => by cases q; rfl) rfl (by decide) rfl rfl rfl ?_
  refine j_aload_n d_M_init_28 rfl ?_
  refine j_bipush (v := 6) d_M_init_29 (by decide) ?_
  refine j_new_char (mc := 15) (ms := 642) (N := 6) d_M_init_31 (by decide) (by decide) (by decide) ?_
  refine j_putF d_M_init_33 f_M_20 rfl g_M_20 (fun _ _ _ q => by cases q; rfl) rfl (by decide) rfl rfl rfl ?_
  refine j_aload_n d_M_init_36 rfl ?_
  refine j_bipush (v := 6) d_M_init_37 (by decide) ?_
  refine j_new_int (mc := 14) (ms := 636) (N := 6) d_M_init_39 (by decide) (by decide) (by decide) ?_
  refine j_putF d_M_init_41 f_M_24 rfl g_M_24 (fun _ _ _ q => by cases q; rfl) rfl (by decide) rfl rfl rfl ?_
  refine j_aload_n d_M_init_44 rfl ?_
  refine j_bipush (v := 6) d_M_init_45 (by decide) ?_
  refine j_new_int (mc := 13) (ms := 630) (N := 6) d_M_init_47 (by decide) (by decide) (by decide) ?_
  refine j_putF d_M_init_49 f_M_27 rfl g_M_27 (fun _ _ _ q => by cases q; rfl) rfl (by decide) rfl rfl rfl ?_
  refine j_aload_n d_M_init_52 rfl ?_
  refine j_bipush (v := 6) d_M_init_53 (by decide) ?_
  refine j_new_boolean (mc := 12) (ms := 624) (N := 6) d_M_init_55 (by decide) (by decide) (by decide) ?_
  refine j_putF d_M_init_57 f_M_30 rfl g_M_30 (fun _ _ _ q => by cases q; rfl) rfl (by decide) rfl rfl rfl ?_
  refine j_aload_n d_M_init_60 rfl ?_
  refine j_bipush (v := 100) d_M_init_61 (by decide) ?_
  refine j_new_char (mc := 11) (ms := 524) (N := 100) d_M_init_63 (by decide) (by decide) (by decide) ?_
  refine j_putF d_M_init_65 f_M_33 rfl g_M_33 (fun _ _ _ q => by cases q; rfl) rfl (by decide) rfl rfl rfl ?_
  refine j_aload_n d_M_init_68 rfl ?_
  refine j_iconst (v := -1) d_M_init_69 rfl ?_
  refine j_putf d_M_init_70 f_M_36 rfl (Nat.le_of_ble_eq_true rfl) rfl rfl rfl ?_
  refine j_aload_n d_M_init_73 rfl ?_
  refine j_bipush (v := 32) d_M_init_74 (by decide) ?_
  refine j_new_int (mc := 10) (ms := 492) (N := 32) d_M_init_76 (by decide) (by decide) (by decide) ?_
  refine j_putF d_M_init_78 f_M_40 rfl g_M_40 (fun _ _ _ q => by cases q; rfl) rfl (by decide) rfl rfl rfl ?_
  refine j_aload_n d_M_init_81 rfl ?_
  refine j_bipush (v := 120) d_M_init_82 (by decide) ?_
  refine j_new_int (mc := 9) (ms := 372) (N := 120) d_M_init_84 (by decide) (by decide) (by decide) ?_
  refine j_putF d_M_init_86 f_M_43 rfl g_M_43 (fun _ _ _ q => by cases q; rfl) rfl (by decide) rfl rfl rfl ?_
  refine j_aload_n d_M_init_89 rfl ?_
  refine j_bipush (v := 120) d_M_init_90 (by decide) ?_
  refine j_new_int (mc := 8) (ms := 252) (N := 120) d_M_init_92 (by decide) (by decide) (by decide) ?_
  refine j_putF d_M_init_94 f_M_46 rfl g_M_46 (fun _ _ _ q => by cases q; rfl) rfl (by decide) rfl rfl rfl ?_
  refine j_aload_n d_M_init_97 rfl ?_
  refine j_bipush (v := 120) d_M_init_98 (by decide) ?_
  refine j_new_int (mc := 7) (ms := 132) (N := 120) d_M_init_100 (by decide) (by decide) (by decide) ?_
  refine j_putF d_M_init_102 f_M_49 rfl g_M_49 (fun _ _ _ q => by cases q; rfl) rfl (by decide) rfl rfl rfl ?_
  refine j_aload_n d_M_init_105 rfl ?_
  refine j_iconst (v := 2) d_M_init_106 rfl ?_
  refine j_new_int (mc := 6) (ms := 130) (N := 2) d_M_init_107 (by decide) (by decide) (by decide) ?_
  refine j_putF d_M_init_109 f_M_52 rfl g_M_52 (fun _ _ _ q => by cases q; rfl) rfl (by decide) rfl rfl rfl ?_
  refine j_aload_n d_M_init_112 rfl ?_
  refine j_iconst (v := 2) d_M_init_113 rfl ?_
  refine j_new_int (mc := 5) (ms := 128) (N := 2) d_M_init_114 (by decide) (by decide) (by decide) ?_
  refine j_putF d_M_init_116 f_M_55 rfl g_M_55 (fun _ _ _ q => by cases q; rfl) rfl (by decide) rfl rfl rfl ?_
  refine j_aload_n d_M_init_119 rfl ?_
  refine j_iconst (v := 2) d_M_init_120 rfl ?_
  refine j_new_int (mc := 4) (ms := 126) (N := 2) d_M_init_121 (by decide) (by decide) (by decide) ?_
  refine j_putF d_M_init_123 f_M_58 rfl g_M_58 (fun _ _ _ q => by cases q; rfl) rfl (by decide) rfl rfl rfl ?_
  refine j_aload_n d_M_init_126 rfl ?_
  refine j_iconst (v := 2) d_M_init_127 rfl ?_
  refine j_new_int (mc := 3) (ms := 124) (N := 2) d_M_init_128 (by decide) (by decide) (by decide) ?_
  refine j_putF d_M_init_130 f_M_61 rfl g_M_61 (fun _ _ _ q => by cases q; rfl) rfl (by decide) rfl rfl rfl ?_
  refine j_aload_n d_M_init_133 rfl ?_
  refine j_iconst (v := 2) d_M_init_134 rfl ?_
  refine j_new_int (mc := 2) (ms := 122) (N := 2) d_M_init_135 (by decide) (by decide) (by decide) ?_
  refine j_putF d_M_init_137 f_M_64 rfl g_M_64 (fun _ _ _ q => by cases q; rfl) rfl (by decide) rfl rfl rfl ?_
  refine j_aload_n d_M_init_140 rfl ?_
  refine j_iconst (v := 2) d_M_init_141 rfl ?_
  refine j_new_int (mc := 1) (ms := 120) (N := 2) d_M_init_142 (by decide) (by decide) (by decide) ?_
  refine j_putF d_M_init_144 f_M_67 rfl g_M_67 (fun _ _ _ q => by cases q; rfl) rfl (by decide) rfl rfl rfl ?_
  refine j_aload_n d_M_init_147 rfl ?_
  refine j_bipush (v := 120) d_M_init_148 (by decide) ?_
  refine j_new_int (mc := 0) (ms := 0) (N := 120) d_M_init_150 (by decide) (by decide) (by decide) ?_
  refine j_putF d_M_init_152 f_M_70 rfl g_M_70 (fun _ _ _ q => by cases q; rfl) rfl (by decide) rfl rfl rfl ?_
  exact j_vret rfl d_M_init_155 ⟨rfl, rfl⟩
/-- the first state -/
def jS0 : jS := (fun i => if i = 10 ∨ i = 14 ∨ i = 16 ∨ i = 20 ∨ i = 22 ∨ i = 26 ∨ i = 28 ∨ i = 33 then -1 else if i = 13 ∨ i = 19 ∨ i = 25 then 32 else 0, fun _ _ => 0, 0, fun _ => 0, 7)
theorem lay_0 : [.inr (0, [.ref 33, .ref 38, .ref 40, .ref 42, .ref 58, .int 0, .int 0]), .inr (1, [.ref 34, .ref 35, .ref 36, .ref 37, .int 0, .int 0]), .inl (1, 6, .inl (fun _ => 0)), .inl (0, 6, .inl (fun _ => 0)), .inl (0, 6, .inl (fun _ => 0)), .inl (2, 6, .inl (fun _ => 0)), .inr (2, [.ref 39, .int 0, .int 0]), .inl (0, 32, .inl (fun _ => 0)), .inr (3, [.ref 41, .int 0]), .inl (1, 100, .inl (fun _ => 0)), .inr (8, [.ref 33, .ref 38, .ref 43, .ref 47, .ref 50, .ref 54, .int 0, .ref 7, .int 0, .int 0, .int (-1)]), .inr (4, [.ref 40, .ref 44, .ref 45, .ref 46, .int 0, .int 0]), .inl (1, 101, .inl (fun _ => 0)), .inl (0, 101, .inl (fun _ => 0)), .inl (0, 101, .inl (fun _ => 0)), .inr (6, [.ref 48, .ref 49, .int 32]), .inr (5, [.ref 33, .int (-1), .int 0]), .inr (5, [.ref 33, .int (-1), .int 0]), .inr (7, [.ref 33, .ref 51, .int 0]), .inr (6, [.ref 52, .ref 53, .int 32]), .inr (5, [.ref 33, .int (-1), .int 0]), .inr (5, [.ref 33, .int (-1), .int 0]), .inr (7, [.ref 33, .ref 55, .int 0]), .inr (6, [.ref 56, .ref 57, .int 32]), .inr (5, [.ref 33, .int (-1), .int 0]), .inr (5, [.ref 33, .int (-1), .int 0]), .inl (0, 32, .inl (fun _ => 0)), .inr (9, [.int 0, .ref 60, .ref 61, .ref 62, .int 0, .ref 63, .ref 64, .ref 65, .ref 66, .int 0, .ref 67, .int (-1), .int 0, .int 0, .ref 68, .int 0, .int 0, .int 0, .int 0, .long 0, .int 0, .ref 69, .ref 70, .int 0, .ref 71, .int 0, .int 0, .int 0, .int 0, .int 0, .ref 72, .ref 73, .ref 74, .ref 75, .ref 76, .ref 77, .int 0, .ref 78]), .inl (2, 32, .inl (fun _ => 0)), .inl (0, 32, .inl (fun _ => 0)), .inl (2, 32, .inl (fun _ => 0)), .inl (1, 6, .inl (fun _ => 0)), .inl (0, 6, .inl (fun _ => 0)), .inl (0, 6, .inl (fun _ => 0)), .inl (2, 6, .inl (fun _ => 0)), .inl (1, 100, .inl (fun _ => 0)), .inl (0, 32, .inl (fun _ => 0)), .inl (0, 120, .inl (fun _ => 0)), .inl (0, 120, .inl (fun _ => 0)), .inl (0, 120, .inl (fun _ => 0)), .inl (0, 2, .inl (fun _ => 0)), .inl (0, 2, .inl (fun _ => 0)), .inl (0, 2, .inl (fun _ => 0)), .inl (0, 2, .inl (fun _ => 0)), .inl (0, 2, .inl (fun _ => 0)), .inl (0, 2, .inl (fun _ => 0)), .inl (0, 120, .inl (fun _ => 0))] ++ [.inl (3, 1, .inr (.inl (fun _ => 0)))] = lay jS0 := rfl
-- cells 26 + 19, slots 552 + 744
