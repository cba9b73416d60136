/-! BitLoom$Text -/
theorem m_T_codeOf (K : jK) (d : Nat) (h : jH) (x : Int64) (i : Nat) : jM K M_T_codeOf d [.long x, .int (nI i)] (h) (rI (cd x i) h) 0 0 := by
  refine jM.of (by decide) (Nat.le_of_ble_eq_true rfl) ?_
  refine j_lload_n d_T_codeOf_0 rfl ?_
  refine j_bipush (v := 8) d_T_codeOf_1 (by decide) ?_
  refine j_iload_n d_T_codeOf_3 rfl ?_
  refine j_imul d_T_codeOf_4 ?_
  refine j_lushr d_T_codeOf_5 ?_
  refine j_ldc2 d_T_codeOf_6 c_T_23 ?_
  refine j_land d_T_codeOf_9 ?_
  refine j_l2i d_T_codeOf_10 ?_
  exact j_iret rfl d_T_codeOf_11 ⟨rfl, rfl⟩
theorem m_T_length (K : jK) (d : Nat) (S : jS) (J : jH) : jM K M_T_length d [.ref 40] (lay S ++ J) (rI (S.1 6) (lay S ++ J)) 0 0 := by
  refine jM.of (by decide) (Nat.le_of_ble_eq_true rfl) ?_
  refine j_aload_n d_T_length_0 rfl ?_
  refine j_getf d_T_length_1 f_T_15 rfl rfl ?_
  exact j_iret rfl d_T_length_4 ⟨rfl, rfl⟩
theorem m_T_clear (K : jK) (d : Nat) (S : jS) (J : jH) : jM K M_T_clear d [.ref 40] (lay S ++ J) (rV (lay (s1 S 6 0) ++ J)) 0 0 := by
  refine jM.of (by decide) (Nat.le_of_ble_eq_true rfl) ?_
  refine j_aload_n d_T_clear_0 rfl ?_
  refine j_iconst (v := 0) d_T_clear_1 rfl ?_
  refine j_putf d_T_clear_2 f_T_15 rfl (Nat.le_of_ble_eq_true rfl) rfl rfl rfl ?_
  exact j_vret rfl d_T_clear_5 ⟨rfl, rfl⟩
def chOk (f : Nat → Int32) : Prop := ∀ j, narrow .char (.int (f j)) = .int (f j)
theorem m_T_at (K : jK) (d : Nat) (S : jS) (J : jH) (n j : Nat) (hn : S.1 6 = nI n) (h100 : n ≤ 100) (hj : j < 2 ^ 31) (hc : chOk (S.2.1 5)) : jM K M_T_at d [.ref 40, .int (nI j)] (lay S ++ J) (rI (if j < n then S.2.1 5 j else 0) (lay S ++ J)) 0 0 := by
  refine jM.of (by decide) (Nat.le_of_ble_eq_true rfl) ?_
  refine j_iload_n d_T_at_0 rfl ?_
  refine j_if_ltF (tgt := 21) d_T_at_1 rfl (nI_pos hj) ?_
  refine j_iload_n d_T_at_4 rfl ?_
  refine j_aload_n d_T_at_5 rfl ?_
  refine j_getf d_T_at_6 f_T_15 rfl rfl ?_
  by_cases hl : j < n
  · refine j_icmp_geF (tgt := 21) d_T_at_9 rfl (by rw [hn]; exact nI_ge hl (by omega)) ?_
    refine j_aload_n d_T_at_12 rfl ?_
    refine j_getf d_T_at_13 f_T_9 rfl rfl ?_
    refine j_iload_n d_T_at_16 rfl ?_
    refine j_cald d_T_at_17 rfl (show j < 100 by omega) (by decide) ?_
    refine j_goto (tgt := 22) d_T_at_18 rfl ?_
    exact j_zret rfl (hc j) d_T_at_22 ⟨by rw [if_pos hl], rfl⟩
  · refine j_icmp_geT (tgt := 21) d_T_at_9 rfl (by rw [hn]; exact nI_le (by omega) hj) ?_
    refine j_iconst (v := 0) d_T_at_21 rfl ?_
    exact j_zret rfl rfl d_T_at_22 ⟨by rw [if_neg hl], rfl⟩
theorem m_T_canTake (K : jK) (d : Nat) (hd : 1 ≤ d) (S : jS) (J : jH) (x : Int64) (n : Nat) (hn : S.1 6 = nI n) (h100 : n ≤ 100) : jM K M_T_canTake d [.ref 40, .long x] (lay S ++ J) (rI (canT x n) (lay S ++ J)) 0 0 := by
  refine jM.of (by decide) (Nat.le_of_ble_eq_true rfl) ?_
  have loop : ∀ k i m, i + k = 8 → m ≤ i → ctk x 8 0 0 = ctk x k i m → jE K M_T_canTake d 5 [(0, .ref 40), (1, .long x), (3, .int (nI m)), (4, .int (nI i))] [] (lay S ++ J) (rI (canT x n) (lay S ++ J)) 0 0 := by
    intro k
    induction k with
    | zero =>
      intro i m hi hm he
      refine j_iload d_T_canTake_5 rfl ?_
      refine j_bipush (v := 8) d_T_canTake_7 (by decide) ?_
      refine j_icmp_geT (tgt := 50) d_T_canTake_9 rfl (show nI 8 ≤ nI i from nI_le (by omega) (by omega)) ?_
      refine j_aload_n d_T_canTake_50 rfl ?_
      refine j_getf d_T_canTake_51 f_T_15 rfl rfl ?_
      refine j_top (w := .int (nI n)) (congrArg Value.int hn) ?_
      refine j_iload_n d_T_canTake_54 rfl ?_
      refine j_iadd d_T_canTake_55 ?_
      refine j_top (w := .int (nI (n + m))) (congrArg Value.int (nI_add n m)) ?_
      refine j_bipush (v := 100) d_T_canTake_56 (by decide) ?_
      by_cases hl : n + m ≤ 100
      · refine j_icmp_gtF (tgt := 65) d_T_canTake_58 rfl (show ¬ nI 100 < nI (n + m) from nI_nlt (by omega) (by omega)) ?_
        refine j_iconst (v := 1) d_T_canTake_61 rfl ?_
        refine j_goto (tgt := 66) d_T_canTake_62 rfl ?_
        exact j_zret rfl rfl d_T_canTake_66 ⟨by rw [canT, he, ctk]; simp [hl], rfl⟩
      · refine j_icmp_gtT (tgt := 65) d_T_canTake_58 rfl (show nI 100 < nI (n + m) from nI_lt (by omega) (by omega)) ?_
        refine j_iconst (v := 0) d_T_canTake_65 rfl ?_
        exact j_zret rfl rfl d_T_canTake_66 ⟨by rw [canT, he, ctk]; simp [hl], rfl⟩
    | succ k ih =>
      intro i m hi hm he
      refine j_iload d_T_canTake_5 rfl ?_
      refine j_bipush (v := 8) d_T_canTake_7 (by decide) ?_
      refine j_icmp_geF (tgt := 50) d_T_canTake_9 rfl (show ¬ nI 8 ≤ nI i from nI_ge (by omega) (by omega)) ?_
      refine j_lload_n d_T_canTake_12 rfl ?_
      refine j_iload d_T_canTake_13 rfl ?_
      refine j_retI (j_callS d_T_canTake_15 s_T_codeOf l_T_19 rfl (m_T_codeOf K (d - 1) _ x i) (by omega) (by decide) (Nat.le_of_ble_eq_true rfl) rfl) rfl ?_
      refine j_istore d_T_canTake_18 (by decide) ?_
      refine j_iload d_T_canTake_20 rfl ?_
      refine j_if_eq (tgt := 44) d_T_canTake_22 rfl (fun hc => ?_) (fun hc => ?_)
      · refine j_iincN d_T_canTake_44 rfl (by decide) ?_
        refine j_goto (tgt := 5) d_T_canTake_47 rfl ?_
        exact j_loc' [(0, .ref 40), (1, .long x), (3, .int (nI m)), (4, .int (nI (i + 1)))] ⟨rfl, rfl, rfl, rfl, trivial⟩ (ih (i + 1) m (by omega) (by omega) (by rw [he, ctk, if_pos hc]))
      · refine j_iload d_T_canTake_25 rfl ?_
        refine j_bipush (v := 32) d_T_canTake_27 (by decide) ?_
        refine j_icmp_lt (tgt := 39) d_T_canTake_29 rfl (fun h2 => ?_) (fun h2 => ?_)
        · refine j_iconst (v := 0) d_T_canTake_39 rfl ?_
          exact j_zret rfl rfl d_T_canTake_40 ⟨by rw [canT, he, ctk, if_neg hc, if_pos h2], rfl⟩
        · refine j_iload d_T_canTake_32 rfl ?_
          refine j_bipush (v := 126) d_T_canTake_34 (by decide) ?_
          refine j_icmp_le (tgt := 41) d_T_canTake_36 rfl (fun h3 => ?_) (fun h3 => ?_)
          · refine j_iincN d_T_canTake_41 rfl (by decide) ?_
            refine j_iincN d_T_canTake_44 rfl (by decide) ?_
            refine j_goto (tgt := 5) d_T_canTake_47 rfl ?_
            exact j_loc' [(0, .ref 40), (1, .long x), (3, .int (nI (m + 1))), (4, .int (nI (i + 1)))] ⟨rfl, rfl, rfl, rfl, trivial⟩ (ih (i + 1) (m + 1) (by omega) (by omega) (by rw [he, ctk, if_neg hc, if_neg h2, if_pos h3]))
          · refine j_iconst (v := 0) d_T_canTake_39 rfl ?_
            exact j_zret rfl rfl d_T_canTake_40 ⟨by rw [canT, he, ctk, if_neg hc, if_neg h2, if_neg h3], rfl⟩
  refine j_iconst (v := 0) d_T_canTake_0 rfl ?_
  refine j_istore_n d_T_canTake_1 (by decide) ?_
  refine j_iconst (v := 0) d_T_canTake_2 rfl ?_
  refine j_istore d_T_canTake_3 (by decide) ?_
  exact j_loc' [(0, .ref 40), (1, .long x), (3, .int (nI 0)), (4, .int (nI 0))] ⟨rfl, rfl, rfl, rfl, trivial⟩ (loop 8 0 0 rfl (by omega) rfl)
theorem m_T_append (K : jK) (d : Nat) (hd : 1 ≤ d) (S : jS) (J : jH) (x : Int64) (n : Nat) (hn : S.1 6 = nI n) (h100 : n ≤ 100) : jM K M_T_append d [.ref 40, .long x] (lay S ++ J) (rV (lay (s1 (s2 S 5 (apT x 8 0 (n, S.2.1 5)).2) 6 (nI (apT x 8 0 (n, S.2.1 5)).1)) ++ J)) 0 0 := by
  refine jM.of (by decide) (Nat.le_of_ble_eq_true rfl) ?_
  have loop : ∀ k i (q : Nat × (Nat → Int32)), i + k = 8 → q.1 ≤ 100 → apT x 8 0 (n, S.2.1 5) = apT x k i q → jE K M_T_append d 2 [(0, .ref 40), (1, .long x), (3, .int (nI i))] [] (lay (s1 (s2 S 5 q.2) 6 (nI q.1)) ++ J) (rV (lay (s1 (s2 S 5 (apT x 8 0 (n, S.2.1 5)).2) 6 (nI (apT x 8 0 (n, S.2.1 5)).1)) ++ J)) 0 0 := by
    intro k
    induction k with
    | zero =>
      intro i q hi hq he
      refine j_iload_n d_T_append_2 rfl ?_
      refine j_bipush (v := 8) d_T_append_3 (by decide) ?_
      refine j_icmp_geT (tgt := 57) d_T_append_5 rfl (show nI 8 ≤ nI i from nI_le (by omega) (by omega)) ?_
      exact j_vret rfl d_T_append_57 ⟨rfl, by rw [he]; rfl⟩
    | succ k ih =>
      intro i q hi hq he
      refine j_iload_n d_T_append_2 rfl ?_
      refine j_bipush (v := 8) d_T_append_3 (by decide) ?_
      refine j_icmp_geF (tgt := 57) d_T_append_5 rfl (show ¬ nI 8 ≤ nI i from nI_ge (by omega) (by omega)) ?_
      refine j_lload_n d_T_append_8 rfl ?_
      refine j_iload_n d_T_append_9 rfl ?_
      refine j_retI (j_callS d_T_append_10 s_T_codeOf l_T_19 rfl (m_T_codeOf K (d - 1) _ x i) (by omega) (by decide) (Nat.le_of_ble_eq_true rfl) rfl) rfl ?_
      refine j_istore d_T_append_13 (by decide) ?_
      refine j_iload d_T_append_15 rfl ?_
      refine j_if_eq (tgt := 51) d_T_append_17 rfl (fun hc => ?_) (fun hc => ?_)
      · refine j_iincN d_T_append_51 rfl (by decide) ?_
        refine j_goto (tgt := 2) d_T_append_54 rfl ?_
        exact j_loc' [(0, .ref 40), (1, .long x), (3, .int (nI (i + 1)))] ⟨rfl, rfl, rfl, trivial⟩ (ih (i + 1) q (by omega) hq (by rw [he, apT, if_pos hc]))
      · refine j_aload_n d_T_append_20 rfl ?_
        refine j_getf d_T_append_21 f_T_15 rfl rfl ?_
        refine j_top (w := .int (nI q.1)) rfl ?_
        refine j_bipush (v := 100) d_T_append_24 (by decide) ?_
        by_cases hl : 100 ≤ q.1
        · refine j_icmp_geT (tgt := 51) d_T_append_26 rfl (show nI 100 ≤ nI q.1 from nI_le hl (by omega)) ?_
          refine j_iincN d_T_append_51 rfl (by decide) ?_
          refine j_goto (tgt := 2) d_T_append_54 rfl ?_
          exact j_loc' [(0, .ref 40), (1, .long x), (3, .int (nI (i + 1)))] ⟨rfl, rfl, rfl, trivial⟩ (ih (i + 1) q (by omega) hq (by rw [he, apT, if_neg hc, if_pos hl]))
        · refine j_icmp_geF (tgt := 51) d_T_append_26 rfl (show ¬ nI 100 ≤ nI q.1 from nI_ge (by omega) (by omega)) ?_
          refine j_aload_n d_T_append_29 rfl ?_
          refine j_getf d_T_append_30 f_T_9 rfl rfl ?_
          refine j_aload_n d_T_append_33 rfl ?_
          refine j_getf d_T_append_34 f_T_15 rfl rfl ?_
          refine j_top (w := .int (nI q.1)) rfl ?_
          refine j_iload d_T_append_37 rfl ?_
          refine j_i2c d_T_append_39 ?_
          obtain ⟨c, hc256, hce⟩ := cd_nI x i
          refine j_top (w := .int (cd x i)) (by rw [hce, nI_i2c (by omega)]) ?_
          refine j_cast d_T_append_40 rfl (show q.1 < 100 by omega) (by decide) (by rw [hce]; exact (pk_charN (by omega)).1) rfl ?_
          refine j_aload_n d_T_append_41 rfl ?_
          refine j_dup d_T_append_42 rfl ?_
          refine j_getf d_T_append_43 f_T_15 rfl rfl ?_
          refine j_top (w := .int (nI q.1)) rfl ?_
          refine j_iconst (v := 1) d_T_append_46 rfl ?_
          refine j_iadd d_T_append_47 ?_
          refine j_top (w := .int (nI (q.1 + 1))) (by rw [nI_succ]) ?_
          refine j_putf d_T_append_48 f_T_15 rfl (Nat.le_of_ble_eq_true rfl) rfl rfl rfl ?_
          refine j_iincN d_T_append_51 rfl (by decide) ?_
          refine j_goto (tgt := 2) d_T_append_54 rfl ?_
          exact j_loc' [(0, .ref 40), (1, .long x), (3, .int (nI (i + 1)))] ⟨rfl, rfl, rfl, trivial⟩ (ih (i + 1) (q.1 + 1, upd q.2 q.1 (cd x i)) (by omega) (by show q.1 + 1 ≤ 100; omega) (by rw [he, apT, if_neg hc, if_neg hl]))
  refine j_iconst (v := 0) d_T_append_0 rfl ?_
  refine j_istore_n d_T_append_1 (by decide) ?_
  refine j_hp (h' := lay (s1 (s2 S 5 (n, S.2.1 5).2) 6 (nI (n, S.2.1 5).1)) ++ J) (by
    rw [show (s1 (s2 S 5 (n, S.2.1 5).2) 6 (nI (n, S.2.1 5).1)) = S by
      rw [← hn]
      obtain ⟨S1, S2, S3⟩ := S
      simp only [s1, s2, Prod.mk.injEq]
      exact ⟨by funext j; by_cases hj : j = 6 <;> simp [va_up, hj], by funext j; by_cases hj : j = 5 <;> simp [va_up, hj], trivial⟩]) ?_
  exact j_loc' [(0, .ref 40), (1, .long x), (3, .int (nI 0))] ⟨rfl, rfl, rfl, trivial⟩ (loop 8 0 (n, S.2.1 5) rfl h100 rfl)
