/-! BitLoom$Tokens.cut, and what is asked of the token that is looked at -/
/-- the state with these tokens, looked at from the first -/
abbrev tkS (S : jS) (c a : Int32) (f6 f7 f8 : Nat → Int32) : jS := s2 (s2 (s2 (s1 (s1 S 11 c) 12 a) 6 f6) 7 f7) 8 f8
def cutQ (S : jS) (J : jH) (n : Nat) : jO → jH → Prop := fun o h => o = .inl none ∧ ∃ f6 f7 f8, h = lay (tkS S (nI (tokL (S.2.1 5) n 0).length) 0 f6 f7 f8) ++ J ∧ TokA (tokL (S.2.1 5) n 0) f6 f7 f8
theorem m_K_cut (K : jK) (d : Nat) (hd : 5 ≤ d) (S : jS) (J : jH) (n : Nat) (hn : S.1 6 = nI n) (h100 : n ≤ 100) (hc : chOk (S.2.1 5)) (ht : txOk (S.2.1 5) n) : jM K M_K_cut d [.ref 43] (lay S ++ J) (cutQ S J n) 0 0 := by
  refine jM.of (by decide) (Nat.le_of_ble_eq_true rfl) ?_
  have fin : ∀ (P : List Tok) (f6 f7 f8 : Nat → Int32) (ls : List (Nat × Value)), j_lg ls 0 = some (.ref 43) → P ++ [(46, n, n)] = tokL (S.2.1 5) n 0 → P.length ≤ 100 → TokA P f6 f7 f8 → jE K M_K_cut d 62 ls [] (lay (tkS S (nI P.length) 0 f6 f7 f8) ++ J) (cutQ S J n) 0 0 := by
    intro P f6 f7 f8 ls hls hP hlen hA
    refine j_aload_n d_K_cut_62 hls ?_
    refine j_bipush (v := 46) d_K_cut_63 (by decide) ?_
    refine j_aload_n d_K_cut_65 hls ?_
    refine j_getf d_K_cut_66 f_K_9 rfl rfl ?_
    refine j_retI (j_callV d_K_cut_69 v_T_length l_K_33 rfl rfl (m_T_length K (d - 1) (tkS S (nI P.length) 0 f6 f7 f8) J) (by omega) (by decide) (Nat.le_of_ble_eq_true rfl) rfl) rfl ?_
    refine j_top (w := .int (nI n)) (congrArg Value.int hn) ?_
    refine j_aload_n d_K_cut_72 hls ?_
    refine j_getf d_K_cut_73 f_K_9 rfl rfl ?_
    refine j_retI (j_callV d_K_cut_76 v_T_length l_K_33 rfl rfl (m_T_length K (d - 1) (tkS S (nI P.length) 0 f6 f7 f8) J) (by omega) (by decide) (Nat.le_of_ble_eq_true rfl) rfl) rfl ?_
    refine j_top (w := .int (nI n)) (congrArg Value.int hn) ?_
    refine j_retI (j_callV d_K_cut_79 v_K_append l_K_46 rfl rfl (m_K_append K (d - 1) (tkS S (nI P.length) 0 f6 f7 f8) J 46 (nI n) (nI n) P.length rfl (by omega) rfl) (by omega) (by decide) (Nat.le_of_ble_eq_true rfl) rfl) rfl ?_
    refine j_pop d_K_cut_82 rfl ?_
    refine j_vret rfl d_K_cut_83 ⟨rfl, upd f6 P.length 46, upd f7 P.length (nI n), upd f8 P.length (nI n), ?_, ?_⟩
    · rw [← hP]
      simp only [List.length_append, List.length_cons, List.length_nil]
      rfl
    · rw [← hP]
      exact hA.app (46, n, n)
  have loop : ∀ k i m (P : List Tok) (f6 f7 f8 : Nat → Int32), n - i ≤ k → i ≤ n → m ≤ i → P.length ≤ i → P ++ tokL (S.2.1 5) n i = tokL (S.2.1 5) n 0 → TokA P f6 f7 f8 →
      jE K M_K_cut d 14 [(0, .ref 43), (1, .int (nI i)), (2, .int (nI m))] [] (lay (tkS S (nI P.length) 0 f6 f7 f8) ++ J) (cutQ S J n) 0 0 := by
    intro k
    induction k with
    | zero =>
      intro i m P f6 f7 f8 hk hi hm hPi hP hA
      have hin : i = n := by omega
      subst hin
      rw [tokL_end _ (Nat.le_refl _)] at hP
      refine j_iload_n d_K_cut_14 rfl ?_
      refine j_bipush (v := 100) d_K_cut_15 (by decide) ?_
      by_cases hm100 : 100 ≤ m
      · refine j_icmp_geT (tgt := 62) d_K_cut_17 rfl (show nI 100 ≤ nI m from nI_le hm100 (by omega)) ?_
        exact fin P f6 f7 f8 _ rfl hP (by omega) hA
      · refine j_icmp_geF (tgt := 62) d_K_cut_17 rfl (show ¬ nI 100 ≤ nI m from nI_ge (by omega) (by omega)) ?_
        refine j_iload_n d_K_cut_20 rfl ?_
        refine j_aload_n d_K_cut_21 rfl ?_
        refine j_getf d_K_cut_22 f_K_9 rfl rfl ?_
        refine j_retI (j_callV d_K_cut_25 v_T_length l_K_33 rfl rfl (m_T_length K (d - 1) (tkS S (nI P.length) 0 f6 f7 f8) J) (by omega) (by decide) (Nat.le_of_ble_eq_true rfl) rfl) rfl ?_
        refine j_top (w := .int (nI i)) (congrArg Value.int hn) ?_
        refine j_icmp_geT (tgt := 62) d_K_cut_28 rfl (nI_le (by omega) (by omega)) ?_
        exact fin P f6 f7 f8 _ rfl hP (by omega) hA
    | succ k ih =>
      intro i m P f6 f7 f8 hk hi hm hPi hP hA
      by_cases hin : i < n
      · refine j_iload_n d_K_cut_14 rfl ?_
        refine j_bipush (v := 100) d_K_cut_15 (by decide) ?_
        refine j_icmp_geF (tgt := 62) d_K_cut_17 rfl (show ¬ nI 100 ≤ nI m from nI_ge (by omega) (by omega)) ?_
        refine j_iload_n d_K_cut_20 rfl ?_
        refine j_aload_n d_K_cut_21 rfl ?_
        refine j_getf d_K_cut_22 f_K_9 rfl rfl ?_
        refine j_retI (j_callV d_K_cut_25 v_T_length l_K_33 rfl rfl (m_T_length K (d - 1) (tkS S (nI P.length) 0 f6 f7 f8) J) (by omega) (by decide) (Nat.le_of_ble_eq_true rfl) rfl) rfl ?_
        refine j_top (w := .int (nI n)) (congrArg Value.int hn) ?_
        refine j_icmp_geF (tgt := 62) d_K_cut_28 rfl (nI_ge (by omega) (by omega)) ?_
        refine j_aload_n d_K_cut_31 rfl ?_
        refine j_getf d_K_cut_32 f_K_9 rfl rfl ?_
        refine j_iload_n d_K_cut_35 rfl ?_
        refine j_retI (j_callV d_K_cut_36 v_T_at l_K_39 rfl rfl (m_T_at K (d - 1) (tkS S (nI P.length) 0 f6 f7 f8) J n i hn h100 (by omega) hc) (by omega) (by decide) (Nat.le_of_ble_eq_true rfl) rfl) rfl ?_
        rw [if_pos hin]
        refine j_top (w := .int (S.2.1 5 i)) rfl ?_
        refine j_bipush (v := 32) d_K_cut_39 (by decide) ?_
        refine j_icmp_ne (tgt := 50) d_K_cut_41 rfl (fun hb => ?_) (fun hb => ?_)
        · refine j_aload_n d_K_cut_50 rfl ?_
          refine j_iload_n d_K_cut_51 rfl ?_
          refine j_retI (j_callV d_K_cut_52 v_K_cutOne l_K_42 rfl rfl (m_K_cutOne K (d - 1) (by omega) (tkS S (nI P.length) 0 f6 f7 f8) J n hn h100 hc ht i hin P.length rfl (by omega)) (by omega) (by decide) (Nat.le_of_ble_eq_true rfl) rfl) rfl ?_
          refine j_istore_n d_K_cut_55 (by decide) ?_
          refine j_iincN d_K_cut_56 rfl (by decide) ?_
          refine j_goto (tgt := 14) d_K_cut_59 rfl ?_
          have hgt := tokE_gt (S.2.1 5) hin
          have hle := tokE_le (S.2.1 5) hin
          refine j_loc' [(0, .ref 43), (1, .int (nI (tokE (S.2.1 5) n i))), (2, .int (nI (m + 1)))] ⟨rfl, rfl, rfl, trivial⟩ ?_
          refine j_hp (h' := lay (tkS S (nI (P ++ [(tokK (S.2.1 5) n i, i, tokE (S.2.1 5) n i)]).length) 0 (upd f6 P.length (tokK (S.2.1 5) n i)) (upd f7 P.length (nI i)) (upd f8 P.length (nI (tokE (S.2.1 5) n i)))) ++ J) (by simp only [List.length_append, List.length_cons, List.length_nil]; rfl) ?_
          refine ih (tokE (S.2.1 5) n i) (m + 1) (P ++ [(tokK (S.2.1 5) n i, i, tokE (S.2.1 5) n i)]) _ _ _ (by omega) hle (by omega) (by simp; omega) ?_ (hA.app (tokK (S.2.1 5) n i, i, tokE (S.2.1 5) n i))
          rw [← hP, tokL_tok _ hin hb, List.append_assoc]
          rfl
        · refine j_iload_n d_K_cut_44 rfl ?_
          refine j_iconst (v := 1) d_K_cut_45 rfl ?_
          refine j_iadd d_K_cut_46 ?_
          refine j_top (w := .int (nI (i + 1))) (by rw [nI_succ]) ?_
          refine j_goto (tgt := 55) d_K_cut_47 rfl ?_
          refine j_istore_n d_K_cut_55 (by decide) ?_
          refine j_iincN d_K_cut_56 rfl (by decide) ?_
          refine j_goto (tgt := 14) d_K_cut_59 rfl ?_
          refine j_loc' [(0, .ref 43), (1, .int (nI (i + 1))), (2, .int (nI (m + 1)))] ⟨rfl, rfl, rfl, trivial⟩ ?_
          refine ih (i + 1) (m + 1) P f6 f7 f8 (by omega) (by omega) (by omega) (by omega) ?_ hA
          rw [← hP, tokL_blank _ hin hb]
      · have hin2 : i = n := by omega
        subst hin2
        rw [tokL_end _ (Nat.le_refl _)] at hP
        refine j_iload_n d_K_cut_14 rfl ?_
        refine j_bipush (v := 100) d_K_cut_15 (by decide) ?_
        by_cases hm100 : 100 ≤ m
        · refine j_icmp_geT (tgt := 62) d_K_cut_17 rfl (show nI 100 ≤ nI m from nI_le hm100 (by omega)) ?_
          exact fin P f6 f7 f8 _ rfl hP (by omega) hA
        · refine j_icmp_geF (tgt := 62) d_K_cut_17 rfl (show ¬ nI 100 ≤ nI m from nI_ge (by omega) (by omega)) ?_
          refine j_iload_n d_K_cut_20 rfl ?_
          refine j_aload_n d_K_cut_21 rfl ?_
          refine j_getf d_K_cut_22 f_K_9 rfl rfl ?_
          refine j_retI (j_callV d_K_cut_25 v_T_length l_K_33 rfl rfl (m_T_length K (d - 1) (tkS S (nI P.length) 0 f6 f7 f8) J) (by omega) (by decide) (Nat.le_of_ble_eq_true rfl) rfl) rfl ?_
          refine j_top (w := .int (nI i)) (congrArg Value.int hn) ?_
          refine j_icmp_geT (tgt := 62) d_K_cut_28 rfl (nI_le (by omega) (by omega)) ?_
          exact fin P f6 f7 f8 _ rfl hP (by omega) hA
  refine j_aload_n d_K_cut_0 rfl ?_
  refine j_iconst (v := 0) d_K_cut_1 rfl ?_
  refine j_putf d_K_cut_2 f_K_26 rfl (Nat.le_of_ble_eq_true rfl) rfl rfl rfl ?_
  refine j_aload_n d_K_cut_5 rfl ?_
  refine j_iconst (v := 0) d_K_cut_6 rfl ?_
  refine j_putf d_K_cut_7 f_K_30 rfl (Nat.le_of_ble_eq_true rfl) rfl rfl rfl ?_
  refine j_iconst (v := 0) d_K_cut_10 rfl ?_
  refine j_istore_n d_K_cut_11 (by decide) ?_
  refine j_iconst (v := 0) d_K_cut_12 rfl ?_
  refine j_istore_n d_K_cut_13 (by decide) ?_
  refine j_loc' [(0, .ref 43), (1, .int (nI 0)), (2, .int (nI 0))] ⟨rfl, rfl, rfl, trivial⟩ ?_
  refine j_hp (h' := lay (tkS S (nI ([] : List Tok).length) 0 (S.2.1 6) (S.2.1 7) (S.2.1 8)) ++ J) rfl ?_
  exact loop n 0 0 [] _ _ _ (by omega) (by omega) (by omega) (by simp) rfl (fun j q hq => by simp at hq)
theorem m_K_start (K : jK) (d : Nat) (S : jS) (J : jH) (a : Nat) (ha : S.1 12 = nI a) (h101 : a < 101) : jM K M_K_start d [.ref 43] (lay S ++ J) (rI (S.2.1 7 a) (lay S ++ J)) 0 0 := by
  refine jM.of (by decide) (Nat.le_of_ble_eq_true rfl) ?_
  refine j_aload_n d_K_start_0 rfl ?_
  refine j_getf d_K_start_1 f_K_19 rfl rfl ?_
  refine j_aload_n d_K_start_4 rfl ?_
  refine j_getf d_K_start_5 f_K_30 rfl rfl ?_
  refine j_top (w := .int (nI a)) (congrArg Value.int ha) ?_
  refine j_iald d_K_start_8 rfl h101 (by decide) ?_
  exact j_iret rfl d_K_start_9 ⟨rfl, rfl⟩
theorem m_K_isEnd (K : jK) (d : Nat) (S : jS) (J : jH) (a : Nat) (ha : S.1 12 = nI a) (h101 : a < 101) : jM K M_K_isEnd d [.ref 43] (lay S ++ J) (rI (b2i (decide (S.2.1 6 a = 46))) (lay S ++ J)) 0 0 := by
  refine jM.of (by decide) (Nat.le_of_ble_eq_true rfl) ?_
  refine j_aload_n d_K_isEnd_0 rfl ?_
  refine j_getf d_K_isEnd_1 f_K_15 rfl rfl ?_
  refine j_aload_n d_K_isEnd_4 rfl ?_
  refine j_getf d_K_isEnd_5 f_K_30 rfl rfl ?_
  refine j_top (w := .int (nI a)) (congrArg Value.int ha) ?_
  refine j_cald d_K_isEnd_8 rfl h101 (by decide) ?_
  refine j_bipush (v := 46) d_K_isEnd_9 (by decide) ?_
  refine j_icmp_ne (tgt := 18) d_K_isEnd_11 rfl (fun h11 => ?_) (fun h11 => ?_)
  · refine j_iconst (v := 0) d_K_isEnd_18 rfl ?_
    exact j_zret rfl rfl d_K_isEnd_19 ⟨by first | (rw [show decide (S.2.1 6 a = 46) = true from decide_eq_true (by first | exact h11 | exact h10)]; rfl) | (rw [show decide (S.2.1 6 a = 46) = false from decide_eq_false (by first | exact h11 | exact h10)]; rfl), rfl⟩
  · refine j_iconst (v := 1) d_K_isEnd_14 rfl ?_
    refine j_goto (tgt := 19) d_K_isEnd_15 rfl ?_
    exact j_zret rfl rfl d_K_isEnd_19 ⟨by first | (rw [show decide (S.2.1 6 a = 46) = true from decide_eq_true (by first | exact h11 | exact h10)]; rfl) | (rw [show decide (S.2.1 6 a = 46) = false from decide_eq_false (by first | exact h11 | exact h10)]; rfl), rfl⟩
theorem m_K_isNumber (K : jK) (d : Nat) (S : jS) (J : jH) (a : Nat) (ha : S.1 12 = nI a) (h101 : a < 101) : jM K M_K_isNumber d [.ref 43] (lay S ++ J) (rI (b2i (decide (S.2.1 6 a = 48))) (lay S ++ J)) 0 0 := by
  refine jM.of (by decide) (Nat.le_of_ble_eq_true rfl) ?_
  refine j_aload_n d_K_isNumber_0 rfl ?_
  refine j_getf d_K_isNumber_1 f_K_15 rfl rfl ?_
  refine j_aload_n d_K_isNumber_4 rfl ?_
  refine j_getf d_K_isNumber_5 f_K_30 rfl rfl ?_
  refine j_top (w := .int (nI a)) (congrArg Value.int ha) ?_
  refine j_cald d_K_isNumber_8 rfl h101 (by decide) ?_
  refine j_bipush (v := 48) d_K_isNumber_9 (by decide) ?_
  refine j_icmp_ne (tgt := 18) d_K_isNumber_11 rfl (fun h11 => ?_) (fun h11 => ?_)
  · refine j_iconst (v := 0) d_K_isNumber_18 rfl ?_
    exact j_zret rfl rfl d_K_isNumber_19 ⟨by first | (rw [show decide (S.2.1 6 a = 48) = true from decide_eq_true (by first | exact h11 | exact h10)]; rfl) | (rw [show decide (S.2.1 6 a = 48) = false from decide_eq_false (by first | exact h11 | exact h10)]; rfl), rfl⟩
  · refine j_iconst (v := 1) d_K_isNumber_14 rfl ?_
    refine j_goto (tgt := 19) d_K_isNumber_15 rfl ?_
    exact j_zret rfl rfl d_K_isNumber_19 ⟨by first | (rw [show decide (S.2.1 6 a = 48) = true from decide_eq_true (by first | exact h11 | exact h10)]; rfl) | (rw [show decide (S.2.1 6 a = 48) = false from decide_eq_false (by first | exact h11 | exact h10)]; rfl), rfl⟩
theorem m_K_isSign (K : jK) (d : Nat) (S : jS) (J : jH) (c : Int32) (a : Nat) (ha : S.1 12 = nI a) (h101 : a < 101) : jM K M_K_isSign d [.ref 43, .int c] (lay S ++ J) (rI (b2i (decide (S.2.1 6 a = c))) (lay S ++ J)) 0 0 := by
  refine jM.of (by decide) (Nat.le_of_ble_eq_true rfl) ?_
  refine j_aload_n d_K_isSign_0 rfl ?_
  refine j_getf d_K_isSign_1 f_K_15 rfl rfl ?_
  refine j_aload_n d_K_isSign_4 rfl ?_
  refine j_getf d_K_isSign_5 f_K_30 rfl rfl ?_
  refine j_top (w := .int (nI a)) (congrArg Value.int ha) ?_
  refine j_cald d_K_isSign_8 rfl h101 (by decide) ?_
  refine j_iload_n d_K_isSign_9 rfl ?_
  refine j_icmp_ne (tgt := 17) d_K_isSign_10 rfl (fun h10 => ?_) (fun h10 => ?_)
  · refine j_iconst (v := 0) d_K_isSign_17 rfl ?_
    exact j_zret rfl rfl d_K_isSign_18 ⟨by first | (rw [show decide (S.2.1 6 a = c) = true from decide_eq_true (by first | exact h11 | exact h10)]; rfl) | (rw [show decide (S.2.1 6 a = c) = false from decide_eq_false (by first | exact h11 | exact h10)]; rfl), rfl⟩
  · refine j_iconst (v := 1) d_K_isSign_13 rfl ?_
    refine j_goto (tgt := 18) d_K_isSign_14 rfl ?_
    exact j_zret rfl rfl d_K_isSign_18 ⟨by first | (rw [show decide (S.2.1 6 a = c) = true from decide_eq_true (by first | exact h11 | exact h10)]; rfl) | (rw [show decide (S.2.1 6 a = c) = false from decide_eq_false (by first | exact h11 | exact h10)]; rfl), rfl⟩
theorem m_K_advance (K : jK) (d : Nat) (S : jS) (J : jH) (a : Nat) (ha : S.1 12 = nI a) (h101 : a < 101) (c : Nat) (hc : S.1 11 = nI c) (hac : a + 1 < c) (hc2 : c ≤ 101) : jM K M_K_advance d [.ref 43] (lay S ++ J) (rV (lay (s1 S 12 (nI (a + 1))) ++ J)) 0 0 := by
  refine jM.of (by decide) (Nat.le_of_ble_eq_true rfl) ?_
  refine j_aload_n d_K_advance_0 rfl ?_
  refine j_getf d_K_advance_1 f_K_30 rfl rfl ?_
  refine j_top (w := .int (nI a)) (congrArg Value.int ha) ?_
  refine j_aload_n d_K_advance_4 rfl ?_
  refine j_getf d_K_advance_5 f_K_26 rfl rfl ?_
  refine j_top (w := .int (nI c)) (congrArg Value.int hc) ?_
  refine j_iconst (v := 1) d_K_advance_8 rfl ?_
  refine j_isub d_K_advance_9 ?_
  refine j_top (w := .int (nI (c - 1))) (by show Value.int (nI c - nI 1) = _; rw [pk_sub (by omega)]) ?_
  refine j_icmp_geF (tgt := 23) d_K_advance_10 rfl (nI_ge (by omega) (by omega)) ?_
  refine j_aload_n d_K_advance_13 rfl ?_
  refine j_dup d_K_advance_14 rfl ?_
  refine j_getf d_K_advance_15 f_K_30 rfl rfl ?_
  refine j_top (w := .int (nI a)) (congrArg Value.int ha) ?_
  refine j_iconst (v := 1) d_K_advance_18 rfl ?_
  refine j_iadd d_K_advance_19 ?_
  refine j_top (w := .int (nI (a + 1))) (by rw [nI_succ]) ?_
  refine j_putf d_K_advance_20 f_K_30 rfl (Nat.le_of_ble_eq_true rfl) rfl rfl rfl ?_
  exact j_vret rfl d_K_advance_23 ⟨rfl, rfl⟩
def isLt (k : Int32) (s e : Nat) : Bool := decide (k = 97) && decide (e - s = 1)
theorem isLt_a {k : Int32} (s e : Nat) (h : ¬ k = 97) : b2i (isLt k s e) = 0 := by rw [isLt, decide_eq_false h]; rfl
theorem isLt_b {k : Int32} {s e : Nat} (h : k = 97) (g : ¬ nI (e - s) = 1) : b2i (isLt k s e) = 0 := by
  rw [isLt, decide_eq_false (p := e - s = 1) (fun q => g (by rw [q]; rfl)), Bool.and_false]; rfl
theorem isLt_c {k : Int32} {s e : Nat} (h2 : e ≤ 100) (h : k = 97) (g : nI (e - s) = 1) : b2i (isLt k s e) = 1 := by
  rw [isLt, decide_eq_true h, decide_eq_true (p := e - s = 1) ((nI_eq (by omega) (by omega)).mp (show nI (e - s) = nI 1 from g))]; rfl
theorem m_K_isLetter (K : jK) (d : Nat) (S : jS) (J : jH) (a : Nat) (ha : S.1 12 = nI a) (h101 : a < 101) (s e : Nat) (hs : S.2.1 7 a = nI s) (he : S.2.1 8 a = nI e) (hse : s ≤ e) (he2 : e ≤ 100) : jM K M_K_isLetter d [.ref 43] (lay S ++ J) (rI (b2i (isLt (S.2.1 6 a) s e)) (lay S ++ J)) 0 0 := by
  refine jM.of (by decide) (Nat.le_of_ble_eq_true rfl) ?_
  refine j_aload_n d_K_isLetter_0 rfl ?_
  refine j_getf d_K_isLetter_1 f_K_15 rfl rfl ?_
  refine j_aload_n d_K_isLetter_4 rfl ?_
  refine j_getf d_K_isLetter_5 f_K_30 rfl rfl ?_
  refine j_top (w := .int (nI a)) (congrArg Value.int ha) ?_
  refine j_cald d_K_isLetter_8 rfl h101 (by decide) ?_
  refine j_bipush (v := 97) d_K_isLetter_9 (by decide) ?_
  refine j_icmp_ne (tgt := 41) d_K_isLetter_11 rfl (fun h11 => ?_) (fun h11 => ?_)
  · refine j_iconst (v := 0) d_K_isLetter_41 rfl ?_
    exact j_zret rfl rfl d_K_isLetter_42 ⟨by first | (rw [isLt_a s e h11]; done) | (rw [isLt_b h11 h34]; done) | (rw [isLt_c he2 h11 h34]; done), rfl⟩
  · refine j_aload_n d_K_isLetter_14 rfl ?_
    refine j_getf d_K_isLetter_15 f_K_23 rfl rfl ?_
    refine j_aload_n d_K_isLetter_18 rfl ?_
    refine j_getf d_K_isLetter_19 f_K_30 rfl rfl ?_
    refine j_top (w := .int (nI a)) (congrArg Value.int ha) ?_
    refine j_iald d_K_isLetter_22 rfl h101 (by decide) ?_
    refine j_top (w := .int (nI e)) (congrArg Value.int he) ?_
    refine j_aload_n d_K_isLetter_23 rfl ?_
    refine j_getf d_K_isLetter_24 f_K_19 rfl rfl ?_
    refine j_aload_n d_K_isLetter_27 rfl ?_
    refine j_getf d_K_isLetter_28 f_K_30 rfl rfl ?_
    refine j_top (w := .int (nI a)) (congrArg Value.int ha) ?_
    refine j_iald d_K_isLetter_31 rfl h101 (by decide) ?_
    refine j_top (w := .int (nI s)) (congrArg Value.int hs) ?_
    refine j_isub d_K_isLetter_32 ?_
    refine j_top (w := .int (nI (e - s))) (by rw [pk_sub hse]) ?_
    refine j_iconst (v := 1) d_K_isLetter_33 rfl ?_
    refine j_icmp_ne (tgt := 41) d_K_isLetter_34 rfl (fun h34 => ?_) (fun h34 => ?_)
    · refine j_iconst (v := 0) d_K_isLetter_41 rfl ?_
      exact j_zret rfl rfl d_K_isLetter_42 ⟨by first | (rw [isLt_a s e h11]; done) | (rw [isLt_b h11 h34]; done) | (rw [isLt_c he2 h11 h34]; done), rfl⟩
    · refine j_iconst (v := 1) d_K_isLetter_37 rfl ?_
      refine j_goto (tgt := 42) d_K_isLetter_38 rfl ?_
      exact j_zret rfl rfl d_K_isLetter_42 ⟨by first | (rw [isLt_a s e h11]; done) | (rw [isLt_b h11 h34]; done) | (rw [isLt_c he2 h11 h34]; done), rfl⟩
theorem m_K_letter (K : jK) (d : Nat) (hd : 1 ≤ d) (S : jS) (J : jH) (a : Nat) (ha : S.1 12 = nI a) (h101 : a < 101) (n : Nat) (hn : S.1 6 = nI n) (h100 : n ≤ 100) (hc : chOk (S.2.1 5)) (s : Nat) (hs : S.2.1 7 a = nI s) (hsn : s < n) : jM K M_K_letter d [.ref 43] (lay S ++ J) (rI (S.2.1 5 s) (lay S ++ J)) 0 0 := by
  refine jM.of (by decide) (Nat.le_of_ble_eq_true rfl) ?_
  refine j_aload_n d_K_letter_0 rfl ?_
  refine j_getf d_K_letter_1 f_K_9 rfl rfl ?_
  refine j_aload_n d_K_letter_4 rfl ?_
  refine j_getf d_K_letter_5 f_K_19 rfl rfl ?_
  refine j_aload_n d_K_letter_8 rfl ?_
  refine j_getf d_K_letter_9 f_K_30 rfl rfl ?_
  refine j_top (w := .int (nI a)) (congrArg Value.int ha) ?_
  refine j_iald d_K_letter_12 rfl h101 (by decide) ?_
  refine j_top (w := .int (nI s)) (congrArg Value.int hs) ?_
  refine j_retI (j_callV d_K_letter_13 v_T_at l_K_39 rfl rfl (m_T_at K (d - 1) S J n s hn h100 (by omega) hc) (by omega) (by decide) (Nat.le_of_ble_eq_true rfl) rfl) rfl ?_
  rw [if_pos hsn]
  exact j_zret rfl (hc s) d_K_letter_16 ⟨rfl, rfl⟩
def numV (T : Nat → Int32) : Nat → Nat → Int32 → Int32
  | 0, _, v => v
  | k + 1, i, v => numV T k (i + 1) (10 * v + (T i - 48))
theorem m_K_number (K : jK) (d : Nat) (hd : 1 ≤ d) (S : jS) (J : jH) (a : Nat) (ha : S.1 12 = nI a) (h101 : a < 101) (n : Nat) (hn : S.1 6 = nI n) (h100 : n ≤ 100) (hc : chOk (S.2.1 5)) (s e : Nat) (hs : S.2.1 7 a = nI s) (he : S.2.1 8 a = nI e) (hse : s ≤ e) (he2 : e ≤ 100) (hen : e ≤ n) : jM K M_K_number d [.ref 43] (lay S ++ J) (rI (numV (S.2.1 5) (e - s) s 0) (lay S ++ J)) 0 0 := by
  refine jM.of (by decide) (Nat.le_of_ble_eq_true rfl) ?_
  have loop : ∀ k i v, i + k = e → jE K M_K_number d 12 [(0, .ref 43), (1, .int v), (2, .int (nI i))] [] (lay S ++ J) (rI (numV (S.2.1 5) k i v) (lay S ++ J)) 0 0 := by
    intro k
    induction k with
    | zero =>
      intro i v hi
      refine j_iload_n d_K_number_12 rfl ?_
      refine j_aload_n d_K_number_13 rfl ?_
      refine j_getf d_K_number_14 f_K_23 rfl rfl ?_
      refine j_aload_n d_K_number_17 rfl ?_
      refine j_getf d_K_number_18 f_K_30 rfl rfl ?_
      refine j_top (w := .int (nI a)) (congrArg Value.int ha) ?_
      refine j_iald d_K_number_21 rfl h101 (by decide) ?_
      refine j_top (w := .int (nI e)) (congrArg Value.int he) ?_
      refine j_icmp_geT (tgt := 48) d_K_number_22 rfl (nI_le (by omega) (by omega)) ?_
      refine j_iload_n d_K_number_48 rfl ?_
      exact j_iret rfl d_K_number_49 ⟨rfl, rfl⟩
    | succ k ih =>
      intro i v hi
      refine j_iload_n d_K_number_12 rfl ?_
      refine j_aload_n d_K_number_13 rfl ?_
      refine j_getf d_K_number_14 f_K_23 rfl rfl ?_
      refine j_aload_n d_K_number_17 rfl ?_
      refine j_getf d_K_number_18 f_K_30 rfl rfl ?_
      refine j_top (w := .int (nI a)) (congrArg Value.int ha) ?_
      refine j_iald d_K_number_21 rfl h101 (by decide) ?_
      refine j_top (w := .int (nI e)) (congrArg Value.int he) ?_
      refine j_icmp_geF (tgt := 48) d_K_number_22 rfl (nI_ge (by omega) (by omega)) ?_
      refine j_bipush (v := 10) d_K_number_25 (by decide) ?_
      refine j_iload_n d_K_number_27 rfl ?_
      refine j_imul d_K_number_28 ?_
      refine j_aload_n d_K_number_29 rfl ?_
      refine j_getf d_K_number_30 f_K_9 rfl rfl ?_
      refine j_iload_n d_K_number_33 rfl ?_
      refine j_retI (j_callV d_K_number_34 v_T_at l_K_39 rfl rfl (m_T_at K (d - 1) S J n i hn h100 (by omega) hc) (by omega) (by decide) (Nat.le_of_ble_eq_true rfl) rfl) rfl ?_
      rw [if_pos (show i < n by omega)]
      refine j_bipush (v := 48) d_K_number_37 (by decide) ?_
      refine j_isub d_K_number_39 ?_
      refine j_iadd d_K_number_40 ?_
      refine j_istore_n d_K_number_41 (by decide) ?_
      refine j_iincN d_K_number_42 rfl (by decide) ?_
      refine j_goto (tgt := 12) d_K_number_45 rfl ?_
      exact j_loc' [(0, .ref 43), (1, .int (10 * v + (S.2.1 5 i - 48))), (2, .int (nI (i + 1)))] ⟨rfl, rfl, rfl, trivial⟩ (ih (i + 1) _ (by omega))
  refine j_iconst (v := 0) d_K_number_0 rfl ?_
  refine j_istore_n d_K_number_1 (by decide) ?_
  refine j_aload_n d_K_number_2 rfl ?_
  refine j_getf d_K_number_3 f_K_19 rfl rfl ?_
  refine j_aload_n d_K_number_6 rfl ?_
  refine j_getf d_K_number_7 f_K_30 rfl rfl ?_
  refine j_top (w := .int (nI a)) (congrArg Value.int ha) ?_
  refine j_iald d_K_number_10 rfl h101 (by decide) ?_
  refine j_top (w := .int (nI s)) (congrArg Value.int hs) ?_
  refine j_istore_n d_K_number_11 (by decide) ?_
  exact j_loc' [(0, .ref 43), (1, .int 0), (2, .int (nI s))] ⟨rfl, rfl, rfl, trivial⟩ (loop (e - s) s 0 (by omega))
/-- the token is the constant's text -/
def wdEq (T : Nat → Int32) (i s : Nat) : Nat → Nat → Bool
  | 0, _ => true
  | k + 1, j => decide (T (s + j) = txc i j) && wdEq T i s k (j + 1)
def isWd (T : Nat → Int32) (i : Nat) (k : Int32) (s e : Nat) : Bool := decide (k = 97) && (decide (e - s = j_txL.getD i 0) && wdEq T i s (j_txL.getD i 0) 0)
theorem m_K_isWord (K : jK) (d : Nat) (hd : 4 ≤ d) (S : jS) (J : jH) (a : Nat) (ha : S.1 12 = nI a) (h101 : a < 101) (n : Nat) (hn : S.1 6 = nI n) (h100 : n ≤ 100) (hc : chOk (S.2.1 5)) (s e : Nat) (hs : S.2.1 7 a = nI s) (he : S.2.1 8 a = nI e) (hse : s ≤ e) (he2 : e ≤ 100) (hen : e ≤ n) (i : Nat) (hi : i < 8) : jM K M_K_isWord d [.ref 43, .ref (8 + i)] (lay S ++ J) (rI (b2i (isWd (S.2.1 5) i (S.2.1 6 a) s e)) (lay S ++ J)) 0 0 := by
  refine jM.of (by decide) (Nat.le_of_ble_eq_true rfl) ?_
  have hN := txL_lt i hi
  refine j_aload_n d_K_isWord_0 rfl ?_
  refine j_getf d_K_isWord_1 f_K_15 rfl rfl ?_
  refine j_aload_n d_K_isWord_4 rfl ?_
  refine j_getf d_K_isWord_5 f_K_30 rfl rfl ?_
  refine j_top (w := .int (nI a)) (congrArg Value.int ha) ?_
  refine j_cald d_K_isWord_8 rfl h101 (by decide) ?_
  refine j_bipush (v := 97) d_K_isWord_9 (by decide) ?_
  refine j_icmp_ne (tgt := 40) d_K_isWord_11 rfl (fun hk => ?_) (fun hk => ?_)
  · refine j_iconst (v := 0) d_K_isWord_40 rfl ?_
    exact j_zret rfl rfl d_K_isWord_41 ⟨by rw [show isWd (S.2.1 5) i (S.2.1 6 a) s e = false by rw [isWd, decide_eq_false hk, Bool.false_and]]; rfl, rfl⟩
  · refine j_aload_n d_K_isWord_14 rfl ?_
    refine j_getf d_K_isWord_15 f_K_23 rfl rfl ?_
    refine j_aload_n d_K_isWord_18 rfl ?_
    refine j_getf d_K_isWord_19 f_K_30 rfl rfl ?_
    refine j_top (w := .int (nI a)) (congrArg Value.int ha) ?_
    refine j_iald d_K_isWord_22 rfl h101 (by decide) ?_
    refine j_top (w := .int (nI e)) (congrArg Value.int he) ?_
    refine j_aload_n d_K_isWord_23 rfl ?_
    refine j_getf d_K_isWord_24 f_K_19 rfl rfl ?_
    refine j_aload_n d_K_isWord_27 rfl ?_
    refine j_getf d_K_isWord_28 f_K_30 rfl rfl ?_
    refine j_top (w := .int (nI a)) (congrArg Value.int ha) ?_
    refine j_iald d_K_isWord_31 rfl h101 (by decide) ?_
    refine j_top (w := .int (nI s)) (congrArg Value.int hs) ?_
    refine j_isub d_K_isWord_32 ?_
    refine j_top (w := .int (nI (e - s))) (by rw [pk_sub hse]) ?_
    refine j_aload_n d_K_isWord_33 rfl ?_
    refine j_retI (j_callX d_K_isWord_34 xf_JString_length l_K_50 rfl (x_strO K hi) (m_JString_length K (d - 1) (by omega) _ i hi) (by omega) (by decide) (Nat.le_of_ble_eq_true rfl) rfl) rfl ?_
    by_cases hl : e - s = j_txL.getD i 0
    · refine j_icmp_eqT (tgt := 42) d_K_isWord_37 rfl (congrArg nI hl) ?_
      have loop : ∀ k j, j + k = j_txL.getD i 0 → jE K M_K_isWord d 44 [(0, .ref 43), (1, .ref (8 + i)), (2, .int (nI j))] [] (lay S ++ J) (rI (b2i (wdEq (S.2.1 5) i s k j)) (lay S ++ J)) 0 0 := by
        intro k
        induction k with
        | zero =>
          intro j hj
          refine j_iload_n d_K_isWord_44 rfl ?_
          refine j_aload_n d_K_isWord_45 rfl ?_
          refine j_retI (j_callX d_K_isWord_46 xf_JString_length l_K_50 rfl (x_strO K hi) (m_JString_length K (d - 1) (by omega) _ i hi) (by omega) (by decide) (Nat.le_of_ble_eq_true rfl) rfl) rfl ?_
          refine j_icmp_geT (tgt := 86) d_K_isWord_49 rfl (nI_le (by omega) (by omega)) ?_
          refine j_iconst (v := 1) d_K_isWord_86 rfl ?_
          exact j_zret rfl rfl d_K_isWord_87 ⟨rfl, rfl⟩
        | succ k ih =>
          intro j hj
          refine j_iload_n d_K_isWord_44 rfl ?_
          refine j_aload_n d_K_isWord_45 rfl ?_
          refine j_retI (j_callX d_K_isWord_46 xf_JString_length l_K_50 rfl (x_strO K hi) (m_JString_length K (d - 1) (by omega) _ i hi) (by omega) (by decide) (Nat.le_of_ble_eq_true rfl) rfl) rfl ?_
          refine j_icmp_geF (tgt := 86) d_K_isWord_49 rfl (nI_ge (by omega) (by omega)) ?_
          refine j_aload_n d_K_isWord_52 rfl ?_
          refine j_getf d_K_isWord_53 f_K_9 rfl rfl ?_
          refine j_aload_n d_K_isWord_56 rfl ?_
          refine j_getf d_K_isWord_57 f_K_19 rfl rfl ?_
          refine j_aload_n d_K_isWord_60 rfl ?_
          refine j_getf d_K_isWord_61 f_K_30 rfl rfl ?_
          refine j_top (w := .int (nI a)) (congrArg Value.int ha) ?_
          refine j_iald d_K_isWord_64 rfl h101 (by decide) ?_
          refine j_top (w := .int (nI s)) (congrArg Value.int hs) ?_
          refine j_iload_n d_K_isWord_65 rfl ?_
          refine j_iadd d_K_isWord_66 ?_
          refine j_top (w := .int (nI (s + j))) (by rw [nI_add]) ?_
          refine j_retI (j_callV d_K_isWord_67 v_T_at l_K_39 rfl rfl (m_T_at K (d - 1) S J n (s + j) hn h100 (by omega) hc) (by omega) (by decide) (Nat.le_of_ble_eq_true rfl) rfl) rfl ?_
          rw [if_pos (show s + j < n by omega)]
          refine j_aload_n d_K_isWord_70 rfl ?_
          refine j_iload_n d_K_isWord_71 rfl ?_
          refine j_retI (j_callX d_K_isWord_72 xf_JString_charAt l_K_53 rfl (x_strO K hi) (m_JString_charAt K (d - 1) (by omega) _ i j hi (by omega)) (by omega) (by decide) (Nat.le_of_ble_eq_true rfl) rfl) rfl ?_
          refine j_icmp_eq (tgt := 80) d_K_isWord_75 rfl (fun hq => ?_) (fun hq => ?_)
          · refine j_iincN d_K_isWord_80 rfl (by decide) ?_
            refine j_goto (tgt := 44) d_K_isWord_83 rfl ?_
            refine j_loc' [(0, .ref 43), (1, .ref (8 + i)), (2, .int (nI (j + 1)))] ⟨rfl, rfl, rfl, trivial⟩ ?_
            rw [show wdEq (S.2.1 5) i s (k + 1) j = wdEq (S.2.1 5) i s k (j + 1) by rw [wdEq, decide_eq_true hq, Bool.true_and]]
            exact ih (j + 1) (by omega)
          · refine j_iconst (v := 0) d_K_isWord_78 rfl ?_
            exact j_zret rfl rfl d_K_isWord_79 ⟨by rw [wdEq, decide_eq_false hq, Bool.false_and]; rfl, rfl⟩
      refine j_iconst (v := 0) d_K_isWord_42 rfl ?_
      refine j_istore_n d_K_isWord_43 (by decide) ?_
      refine j_loc' [(0, .ref 43), (1, .ref (8 + i)), (2, .int (nI 0))] ⟨rfl, rfl, rfl, trivial⟩ ?_
      rw [show isWd (S.2.1 5) i (S.2.1 6 a) s e = wdEq (S.2.1 5) i s (j_txL.getD i 0) 0 by rw [isWd, decide_eq_true hk, decide_eq_true hl, Bool.true_and, Bool.true_and]]
      exact loop _ 0 (by omega)
    · refine j_icmp_eqF (tgt := 42) d_K_isWord_37 rfl (fun q => hl ((nI_eq (by omega) (by omega)).mp q)) ?_
      refine j_iconst (v := 0) d_K_isWord_40 rfl ?_
      exact j_zret rfl rfl d_K_isWord_41 ⟨by rw [show isWd (S.2.1 5) i (S.2.1 6 a) s e = false by rw [isWd, decide_eq_false hl, Bool.false_and, Bool.and_false]]; rfl, rfl⟩
