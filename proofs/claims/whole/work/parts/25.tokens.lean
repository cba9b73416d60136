/-! BitLoom$Tokens -/
theorem m_K_isBetween (K : jK) (d : Nat) (h : jH) (lo c hi : Int32) : jM K M_K_isBetween d [.int lo, .int c, .int hi] (h) (rI (b2i (btw lo c hi)) h) 0 0 := by
  refine jM.of (by decide) (Nat.le_of_ble_eq_true rfl) ?_
  refine j_iload_n d_K_isBetween_0 rfl ?_
  refine j_iload_n d_K_isBetween_1 rfl ?_
  refine j_icmp_gt (tgt := 14) d_K_isBetween_2 rfl (fun h2 => ?_) (fun h2 => ?_)
  · refine j_iconst (v := 0) d_K_isBetween_14 rfl ?_
    exact j_zret rfl rfl d_K_isBetween_15 ⟨by first | (rw [show btw lo c hi = false by simp [btw]; intro q; exact absurd h2 (Int32.not_lt.mpr q)]; rfl) | (rw [show btw lo c hi = false by simp [btw]; intro _; exact h7]; rfl) | (rw [show btw lo c hi = true by simp [btw]; exact ⟨Int32.not_lt.mp h2, Int32.not_lt.mp h7⟩]; rfl), rfl⟩
  · refine j_iload_n d_K_isBetween_5 rfl ?_
    refine j_iload_n d_K_isBetween_6 rfl ?_
    refine j_icmp_gt (tgt := 14) d_K_isBetween_7 rfl (fun h7 => ?_) (fun h7 => ?_)
    · refine j_iconst (v := 0) d_K_isBetween_14 rfl ?_
      exact j_zret rfl rfl d_K_isBetween_15 ⟨by first | (rw [show btw lo c hi = false by simp [btw]; intro q; exact absurd h2 (Int32.not_lt.mpr q)]; rfl) | (rw [show btw lo c hi = false by simp [btw]; intro _; exact h7]; rfl) | (rw [show btw lo c hi = true by simp [btw]; exact ⟨Int32.not_lt.mp h2, Int32.not_lt.mp h7⟩]; rfl), rfl⟩
    · refine j_iconst (v := 1) d_K_isBetween_10 rfl ?_
      refine j_goto (tgt := 15) d_K_isBetween_11 rfl ?_
      exact j_zret rfl rfl d_K_isBetween_15 ⟨by first | (rw [show btw lo c hi = false by simp [btw]; intro q; exact absurd h2 (Int32.not_lt.mpr q)]; rfl) | (rw [show btw lo c hi = false by simp [btw]; intro _; exact h7]; rfl) | (rw [show btw lo c hi = true by simp [btw]; exact ⟨Int32.not_lt.mp h2, Int32.not_lt.mp h7⟩]; rfl), rfl⟩
theorem m_K_endOf (K : jK) (d : Nat) (hd : 1 ≤ d) (S : jS) (J : jH) (lo hi : Int32) (n : Nat) (hn : S.1 6 = nI n) (h100 : n ≤ 100) (hc : chOk (S.2.1 5)) (i : Nat) (hin : i ≤ n) : jM K M_K_endOf d [.ref 43, .int (nI i), .int lo, .int hi] (lay S ++ J) (rI (nI (tEnd (fun c => btw lo c hi) (S.2.1 5) (n - i) i)) (lay S ++ J)) 0 0 := by
  refine jM.of (by decide) (Nat.le_of_ble_eq_true rfl) ?_
  have loop : ∀ k j, j + k = n → jE K M_K_endOf d 3 [(0, .ref 43), (2, .int lo), (3, .int hi), (4, .int (nI j))] [] (lay S ++ J) (rI (nI (tEnd (fun c => btw lo c hi) (S.2.1 5) k j)) (lay S ++ J)) 0 0 := by
    intro k
    induction k with
    | zero =>
      intro j hj
      refine j_iload d_K_endOf_3 rfl ?_
      refine j_aload_n d_K_endOf_5 rfl ?_
      refine j_getf d_K_endOf_6 f_K_9 rfl rfl ?_
      refine j_retI (j_callV d_K_endOf_9 v_T_length l_K_33 rfl rfl (m_T_length K (d - 1) S J) (by omega) (by decide) (Nat.le_of_ble_eq_true rfl) rfl) rfl ?_
      refine j_top (w := .int (nI n)) (congrArg Value.int hn) ?_
      refine j_icmp_geT (tgt := 38) d_K_endOf_12 rfl (nI_le (by omega) (by omega)) ?_
      refine j_iload d_K_endOf_38 rfl ?_
      exact j_iret rfl d_K_endOf_40 ⟨rfl, rfl⟩
    | succ k ih =>
      intro j hj
      refine j_iload d_K_endOf_3 rfl ?_
      refine j_aload_n d_K_endOf_5 rfl ?_
      refine j_getf d_K_endOf_6 f_K_9 rfl rfl ?_
      refine j_retI (j_callV d_K_endOf_9 v_T_length l_K_33 rfl rfl (m_T_length K (d - 1) S J) (by omega) (by decide) (Nat.le_of_ble_eq_true rfl) rfl) rfl ?_
      refine j_top (w := .int (nI n)) (congrArg Value.int hn) ?_
      refine j_icmp_geF (tgt := 38) d_K_endOf_12 rfl (nI_ge (by omega) (by omega)) ?_
      refine j_iload_n d_K_endOf_15 rfl ?_
      refine j_aload_n d_K_endOf_16 rfl ?_
      refine j_getf d_K_endOf_17 f_K_9 rfl rfl ?_
      refine j_iload d_K_endOf_20 rfl ?_
      refine j_retI (j_callV d_K_endOf_22 v_T_at l_K_39 rfl rfl (m_T_at K (d - 1) S J n j hn h100 (by omega) hc) (by omega) (by decide) (Nat.le_of_ble_eq_true rfl) rfl) rfl ?_
      rw [if_pos (show j < n by omega)]
      refine j_iload_n d_K_endOf_25 rfl ?_
      refine j_retI (j_callS d_K_endOf_26 s_K_isBetween l_K_56 rfl (m_K_isBetween K (d - 1) _ lo _ hi) (by omega) (by decide) (Nat.le_of_ble_eq_true rfl) rfl) rfl ?_
      cases hb : btw lo (S.2.1 5 j) hi with
      | false =>
        refine j_if_eqT (tgt := 38) d_K_endOf_29 rfl rfl ?_
        refine j_iload d_K_endOf_38 rfl ?_
        exact j_iret rfl d_K_endOf_40 ⟨by rw [tEnd, hb]; rfl, rfl⟩
      | true =>
        refine j_if_eqF (tgt := 38) d_K_endOf_29 rfl (by decide) ?_
        refine j_iincN d_K_endOf_32 rfl (by decide) ?_
        refine j_goto (tgt := 3) d_K_endOf_35 rfl ?_
        refine j_loc' [(0, .ref 43), (2, .int lo), (3, .int hi), (4, .int (nI (j + 1)))] ⟨rfl, rfl, rfl, rfl, trivial⟩ ?_
        rw [show tEnd (fun c => btw lo c hi) (S.2.1 5) (k + 1) j = tEnd (fun c => btw lo c hi) (S.2.1 5) k (j + 1) by rw [tEnd]; simp [hb]]
        exact ih (j + 1) (by omega)
  refine j_iload_n d_K_endOf_0 rfl ?_
  refine j_istore d_K_endOf_1 (by decide) ?_
  exact j_loc' [(0, .ref 43), (2, .int lo), (3, .int hi), (4, .int (nI i))] ⟨rfl, rfl, rfl, rfl, trivial⟩ (loop (n - i) i (by omega))
theorem m_K_append (K : jK) (d : Nat) (S : jS) (J : jH) (k st en : Int32) (c : Nat) (hc : S.1 11 = nI c) (h101 : c < 101) (hk : narrow .char (.int k) = .int k) : jM K M_K_append d [.ref 43, .int k, .int st, .int en] (lay S ++ J) (rI en (lay (s2 (s2 (s2 (s1 S 11 (nI (c + 1))) 6 (upd (S.2.1 6) c k)) 7 (upd (S.2.1 7) c st)) 8 (upd (S.2.1 8) c en)) ++ J)) 0 0 := by
  refine jM.of (by decide) (Nat.le_of_ble_eq_true rfl) ?_
  refine j_aload_n d_K_append_0 rfl ?_
  refine j_getf d_K_append_1 f_K_26 rfl rfl ?_
  refine j_top (w := .int (nI c)) (congrArg Value.int hc) ?_
  refine j_bipush (v := 101) d_K_append_4 (by decide) ?_
  refine j_icmp_geF (tgt := 49) d_K_append_6 rfl (show ¬ nI 101 ≤ nI c from nI_ge h101 (by omega)) ?_
  refine j_aload_n d_K_append_9 rfl ?_
  refine j_getf d_K_append_10 f_K_15 rfl rfl ?_
  refine j_aload_n d_K_append_13 rfl ?_
  refine j_getf d_K_append_14 f_K_26 rfl rfl ?_
  refine j_top (w := .int (nI c)) (congrArg Value.int hc) ?_
  refine j_iload_n d_K_append_17 rfl ?_
  refine j_cast d_K_append_18 rfl h101 (by decide) hk rfl ?_
  refine j_aload_n d_K_append_19 rfl ?_
  refine j_getf d_K_append_20 f_K_19 rfl rfl ?_
  refine j_aload_n d_K_append_23 rfl ?_
  refine j_getf d_K_append_24 f_K_26 rfl rfl ?_
  refine j_top (w := .int (nI c)) (congrArg Value.int hc) ?_
  refine j_iload_n d_K_append_27 rfl ?_
  refine j_iast d_K_append_28 rfl h101 (by decide) rfl ?_
  refine j_aload_n d_K_append_29 rfl ?_
  refine j_getf d_K_append_30 f_K_23 rfl rfl ?_
  refine j_aload_n d_K_append_33 rfl ?_
  refine j_getf d_K_append_34 f_K_26 rfl rfl ?_
  refine j_top (w := .int (nI c)) (congrArg Value.int hc) ?_
  refine j_iload_n d_K_append_37 rfl ?_
  refine j_iast d_K_append_38 rfl h101 (by decide) rfl ?_
  refine j_aload_n d_K_append_39 rfl ?_
  refine j_dup d_K_append_40 rfl ?_
  refine j_getf d_K_append_41 f_K_26 rfl rfl ?_
  refine j_top (w := .int (nI c)) (congrArg Value.int hc) ?_
  refine j_iconst (v := 1) d_K_append_44 rfl ?_
  refine j_iadd d_K_append_45 ?_
  refine j_top (w := .int (nI (c + 1))) (by rw [nI_succ]) ?_
  refine j_putf d_K_append_46 f_K_26 rfl (Nat.le_of_ble_eq_true rfl) rfl rfl rfl ?_
  refine j_iload_n d_K_append_49 rfl ?_
  exact j_iret rfl d_K_append_50 ⟨rfl, rfl⟩
theorem sg_ok : ∀ m, m < 127 → ¬ (nI m < 0) ∧ ¬ (255 < nI m) ∧ narrow .char (.int (nI m)) = .int (nI m) := by decide +kernel
theorem m_K_cutOne (K : jK) (d : Nat) (hd : 4 ≤ d) (S : jS) (J : jH) (n : Nat) (hn : S.1 6 = nI n) (h100 : n ≤ 100) (hc : chOk (S.2.1 5)) (ht : txOk (S.2.1 5) n) (i : Nat) (hin : i < n) (c : Nat) (hcc : S.1 11 = nI c) (h101 : c < 101) :
    jM K M_K_cutOne d [.ref 43, .int (nI i)] (lay S ++ J) (rI (nI (tokE (S.2.1 5) n i)) (lay (s2 (s2 (s2 (s1 S 11 (nI (c + 1))) 6 (upd (S.2.1 6) c (tokK (S.2.1 5) n i))) 7 (upd (S.2.1 7) c (nI i))) 8 (upd (S.2.1 8) c (nI (tokE (S.2.1 5) n i)))) ++ J)) 0 0 := by
  refine jM.of (by decide) (Nat.le_of_ble_eq_true rfl) ?_
  obtain ⟨m, hm1, hm2, hm⟩ := ht i hin
  have hsg := sg_ok m (by omega)
  rw [← hm] at hsg
  refine j_aload_n d_K_cutOne_0 rfl ?_
  refine j_getf d_K_cutOne_1 f_K_9 rfl rfl ?_
  refine j_iload_n d_K_cutOne_4 rfl ?_
  refine j_retI (j_callV d_K_cutOne_5 v_T_at l_K_39 rfl rfl (m_T_at K (d - 1) S J n i hn h100 (by omega) hc) (by omega) (by decide) (Nat.le_of_ble_eq_true rfl) rfl) rfl ?_
  rw [if_pos hin]
  refine j_istore_n d_K_cutOne_8 (by decide) ?_
  refine j_bipush (v := 97) d_K_cutOne_9 (by decide) ?_
  refine j_iload_n d_K_cutOne_11 rfl ?_
  refine j_bipush (v := 122) d_K_cutOne_12 (by decide) ?_
  refine j_retI (j_callS d_K_cutOne_14 s_K_isBetween l_K_56 rfl (m_K_isBetween K (d - 1) _ 97 _ 122) (by omega) (by decide) (Nat.le_of_ble_eq_true rfl) rfl) rfl ?_
  cases hl0 : btw 97 (S.2.1 5 i) 122 with
  | true =>
    have hl : isL (S.2.1 5 i) = true := hl0
    refine j_if_eqF (tgt := 37) d_K_cutOne_17 rfl (by decide) ?_
    refine j_aload_n d_K_cutOne_20 rfl ?_
    refine j_bipush (v := 97) d_K_cutOne_21 (by decide) ?_
    refine j_iload_n d_K_cutOne_23 rfl ?_
    refine j_aload_n d_K_cutOne_24 rfl ?_
    refine j_iload_n d_K_cutOne_25 rfl ?_
    refine j_bipush (v := 97) d_K_cutOne_26 (by decide) ?_
    refine j_bipush (v := 122) d_K_cutOne_28 (by decide) ?_
    refine j_retI (j_callV d_K_cutOne_30 v_K_endOf l_K_60 rfl rfl (m_K_endOf K (d - 1) (by omega) S J 97 122 n hn h100 hc i (by omega)) (by omega) (by decide) (Nat.le_of_ble_eq_true rfl) rfl) rfl ?_
    have e1 : tokE (S.2.1 5) n i = tEnd (fun c => btw 97 c 122) (S.2.1 5) (n - i) i := by rw [tokE, hl]; rfl
    have e2 : tokK (S.2.1 5) n i = 97 := by rw [tokK, hl]; rfl
    rw [e1, e2]
    refine j_retI (j_callV d_K_cutOne_33 v_K_append l_K_46 rfl rfl (m_K_append K (d - 1) S J 97 (nI i) _ c hcc h101 rfl) (by omega) (by decide) (Nat.le_of_ble_eq_true rfl) rfl) rfl ?_
    exact j_iret rfl d_K_cutOne_36 ⟨rfl, rfl⟩
  | false =>
    have hl : isL (S.2.1 5 i) = false := hl0
    refine j_if_eqT (tgt := 37) d_K_cutOne_17 rfl rfl ?_
    refine j_bipush (v := 48) d_K_cutOne_37 (by decide) ?_
    refine j_iload_n d_K_cutOne_39 rfl ?_
    refine j_bipush (v := 57) d_K_cutOne_40 (by decide) ?_
    refine j_retI (j_callS d_K_cutOne_42 s_K_isBetween l_K_56 rfl (m_K_isBetween K (d - 1) _ 48 _ 57) (by omega) (by decide) (Nat.le_of_ble_eq_true rfl) rfl) rfl ?_
    cases hdg0 : btw 48 (S.2.1 5 i) 57 with
    | true =>
      have hdg : isD (S.2.1 5 i) = true := hdg0
      refine j_if_eqF (tgt := 79) d_K_cutOne_45 rfl (by decide) ?_
      refine j_aload_n d_K_cutOne_48 rfl ?_
      refine j_iload_n d_K_cutOne_49 rfl ?_
      refine j_bipush (v := 48) d_K_cutOne_50 (by decide) ?_
      refine j_bipush (v := 57) d_K_cutOne_52 (by decide) ?_
      refine j_retI (j_callV d_K_cutOne_54 v_K_endOf l_K_60 rfl rfl (m_K_endOf K (d - 1) (by omega) S J 48 57 n hn h100 hc i (by omega)) (by omega) (by decide) (Nat.le_of_ble_eq_true rfl) rfl) rfl ?_
      have e1 : tokE (S.2.1 5) n i = tEnd (fun c => btw 48 c 57) (S.2.1 5) (n - i) i := by rw [tokE, hl, hdg]; rfl
      have hge := tEnd_ge (fun c => btw 48 c 57) (S.2.1 5) (n - i) i
      have hle := tEnd_le (fun c => btw 48 c 57) (S.2.1 5) (n - i) i
      refine j_istore_n d_K_cutOne_57 (by decide) ?_
      refine j_aload_n d_K_cutOne_58 rfl ?_
      refine j_iload_n d_K_cutOne_59 rfl ?_
      refine j_iload_n d_K_cutOne_60 rfl ?_
      refine j_isub d_K_cutOne_61 ?_
      refine j_top (w := .int (nI (tokE (S.2.1 5) n i - i))) (by rw [e1, pk_sub hge]) ?_
      refine j_iconst (v := 3) d_K_cutOne_62 rfl ?_
      by_cases h3 : tokE (S.2.1 5) n i - i ≤ 3
      · have e2 : tokK (S.2.1 5) n i = 48 := by rw [tokK, hl, hdg]; simp [h3]
        refine j_icmp_gtF (tgt := 71) d_K_cutOne_63 rfl (show ¬ nI 3 < nI (tokE (S.2.1 5) n i - i) from nI_nlt h3 (by omega)) ?_
        refine j_bipush (v := 48) d_K_cutOne_66 (by decide) ?_
        refine j_goto (tgt := 73) d_K_cutOne_68 rfl ?_
        refine j_iload_n d_K_cutOne_73 rfl ?_
        refine j_iload_n d_K_cutOne_74 rfl ?_
        rw [e1, e2]
        refine j_retI (j_callV d_K_cutOne_75 v_K_append l_K_46 rfl rfl (m_K_append K (d - 1) S J 48 (nI i) _ c hcc h101 rfl) (by omega) (by decide) (Nat.le_of_ble_eq_true rfl) rfl) rfl ?_
        exact j_iret rfl d_K_cutOne_78 ⟨rfl, rfl⟩
      · have e2 : tokK (S.2.1 5) n i = 63 := by rw [tokK, hl, hdg]; simp [h3]
        refine j_icmp_gtT (tgt := 71) d_K_cutOne_63 rfl (show nI 3 < nI (tokE (S.2.1 5) n i - i) from nI_lt (by omega) (by omega)) ?_
        refine j_bipush (v := 63) d_K_cutOne_71 (by decide) ?_
        refine j_iload_n d_K_cutOne_73 rfl ?_
        refine j_iload_n d_K_cutOne_74 rfl ?_
        rw [e1, e2]
        refine j_retI (j_callV d_K_cutOne_75 v_K_append l_K_46 rfl rfl (m_K_append K (d - 1) S J 63 (nI i) _ c hcc h101 rfl) (by omega) (by decide) (Nat.le_of_ble_eq_true rfl) rfl) rfl ?_
        exact j_iret rfl d_K_cutOne_78 ⟨rfl, rfl⟩
    | false =>
      have hdg : isD (S.2.1 5 i) = false := hdg0
      refine j_if_eqT (tgt := 79) d_K_cutOne_45 rfl rfl ?_
      refine j_aload_n d_K_cutOne_79 rfl ?_
      refine j_ldcs (i := 15) d_K_cutOne_80 (fun s hX => by rw [j_adx K (by omega)]; exact hX.2.2.2.2.2.2.2.2.2.2.2.2.2.2.2.1) ?_
      refine j_iload_n d_K_cutOne_82 rfl ?_
      refine j_retI (j_callX d_K_cutOne_83 xf_JString_indexOf0 l_K_66 rfl (x_strO K (i := 7) (by omega)) (m_JString_indexOf0 K (d - 1) (by omega) _ 7 (by omega) _ hsg.1 hsg.2.1 (by decide)) (by omega) (by decide) (Nat.le_of_ble_eq_true rfl) rfl) rfl ?_
      have e1 : tokE (S.2.1 5) n i = i + 1 := by rw [tokE, hl, hdg]; rfl
      cases hs : isSg (S.2.1 5 i) with
      | true =>
        have e2 : tokK (S.2.1 5) n i = S.2.1 5 i := by rw [tokK, hl, hdg, hs]; rfl
        refine j_if_ltF (tgt := 93) d_K_cutOne_86 rfl (Int32.not_lt.mpr (of_decide_eq_true hs)) ?_
        refine j_iload_n d_K_cutOne_89 rfl ?_
        refine j_goto (tgt := 95) d_K_cutOne_90 rfl ?_
        refine j_iload_n d_K_cutOne_95 rfl ?_
        refine j_iload_n d_K_cutOne_96 rfl ?_
        refine j_iconst (v := 1) d_K_cutOne_97 rfl ?_
        refine j_iadd d_K_cutOne_98 ?_
        refine j_top (w := .int (nI (i + 1))) (by rw [nI_succ]) ?_
        rw [e1, e2]
        refine j_retI (j_callV d_K_cutOne_99 v_K_append l_K_46 rfl rfl (m_K_append K (d - 1) S J _ (nI i) _ c hcc h101 hsg.2.2) (by omega) (by decide) (Nat.le_of_ble_eq_true rfl) rfl) rfl ?_
        exact j_iret rfl d_K_cutOne_102 ⟨rfl, rfl⟩
      | false =>
        have e2 : tokK (S.2.1 5) n i = 63 := by rw [tokK, hl, hdg, hs]; rfl
        refine j_if_ltT (tgt := 93) d_K_cutOne_86 rfl (Int32.not_le.mp (of_decide_eq_false hs)) ?_
        refine j_bipush (v := 63) d_K_cutOne_93 (by decide) ?_
        refine j_iload_n d_K_cutOne_95 rfl ?_
        refine j_iload_n d_K_cutOne_96 rfl ?_
        refine j_iconst (v := 1) d_K_cutOne_97 rfl ?_
        refine j_iadd d_K_cutOne_98 ?_
        refine j_top (w := .int (nI (i + 1))) (by rw [nI_succ]) ?_
        rw [e1, e2]
        refine j_retI (j_callV d_K_cutOne_99 v_K_append l_K_46 rfl rfl (m_K_append K (d - 1) S J 63 (nI i) _ c hcc h101 rfl) (by omega) (by decide) (Nat.le_of_ble_eq_true rfl) rfl) rfl ?_
        exact j_iret rfl d_K_cutOne_102 ⟨rfl, rfl⟩
