/-! java.lang.String, on the constants 8 to 15 -/
theorem xf_JString_indexOf0 : jMX M_JString_indexOf0 1 := ⟨j_in 577 (by decide +kernel) rfl, j_in 578 (by decide +kernel) rfl, j_in 579 (by decide +kernel) rfl, j_in 20 (by decide +kernel) rfl, ⟨by decide, by decide⟩, by decide +kernel⟩
theorem xf_JString_indexOf1 : jMX M_JString_indexOf1 2 := ⟨j_in 581 (by decide +kernel) rfl, j_in 582 (by decide +kernel) rfl, j_in 583 (by decide +kernel) rfl, j_in 20 (by decide +kernel) rfl, ⟨by decide, by decide⟩, by decide +kernel⟩
theorem xf_JString_isLatin1 : jMX M_JString_isLatin1 0 := ⟨j_in 585 (by decide +kernel) rfl, j_in 586 (by decide +kernel) rfl, j_in 587 (by decide +kernel) rfl, j_in 20 (by decide +kernel) rfl, ⟨by decide, by decide⟩, by decide +kernel⟩
theorem xf_JString_length : jMX M_JString_length 0 := ⟨j_in 591 (by decide +kernel) rfl, j_in 592 (by decide +kernel) rfl, j_in 593 (by decide +kernel) rfl, j_in 20 (by decide +kernel) rfl, ⟨by decide, by decide⟩, by decide +kernel⟩
theorem xf_JString_coder : jMX M_JString_coder 0 := ⟨j_in 595 (by decide +kernel) rfl, j_in 596 (by decide +kernel) rfl, j_in 597 (by decide +kernel) rfl, j_in 20 (by decide +kernel) rfl, ⟨by decide, by decide⟩, by decide +kernel⟩
theorem xf_JString_charAt : jMX M_JString_charAt 1 := ⟨j_in 670 (by decide +kernel) rfl, j_in 671 (by decide +kernel) rfl, j_in 672 (by decide +kernel) rfl, j_in 20 (by decide +kernel) rfl, ⟨by decide, by decide⟩, by decide +kernel⟩
theorem xf_A_word : jMX M_A_word 0 := ⟨j_in 788 (by decide +kernel) rfl, j_in 789 (by decide +kernel) rfl, j_in 790 (by decide +kernel) rfl, j_in 11 (by decide +kernel) rfl, ⟨by decide, by decide⟩, by decide +kernel⟩
theorem fx_c : Cond.fieldLink "java/lang/String" 15 "java/lang/String" "coder" "B" ∈ jt := j_in 1262 (by decide +kernel) rfl
theorem fx_v : Cond.fieldLink "java/lang/String" 9 "java/lang/String" "value" "[B" ∈ jt := j_in 1263 (by decide +kernel) rfl
theorem fx_z : Cond.fieldLink "java/lang/String" 38 "java/lang/String" "COMPACT_STRINGS" "Z" ∈ jt := j_in 588 (by decide +kernel) rfl
theorem fx_f : Cond.fieldLink "java/lang/String" 1053 "jdk/internal/util/Preconditions" "SIOOBE_FORMATTER" "Ljava/util/function/BiFunction;" ∈ jt := j_in 631 (by decide +kernel) rfl
theorem m_JString_coder (K : jK) (d : Nat) (h : jH) (i : Nat) (hi : i < 8) : jM K M_JString_coder d [.ref (8 + i)] (h) (rI 0 h) 0 0 := by
  refine jM.of (by decide +kernel) (Nat.le_of_ble_eq_true rfl) ?_
  refine j_gets (v := .int 1) d_JString_coder_0 (Or.inl fx_z) (x_cmp K) ?_
  refine j_if_eqF (tgt := 13) d_JString_coder_3 rfl (by decide) ?_
  refine j_aload_n d_JString_coder_6 rfl ?_
  refine j_getx (v := .int 0) d_JString_coder_7 fx_c (x_strC K hi) ?_
  refine j_goto (tgt := 14) d_JString_coder_10 rfl ?_
  exact j_zret rfl rfl d_JString_coder_14 ⟨rfl, rfl⟩
theorem m_JString_isLatin1 (K : jK) (d : Nat) (h : jH) (i : Nat) (hi : i < 8) : jM K M_JString_isLatin1 d [.ref (8 + i)] (h) (rI 1 h) 0 0 := by
  refine jM.of (by decide +kernel) (Nat.le_of_ble_eq_true rfl) ?_
  refine j_gets (v := .int 1) d_JString_isLatin1_0 (Or.inl fx_z) (x_cmp K) ?_
  refine j_if_eqF (tgt := 17) d_JString_isLatin1_3 rfl (by decide) ?_
  refine j_aload_n d_JString_isLatin1_6 rfl ?_
  refine j_getx (v := .int 0) d_JString_isLatin1_7 fx_c (x_strC K hi) ?_
  refine j_if_neF (tgt := 17) d_JString_isLatin1_10 rfl (rfl) ?_
  refine j_iconst (v := 1) d_JString_isLatin1_13 rfl ?_
  refine j_goto (tgt := 18) d_JString_isLatin1_14 rfl ?_
  exact j_zret rfl rfl d_JString_isLatin1_18 ⟨rfl, rfl⟩
theorem m_JString_length (K : jK) (d : Nat) (hd : 1 ≤ d) (h : jH) (i : Nat) (hi : i < 8) : jM K M_JString_length d [.ref (8 + i)] (h) (rI (nI (j_txL.getD i 0)) h) 0 0 := by
  refine jM.of (by decide +kernel) (Nat.le_of_ble_eq_true rfl) ?_
  refine j_aload_n d_JString_length_0 rfl ?_
  refine j_getx (v := .ref (16 + i)) d_JString_length_1 fx_v (x_strV K hi) ?_
  refine j_xlen d_JString_length_4 (x_strB K hi) ?_
  refine j_aload_n d_JString_length_5 rfl ?_
  refine j_retI (j_callX d_JString_length_6 xf_JString_coder l_JString_335 rfl (x_strO K hi) (m_JString_coder K (d - 1) h i hi) (by omega) (by decide) (Nat.le_of_ble_eq_true rfl) rfl) rfl ?_
  refine j_ishr d_JString_length_9 ?_
  exact j_iret rfl d_JString_length_10 ⟨by rw [sb_shr0], rfl⟩
theorem m_JPreconditions_checkIndex (K : jK) (d : Nat) (h : jH) (j n : Nat) (hj : j < n) (hn : n < 2 ^ 31) (v : Value) (hv : v.category = 1) : jM K M_JPreconditions_checkIndex d [.int (nI j), .int (nI n), v] (h) (rI (nI j) h) 0 0 := by
  refine jM.of (by decide +kernel) (by simp only [lg_sl, List.flatMap_cons, List.flatMap_nil, hv]; exact Nat.le_of_ble_eq_true rfl) ?_
  refine j_loc' [(0, .int (nI j)), (1, .int (nI n))] ⟨rfl, rfl, trivial⟩ ?_
  refine j_iload_n d_JPreconditions_checkIndex_0 rfl ?_
  refine j_if_ltF (tgt := 9) d_JPreconditions_checkIndex_1 rfl (nI_pos (by omega)) ?_
  refine j_iload_n d_JPreconditions_checkIndex_4 rfl ?_
  refine j_iload_n d_JPreconditions_checkIndex_5 rfl ?_
  refine j_icmp_ltT (tgt := 16) d_JPreconditions_checkIndex_6 rfl (nI_lt hj hn) ?_
  refine j_iload_n d_JPreconditions_checkIndex_16 rfl ?_
  exact j_iret rfl d_JPreconditions_checkIndex_17 ⟨rfl, rfl⟩
theorem j_getsF {K : jK} {M : jR} {d pc : Nat} {ls : List (Nat × Value)} {st : List Value} {h : jH} {Q : jO → jH → Prop} {mc ms : Nat} (hd : decode M.2.1 pc = .ok (.getstatic 1053, 3)) (hM : M.1.cls = "java/lang/String") (kk : ∀ v : Value, (v = .null ∨ v = .ref 25) → jE K M d (pc + 3) ls (v :: st) h Q mc ms) : jE K M d pc ls st h Q mc ms := by
  intro p e R s m as bl me c H lo ce sl la hC
  have hX := hC.2.2.2.2.2.2.2.2.2.2.2.2
  have hlk : Cond.fieldLink M.1.cls 1053 "jdk/internal/util/Preconditions" "SIOOBE_FORMATTER" "Ljava/util/function/BiFunction;" ∈ jt := by rw [hM]; exact fx_f
  have h7 := hX.2.2.2.2.2.2.1
  intro hc hs hl hw hL
  rcases h7 with h7 | h7
  · obtain ⟨cf, kf, fi, f, a, cell, h1, h2, h3, h4, h5, h6, h7, h8⟩ := h7.kept (j_hq hw hX)
    exact W.gets hC.1 hC.2.1 hC.2.2.2.1 (hC.2.2.2.2.1 _ hlk) h1 h2 h3 h4 h5 (fun e => by rw [e] at h6; cases h6) (v := .null) h7 (g := F0 m pc la (st.map (j_v K))) rfl hd (kk .null (Or.inl rfl) p e R s m as bl me c H lo ce sl la hC hc hs hl hw hL)
  · obtain ⟨cf, kf, fi, f, a, cell, h1, h2, h3, h4, h5, h6, h7, h8⟩ := h7.kept (j_hq hw hX)
    exact W.gets hC.1 hC.2.1 hC.2.2.2.1 (hC.2.2.2.2.1 _ hlk) h1 h2 h3 h4 h5 (fun e => by rw [e] at h6; cases h6) (v := .ref (j_x K 25)) h7 (g := F0 m pc la (st.map (j_v K))) rfl hd (kk (.ref 25) (Or.inr rfl) p e R s m as bl me c H lo ce sl la hC hc hs hl hw hL)
theorem m_JString_checkIndex (K : jK) (d : Nat) (hd : 1 ≤ d) (h : jH) (j n : Nat) (hj : j < n) (hn : n < 2 ^ 31) : jM K M_JString_checkIndex d [.int (nI j), .int (nI n)] h (rV h) 0 0 := by
  refine jM.of (by decide +kernel) (Nat.le_of_ble_eq_true rfl) ?_
  refine j_iload_n d_JString_checkIndex_0 rfl ?_
  refine j_iload_n d_JString_checkIndex_1 rfl ?_
  refine j_getsF (M := M_JString_checkIndex) d_JString_checkIndex_2 rfl (fun v hv => ?_)
  refine j_retI (j_callS d_JString_checkIndex_5 s_JPreconditions_checkIndex l_JString_1059 rfl (m_JPreconditions_checkIndex K (d - 1) h j n hj hn v (by rcases hv with rfl | rfl <;> rfl)) (by omega) (by decide) (Nat.le_of_ble_eq_true rfl) rfl) rfl ?_
  refine j_pop d_JString_checkIndex_8 rfl ?_
  exact j_vret rfl d_JString_checkIndex_9 ⟨rfl, rfl⟩
/-- the character at a place of a constant's text -/
def txc (i j : Nat) : Int32 := (j_tx.getD i []).getD j 0
theorem txc_ok : ∀ i, i < 8 → ∀ j, j < j_txL.getD i 0 → ((txc i j &&& 255).toUInt32 % 65536).toInt32 = txc i j ∧ narrow .char (.int (txc i j)) = .int (txc i j) := by decide +kernel
theorem txL_lt : ∀ i, i < 8 → j_txL.getD i 0 < 2 ^ 31 := by decide
theorem m_JStringLatin1_charAt (K : jK) (d : Nat) (hd : 2 ≤ d) (h : jH) (i j : Nat) (hi : i < 8) (hj : j < j_txL.getD i 0) : jM K M_JStringLatin1_charAt d [.ref (16 + i), .int (nI j)] (h) (rI (txc i j) h) 0 0 := by
  refine jM.of (by decide +kernel) (Nat.le_of_ble_eq_true rfl) ?_
  refine j_iload_n d_JStringLatin1_charAt_0 rfl ?_
  refine j_aload_n d_JStringLatin1_charAt_1 rfl ?_
  refine j_xlen d_JStringLatin1_charAt_2 (x_strB K hi) ?_
  refine j_retV (j_callS d_JStringLatin1_charAt_3 s_JString_checkIndex l_JStringLatin1_9 rfl (m_JString_checkIndex K (d - 1) (by omega) h j _ hj (txL_lt i hi)) (by omega) (by decide) (Nat.le_of_ble_eq_true rfl) rfl) rfl ?_
  refine j_aload_n d_JStringLatin1_charAt_6 rfl ?_
  refine j_iload_n d_JStringLatin1_charAt_7 rfl ?_
  refine j_xbald (x := txc i j) d_JStringLatin1_charAt_8 (x_strB K hi) hj (txL_lt i hi) rfl ?_
  refine j_sipush (v := 255) d_JStringLatin1_charAt_9 (by decide) ?_
  refine j_iand d_JStringLatin1_charAt_12 ?_
  refine j_i2c d_JStringLatin1_charAt_13 ?_
  refine j_top (w := .int (txc i j)) (congrArg Value.int (txc_ok i hi j hj).1) ?_
  exact j_zret rfl (txc_ok i hi j hj).2 d_JStringLatin1_charAt_14 ⟨rfl, rfl⟩
theorem m_JString_charAt (K : jK) (d : Nat) (hd : 3 ≤ d) (h : jH) (i j : Nat) (hi : i < 8) (hj : j < j_txL.getD i 0) : jM K M_JString_charAt d [.ref (8 + i), .int (nI j)] (h) (rI (txc i j) h) 0 0 := by
  refine jM.of (by decide +kernel) (Nat.le_of_ble_eq_true rfl) ?_
  refine j_aload_n d_JString_charAt_0 rfl ?_
  refine j_retI (j_callX d_JString_charAt_1 xf_JString_isLatin1 l_JString_492 rfl (x_strO K hi) (m_JString_isLatin1 K (d - 1) h i hi) (by omega) (by decide) (Nat.le_of_ble_eq_true rfl) rfl) rfl ?_
  refine j_if_eqF (tgt := 16) d_JString_charAt_4 rfl (by decide) ?_
  refine j_aload_n d_JString_charAt_7 rfl ?_
  refine j_getx (v := .ref (16 + i)) d_JString_charAt_8 fx_v (x_strV K hi) ?_
  refine j_iload_n d_JString_charAt_11 rfl ?_
  refine j_retI (j_callS d_JString_charAt_12 s_JStringLatin1_charAt l_JString_495 rfl (m_JStringLatin1_charAt K (d - 1) (by omega) h i j hi hj) (by omega) (by decide) (Nat.le_of_ble_eq_true rfl) rfl) rfl ?_
  exact j_zret rfl (txc_ok i hi j hj).2 d_JString_charAt_15 ⟨rfl, rfl⟩
theorem m_JStringLatin1_canEncode (K : jK) (d : Nat) (h : jH) (c : Int32) (h1 : ¬ c < 0) (h2 : ¬ 255 < c) : jM K M_JStringLatin1_canEncode d [.int c] (h) (rI 1 h) 0 0 := by
  refine jM.of (by decide +kernel) (Nat.le_of_ble_eq_true rfl) ?_
  refine j_iload_n d_JStringLatin1_canEncode_0 rfl ?_
  refine j_if_ltF (tgt := 15) d_JStringLatin1_canEncode_1 rfl (h1) ?_
  refine j_iload_n d_JStringLatin1_canEncode_4 rfl ?_
  refine j_sipush (v := 255) d_JStringLatin1_canEncode_5 (by decide) ?_
  refine j_icmp_gtF (tgt := 15) d_JStringLatin1_canEncode_8 rfl (h2) ?_
  refine j_iconst (v := 1) d_JStringLatin1_canEncode_11 rfl ?_
  refine j_goto (tgt := 16) d_JStringLatin1_canEncode_12 rfl ?_
  exact j_zret rfl rfl d_JStringLatin1_canEncode_16 ⟨rfl, rfl⟩
theorem m_JStringLatin1_indexOfChar (K : jK) (d : Nat) (h : jH) (i : Nat) (hi : i < 8) (c : Int32) : jM K M_JStringLatin1_indexOfChar d [.ref (16 + i), .int c, .int 0, .int (nI (j_txL.getD i 0))] h (rI (ixOf (txc i) c.toInt8.toInt32 (j_txL.getD i 0) 0) h) 0 0 := by
  refine jM.of (by decide +kernel) (Nat.le_of_ble_eq_true rfl) ?_
  have hN := txL_lt i hi
  have loop : ∀ k j, j + k = j_txL.getD i 0 → jE K M_JStringLatin1_indexOfChar d 7 [(0, .ref (16 + i)), (3, .int (nI (j_txL.getD i 0))), (4, .int c.toInt8.toInt32), (5, .int (nI j))] [] h (rI (ixOf (txc i) c.toInt8.toInt32 k j) h) 0 0 := by
    intro k
    induction k with
    | zero =>
      intro j hj
      refine j_iload d_JStringLatin1_indexOfChar_7 rfl ?_
      refine j_iload_n d_JStringLatin1_indexOfChar_9 rfl ?_
      refine j_icmp_geT (tgt := 31) d_JStringLatin1_indexOfChar_10 rfl (nI_le (by omega) (by omega)) ?_
      refine j_iconst (v := -1) d_JStringLatin1_indexOfChar_31 rfl ?_
      exact j_iret rfl d_JStringLatin1_indexOfChar_32 ⟨rfl, rfl⟩
    | succ k ih =>
      intro j hj
      refine j_iload d_JStringLatin1_indexOfChar_7 rfl ?_
      refine j_iload_n d_JStringLatin1_indexOfChar_9 rfl ?_
      refine j_icmp_geF (tgt := 31) d_JStringLatin1_indexOfChar_10 rfl (nI_ge (by omega) (by omega)) ?_
      refine j_aload_n d_JStringLatin1_indexOfChar_13 rfl ?_
      refine j_iload d_JStringLatin1_indexOfChar_14 rfl ?_
      refine j_xbald (x := txc i j) d_JStringLatin1_indexOfChar_16 (x_strB K hi) (by omega) hN rfl ?_
      refine j_iload d_JStringLatin1_indexOfChar_17 rfl ?_
      refine j_icmp_ne (tgt := 25) d_JStringLatin1_indexOfChar_19 rfl (fun hc => ?_) (fun hc => ?_)
      · refine j_iincN d_JStringLatin1_indexOfChar_25 rfl (by decide) ?_
        refine j_goto (tgt := 7) d_JStringLatin1_indexOfChar_28 rfl ?_
        refine j_loc' [(0, .ref (16 + i)), (3, .int (nI (j_txL.getD i 0))), (4, .int c.toInt8.toInt32), (5, .int (nI (j + 1)))] ⟨rfl, rfl, rfl, rfl, trivial⟩ ?_
        rw [show ixOf (txc i) c.toInt8.toInt32 (k + 1) j = ixOf (txc i) c.toInt8.toInt32 k (j + 1) by rw [ixOf, if_neg hc]]
        exact ih (j + 1) (by omega)
      · refine j_iload d_JStringLatin1_indexOfChar_22 rfl ?_
        exact j_iret rfl d_JStringLatin1_indexOfChar_24 ⟨by rw [ixOf, if_pos hc], rfl⟩
  refine j_iload_n d_JStringLatin1_indexOfChar_0 rfl ?_
  refine j_i2b d_JStringLatin1_indexOfChar_1 ?_
  refine j_istore d_JStringLatin1_indexOfChar_2 (by decide) ?_
  refine j_iload_n d_JStringLatin1_indexOfChar_4 rfl ?_
  refine j_istore d_JStringLatin1_indexOfChar_5 (by decide) ?_
  exact j_loc' [(0, .ref (16 + i)), (3, .int (nI (j_txL.getD i 0))), (4, .int c.toInt8.toInt32), (5, .int (nI 0))] ⟨rfl, rfl, rfl, rfl, trivial⟩ (loop _ 0 (by omega))
theorem m_JStringLatin1_indexOf (K : jK) (d : Nat) (hd : 1 ≤ d) (h : jH) (i : Nat) (hi : i < 8) (c : Int32) (h1 : ¬ c < 0) (h2 : ¬ 255 < c) (h0 : 0 < j_txL.getD i 0) : jM K M_JStringLatin1_indexOf d [.ref (16 + i), .int c, .int 0, .int (nI (j_txL.getD i 0))] (h) (rI (ixOf (txc i) c.toInt8.toInt32 (j_txL.getD i 0) 0) h) 0 0 := by
  refine jM.of (by decide +kernel) (Nat.le_of_ble_eq_true rfl) ?_
  refine j_iload_n d_JStringLatin1_indexOf_0 rfl ?_
  refine j_retI (j_callS d_JStringLatin1_indexOf_1 s_JStringLatin1_canEncode l_JStringLatin1_88 rfl (m_JStringLatin1_canEncode K (d - 1) h c h1 h2) (by omega) (by decide) (Nat.le_of_ble_eq_true rfl) rfl) rfl ?_
  refine j_if_neT (tgt := 9) d_JStringLatin1_indexOf_4 rfl (by decide) ?_
  refine j_iload_n d_JStringLatin1_indexOf_9 rfl ?_
  refine j_iconst (v := 0) d_JStringLatin1_indexOf_10 rfl ?_
  refine j_retI (j_callS d_JStringLatin1_indexOf_11 s_JMath_max l_JStringLatin1_92 rfl (m_JMath_max K (d - 1) h _ _) (by omega) (by decide) (Nat.le_of_ble_eq_true rfl) rfl) rfl ?_
  refine j_istore_n d_JStringLatin1_indexOf_14 (by decide) ?_
  refine j_iload_n d_JStringLatin1_indexOf_15 rfl ?_
  refine j_aload_n d_JStringLatin1_indexOf_16 rfl ?_
  refine j_xlen d_JStringLatin1_indexOf_17 (x_strB K hi) ?_
  refine j_retI (j_callS d_JStringLatin1_indexOf_18 s_JMath_min l_JStringLatin1_38 rfl (m_JMath_min K (d - 1) h _ _) (by omega) (by decide) (Nat.le_of_ble_eq_true rfl) rfl) rfl ?_
  refine j_top (w := .int (nI (j_txL.getD i 0))) (congrArg Value.int (by rw [minJ]; split <;> rfl)) ?_
  refine j_istore_n d_JStringLatin1_indexOf_21 (by decide) ?_
  refine j_iload_n d_JStringLatin1_indexOf_22 rfl ?_
  refine j_iload_n d_JStringLatin1_indexOf_23 rfl ?_
  refine j_icmp_ltT (tgt := 29) d_JStringLatin1_indexOf_24 rfl (show maxJ 0 0 < _ from (show nI 0 < nI (j_txL.getD i 0) from nI_lt h0 (txL_lt i hi))) ?_
  refine j_aload_n d_JStringLatin1_indexOf_29 rfl ?_
  refine j_iload_n d_JStringLatin1_indexOf_30 rfl ?_
  refine j_iload_n d_JStringLatin1_indexOf_31 rfl ?_
  refine j_iload_n d_JStringLatin1_indexOf_32 rfl ?_
  refine j_retI (j_callS d_JStringLatin1_indexOf_33 s_JStringLatin1_indexOfChar l_JStringLatin1_95 rfl (m_JStringLatin1_indexOfChar K (d - 1) h i hi c) (by omega) (by decide) (Nat.le_of_ble_eq_true rfl) rfl) rfl ?_
  exact j_iret rfl d_JStringLatin1_indexOf_36 ⟨rfl, rfl⟩
theorem m_JString_indexOf1 (K : jK) (d : Nat) (hd : 2 ≤ d) (h : jH) (i : Nat) (hi : i < 8) (c : Int32) (h1 : ¬ c < 0) (h2 : ¬ 255 < c) (h0 : 0 < j_txL.getD i 0) : jM K M_JString_indexOf1 d [.ref (8 + i), .int c, .int 0] (h) (rI (ixOf (txc i) c.toInt8.toInt32 (j_txL.getD i 0) 0) h) 0 0 := by
  refine jM.of (by decide +kernel) (Nat.le_of_ble_eq_true rfl) ?_
  refine j_aload_n d_JString_indexOf1_0 rfl ?_
  refine j_retI (j_callX d_JString_indexOf1_1 xf_JString_isLatin1 l_JString_492 rfl (x_strO K hi) (m_JString_isLatin1 K (d - 1) h i hi) (by omega) (by decide) (Nat.le_of_ble_eq_true rfl) rfl) rfl ?_
  refine j_if_eqF (tgt := 23) d_JString_indexOf1_4 rfl (by decide) ?_
  refine j_aload_n d_JString_indexOf1_7 rfl ?_
  refine j_getx (v := .ref (16 + i)) d_JString_indexOf1_8 fx_v (x_strV K hi) ?_
  refine j_iload_n d_JString_indexOf1_11 rfl ?_
  refine j_iload_n d_JString_indexOf1_12 rfl ?_
  refine j_aload_n d_JString_indexOf1_13 rfl ?_
  refine j_retI (j_callX d_JString_indexOf1_14 xf_JString_length l_JString_505 rfl (x_strO K hi) (m_JString_length K (d - 1) (by omega) h i hi) (by omega) (by decide) (Nat.le_of_ble_eq_true rfl) rfl) rfl ?_
  refine j_retI (j_callS d_JString_indexOf1_17 s_JStringLatin1_indexOf l_JString_637 rfl (m_JStringLatin1_indexOf K (d - 1) (by omega) h i hi c h1 h2 h0) (by omega) (by decide) (Nat.le_of_ble_eq_true rfl) rfl) rfl ?_
  refine j_goto (tgt := 36) d_JString_indexOf1_20 rfl ?_
  exact j_iret rfl d_JString_indexOf1_36 ⟨rfl, rfl⟩
theorem m_JString_indexOf0 (K : jK) (d : Nat) (hd : 3 ≤ d) (h : jH) (i : Nat) (hi : i < 8) (c : Int32) (h1 : ¬ c < 0) (h2 : ¬ 255 < c) (h0 : 0 < j_txL.getD i 0) : jM K M_JString_indexOf0 d [.ref (8 + i), .int c] (h) (rI (ixOf (txc i) c.toInt8.toInt32 (j_txL.getD i 0) 0) h) 0 0 := by
  refine jM.of (by decide +kernel) (Nat.le_of_ble_eq_true rfl) ?_
  refine j_aload_n d_JString_indexOf0_0 rfl ?_
  refine j_iload_n d_JString_indexOf0_1 rfl ?_
  refine j_iconst (v := 0) d_JString_indexOf0_2 rfl ?_
  refine j_retI (j_callX d_JString_indexOf0_3 xf_JString_indexOf1 l_JString_633 rfl (x_strO K hi) (m_JString_indexOf1 K (d - 1) (by omega) h i hi c h1 h2 h0) (by omega) (by decide) (Nat.le_of_ble_eq_true rfl) rfl) rfl ?_
  exact j_iret rfl d_JString_indexOf0_6 ⟨rfl, rfl⟩
