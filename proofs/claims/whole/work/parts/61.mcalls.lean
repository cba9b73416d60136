/-! BitLoomModel: remove, bit -/
theorem m_M_remove_x (K : jK) (d : Nat) (hd : 1 ≤ d) (S : jS) (J : jH) (w : Int32) (hw : badW w) : jM K M_M_remove d [.ref 59, .int w] (lay S ++ J) (rV (lay (s1 S 30 1) ++ J)) 0 0 := by
  refine jM.of (by decide) (Nat.le_of_ble_eq_true rfl) ?_
  refine j_aload_n d_M_remove_0 rfl ?_
  refine j_iload_n d_M_remove_1 rfl ?_
  refine j_retI (j_callS d_M_remove_2 s_M_isWord l_M_83 rfl (m_M_isWord K (d - 1) _ w) (by omega) (by decide) (Nat.le_of_ble_eq_true rfl) rfl) rfl ?_
  refine j_if_neF (tgt := 12) d_M_remove_5 rfl (btw_bad hw) ?_
  refine j_iconst (v := 1) d_M_remove_8 rfl ?_
  refine j_goto (tgt := 26) d_M_remove_9 rfl ?_
  refine j_putf d_M_remove_26 f_M_73 rfl (Nat.le_of_ble_eq_true rfl) rfl rfl rfl ?_
  refine j_hp (h' := lay (s1 S 30 1) ++ J) rfl ?_
  refine j_aload_n d_M_remove_29 rfl ?_
  refine j_getf d_M_remove_30 f_M_73 rfl rfl ?_
  refine j_if_neT (tgt := 57) d_M_remove_33 rfl (show ¬ (1 : Int32) = 0 by decide) ?_
  exact j_vret rfl d_M_remove_57 ⟨rfl, rfl⟩
theorem m_M_remove_y (K : jK) (d : Nat) (hd : 1 ≤ d) (S : jS) (J : jH) (i : Nat) (hi : i < 32) (hu : S.2.1 10 i = 0) : jM K M_M_remove d [.ref 59, .int (nI i)] (lay S ++ J) (rV (lay (s1 S 30 2) ++ J)) 0 0 := by
  refine jM.of (by decide) (Nat.le_of_ble_eq_true rfl) ?_
  refine j_aload_n d_M_remove_0 rfl ?_
  refine j_iload_n d_M_remove_1 rfl ?_
  refine j_retI (j_callS d_M_remove_2 s_M_isWord l_M_83 rfl (m_M_isWord K (d - 1) _ (nI i)) (by omega) (by decide) (Nat.le_of_ble_eq_true rfl) rfl) rfl ?_
  refine j_if_neT (tgt := 12) d_M_remove_5 rfl (by rw [btw_nI hi]; decide) ?_
  refine j_aload_n d_M_remove_12 rfl ?_
  refine j_getf d_M_remove_13 f_M_7 rfl rfl ?_
  refine j_iload_n d_M_remove_16 rfl ?_
  refine j_zald d_M_remove_17 rfl hi (by decide) ?_
  refine j_if_neF (tgt := 25) d_M_remove_18 rfl hu ?_
  refine j_iconst (v := 2) d_M_remove_21 rfl ?_
  refine j_goto (tgt := 26) d_M_remove_22 rfl ?_
  refine j_putf d_M_remove_26 f_M_73 rfl (Nat.le_of_ble_eq_true rfl) rfl rfl rfl ?_
  refine j_hp (h' := lay (s1 S 30 2) ++ J) rfl ?_
  refine j_aload_n d_M_remove_29 rfl ?_
  refine j_getf d_M_remove_30 f_M_73 rfl rfl ?_
  refine j_if_neT (tgt := 57) d_M_remove_33 rfl (show ¬ (2 : Int32) = 0 by decide) ?_
  exact j_vret rfl d_M_remove_57 ⟨rfl, rfl⟩
theorem m_M_remove (K : jK) (d : Nat) (hd : 1 ≤ d) (S : jS) (J : jH) (i : Nat) (hi : i < 32) (hu : ¬ S.2.1 10 i = 0) : jM K M_M_remove d [.ref 59, .int (nI i)] (lay S ++ J) (rV (lay (s2 (s2 (s2 (s1 S 30 0) 10 (upd (S.2.1 10) i 0)) 11 (upd (S.2.1 11) i 0)) 12 (upd (S.2.1 12) i 0)) ++ J)) 0 0 := by
  refine jM.of (by decide) (Nat.le_of_ble_eq_true rfl) ?_
  refine j_aload_n d_M_remove_0 rfl ?_
  refine j_iload_n d_M_remove_1 rfl ?_
  refine j_retI (j_callS d_M_remove_2 s_M_isWord l_M_83 rfl (m_M_isWord K (d - 1) _ (nI i)) (by omega) (by decide) (Nat.le_of_ble_eq_true rfl) rfl) rfl ?_
  refine j_if_neT (tgt := 12) d_M_remove_5 rfl (by rw [btw_nI hi]; decide) ?_
  refine j_aload_n d_M_remove_12 rfl ?_
  refine j_getf d_M_remove_13 f_M_7 rfl rfl ?_
  refine j_iload_n d_M_remove_16 rfl ?_
  refine j_zald d_M_remove_17 rfl hi (by decide) ?_
  refine j_if_neT (tgt := 25) d_M_remove_18 rfl hu ?_
  refine j_iconst (v := 0) d_M_remove_25 rfl ?_
  refine j_putf d_M_remove_26 f_M_73 rfl (Nat.le_of_ble_eq_true rfl) rfl rfl rfl ?_
  refine j_hp (h' := lay (s1 S 30 0) ++ J) rfl ?_
  refine j_aload_n d_M_remove_29 rfl ?_
  refine j_getf d_M_remove_30 f_M_73 rfl rfl ?_
  refine j_if_neF (tgt := 57) d_M_remove_33 rfl rfl ?_
  refine j_aload_n d_M_remove_36 rfl ?_
  refine j_getf d_M_remove_37 f_M_7 rfl rfl ?_
  refine j_iload_n d_M_remove_40 rfl ?_
  refine j_iconst (v := 0) d_M_remove_41 rfl ?_
  refine j_zast d_M_remove_42 rfl hi (by decide) rfl rfl ?_
  refine j_aload_n d_M_remove_43 rfl ?_
  refine j_getf d_M_remove_44 f_M_13 rfl rfl ?_
  refine j_iload_n d_M_remove_47 rfl ?_
  refine j_iconst (v := 0) d_M_remove_48 rfl ?_
  refine j_iast d_M_remove_49 rfl hi (by decide) rfl ?_
  refine j_aload_n d_M_remove_50 rfl ?_
  refine j_getf d_M_remove_51 f_M_17 rfl rfl ?_
  refine j_iload_n d_M_remove_54 rfl ?_
  refine j_iconst (v := 0) d_M_remove_55 rfl ?_
  refine j_zast d_M_remove_56 rfl hi (by decide) rfl rfl ?_
  exact j_vret rfl d_M_remove_57 ⟨rfl, rfl⟩
theorem m_M_bit_x (K : jK) (d : Nat) (hd : 1 ≤ d) (S : jS) (J : jH) (w k : Int32) (hw : badW w ∨ badW k) : jM K M_M_bit d [.ref 59, .int w, .int k] (lay S ++ J) (rI 0 (lay (s1 S 30 1) ++ J)) 0 0 := by
  refine jM.of (by decide) (Nat.le_of_ble_eq_true rfl) ?_
  have bad : jE K M_M_bit d 19 [(0, .ref 59), (1, .int w), (2, .int k)] [.ref 59] (lay S ++ J) (rI 0 (lay (s1 S 30 1) ++ J)) 0 0 := by
    refine j_iconst (v := 1) d_M_bit_19 rfl ?_
    refine j_putf d_M_bit_20 f_M_73 rfl (Nat.le_of_ble_eq_true rfl) rfl rfl rfl ?_
    refine j_hp (h' := lay (s1 S 30 1) ++ J) rfl ?_
    refine j_aload_n d_M_bit_23 rfl ?_
    refine j_getf d_M_bit_24 f_M_73 rfl rfl ?_
    refine j_if_neT (tgt := 48) d_M_bit_27 rfl (show ¬ (1 : Int32) = 0 by decide) ?_
    refine j_iconst (v := 0) d_M_bit_48 rfl ?_
    exact j_zret rfl rfl d_M_bit_49 ⟨rfl, rfl⟩
  refine j_aload_n d_M_bit_0 rfl ?_
  refine j_iload_n d_M_bit_1 rfl ?_
  refine j_retI (j_callS d_M_bit_2 s_M_isWord l_M_83 rfl (m_M_isWord K (d - 1) _ w) (by omega) (by decide) (Nat.le_of_ble_eq_true rfl) rfl) rfl ?_
  refine j_if_eq (tgt := 19) d_M_bit_5 rfl (fun h => bad) (fun h => ?_)
  refine j_iload_n d_M_bit_8 rfl ?_
  refine j_retI (j_callS d_M_bit_9 s_M_isWord l_M_83 rfl (m_M_isWord K (d - 1) _ k) (by omega) (by decide) (Nat.le_of_ble_eq_true rfl) rfl) rfl ?_
  refine j_if_eqT (tgt := 19) d_M_bit_12 rfl (btw_bad (hw.resolve_left (fun q => h (btw_bad q)))) ?_
  exact bad
theorem m_M_bit (K : jK) (d : Nat) (hd : 1 ≤ d) (S : jS) (J : jH) (i k : Nat) (hi : i < 32) (hk : k < 32) : jM K M_M_bit d [.ref 59, .int (nI i), .int (nI k)] (lay S ++ J) (rI (if (S.2.1 11 i >>> (nI k &&& 31)) &&& 1 = 1 then 1 else 0) (lay (s1 S 30 0) ++ J)) 0 0 := by
  refine jM.of (by decide) (Nat.le_of_ble_eq_true rfl) ?_
  refine j_aload_n d_M_bit_0 rfl ?_
  refine j_iload_n d_M_bit_1 rfl ?_
  refine j_retI (j_callS d_M_bit_2 s_M_isWord l_M_83 rfl (m_M_isWord K (d - 1) _ (nI i)) (by omega) (by decide) (Nat.le_of_ble_eq_true rfl) rfl) rfl ?_
  refine j_if_eqF (tgt := 19) d_M_bit_5 rfl (by rw [btw_nI hi]; decide) ?_
  refine j_iload_n d_M_bit_8 rfl ?_
  refine j_retI (j_callS d_M_bit_9 s_M_isWord l_M_83 rfl (m_M_isWord K (d - 1) _ (nI k)) (by omega) (by decide) (Nat.le_of_ble_eq_true rfl) rfl) rfl ?_
  refine j_if_eqF (tgt := 19) d_M_bit_12 rfl (by rw [btw_nI hk]; decide) ?_
  refine j_iconst (v := 0) d_M_bit_15 rfl ?_
  refine j_goto (tgt := 20) d_M_bit_16 rfl ?_
  refine j_putf d_M_bit_20 f_M_73 rfl (Nat.le_of_ble_eq_true rfl) rfl rfl rfl ?_
  refine j_hp (h' := lay (s1 S 30 0) ++ J) rfl ?_
  refine j_aload_n d_M_bit_23 rfl ?_
  refine j_getf d_M_bit_24 f_M_73 rfl rfl ?_
  refine j_if_neF (tgt := 48) d_M_bit_27 rfl rfl ?_
  refine j_aload_n d_M_bit_30 rfl ?_
  refine j_getf d_M_bit_31 f_M_13 rfl rfl ?_
  refine j_iload_n d_M_bit_34 rfl ?_
  refine j_iald d_M_bit_35 rfl hi (by decide) ?_
  refine j_iload_n d_M_bit_36 rfl ?_
  refine j_ishr d_M_bit_37 ?_
  refine j_iconst (v := 1) d_M_bit_38 rfl ?_
  refine j_iand d_M_bit_39 ?_
  refine j_iconst (v := 1) d_M_bit_40 rfl ?_
  by_cases h : (S.2.1 11 i >>> (nI k &&& 31)) &&& 1 = 1
  · rw [if_pos h]
    refine j_icmp_neF (tgt := 48) d_M_bit_41 rfl h ?_
    refine j_iconst (v := 1) d_M_bit_44 rfl ?_
    refine j_goto (tgt := 49) d_M_bit_45 rfl ?_
    exact j_zret rfl rfl d_M_bit_49 ⟨rfl, rfl⟩
  · rw [if_neg h]
    refine j_icmp_neT (tgt := 48) d_M_bit_41 rfl h ?_
    refine j_iconst (v := 0) d_M_bit_48 rfl ?_
    exact j_zret rfl rfl d_M_bit_49 ⟨rfl, rfl⟩
