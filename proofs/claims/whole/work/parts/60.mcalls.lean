/-! BitLoomModel: thrown, place, refused, wipe, responds, listed -/
theorem m_M_thrown (K : jK) (d : Nat) (S : jS) (J : jH) : jM K M_M_thrown d [.ref 59] (lay S ++ J) (rI (S.1 30) (lay S ++ J)) 0 0 := by
  refine jM.of (by decide) (Nat.le_of_ble_eq_true rfl) ?_
  refine j_aload_n d_M_thrown_0 rfl ?_
  refine j_getf d_M_thrown_1 f_M_73 rfl rfl ?_
  exact j_iret rfl d_M_thrown_4 ⟨rfl, rfl⟩
theorem m_M_place (K : jK) (d : Nat) (S : jS) (J : jH) : jM K M_M_place d [.ref 59] (lay S ++ J) (rI (S.1 33) (lay (s1 S 30 0) ++ J)) 0 0 := by
  refine jM.of (by decide) (Nat.le_of_ble_eq_true rfl) ?_
  refine j_aload_n d_M_place_0 rfl ?_
  refine j_iconst (v := 0) d_M_place_1 rfl ?_
  refine j_putf d_M_place_2 f_M_73 rfl (Nat.le_of_ble_eq_true rfl) rfl rfl rfl ?_
  refine j_aload_n d_M_place_5 rfl ?_
  refine j_getf d_M_place_6 f_M_36 rfl rfl ?_
  exact j_iret rfl d_M_place_9 ⟨rfl, rfl⟩
theorem m_M_refused (K : jK) (d : Nat) (S : jS) (J : jH) : jM K M_M_refused d [.ref 59] (lay S ++ J) (rI (S.1 34) (lay (s1 S 30 0) ++ J)) 0 0 := by
  refine jM.of (by decide) (Nat.le_of_ble_eq_true rfl) ?_
  refine j_aload_n d_M_refused_0 rfl ?_
  refine j_iconst (v := 0) d_M_refused_1 rfl ?_
  refine j_putf d_M_refused_2 f_M_73 rfl (Nat.le_of_ble_eq_true rfl) rfl rfl rfl ?_
  refine j_aload_n d_M_refused_5 rfl ?_
  refine j_getf d_M_refused_6 f_M_257 rfl rfl ?_
  exact j_iret rfl d_M_refused_9 ⟨rfl, rfl⟩
theorem m_M_wipe (K : jK) (d : Nat) (S : jS) (J : jH) : jM K M_M_wipe d [.ref 59] (lay S ++ J) (rI (S.1 32) (lay (s1 (s1 S 30 0) 32 0) ++ J)) 0 0 := by
  refine jM.of (by decide) (Nat.le_of_ble_eq_true rfl) ?_
  refine j_aload_n d_M_wipe_0 rfl ?_
  refine j_iconst (v := 0) d_M_wipe_1 rfl ?_
  refine j_putf d_M_wipe_2 f_M_73 rfl (Nat.le_of_ble_eq_true rfl) rfl rfl rfl ?_
  refine j_aload_n d_M_wipe_5 rfl ?_
  refine j_getf d_M_wipe_6 f_M_102 rfl rfl ?_
  refine j_istore_n d_M_wipe_9 (by decide) ?_
  refine j_aload_n d_M_wipe_10 rfl ?_
  refine j_iconst (v := 0) d_M_wipe_11 rfl ?_
  refine j_putf d_M_wipe_12 f_M_102 rfl (Nat.le_of_ble_eq_true rfl) rfl rfl rfl ?_
  refine j_iload_n d_M_wipe_15 rfl ?_
  exact j_iret rfl d_M_wipe_16 ⟨rfl, rfl⟩
theorem m_M_listed_x (K : jK) (d : Nat) (S : jS) (J : jH) (i : Int32) (hi : i < 0 ∨ S.1 35 ≤ i) : jM K M_M_listed d [.ref 59, .int i] (lay S ++ J) (rI 0 (lay (s1 S 30 1) ++ J)) 0 0 := by
  refine jM.of (by decide) (Nat.le_of_ble_eq_true rfl) ?_
  have bad : jE K M_M_listed d 13 [(0, .ref 59), (1, .int i)] [.ref 59] (lay S ++ J) (rI 0 (lay (s1 S 30 1) ++ J)) 0 0 := by
    refine j_iconst (v := 1) d_M_listed_13 rfl ?_
    refine j_goto (tgt := 18) d_M_listed_14 rfl ?_
    refine j_putf d_M_listed_18 f_M_73 rfl (Nat.le_of_ble_eq_true rfl) rfl rfl rfl ?_
    refine j_hp (h' := lay (s1 S 30 1) ++ J) rfl ?_
    refine j_aload_n d_M_listed_21 rfl ?_
    refine j_getf d_M_listed_22 f_M_73 rfl rfl ?_
    refine j_if_neT (tgt := 37) d_M_listed_25 rfl (show ¬ (1 : Int32) = 0 by decide) ?_
    refine j_iconst (v := 0) d_M_listed_37 rfl ?_
    exact j_iret rfl d_M_listed_38 ⟨rfl, rfl⟩
  refine j_aload_n d_M_listed_0 rfl ?_
  refine j_iload_n d_M_listed_1 rfl ?_
  refine j_if_lt (tgt := 13) d_M_listed_2 rfl (fun h => bad) (fun h => ?_)
  refine j_iload_n d_M_listed_5 rfl ?_
  refine j_aload_n d_M_listed_6 rfl ?_
  refine j_getf d_M_listed_7 f_M_260 rfl rfl ?_
  refine j_icmp_ltF (tgt := 17) d_M_listed_10 rfl (Int32.not_lt.mpr (hi.resolve_left h)) ?_
  exact bad
theorem m_M_listed (K : jK) (d : Nat) (S : jS) (J : jH) (i m : Nat) (hm : S.1 35 = nI m) (hm2 : m ≤ 32) (hi : i < m) : jM K M_M_listed d [.ref 59, .int (nI i)] (lay S ++ J) (rI (S.2.1 18 i) (lay (s1 S 30 0) ++ J)) 0 0 := by
  refine jM.of (by decide) (Nat.le_of_ble_eq_true rfl) ?_
  refine j_aload_n d_M_listed_0 rfl ?_
  refine j_iload_n d_M_listed_1 rfl ?_
  refine j_if_ltF (tgt := 13) d_M_listed_2 rfl (Int32.not_lt.mpr (show nI 0 ≤ nI i from nI_le (by omega) (by omega))) ?_
  refine j_iload_n d_M_listed_5 rfl ?_
  refine j_aload_n d_M_listed_6 rfl ?_
  refine j_getf d_M_listed_7 f_M_260 rfl rfl ?_
  refine j_top (w := .int (nI m)) (congrArg Value.int hm) ?_
  refine j_icmp_ltT (tgt := 17) d_M_listed_10 rfl (Int32.not_le.mp (nI_ge (by omega) (by omega))) ?_
  refine j_iconst (v := 0) d_M_listed_17 rfl ?_
  refine j_putf d_M_listed_18 f_M_73 rfl (Nat.le_of_ble_eq_true rfl) rfl rfl rfl ?_
  refine j_hp (h' := lay (s1 S 30 0) ++ J) rfl ?_
  refine j_aload_n d_M_listed_21 rfl ?_
  refine j_getf d_M_listed_22 f_M_73 rfl rfl ?_
  refine j_if_neF (tgt := 37) d_M_listed_25 rfl rfl ?_
  refine j_aload_n d_M_listed_28 rfl ?_
  refine j_getf d_M_listed_29 f_M_40 rfl rfl ?_
  refine j_iload_n d_M_listed_32 rfl ?_
  refine j_iald d_M_listed_33 rfl (show i < 32 by omega) (by decide) ?_
  refine j_goto (tgt := 38) d_M_listed_34 rfl ?_
  exact j_iret rfl d_M_listed_38 ⟨rfl, rfl⟩
theorem btw_bad {w : Int32} (h : badW w) : b2i (btw 0 w 31) = 0 := by
  rcases h with h | h
  · exact btw_a h
  · exact btw_b (Int32.lt_of_lt_of_le (by decide) h)
theorem btw_nI {i : Nat} (h : i < 32) : b2i (btw 0 (nI i) 31) = 1 := btw_c (Int32.not_lt.mpr (show nI 0 ≤ nI i from nI_le (by omega) (by omega))) (Int32.not_lt.mpr (show nI i ≤ nI 31 from nI_le (by omega) (by omega)))
theorem m_M_responds_x (K : jK) (d : Nat) (hd : 1 ≤ d) (S : jS) (J : jH) (w : Int32) (hw : badW w) : jM K M_M_responds d [.ref 59, .int w] (lay S ++ J) (rI 0 (lay (s1 S 30 1) ++ J)) 0 0 := by
  refine jM.of (by decide) (Nat.le_of_ble_eq_true rfl) ?_
  refine j_aload_n d_M_responds_0 rfl ?_
  refine j_iload_n d_M_responds_1 rfl ?_
  refine j_retI (j_callS d_M_responds_2 s_M_isWord l_M_83 rfl (m_M_isWord K (d - 1) _ w) (by omega) (by decide) (Nat.le_of_ble_eq_true rfl) rfl) rfl ?_
  refine j_if_eqT (tgt := 12) d_M_responds_5 rfl (btw_bad hw) ?_
  refine j_iconst (v := 1) d_M_responds_12 rfl ?_
  refine j_putf d_M_responds_13 f_M_73 rfl (Nat.le_of_ble_eq_true rfl) rfl rfl rfl ?_
  refine j_hp (h' := lay (s1 S 30 1) ++ J) rfl ?_
  refine j_aload_n d_M_responds_16 rfl ?_
  refine j_getf d_M_responds_17 f_M_73 rfl rfl ?_
  refine j_if_neT (tgt := 36) d_M_responds_20 rfl (show ¬ (1 : Int32) = 0 by decide) ?_
  refine j_iconst (v := 0) d_M_responds_36 rfl ?_
  exact j_zret rfl rfl d_M_responds_37 ⟨rfl, rfl⟩
theorem m_M_responds (K : jK) (d : Nat) (hd : 1 ≤ d) (S : jS) (J : jH) (i : Nat) (hi : i < 32) : jM K M_M_responds d [.ref 59, .int (nI i)] (lay S ++ J) (rI (if S.2.1 12 i = 0 then 0 else 1) (lay (s1 S 30 0) ++ J)) 0 0 := by
  refine jM.of (by decide) (Nat.le_of_ble_eq_true rfl) ?_
  refine j_aload_n d_M_responds_0 rfl ?_
  refine j_iload_n d_M_responds_1 rfl ?_
  refine j_retI (j_callS d_M_responds_2 s_M_isWord l_M_83 rfl (m_M_isWord K (d - 1) _ (nI i)) (by omega) (by decide) (Nat.le_of_ble_eq_true rfl) rfl) rfl ?_
  refine j_if_eqF (tgt := 12) d_M_responds_5 rfl (by rw [btw_nI hi]; decide) ?_
  refine j_iconst (v := 0) d_M_responds_8 rfl ?_
  refine j_goto (tgt := 13) d_M_responds_9 rfl ?_
  refine j_putf d_M_responds_13 f_M_73 rfl (Nat.le_of_ble_eq_true rfl) rfl rfl rfl ?_
  refine j_hp (h' := lay (s1 S 30 0) ++ J) rfl ?_
  refine j_aload_n d_M_responds_16 rfl ?_
  refine j_getf d_M_responds_17 f_M_73 rfl rfl ?_
  refine j_if_neF (tgt := 36) d_M_responds_20 rfl rfl ?_
  refine j_aload_n d_M_responds_23 rfl ?_
  refine j_getf d_M_responds_24 f_M_17 rfl rfl ?_
  refine j_iload_n d_M_responds_27 rfl ?_
  refine j_zald d_M_responds_28 rfl hi (by decide) ?_
  refine j_if_eq (tgt := 36) d_M_responds_29 rfl (fun h => ?_) (fun h => ?_)
  · rw [if_pos (show S.2.1 12 i = 0 from h)]
    refine j_iconst (v := 0) d_M_responds_36 rfl ?_
    exact j_zret rfl rfl d_M_responds_37 ⟨rfl, rfl⟩
  · rw [if_neg (show ¬ S.2.1 12 i = 0 from h)]
    refine j_iconst (v := 1) d_M_responds_32 rfl ?_
    refine j_goto (tgt := 37) d_M_responds_33 rfl ?_
    exact j_zret rfl rfl d_M_responds_37 ⟨rfl, rfl⟩
