/-! BitLoom, its calls but run -/
theorem nI_m1 {i : Nat} (hi : i < 32) : ¬ nI i = -1 := by
  intro q
  have := congrArg Int32.toInt q
  rw [nI_toInt (by omega)] at this
  have h2 : (-1 : Int32).toInt = -1 := by decide
  omega
/-- no word has this number -/
def badW (w : Int32) : Prop := w < 0 ∨ 32 ≤ w
theorem m_B_requireWord (K : jK) (d : Nat) (h : jH) (i : Nat) (hi : i < 32) : jM K M_B_requireWord d [.ref 32, .int (nI i)] (h) (rV h) 0 0 := by
  refine jM.of (by decide) (Nat.le_of_ble_eq_true rfl) ?_
  refine j_iload_n d_B_requireWord_0 rfl ?_
  refine j_if_ltF (tgt := 10) d_B_requireWord_1 rfl (nI_pos (by omega)) ?_
  refine j_iload_n d_B_requireWord_4 rfl ?_
  refine j_bipush (v := 32) d_B_requireWord_5 (by decide) ?_
  refine j_icmp_ltT (tgt := 18) d_B_requireWord_7 rfl (show nI i < nI 32 from nI_lt hi (by omega)) ?_
  exact j_vret rfl d_B_requireWord_18 ⟨rfl, rfl⟩
theorem m_B_requireWord_x (K : jK) (d : Nat) (hd : 6 ≤ d) (h : jH) (w : Int32) (hw : badW w) : jM K M_B_requireWord d [.ref 32, .int w] (h) (rX 10 h) 0 0 := by
  refine jM.of (by decide) (Nat.le_of_ble_eq_true rfl) ?_
  refine j_iload_n d_B_requireWord_0 rfl ?_
  refine j_if_lt (tgt := 10) d_B_requireWord_1 rfl (fun h1 => ?_) (fun h1 => ?_)
  · exact j_throw d_B_requireWord_10 d_B_requireWord_13 d_B_requireWord_14 d_B_requireWord_17 x_B_51 rfl (by omega) (Nat.le_of_ble_eq_true rfl) ⟨rfl, rfl⟩
  · refine j_iload_n d_B_requireWord_4 rfl ?_
    refine j_bipush (v := 32) d_B_requireWord_5 (by decide) ?_
    refine j_icmp_ltF (tgt := 18) d_B_requireWord_7 rfl (hw.elim (fun q => absurd q h1) (fun q => Int32.not_lt.mpr q)) ?_
    exact j_throw d_B_requireWord_10 d_B_requireWord_13 d_B_requireWord_14 d_B_requireWord_17 x_B_51 rfl (by omega) (Nat.le_of_ble_eq_true rfl) ⟨rfl, rfl⟩
theorem m_B_requireField (K : jK) (d : Nat) (hd : 1 ≤ d) (S : jS) (J : jH) (c : Int32) (n : Nat) (hn : S.1 2 = nI n) (h6 : n ≤ 6) (hf : ¬ ixOf (S.2.1 0) c n 0 = -1) : jM K M_B_requireField d [.ref 32, .int c] (lay S ++ J) (rI (ixOf (S.2.1 0) c n 0) (lay S ++ J)) 0 0 := by
  refine jM.of (by decide) (Nat.le_of_ble_eq_true rfl) ?_
  refine j_aload_n d_B_requireField_0 rfl ?_
  refine j_getf d_B_requireField_1 f_B_12 rfl rfl ?_
  refine j_iload_n d_B_requireField_4 rfl ?_
  refine j_retI (j_callV d_B_requireField_5 v_F_indexOf l_B_175 rfl rfl (m_F_indexOf K (d - 1) S J c n hn h6) (by omega) (by decide) (Nat.le_of_ble_eq_true rfl) rfl) rfl ?_
  refine j_istore_n d_B_requireField_8 (by decide) ?_
  refine j_iload_n d_B_requireField_9 rfl ?_
  refine j_iconst (v := -1) d_B_requireField_10 rfl ?_
  refine j_icmp_neT (tgt := 22) d_B_requireField_11 rfl (hf) ?_
  refine j_iload_n d_B_requireField_22 rfl ?_
  exact j_iret rfl d_B_requireField_23 ⟨rfl, rfl⟩
theorem m_B_requireField_x (K : jK) (d : Nat) (hd : 6 ≤ d) (S : jS) (J : jH) (c : Int32) (n : Nat) (hn : S.1 2 = nI n) (h6 : n ≤ 6) (hf : ixOf (S.2.1 0) c n 0 = -1) : jM K M_B_requireField d [.ref 32, .int c] (lay S ++ J) (rX 10 (lay S ++ J)) 0 0 := by
  refine jM.of (by decide) (Nat.le_of_ble_eq_true rfl) ?_
  refine j_aload_n d_B_requireField_0 rfl ?_
  refine j_getf d_B_requireField_1 f_B_12 rfl rfl ?_
  refine j_iload_n d_B_requireField_4 rfl ?_
  refine j_retI (j_callV d_B_requireField_5 v_F_indexOf l_B_175 rfl rfl (m_F_indexOf K (d - 1) S J c n hn h6) (by omega) (by decide) (Nat.le_of_ble_eq_true rfl) rfl) rfl ?_
  refine j_istore_n d_B_requireField_8 (by decide) ?_
  refine j_iload_n d_B_requireField_9 rfl ?_
  refine j_iconst (v := -1) d_B_requireField_10 rfl ?_
  refine j_icmp_neF (tgt := 22) d_B_requireField_11 rfl (hf) ?_
  exact j_throw d_B_requireField_14 d_B_requireField_17 d_B_requireField_18 d_B_requireField_21 x_B_51 rfl (by omega) (Nat.le_of_ble_eq_true rfl) ⟨rfl, rfl⟩
theorem m_B_requireInUse (K : jK) (d : Nat) (hd : 1 ≤ d) (S : jS) (J : jH) (i : Nat) (hi : i < 32) (hu : bt (S.1 4) i = true) : jM K M_B_requireInUse d [.ref 32, .int (nI i)] (lay S ++ J) (rV (lay S ++ J)) 0 0 := by
  refine jM.of (by decide) (Nat.le_of_ble_eq_true rfl) ?_
  refine j_aload_n d_B_requireInUse_0 rfl ?_
  refine j_getf d_B_requireInUse_1 f_B_19 rfl rfl ?_
  refine j_retI (j_callV d_B_requireInUse_4 v_W_inUse l_B_114 rfl rfl (m_W_inUse K (d - 1) S J) (by omega) (by decide) (Nat.le_of_ble_eq_true rfl) rfl) rfl ?_
  refine j_iload_n d_B_requireInUse_7 rfl ?_
  refine j_retI (j_callS d_B_requireInUse_8 s_W_holds l_B_133 rfl (m_W_holds K (d - 1) _ _ i (by omega)) (by omega) (by decide) (Nat.le_of_ble_eq_true rfl) rfl) rfl ?_
  rw [hu]
  refine j_if_neT (tgt := 22) d_B_requireInUse_11 rfl (by decide) ?_
  exact j_vret rfl d_B_requireInUse_22 ⟨rfl, rfl⟩
theorem m_B_requireInUse_x (K : jK) (d : Nat) (hd : 6 ≤ d) (S : jS) (J : jH) (i : Nat) (hi : i < 32) (hu : bt (S.1 4) i = false) : jM K M_B_requireInUse d [.ref 32, .int (nI i)] (lay S ++ J) (rX 11 (lay S ++ J)) 0 0 := by
  refine jM.of (by decide) (Nat.le_of_ble_eq_true rfl) ?_
  refine j_aload_n d_B_requireInUse_0 rfl ?_
  refine j_getf d_B_requireInUse_1 f_B_19 rfl rfl ?_
  refine j_retI (j_callV d_B_requireInUse_4 v_W_inUse l_B_114 rfl rfl (m_W_inUse K (d - 1) S J) (by omega) (by decide) (Nat.le_of_ble_eq_true rfl) rfl) rfl ?_
  refine j_iload_n d_B_requireInUse_7 rfl ?_
  refine j_retI (j_callS d_B_requireInUse_8 s_W_holds l_B_133 rfl (m_W_holds K (d - 1) _ _ i (by omega)) (by omega) (by decide) (Nat.le_of_ble_eq_true rfl) rfl) rfl ?_
  rw [hu]
  refine j_if_neF (tgt := 22) d_B_requireInUse_11 rfl (rfl) ?_
  exact j_throw d_B_requireInUse_14 d_B_requireInUse_17 d_B_requireInUse_18 d_B_requireInUse_21 x_B_73 rfl (by omega) (Nat.le_of_ble_eq_true rfl) ⟨rfl, rfl⟩
theorem m_B_field_x1 (K : jK) (d : Nat) (hd : 6 ≤ d) (S : jS) (J : jH) (c a w z : Int32) (n : Nat) (hn : S.1 2 = nI n) (h6 : n ≤ 6) (hx : newNm (S.2.1 0) n c = 0 ∨ opnG (S.1 3) a w = 0) : jM K M_B_field d [.ref 32, .int c, .int a, .int w, .int z] (lay S ++ J) (rX 10 (lay S ++ J)) 0 0 := by
  refine jM.of (by decide) (Nat.le_of_ble_eq_true rfl) ?_
  refine j_aload_n d_B_field_0 rfl ?_
  refine j_getf d_B_field_1 f_B_12 rfl rfl ?_
  refine j_iload_n d_B_field_4 rfl ?_
  refine j_retI (j_callV d_B_field_5 v_F_isNewName l_B_43 rfl rfl (m_F_isNewName K (d - 1) (by omega) S J c n hn h6) (by omega) (by decide) (Nat.le_of_ble_eq_true rfl) rfl) rfl ?_
  refine j_if_eq (tgt := 23) d_B_field_8 rfl (fun h8 => ?_) (fun h8 => ?_)
  · exact j_throw d_B_field_23 d_B_field_26 d_B_field_27 d_B_field_30 x_B_51 rfl (by omega) (Nat.le_of_ble_eq_true rfl) ⟨rfl, rfl⟩
  · refine j_aload_n d_B_field_11 rfl ?_
    refine j_getf d_B_field_12 f_B_12 rfl rfl ?_
    refine j_iload_n d_B_field_15 rfl ?_
    refine j_iload_n d_B_field_16 rfl ?_
    refine j_retI (j_callV d_B_field_17 v_F_isOpenGround l_B_47 rfl rfl (m_F_isOpenGround K (d - 1) (by omega) S J a w) (by omega) (by decide) (Nat.le_of_ble_eq_true rfl) rfl) rfl ?_
    refine j_if_neF (tgt := 31) d_B_field_20 rfl ((by rcases hx with hx | hx; exact absurd hx h8; exact hx)) ?_
    exact j_throw d_B_field_23 d_B_field_26 d_B_field_27 d_B_field_30 x_B_51 rfl (by omega) (Nat.le_of_ble_eq_true rfl) ⟨rfl, rfl⟩
theorem m_B_field_x2 (K : jK) (d : Nat) (hd : 6 ≤ d) (S : jS) (J : jH) (c a w z : Int32) (n : Nat) (hn : S.1 2 = nI n) (h6 : n ≤ 6) (hx : ¬ newNm (S.2.1 0) n c = 0) (hy : ¬ opnG (S.1 3) a w = 0) (hz : n = 6) : jM K M_B_field d [.ref 32, .int c, .int a, .int w, .int z] (lay S ++ J) (rX 12 (lay S ++ J)) 0 0 := by
  refine jM.of (by decide) (Nat.le_of_ble_eq_true rfl) ?_
  refine j_aload_n d_B_field_0 rfl ?_
  refine j_getf d_B_field_1 f_B_12 rfl rfl ?_
  refine j_iload_n d_B_field_4 rfl ?_
  refine j_retI (j_callV d_B_field_5 v_F_isNewName l_B_43 rfl rfl (m_F_isNewName K (d - 1) (by omega) S J c n hn h6) (by omega) (by decide) (Nat.le_of_ble_eq_true rfl) rfl) rfl ?_
  refine j_if_eqF (tgt := 23) d_B_field_8 rfl (hx) ?_
  refine j_aload_n d_B_field_11 rfl ?_
  refine j_getf d_B_field_12 f_B_12 rfl rfl ?_
  refine j_iload_n d_B_field_15 rfl ?_
  refine j_iload_n d_B_field_16 rfl ?_
  refine j_retI (j_callV d_B_field_17 v_F_isOpenGround l_B_47 rfl rfl (m_F_isOpenGround K (d - 1) (by omega) S J a w) (by omega) (by decide) (Nat.le_of_ble_eq_true rfl) rfl) rfl ?_
  refine j_if_neT (tgt := 31) d_B_field_20 rfl (hy) ?_
  refine j_aload_n d_B_field_31 rfl ?_
  refine j_getf d_B_field_32 f_B_12 rfl rfl ?_
  refine j_retI (j_callV d_B_field_35 v_F_isFull l_B_54 rfl rfl (m_F_isFull K (d - 1) S J) (by omega) (by decide) (Nat.le_of_ble_eq_true rfl) rfl) rfl ?_
  refine j_if_eqF (tgt := 49) d_B_field_38 rfl (by rw [hn, hz]; decide) ?_
  exact j_throw d_B_field_41 d_B_field_44 d_B_field_45 d_B_field_48 x_B_58 rfl (by omega) (Nat.le_of_ble_eq_true rfl) ⟨rfl, rfl⟩
theorem m_B_field (K : jK) (d : Nat) (hd : 6 ≤ d) (S : jS) (J : jH) (c a w z : Int32) (n : Nat) (hn : S.1 2 = nI n) (h6 : n ≤ 6) (hx : ¬ newNm (S.2.1 0) n c = 0) (hy : ¬ opnG (S.1 3) a w = 0) (hz : n < 6) (hcc : narrow .char (.int c) = .int c) (hzz : narrow .boolean (.int z) = .int z) : jM K M_B_field d [.ref 32, .int c, .int a, .int w, .int z] (lay S ++ J) (rV (lay (s1 (s1 (s2 (s2 (s2 (s2 S 0 (upd (S.2.1 0) n c)) 1 (upd (S.2.1 1) n a)) 2 (upd (S.2.1 2) n w)) 3 (upd (S.2.1 3) n z)) 2 (nI (n + 1))) 3 (S.1 3 ||| grd a w)) ++ J)) 0 0 := by
  refine jM.of (by decide) (Nat.le_of_ble_eq_true rfl) ?_
  refine j_aload_n d_B_field_0 rfl ?_
  refine j_getf d_B_field_1 f_B_12 rfl rfl ?_
  refine j_iload_n d_B_field_4 rfl ?_
  refine j_retI (j_callV d_B_field_5 v_F_isNewName l_B_43 rfl rfl (m_F_isNewName K (d - 1) (by omega) S J c n hn h6) (by omega) (by decide) (Nat.le_of_ble_eq_true rfl) rfl) rfl ?_
  refine j_if_eqF (tgt := 23) d_B_field_8 rfl (hx) ?_
  refine j_aload_n d_B_field_11 rfl ?_
  refine j_getf d_B_field_12 f_B_12 rfl rfl ?_
  refine j_iload_n d_B_field_15 rfl ?_
  refine j_iload_n d_B_field_16 rfl ?_
  refine j_retI (j_callV d_B_field_17 v_F_isOpenGround l_B_47 rfl rfl (m_F_isOpenGround K (d - 1) (by omega) S J a w) (by omega) (by decide) (Nat.le_of_ble_eq_true rfl) rfl) rfl ?_
  refine j_if_neT (tgt := 31) d_B_field_20 rfl (hy) ?_
  refine j_aload_n d_B_field_31 rfl ?_
  refine j_getf d_B_field_32 f_B_12 rfl rfl ?_
  refine j_retI (j_callV d_B_field_35 v_F_isFull l_B_54 rfl rfl (m_F_isFull K (d - 1) S J) (by omega) (by decide) (Nat.le_of_ble_eq_true rfl) rfl) rfl ?_
  refine j_if_eqT (tgt := 49) d_B_field_38 rfl (by rw [hn]; exact if_neg (show ¬ nI 6 ≤ nI n from nI_ge hz (by omega))) ?_
  refine j_aload_n d_B_field_49 rfl ?_
  refine j_getf d_B_field_50 f_B_12 rfl rfl ?_
  refine j_iload_n d_B_field_53 rfl ?_
  refine j_iload_n d_B_field_54 rfl ?_
  refine j_iload_n d_B_field_55 rfl ?_
  refine j_iload d_B_field_56 rfl ?_
  refine j_retV (j_callV d_B_field_58 v_F_append l_B_61 rfl rfl (m_F_append K (d - 1) (by omega) S J c a w z n hn hz hcc hzz) (by omega) (by decide) (Nat.le_of_ble_eq_true rfl) rfl) rfl ?_
  exact j_vret rfl d_B_field_61 ⟨rfl, rfl⟩
theorem m_B_insert_x (K : jK) (d : Nat) (hd : 6 ≤ d) (S : jS) (J : jH) (hx : lowF (S.1 4 ^^^ (-1)) 32 0 = -1) : jM K M_B_insert d [.ref 32] (lay S ++ J) (rX 11 (lay S ++ J)) 0 0 := by
  refine jM.of (by decide) (Nat.le_of_ble_eq_true rfl) ?_
  refine j_aload_n d_B_insert_0 rfl ?_
  refine j_getf d_B_insert_1 f_B_19 rfl rfl ?_
  refine j_retI (j_callV d_B_insert_4 v_W_free l_B_65 rfl rfl (m_W_free K (d - 1) S J) (by omega) (by decide) (Nat.le_of_ble_eq_true rfl) rfl) rfl ?_
  refine j_retI (j_callS d_B_insert_7 s_W_lowestOf l_B_69 rfl (m_W_lowestOf K (d - 1) (by omega) _ _) (by omega) (by decide) (Nat.le_of_ble_eq_true rfl) rfl) rfl ?_
  refine j_istore_n d_B_insert_10 (by decide) ?_
  refine j_iload_n d_B_insert_11 rfl ?_
  refine j_iconst (v := -1) d_B_insert_12 rfl ?_
  refine j_icmp_neF (tgt := 24) d_B_insert_13 rfl (hx) ?_
  exact j_throw d_B_insert_16 d_B_insert_19 d_B_insert_20 d_B_insert_23 x_B_73 rfl (by omega) (Nat.le_of_ble_eq_true rfl) ⟨rfl, rfl⟩
theorem m_B_insert (K : jK) (d : Nat) (hd : 6 ≤ d) (S : jS) (J : jH) (i : Nat) (hi : i < 32) (hx : lowF (S.1 4 ^^^ (-1)) 32 0 = nI i) : jM K M_B_insert d [.ref 32] (lay S ++ J) (rI (nI i) (lay (s1 S 4 (S.1 4 ||| ((1 : Int32) <<< (nI i &&& 31)))) ++ J)) 0 0 := by
  refine jM.of (by decide) (Nat.le_of_ble_eq_true rfl) ?_
  refine j_aload_n d_B_insert_0 rfl ?_
  refine j_getf d_B_insert_1 f_B_19 rfl rfl ?_
  refine j_retI (j_callV d_B_insert_4 v_W_free l_B_65 rfl rfl (m_W_free K (d - 1) S J) (by omega) (by decide) (Nat.le_of_ble_eq_true rfl) rfl) rfl ?_
  refine j_retI (j_callS d_B_insert_7 s_W_lowestOf l_B_69 rfl (m_W_lowestOf K (d - 1) (by omega) _ _) (by omega) (by decide) (Nat.le_of_ble_eq_true rfl) rfl) rfl ?_
  rw [hx]
  refine j_istore_n d_B_insert_10 (by decide) ?_
  refine j_iload_n d_B_insert_11 rfl ?_
  refine j_iconst (v := -1) d_B_insert_12 rfl ?_
  refine j_icmp_neT (tgt := 24) d_B_insert_13 rfl (nI_m1 hi) ?_
  refine j_aload_n d_B_insert_24 rfl ?_
  refine j_getf d_B_insert_25 f_B_19 rfl rfl ?_
  refine j_iload_n d_B_insert_28 rfl ?_
  refine j_retV (j_callV d_B_insert_29 v_W_occupy l_B_76 rfl rfl (m_W_occupy K (d - 1) S J i) (by omega) (by decide) (Nat.le_of_ble_eq_true rfl) rfl) rfl ?_
  refine j_iload_n d_B_insert_32 rfl ?_
  exact j_iret rfl d_B_insert_33 ⟨rfl, rfl⟩
theorem m_B_remove_x1 (K : jK) (d : Nat) (hd : 8 ≤ d) (S : jS) (J : jH) (w : Int32) (hw : badW w) : jM K M_B_remove d [.ref 32, .int w] (lay S ++ J) (rX 10 (lay S ++ J)) 0 0 := by
  refine jM.of (by decide) (Nat.le_of_ble_eq_true rfl) ?_
  refine j_aload_n d_B_remove_0 rfl ?_
  refine j_iload_n d_B_remove_1 rfl ?_
  exact j_retX (j_callV d_B_remove_2 v_B_requireWord l_B_80 rfl rfl (m_B_requireWord_x K (d - 1) (by omega) _ w hw) (by omega) (by decide) (Nat.le_of_ble_eq_true rfl) rfl) rfl ⟨rfl, rfl⟩
theorem m_B_remove_x2 (K : jK) (d : Nat) (hd : 8 ≤ d) (S : jS) (J : jH) (i : Nat) (hi : i < 32) (hu : bt (S.1 4) i = false) : jM K M_B_remove d [.ref 32, .int (nI i)] (lay S ++ J) (rX 11 (lay S ++ J)) 0 0 := by
  refine jM.of (by decide) (Nat.le_of_ble_eq_true rfl) ?_
  refine j_aload_n d_B_remove_0 rfl ?_
  refine j_iload_n d_B_remove_1 rfl ?_
  refine j_retV (j_callV d_B_remove_2 v_B_requireWord l_B_80 rfl rfl (m_B_requireWord K (d - 1) _ i (by omega)) (by omega) (by decide) (Nat.le_of_ble_eq_true rfl) rfl) rfl ?_
  refine j_aload_n d_B_remove_5 rfl ?_
  refine j_iload_n d_B_remove_6 rfl ?_
  exact j_retX (j_callV d_B_remove_7 v_B_requireInUse l_B_83 rfl rfl (m_B_requireInUse_x K (d - 1) (by omega) S J i (by omega) hu) (by omega) (by decide) (Nat.le_of_ble_eq_true rfl) rfl) rfl ⟨rfl, rfl⟩
theorem m_B_remove (K : jK) (d : Nat) (hd : 8 ≤ d) (S : jS) (J : jH) (i : Nat) (hi : i < 32) (hu : bt (S.1 4) i = true) : jM K M_B_remove d [.ref 32, .int (nI i)] (lay S ++ J) (rV (lay (s2 (s1 (s1 S 4 (S.1 4 &&& (((1 : Int32) <<< (nI i &&& 31)) ^^^ (-1)))) 5 (S.1 5 &&& (((1 : Int32) <<< (nI i &&& 31)) ^^^ (-1)))) 4 (upd (S.2.1 4) i 0)) ++ J)) 0 0 := by
  refine jM.of (by decide) (Nat.le_of_ble_eq_true rfl) ?_
  refine j_aload_n d_B_remove_0 rfl ?_
  refine j_iload_n d_B_remove_1 rfl ?_
  refine j_retV (j_callV d_B_remove_2 v_B_requireWord l_B_80 rfl rfl (m_B_requireWord K (d - 1) _ i (by omega)) (by omega) (by decide) (Nat.le_of_ble_eq_true rfl) rfl) rfl ?_
  refine j_aload_n d_B_remove_5 rfl ?_
  refine j_iload_n d_B_remove_6 rfl ?_
  refine j_retV (j_callV d_B_remove_7 v_B_requireInUse l_B_83 rfl rfl (m_B_requireInUse K (d - 1) (by omega) S J i (by omega) hu) (by omega) (by decide) (Nat.le_of_ble_eq_true rfl) rfl) rfl ?_
  refine j_aload_n d_B_remove_10 rfl ?_
  refine j_getf d_B_remove_11 f_B_19 rfl rfl ?_
  refine j_iload_n d_B_remove_14 rfl ?_
  refine j_retV (j_callV d_B_remove_15 v_W_release l_B_86 rfl rfl (m_W_release K (d - 1) S J i hi) (by omega) (by decide) (Nat.le_of_ble_eq_true rfl) rfl) rfl ?_
  exact j_vret rfl d_B_remove_18 ⟨rfl, rfl⟩
theorem m_B_put_x1 (K : jK) (d : Nat) (hd : 8 ≤ d) (S : jS) (J : jH) (w c v : Int32) (hw : badW w) : jM K M_B_put d [.ref 32, .int w, .int c, .int v] (lay S ++ J) (rX 10 (lay S ++ J)) 0 0 := by
  refine jM.of (by decide) (Nat.le_of_ble_eq_true rfl) ?_
  refine j_aload_n d_B_put_0 rfl ?_
  refine j_iload_n d_B_put_1 rfl ?_
  exact j_retX (j_callV d_B_put_2 v_B_requireWord l_B_80 rfl rfl (m_B_requireWord_x K (d - 1) (by omega) _ w hw) (by omega) (by decide) (Nat.le_of_ble_eq_true rfl) rfl) rfl ⟨rfl, rfl⟩
theorem m_B_put_x2 (K : jK) (d : Nat) (hd : 8 ≤ d) (S : jS) (J : jH) (i : Nat) (hi : i < 32) (c v : Int32) (n : Nat) (hn : S.1 2 = nI n) (h6 : n ≤ 6) (hf : ixOf (S.2.1 0) c n 0 = -1) : jM K M_B_put d [.ref 32, .int (nI i), .int c, .int v] (lay S ++ J) (rX 10 (lay S ++ J)) 0 0 := by
  refine jM.of (by decide) (Nat.le_of_ble_eq_true rfl) ?_
  refine j_aload_n d_B_put_0 rfl ?_
  refine j_iload_n d_B_put_1 rfl ?_
  refine j_retV (j_callV d_B_put_2 v_B_requireWord l_B_80 rfl rfl (m_B_requireWord K (d - 1) _ i (by omega)) (by omega) (by decide) (Nat.le_of_ble_eq_true rfl) rfl) rfl ?_
  refine j_aload_n d_B_put_5 rfl ?_
  refine j_iload_n d_B_put_6 rfl ?_
  exact j_retX (j_callV d_B_put_7 v_B_requireField l_B_89 rfl rfl (m_B_requireField_x K (d - 1) (by omega) S J c n hn h6 hf) (by omega) (by decide) (Nat.le_of_ble_eq_true rfl) rfl) rfl ⟨rfl, rfl⟩
theorem m_B_put_x3 (K : jK) (d : Nat) (hd : 8 ≤ d) (S : jS) (J : jH) (i : Nat) (hi : i < 32) (c v : Int32) (n : Nat) (hn : S.1 2 = nI n) (h6 : n ≤ 6)(f : Nat) (hf6 : f < 6) (hf : ixOf (S.2.1 0) c n 0 = nI f) (hu : bt (S.1 4) i = false) : jM K M_B_put d [.ref 32, .int (nI i), .int c, .int v] (lay S ++ J) (rX 11 (lay S ++ J)) 0 0 := by
  refine jM.of (by decide) (Nat.le_of_ble_eq_true rfl) ?_
  refine j_aload_n d_B_put_0 rfl ?_
  refine j_iload_n d_B_put_1 rfl ?_
  refine j_retV (j_callV d_B_put_2 v_B_requireWord l_B_80 rfl rfl (m_B_requireWord K (d - 1) _ i (by omega)) (by omega) (by decide) (Nat.le_of_ble_eq_true rfl) rfl) rfl ?_
  refine j_aload_n d_B_put_5 rfl ?_
  refine j_iload_n d_B_put_6 rfl ?_
  refine j_retI (j_callV d_B_put_7 v_B_requireField l_B_89 rfl rfl (m_B_requireField K (d - 1) (by omega) S J c n hn h6 (by rw [hf]; exact nI_m1 (by omega))) (by omega) (by decide) (Nat.le_of_ble_eq_true rfl) rfl) rfl ?_
  rw [hf]
  refine j_istore d_B_put_10 (by decide) ?_
  refine j_aload_n d_B_put_12 rfl ?_
  refine j_iload_n d_B_put_13 rfl ?_
  exact j_retX (j_callV d_B_put_14 v_B_requireInUse l_B_83 rfl rfl (m_B_requireInUse_x K (d - 1) (by omega) S J i (by omega) hu) (by omega) (by decide) (Nat.le_of_ble_eq_true rfl) rfl) rfl ⟨rfl, rfl⟩
theorem m_B_put_x4 (K : jK) (d : Nat) (hd : 8 ≤ d) (S : jS) (J : jH) (i : Nat) (hi : i < 32) (c v : Int32) (n : Nat) (hn : S.1 2 = nI n) (h6 : n ≤ 6)(f : Nat) (hf6 : f < 6) (hf : ixOf (S.2.1 0) c n 0 = nI f) (hu : bt (S.1 4) i = true) (hv : vfit (S.2.1 2 f) (S.2.1 3 f) v = 0) : jM K M_B_put d [.ref 32, .int (nI i), .int c, .int v] (lay S ++ J) (rX 12 (lay S ++ J)) 0 0 := by
  refine jM.of (by decide) (Nat.le_of_ble_eq_true rfl) ?_
  refine j_aload_n d_B_put_0 rfl ?_
  refine j_iload_n d_B_put_1 rfl ?_
  refine j_retV (j_callV d_B_put_2 v_B_requireWord l_B_80 rfl rfl (m_B_requireWord K (d - 1) _ i (by omega)) (by omega) (by decide) (Nat.le_of_ble_eq_true rfl) rfl) rfl ?_
  refine j_aload_n d_B_put_5 rfl ?_
  refine j_iload_n d_B_put_6 rfl ?_
  refine j_retI (j_callV d_B_put_7 v_B_requireField l_B_89 rfl rfl (m_B_requireField K (d - 1) (by omega) S J c n hn h6 (by rw [hf]; exact nI_m1 (by omega))) (by omega) (by decide) (Nat.le_of_ble_eq_true rfl) rfl) rfl ?_
  rw [hf]
  refine j_istore d_B_put_10 (by decide) ?_
  refine j_aload_n d_B_put_12 rfl ?_
  refine j_iload_n d_B_put_13 rfl ?_
  refine j_retV (j_callV d_B_put_14 v_B_requireInUse l_B_83 rfl rfl (m_B_requireInUse K (d - 1) (by omega) S J i (by omega) hu) (by omega) (by decide) (Nat.le_of_ble_eq_true rfl) rfl) rfl ?_
  refine j_aload_n d_B_put_17 rfl ?_
  refine j_getf d_B_put_18 f_B_12 rfl rfl ?_
  refine j_iload d_B_put_21 rfl ?_
  refine j_iload_n d_B_put_23 rfl ?_
  refine j_retI (j_callV d_B_put_24 v_F_fits l_B_93 rfl rfl (m_F_fits K (d - 1) S J f v hf6) (by omega) (by decide) (Nat.le_of_ble_eq_true rfl) rfl) rfl ?_
  refine j_if_neF (tgt := 38) d_B_put_27 rfl (hv) ?_
  exact j_throw d_B_put_30 d_B_put_33 d_B_put_34 d_B_put_37 x_B_58 rfl (by omega) (Nat.le_of_ble_eq_true rfl) ⟨rfl, rfl⟩
theorem m_B_put (K : jK) (d : Nat) (hd : 8 ≤ d) (S : jS) (J : jH) (i : Nat) (hi : i < 32) (c v : Int32) (n : Nat) (hn : S.1 2 = nI n) (h6 : n ≤ 6)(f : Nat) (hf6 : f < 6) (hf : ixOf (S.2.1 0) c n 0 = nI f) (hu : bt (S.1 4) i = true) (hv : ¬ vfit (S.2.1 2 f) (S.2.1 3 f) v = 0) : jM K M_B_put d [.ref 32, .int (nI i), .int c, .int v] (lay S ++ J) (rV (lay (s2 S 4 (upd (S.2.1 4) i (vput (S.2.1 1 f) (S.2.1 2 f) (S.2.1 4 i) v))) ++ J)) 0 0 := by
  refine jM.of (by decide) (Nat.le_of_ble_eq_true rfl) ?_
  refine j_aload_n d_B_put_0 rfl ?_
  refine j_iload_n d_B_put_1 rfl ?_
  refine j_retV (j_callV d_B_put_2 v_B_requireWord l_B_80 rfl rfl (m_B_requireWord K (d - 1) _ i (by omega)) (by omega) (by decide) (Nat.le_of_ble_eq_true rfl) rfl) rfl ?_
  refine j_aload_n d_B_put_5 rfl ?_
  refine j_iload_n d_B_put_6 rfl ?_
  refine j_retI (j_callV d_B_put_7 v_B_requireField l_B_89 rfl rfl (m_B_requireField K (d - 1) (by omega) S J c n hn h6 (by rw [hf]; exact nI_m1 (by omega))) (by omega) (by decide) (Nat.le_of_ble_eq_true rfl) rfl) rfl ?_
  rw [hf]
  refine j_istore d_B_put_10 (by decide) ?_
  refine j_aload_n d_B_put_12 rfl ?_
  refine j_iload_n d_B_put_13 rfl ?_
  refine j_retV (j_callV d_B_put_14 v_B_requireInUse l_B_83 rfl rfl (m_B_requireInUse K (d - 1) (by omega) S J i (by omega) hu) (by omega) (by decide) (Nat.le_of_ble_eq_true rfl) rfl) rfl ?_
  refine j_aload_n d_B_put_17 rfl ?_
  refine j_getf d_B_put_18 f_B_12 rfl rfl ?_
  refine j_iload d_B_put_21 rfl ?_
  refine j_iload_n d_B_put_23 rfl ?_
  refine j_retI (j_callV d_B_put_24 v_F_fits l_B_93 rfl rfl (m_F_fits K (d - 1) S J f v hf6) (by omega) (by decide) (Nat.le_of_ble_eq_true rfl) rfl) rfl ?_
  refine j_if_neT (tgt := 38) d_B_put_27 rfl (hv) ?_
  refine j_aload_n d_B_put_38 rfl ?_
  refine j_getf d_B_put_39 f_B_19 rfl rfl ?_
  refine j_iload_n d_B_put_42 rfl ?_
  refine j_aload_n d_B_put_43 rfl ?_
  refine j_getf d_B_put_44 f_B_12 rfl rfl ?_
  refine j_iload d_B_put_47 rfl ?_
  refine j_aload_n d_B_put_49 rfl ?_
  refine j_getf d_B_put_50 f_B_19 rfl rfl ?_
  refine j_iload_n d_B_put_53 rfl ?_
  refine j_retI (j_callV d_B_put_54 v_W_bitsOf l_B_96 rfl rfl (m_W_bitsOf K (d - 1) S J i hi) (by omega) (by decide) (Nat.le_of_ble_eq_true rfl) rfl) rfl ?_
  refine j_iload_n d_B_put_57 rfl ?_
  refine j_retI (j_callV d_B_put_58 v_F_withValue l_B_99 rfl rfl (m_F_withValue K (d - 1) (by omega) S J f _ v hf6) (by omega) (by decide) (Nat.le_of_ble_eq_true rfl) rfl) rfl ?_
  refine j_retV (j_callV d_B_put_61 v_W_replace l_B_103 rfl rfl (m_W_replace K (d - 1) S J i hi _) (by omega) (by decide) (Nat.le_of_ble_eq_true rfl) rfl) rfl ?_
  exact j_vret rfl d_B_put_64 ⟨rfl, rfl⟩
theorem m_B_get_x1 (K : jK) (d : Nat) (hd : 8 ≤ d) (S : jS) (J : jH) (w c : Int32) (hw : badW w) : jM K M_B_get d [.ref 32, .int w, .int c] (lay S ++ J) (rX 10 (lay S ++ J)) 0 0 := by
  refine jM.of (by decide) (Nat.le_of_ble_eq_true rfl) ?_
  refine j_aload_n d_B_get_0 rfl ?_
  refine j_iload_n d_B_get_1 rfl ?_
  exact j_retX (j_callV d_B_get_2 v_B_requireWord l_B_80 rfl rfl (m_B_requireWord_x K (d - 1) (by omega) _ w hw) (by omega) (by decide) (Nat.le_of_ble_eq_true rfl) rfl) rfl ⟨rfl, rfl⟩
theorem m_B_get_x2 (K : jK) (d : Nat) (hd : 8 ≤ d) (S : jS) (J : jH) (i : Nat) (hi : i < 32) (c : Int32) (n : Nat) (hn : S.1 2 = nI n) (h6 : n ≤ 6) (hf : ixOf (S.2.1 0) c n 0 = -1) : jM K M_B_get d [.ref 32, .int (nI i), .int c] (lay S ++ J) (rX 10 (lay S ++ J)) 0 0 := by
  refine jM.of (by decide) (Nat.le_of_ble_eq_true rfl) ?_
  refine j_aload_n d_B_get_0 rfl ?_
  refine j_iload_n d_B_get_1 rfl ?_
  refine j_retV (j_callV d_B_get_2 v_B_requireWord l_B_80 rfl rfl (m_B_requireWord K (d - 1) _ i (by omega)) (by omega) (by decide) (Nat.le_of_ble_eq_true rfl) rfl) rfl ?_
  refine j_aload_n d_B_get_5 rfl ?_
  refine j_iload_n d_B_get_6 rfl ?_
  exact j_retX (j_callV d_B_get_7 v_B_requireField l_B_89 rfl rfl (m_B_requireField_x K (d - 1) (by omega) S J c n hn h6 hf) (by omega) (by decide) (Nat.le_of_ble_eq_true rfl) rfl) rfl ⟨rfl, rfl⟩
theorem m_B_get_x3 (K : jK) (d : Nat) (hd : 8 ≤ d) (S : jS) (J : jH) (i : Nat) (hi : i < 32) (c : Int32) (n : Nat) (hn : S.1 2 = nI n) (h6 : n ≤ 6)(f : Nat) (hf6 : f < 6) (hf : ixOf (S.2.1 0) c n 0 = nI f) (hu : bt (S.1 4) i = false) : jM K M_B_get d [.ref 32, .int (nI i), .int c] (lay S ++ J) (rX 11 (lay S ++ J)) 0 0 := by
  refine jM.of (by decide) (Nat.le_of_ble_eq_true rfl) ?_
  refine j_aload_n d_B_get_0 rfl ?_
  refine j_iload_n d_B_get_1 rfl ?_
  refine j_retV (j_callV d_B_get_2 v_B_requireWord l_B_80 rfl rfl (m_B_requireWord K (d - 1) _ i (by omega)) (by omega) (by decide) (Nat.le_of_ble_eq_true rfl) rfl) rfl ?_
  refine j_aload_n d_B_get_5 rfl ?_
  refine j_iload_n d_B_get_6 rfl ?_
  refine j_retI (j_callV d_B_get_7 v_B_requireField l_B_89 rfl rfl (m_B_requireField K (d - 1) (by omega) S J c n hn h6 (by rw [hf]; exact nI_m1 (by omega))) (by omega) (by decide) (Nat.le_of_ble_eq_true rfl) rfl) rfl ?_
  rw [hf]
  refine j_istore_n d_B_get_10 (by decide) ?_
  refine j_aload_n d_B_get_11 rfl ?_
  refine j_iload_n d_B_get_12 rfl ?_
  exact j_retX (j_callV d_B_get_13 v_B_requireInUse l_B_83 rfl rfl (m_B_requireInUse_x K (d - 1) (by omega) S J i (by omega) hu) (by omega) (by decide) (Nat.le_of_ble_eq_true rfl) rfl) rfl ⟨rfl, rfl⟩
theorem m_B_get (K : jK) (d : Nat) (hd : 8 ≤ d) (S : jS) (J : jH) (i : Nat) (hi : i < 32) (c : Int32) (n : Nat) (hn : S.1 2 = nI n) (h6 : n ≤ 6)(f : Nat) (hf6 : f < 6) (hf : ixOf (S.2.1 0) c n 0 = nI f) (hu : bt (S.1 4) i = true) : jM K M_B_get d [.ref 32, .int (nI i), .int c] (lay S ++ J) (rI (vval (S.2.1 1 f) (S.2.1 2 f) (S.2.1 3 f) (S.2.1 4 i)) (lay S ++ J)) 0 0 := by
  refine jM.of (by decide) (Nat.le_of_ble_eq_true rfl) ?_
  refine j_aload_n d_B_get_0 rfl ?_
  refine j_iload_n d_B_get_1 rfl ?_
  refine j_retV (j_callV d_B_get_2 v_B_requireWord l_B_80 rfl rfl (m_B_requireWord K (d - 1) _ i (by omega)) (by omega) (by decide) (Nat.le_of_ble_eq_true rfl) rfl) rfl ?_
  refine j_aload_n d_B_get_5 rfl ?_
  refine j_iload_n d_B_get_6 rfl ?_
  refine j_retI (j_callV d_B_get_7 v_B_requireField l_B_89 rfl rfl (m_B_requireField K (d - 1) (by omega) S J c n hn h6 (by rw [hf]; exact nI_m1 (by omega))) (by omega) (by decide) (Nat.le_of_ble_eq_true rfl) rfl) rfl ?_
  rw [hf]
  refine j_istore_n d_B_get_10 (by decide) ?_
  refine j_aload_n d_B_get_11 rfl ?_
  refine j_iload_n d_B_get_12 rfl ?_
  refine j_retV (j_callV d_B_get_13 v_B_requireInUse l_B_83 rfl rfl (m_B_requireInUse K (d - 1) (by omega) S J i (by omega) hu) (by omega) (by decide) (Nat.le_of_ble_eq_true rfl) rfl) rfl ?_
  refine j_aload_n d_B_get_16 rfl ?_
  refine j_getf d_B_get_17 f_B_12 rfl rfl ?_
  refine j_iload_n d_B_get_20 rfl ?_
  refine j_aload_n d_B_get_21 rfl ?_
  refine j_getf d_B_get_22 f_B_19 rfl rfl ?_
  refine j_iload_n d_B_get_25 rfl ?_
  refine j_retI (j_callV d_B_get_26 v_W_bitsOf l_B_96 rfl rfl (m_W_bitsOf K (d - 1) S J i hi) (by omega) (by decide) (Nat.le_of_ble_eq_true rfl) rfl) rfl ?_
  refine j_retI (j_callV d_B_get_29 v_F_valueIn l_B_107 rfl rfl (m_F_valueIn K (d - 1) S J f _ hf6) (by omega) (by decide) (Nat.le_of_ble_eq_true rfl) rfl) rfl ?_
  exact j_iret rfl d_B_get_32 ⟨rfl, rfl⟩
theorem m_B_bit_x1 (K : jK) (d : Nat) (hd : 8 ≤ d) (S : jS) (J : jH) (w k : Int32) (hw : badW w) : jM K M_B_bit d [.ref 32, .int w, .int k] (lay S ++ J) (rX 10 (lay S ++ J)) 0 0 := by
  refine jM.of (by decide) (Nat.le_of_ble_eq_true rfl) ?_
  refine j_aload_n d_B_bit_0 rfl ?_
  refine j_iload_n d_B_bit_1 rfl ?_
  exact j_retX (j_callV d_B_bit_2 v_B_requireWord l_B_80 rfl rfl (m_B_requireWord_x K (d - 1) (by omega) _ w hw) (by omega) (by decide) (Nat.le_of_ble_eq_true rfl) rfl) rfl ⟨rfl, rfl⟩
theorem m_B_bit_x2 (K : jK) (d : Nat) (hd : 8 ≤ d) (S : jS) (J : jH) (i : Nat) (hi : i < 32) (k : Int32) (hk : badW k) : jM K M_B_bit d [.ref 32, .int (nI i), .int k] (lay S ++ J) (rX 10 (lay S ++ J)) 0 0 := by
  refine jM.of (by decide) (Nat.le_of_ble_eq_true rfl) ?_
  refine j_aload_n d_B_bit_0 rfl ?_
  refine j_iload_n d_B_bit_1 rfl ?_
  refine j_retV (j_callV d_B_bit_2 v_B_requireWord l_B_80 rfl rfl (m_B_requireWord K (d - 1) _ i (by omega)) (by omega) (by decide) (Nat.le_of_ble_eq_true rfl) rfl) rfl ?_
  refine j_iload_n d_B_bit_5 rfl ?_
  refine j_if_lt (tgt := 15) d_B_bit_6 rfl (fun h6 => ?_) (fun h6 => ?_)
  · exact j_throw d_B_bit_15 d_B_bit_18 d_B_bit_19 d_B_bit_22 x_B_51 rfl (by omega) (Nat.le_of_ble_eq_true rfl) ⟨rfl, rfl⟩
  · refine j_iload_n d_B_bit_9 rfl ?_
    refine j_bipush (v := 32) d_B_bit_10 (by decide) ?_
    refine j_icmp_ltF (tgt := 23) d_B_bit_12 rfl (hk.elim (fun q => absurd q h6) (fun q => Int32.not_lt.mpr q)) ?_
    exact j_throw d_B_bit_15 d_B_bit_18 d_B_bit_19 d_B_bit_22 x_B_51 rfl (by omega) (Nat.le_of_ble_eq_true rfl) ⟨rfl, rfl⟩
theorem m_B_bit (K : jK) (d : Nat) (hd : 8 ≤ d) (S : jS) (J : jH) (i k : Nat) (hi : i < 32) (hk : k < 32) : jM K M_B_bit d [.ref 32, .int (nI i), .int (nI k)] (lay S ++ J) (rI (b2i (bt (S.2.1 4 i) k)) (lay S ++ J)) 0 0 := by
  refine jM.of (by decide) (Nat.le_of_ble_eq_true rfl) ?_
  refine j_aload_n d_B_bit_0 rfl ?_
  refine j_iload_n d_B_bit_1 rfl ?_
  refine j_retV (j_callV d_B_bit_2 v_B_requireWord l_B_80 rfl rfl (m_B_requireWord K (d - 1) _ i (by omega)) (by omega) (by decide) (Nat.le_of_ble_eq_true rfl) rfl) rfl ?_
  refine j_iload_n d_B_bit_5 rfl ?_
  refine j_if_ltF (tgt := 15) d_B_bit_6 rfl (nI_pos (by omega)) ?_
  refine j_iload_n d_B_bit_9 rfl ?_
  refine j_bipush (v := 32) d_B_bit_10 (by decide) ?_
  refine j_icmp_ltT (tgt := 23) d_B_bit_12 rfl (show nI k < nI 32 from nI_lt hk (by omega)) ?_
  refine j_aload_n d_B_bit_23 rfl ?_
  refine j_getf d_B_bit_24 f_B_19 rfl rfl ?_
  refine j_iload_n d_B_bit_27 rfl ?_
  refine j_retI (j_callV d_B_bit_28 v_W_bitsOf l_B_96 rfl rfl (m_W_bitsOf K (d - 1) S J i hi) (by omega) (by decide) (Nat.le_of_ble_eq_true rfl) rfl) rfl ?_
  refine j_iload_n d_B_bit_31 rfl ?_
  refine j_iushr d_B_bit_32 ?_
  refine j_iconst (v := 1) d_B_bit_33 rfl ?_
  refine j_iand d_B_bit_34 ?_
  refine j_iconst (v := 1) d_B_bit_35 rfl ?_
  refine j_icmp_ne (tgt := 43) d_B_bit_36 rfl (fun h36 => ?_) (fun h36 => ?_)
  · refine j_iconst (v := 0) d_B_bit_43 rfl ?_
    exact j_zret rfl rfl d_B_bit_44 ⟨by first | (rw [show bt (S.2.1 4 i) k = true from (hb_iff _ hk).mp h36]; rfl) | (rw [show bt (S.2.1 4 i) k = false from Bool.eq_false_iff.mpr (fun q => h36 ((hb_iff _ hk).mpr q))]; rfl), rfl⟩
  · refine j_iconst (v := 1) d_B_bit_39 rfl ?_
    refine j_goto (tgt := 44) d_B_bit_40 rfl ?_
    exact j_zret rfl rfl d_B_bit_44 ⟨by first | (rw [show bt (S.2.1 4 i) k = true from (hb_iff _ hk).mp h36]; rfl) | (rw [show bt (S.2.1 4 i) k = false from Bool.eq_false_iff.mpr (fun q => h36 ((hb_iff _ hk).mpr q))]; rfl), rfl⟩
theorem m_B_multi_x (K : jK) (d : Nat) (hd : 8 ≤ d) (S : jS) (J : jH) (m p : Int32) (hm : ¬ m &&& 16777215 = 0) : jM K M_B_multi d [.ref 32, .int m, .int p] (lay S ++ J) (rX 10 (lay S ++ J)) 0 0 := by
  refine jM.of (by decide) (Nat.le_of_ble_eq_true rfl) ?_
  refine j_iload_n d_B_multi_0 rfl ?_
  refine j_ldc d_B_multi_1 c_B_128 ?_
  refine j_iand d_B_multi_3 ?_
  refine j_if_eqF (tgt := 15) d_B_multi_4 rfl (hm) ?_
  exact j_throw d_B_multi_7 d_B_multi_10 d_B_multi_11 d_B_multi_14 x_B_51 rfl (by omega) (Nat.le_of_ble_eq_true rfl) ⟨rfl, rfl⟩
theorem m_B_multi (K : jK) (d : Nat) (hd : 8 ≤ d) (S : jS) (J : jH) (m p : Int32) (hm : m &&& 16777215 = 0) : jM K M_B_multi d [.ref 32, .int m, .int p] (lay S ++ J) (rV (lay (s2 S 4 (ovF (S.2.1 4) (S.1 5) m p 32)) ++ J)) 0 0 := by
  refine jM.of (by decide) (Nat.le_of_ble_eq_true rfl) ?_
  refine j_iload_n d_B_multi_0 rfl ?_
  refine j_ldc d_B_multi_1 c_B_128 ?_
  refine j_iand d_B_multi_3 ?_
  refine j_if_eqT (tgt := 15) d_B_multi_4 rfl (hm) ?_
  refine j_aload_n d_B_multi_15 rfl ?_
  refine j_getf d_B_multi_16 f_B_19 rfl rfl ?_
  refine j_aload_n d_B_multi_19 rfl ?_
  refine j_getf d_B_multi_20 f_B_19 rfl rfl ?_
  refine j_retI (j_callV d_B_multi_23 v_W_responding l_B_111 rfl rfl (m_W_responding K (d - 1) S J) (by omega) (by decide) (Nat.le_of_ble_eq_true rfl) rfl) rfl ?_
  refine j_iload_n d_B_multi_26 rfl ?_
  refine j_iload_n d_B_multi_27 rfl ?_
  refine j_retV (j_callV d_B_multi_28 v_W_overwrite l_B_129 rfl rfl (m_W_overwrite K (d - 1) (by omega) S J _ m p) (by omega) (by decide) (Nat.le_of_ble_eq_true rfl) rfl) rfl ?_
  exact j_vret rfl d_B_multi_31 ⟨rfl, rfl⟩
theorem m_B_responds_x (K : jK) (d : Nat) (hd : 8 ≤ d) (S : jS) (J : jH) (w : Int32) (hw : badW w) : jM K M_B_responds d [.ref 32, .int w] (lay S ++ J) (rX 10 (lay S ++ J)) 0 0 := by
  refine jM.of (by decide) (Nat.le_of_ble_eq_true rfl) ?_
  refine j_aload_n d_B_responds_0 rfl ?_
  refine j_iload_n d_B_responds_1 rfl ?_
  exact j_retX (j_callV d_B_responds_2 v_B_requireWord l_B_80 rfl rfl (m_B_requireWord_x K (d - 1) (by omega) _ w hw) (by omega) (by decide) (Nat.le_of_ble_eq_true rfl) rfl) rfl ⟨rfl, rfl⟩
theorem m_B_responds (K : jK) (d : Nat) (hd : 8 ≤ d) (S : jS) (J : jH) (i : Nat) (hi : i < 32) : jM K M_B_responds d [.ref 32, .int (nI i)] (lay S ++ J) (rI (b2i (bt (S.1 5) i)) (lay S ++ J)) 0 0 := by
  refine jM.of (by decide) (Nat.le_of_ble_eq_true rfl) ?_
  refine j_aload_n d_B_responds_0 rfl ?_
  refine j_iload_n d_B_responds_1 rfl ?_
  refine j_retV (j_callV d_B_responds_2 v_B_requireWord l_B_80 rfl rfl (m_B_requireWord K (d - 1) _ i (by omega)) (by omega) (by decide) (Nat.le_of_ble_eq_true rfl) rfl) rfl ?_
  refine j_aload_n d_B_responds_5 rfl ?_
  refine j_getf d_B_responds_6 f_B_19 rfl rfl ?_
  refine j_retI (j_callV d_B_responds_9 v_W_responding l_B_111 rfl rfl (m_W_responding K (d - 1) S J) (by omega) (by decide) (Nat.le_of_ble_eq_true rfl) rfl) rfl ?_
  refine j_iload_n d_B_responds_12 rfl ?_
  refine j_retI (j_callS d_B_responds_13 s_W_holds l_B_133 rfl (m_W_holds K (d - 1) _ _ i hi) (by omega) (by decide) (Nat.le_of_ble_eq_true rfl) rfl) rfl ?_
  exact j_zret rfl (b2i_nar _) d_B_responds_16 ⟨rfl, rfl⟩
theorem m_B_first_n (K : jK) (d : Nat) (hd : 8 ≤ d) (S : jS) (J : jH) (hx : lowF (S.1 5) 32 0 = -1) : jM K M_B_first d [.ref 32] (lay S ++ J) (rI (-1) (lay S ++ J)) 0 0 := by
  refine jM.of (by decide) (Nat.le_of_ble_eq_true rfl) ?_
  refine j_aload_n d_B_first_0 rfl ?_
  refine j_getf d_B_first_1 f_B_19 rfl rfl ?_
  refine j_retI (j_callV d_B_first_4 v_W_responding l_B_111 rfl rfl (m_W_responding K (d - 1) S J) (by omega) (by decide) (Nat.le_of_ble_eq_true rfl) rfl) rfl ?_
  refine j_retI (j_callS d_B_first_7 s_W_lowestOf l_B_69 rfl (m_W_lowestOf K (d - 1) (by omega) _ _) (by omega) (by decide) (Nat.le_of_ble_eq_true rfl) rfl) rfl ?_
  rw [hx]
  refine j_istore_n d_B_first_10 (by decide) ?_
  refine j_iload_n d_B_first_11 rfl ?_
  refine j_iconst (v := -1) d_B_first_12 rfl ?_
  refine j_icmp_eqT (tgt := 36) d_B_first_13 rfl (rfl) ?_
  refine j_iload_n d_B_first_36 rfl ?_
  exact j_iret rfl d_B_first_37 ⟨rfl, rfl⟩
theorem m_B_first (K : jK) (d : Nat) (hd : 8 ≤ d) (S : jS) (J : jH) (i : Nat) (hi : i < 32) (hx : lowF (S.1 5) 32 0 = nI i) : jM K M_B_first d [.ref 32] (lay S ++ J) (rI (nI i) (lay (s1 S 5 (S.1 5 &&& (((1 : Int32) <<< (nI i &&& 31)) ^^^ (-1)))) ++ J)) 0 0 := by
  refine jM.of (by decide) (Nat.le_of_ble_eq_true rfl) ?_
  refine j_aload_n d_B_first_0 rfl ?_
  refine j_getf d_B_first_1 f_B_19 rfl rfl ?_
  refine j_retI (j_callV d_B_first_4 v_W_responding l_B_111 rfl rfl (m_W_responding K (d - 1) S J) (by omega) (by decide) (Nat.le_of_ble_eq_true rfl) rfl) rfl ?_
  refine j_retI (j_callS d_B_first_7 s_W_lowestOf l_B_69 rfl (m_W_lowestOf K (d - 1) (by omega) _ _) (by omega) (by decide) (Nat.le_of_ble_eq_true rfl) rfl) rfl ?_
  rw [hx]
  refine j_istore_n d_B_first_10 (by decide) ?_
  refine j_iload_n d_B_first_11 rfl ?_
  refine j_iconst (v := -1) d_B_first_12 rfl ?_
  refine j_icmp_eqF (tgt := 36) d_B_first_13 rfl (nI_m1 hi) ?_
  refine j_aload_n d_B_first_16 rfl ?_
  refine j_getf d_B_first_17 f_B_19 rfl rfl ?_
  refine j_aload_n d_B_first_20 rfl ?_
  refine j_getf d_B_first_21 f_B_19 rfl rfl ?_
  refine j_retI (j_callV d_B_first_24 v_W_responding l_B_111 rfl rfl (m_W_responding K (d - 1) S J) (by omega) (by decide) (Nat.le_of_ble_eq_true rfl) rfl) rfl ?_
  refine j_iconst (v := 1) d_B_first_27 rfl ?_
  refine j_iload_n d_B_first_28 rfl ?_
  refine j_ishl d_B_first_29 ?_
  refine j_iconst (v := -1) d_B_first_30 rfl ?_
  refine j_ixor d_B_first_31 ?_
  refine j_iand d_B_first_32 ?_
  refine j_retV (j_callV d_B_first_33 v_W_respondOnly l_B_120 rfl rfl (m_W_respondOnly K (d - 1) S J _) (by omega) (by decide) (Nat.le_of_ble_eq_true rfl) rfl) rfl ?_
  refine j_iload_n d_B_first_36 rfl ?_
  exact j_iret rfl d_B_first_37 ⟨rfl, rfl⟩
theorem m_B_write_n (K : jK) (d : Nat) (hd : 8 ≤ d) (S : jS) (J : jH) (x : Int64) (n : Nat) (hn : S.1 6 = nI n) (h100 : n ≤ 100) (hx : canT x n = 0) : jM K M_B_write d [.ref 32, .long x] (lay S ++ J) (rI 0 (lay S ++ J)) 0 0 := by
  refine jM.of (by decide) (Nat.le_of_ble_eq_true rfl) ?_
  refine j_aload_n d_B_write_0 rfl ?_
  refine j_getf d_B_write_1 f_B_26 rfl rfl ?_
  refine j_lload_n d_B_write_4 rfl ?_
  refine j_retI (j_callV d_B_write_5 v_T_canTake l_B_136 rfl rfl (m_T_canTake K (d - 1) (by omega) S J x n hn h100) (by omega) (by decide) (Nat.le_of_ble_eq_true rfl) rfl) rfl ?_
  refine j_if_neF (tgt := 13) d_B_write_8 rfl (hx) ?_
  refine j_iconst (v := 0) d_B_write_11 rfl ?_
  exact j_zret rfl rfl d_B_write_12 ⟨rfl, rfl⟩
theorem m_B_write (K : jK) (d : Nat) (hd : 8 ≤ d) (S : jS) (J : jH) (x : Int64) (n : Nat) (hn : S.1 6 = nI n) (h100 : n ≤ 100) (hx : ¬ canT x n = 0) : jM K M_B_write d [.ref 32, .long x] (lay S ++ J) (rI 1 (lay (s1 (s2 S 5 (apT x 8 0 (n, S.2.1 5)).2) 6 (nI (apT x 8 0 (n, S.2.1 5)).1)) ++ J)) 0 0 := by
  refine jM.of (by decide) (Nat.le_of_ble_eq_true rfl) ?_
  refine j_aload_n d_B_write_0 rfl ?_
  refine j_getf d_B_write_1 f_B_26 rfl rfl ?_
  refine j_lload_n d_B_write_4 rfl ?_
  refine j_retI (j_callV d_B_write_5 v_T_canTake l_B_136 rfl rfl (m_T_canTake K (d - 1) (by omega) S J x n hn h100) (by omega) (by decide) (Nat.le_of_ble_eq_true rfl) rfl) rfl ?_
  refine j_if_neT (tgt := 13) d_B_write_8 rfl (hx) ?_
  refine j_aload_n d_B_write_13 rfl ?_
  refine j_getf d_B_write_14 f_B_26 rfl rfl ?_
  refine j_lload_n d_B_write_17 rfl ?_
  refine j_retV (j_callV d_B_write_18 v_T_append l_B_140 rfl rfl (m_T_append K (d - 1) (by omega) S J x n hn h100) (by omega) (by decide) (Nat.le_of_ble_eq_true rfl) rfl) rfl ?_
  refine j_iconst (v := 1) d_B_write_21 rfl ?_
  exact j_zret rfl rfl d_B_write_22 ⟨rfl, rfl⟩
theorem m_B_wipe (K : jK) (d : Nat) (hd : 8 ≤ d) (S : jS) (J : jH) : jM K M_B_wipe d [.ref 32] (lay S ++ J) (rI (S.1 6) (lay (s1 S 6 0) ++ J)) 0 0 := by
  refine jM.of (by decide) (Nat.le_of_ble_eq_true rfl) ?_
  refine j_aload_n d_B_wipe_0 rfl ?_
  refine j_getf d_B_wipe_1 f_B_26 rfl rfl ?_
  refine j_retI (j_callV d_B_wipe_4 v_T_length l_B_143 rfl rfl (m_T_length K (d - 1) S J) (by omega) (by decide) (Nat.le_of_ble_eq_true rfl) rfl) rfl ?_
  refine j_istore_n d_B_wipe_7 (by decide) ?_
  refine j_aload_n d_B_wipe_8 rfl ?_
  refine j_getf d_B_wipe_9 f_B_26 rfl rfl ?_
  refine j_retV (j_callV d_B_wipe_12 v_T_clear l_B_146 rfl rfl (m_T_clear K (d - 1) S J) (by omega) (by decide) (Nat.le_of_ble_eq_true rfl) rfl) rfl ?_
  refine j_iload_n d_B_wipe_15 rfl ?_
  exact j_iret rfl d_B_wipe_16 ⟨rfl, rfl⟩
theorem m_B_refused (K : jK) (d : Nat) (S : jS) (J : jH) : jM K M_B_refused d [.ref 32] (lay S ++ J) (rI (S.1 1) (lay S ++ J)) 0 0 := by
  refine jM.of (by decide) (Nat.le_of_ble_eq_true rfl) ?_
  refine j_aload_n d_B_refused_0 rfl ?_
  refine j_getf d_B_refused_1 f_B_165 rfl rfl ?_
  exact j_iret rfl d_B_refused_4 ⟨rfl, rfl⟩
theorem m_B_listed_x (K : jK) (d : Nat) (hd : 8 ≤ d) (S : jS) (J : jH) (w : Int32) (hw : w < 0 ∨ S.1 0 ≤ w) : jM K M_B_listed d [.ref 32, .int w] (lay S ++ J) (rX 13 (lay S ++ J)) 0 0 := by
  refine jM.of (by decide) (Nat.le_of_ble_eq_true rfl) ?_
  refine j_iload_n d_B_listed_0 rfl ?_
  refine j_if_lt (tgt := 12) d_B_listed_1 rfl (fun h1 => ?_) (fun h1 => ?_)
  · exact j_throw d_B_listed_12 d_B_listed_15 d_B_listed_16 d_B_listed_19 x_B_172 rfl (by omega) (Nat.le_of_ble_eq_true rfl) ⟨rfl, rfl⟩
  · refine j_iload_n d_B_listed_4 rfl ?_
    refine j_aload_n d_B_listed_5 rfl ?_
    refine j_getf d_B_listed_6 f_B_169 rfl rfl ?_
    refine j_icmp_ltF (tgt := 20) d_B_listed_9 rfl (hw.elim (fun q => absurd q h1) (fun q => Int32.not_lt.mpr q)) ?_
    exact j_throw d_B_listed_12 d_B_listed_15 d_B_listed_16 d_B_listed_19 x_B_172 rfl (by omega) (Nat.le_of_ble_eq_true rfl) ⟨rfl, rfl⟩
theorem m_B_listed (K : jK) (d : Nat) (S : jS) (J : jH) (i n : Nat) (hn : S.1 0 = nI n) (h32 : n ≤ 32) (hi : i < n) : jM K M_B_listed d [.ref 32, .int (nI i)] (lay S ++ J) (rI (S.2.1 9 i) (lay S ++ J)) 0 0 := by
  refine jM.of (by decide) (Nat.le_of_ble_eq_true rfl) ?_
  refine j_iload_n d_B_listed_0 rfl ?_
  refine j_if_ltF (tgt := 12) d_B_listed_1 rfl (nI_pos (by omega)) ?_
  refine j_iload_n d_B_listed_4 rfl ?_
  refine j_aload_n d_B_listed_5 rfl ?_
  refine j_getf d_B_listed_6 f_B_169 rfl rfl ?_
  refine j_icmp_ltT (tgt := 20) d_B_listed_9 rfl (by rw [hn]; exact nI_lt hi (by omega)) ?_
  refine j_aload_n d_B_listed_20 rfl ?_
  refine j_getf d_B_listed_21 f_B_39 rfl rfl ?_
  refine j_iload_n d_B_listed_24 rfl ?_
  refine j_iald d_B_listed_25 rfl (show i < 32 by omega) (by decide) ?_
  exact j_iret rfl d_B_listed_26 ⟨rfl, rfl⟩
theorem m_B_valueOf (K : jK) (d : Nat) (hd : 1 ≤ d) (S : jS) (J : jH) (f i : Nat) (hf : f < 6) (hi : i < 32) : jM K M_B_valueOf d [.ref 32, .int (nI f), .int (nI i)] (lay S ++ J) (rI (vval (S.2.1 1 f) (S.2.1 2 f) (S.2.1 3 f) (S.2.1 4 i)) (lay S ++ J)) 0 0 := by
  refine jM.of (by decide) (Nat.le_of_ble_eq_true rfl) ?_
  refine j_aload_n d_B_valueOf_0 rfl ?_
  refine j_getf d_B_valueOf_1 f_B_12 rfl rfl ?_
  refine j_iload_n d_B_valueOf_4 rfl ?_
  refine j_aload_n d_B_valueOf_5 rfl ?_
  refine j_getf d_B_valueOf_6 f_B_19 rfl rfl ?_
  refine j_iload_n d_B_valueOf_9 rfl ?_
  refine j_retI (j_callV d_B_valueOf_10 v_W_bitsOf l_B_96 rfl rfl (m_W_bitsOf K (d - 1) S J i hi) (by omega) (by decide) (Nat.le_of_ble_eq_true rfl) rfl) rfl ?_
  refine j_retI (j_callV d_B_valueOf_13 v_F_valueIn l_B_107 rfl rfl (m_F_valueIn K (d - 1) S J f _ hf) (by omega) (by decide) (Nat.le_of_ble_eq_true rfl) rfl) rfl ?_
  exact j_iret rfl d_B_valueOf_16 ⟨rfl, rfl⟩
