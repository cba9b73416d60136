/-! BitLoomModel: get -/
theorem m_M_get_x (K : jK) (d : Nat) (hd : 1 ≤ d) (S : jS) (J : jH) (ch : Int32) (c : Nat) (hc : S.1 31 = nI c) (h6 : c ≤ 6) (w : Int32) (hw : badW w ∨ fdL (S.2.1 13) ch c 0 (-1) < 0) : jM K M_M_get d [.ref 59, .int w, .int ch] (lay S ++ J) (rI 0 (lay (s1 S 30 1) ++ J)) 0 0 := by
  refine jM.of (by decide) (Nat.le_of_ble_eq_true rfl) ?_
  have bad : jE K M_M_get d 18 [(0, .ref 59), (1, .int w), (2, .int ch), (3, .int (fdL (S.2.1 13) ch c 0 (-1)))] [.ref 59] (lay S ++ J) (rI 0 (lay (s1 S 30 1) ++ J)) 0 0 := by
    refine j_iconst (v := 1) d_M_get_18 rfl ?_
    refine j_goto (tgt := 36) d_M_get_19 rfl ?_
    refine j_putf d_M_get_36 f_M_73 rfl (Nat.le_of_ble_eq_true rfl) rfl rfl rfl ?_
    refine j_hp (h' := lay (s1 S 30 1) ++ J) rfl ?_
    refine j_aload_n d_M_get_39 rfl ?_
    refine j_getf d_M_get_40 f_M_73 rfl rfl ?_
    refine j_if_neT (tgt := 55) d_M_get_43 rfl (show ¬ (1 : Int32) = 0 by decide) ?_
    refine j_iconst (v := 0) d_M_get_55 rfl ?_
    exact j_iret rfl d_M_get_56 ⟨rfl, rfl⟩
  refine j_aload_n d_M_get_0 rfl ?_
  refine j_iload_n d_M_get_1 rfl ?_
  refine j_retI (j_callV d_M_get_2 v_M_fieldOf l_M_79 rfl rfl (m_M_fieldOf K (d - 1) S J ch c hc h6) (by omega) (by decide) (Nat.le_of_ble_eq_true rfl) rfl) rfl ?_
  refine j_istore_n d_M_get_5 (by decide) ?_
  refine j_aload_n d_M_get_6 rfl ?_
  refine j_iload_n d_M_get_7 rfl ?_
  refine j_retI (j_callS d_M_get_8 s_M_isWord l_M_83 rfl (m_M_isWord K (d - 1) _ w) (by omega) (by decide) (Nat.le_of_ble_eq_true rfl) rfl) rfl ?_
  refine j_loc' [(0, .ref 59), (1, .int w), (2, .int ch), (3, .int (fdL (S.2.1 13) ch c 0 (-1)))] ⟨rfl, rfl, rfl, rfl, trivial⟩ ?_
  refine j_if_eq (tgt := 18) d_M_get_11 rfl (fun h => bad) (fun h => ?_)
  refine j_iload_n d_M_get_14 rfl ?_
  refine j_if_geF (tgt := 22) d_M_get_15 rfl (Int32.not_le.mpr (hw.resolve_left (fun q => h (btw_bad q)))) ?_
  exact bad
theorem m_M_get_y (K : jK) (d : Nat) (hd : 1 ≤ d) (S : jS) (J : jH) (ch : Int32) (c : Nat) (hc : S.1 31 = nI c) (h6 : c ≤ 6) (i f : Nat) (hi : i < 32) (hf : f < 6) (hF : fdL (S.2.1 13) ch c 0 (-1) = nI f) (hu : S.2.1 10 i = 0) : jM K M_M_get d [.ref 59, .int (nI i), .int ch] (lay S ++ J) (rI 0 (lay (s1 S 30 2) ++ J)) 0 0 := by
  refine jM.of (by decide) (Nat.le_of_ble_eq_true rfl) ?_
  refine j_aload_n d_M_get_0 rfl ?_
  refine j_iload_n d_M_get_1 rfl ?_
  refine j_retI (j_callV d_M_get_2 v_M_fieldOf l_M_79 rfl rfl (m_M_fieldOf K (d - 1) S J ch c hc h6) (by omega) (by decide) (Nat.le_of_ble_eq_true rfl) rfl) rfl ?_
  rw [hF]
  refine j_istore_n d_M_get_5 (by decide) ?_
  refine j_aload_n d_M_get_6 rfl ?_
  refine j_iload_n d_M_get_7 rfl ?_
  refine j_retI (j_callS d_M_get_8 s_M_isWord l_M_83 rfl (m_M_isWord K (d - 1) _ (nI i)) (by omega) (by decide) (Nat.le_of_ble_eq_true rfl) rfl) rfl ?_
  refine j_if_eqF (tgt := 18) d_M_get_11 rfl (by rw [btw_nI hi]; decide) ?_
  refine j_iload_n d_M_get_14 rfl ?_
  refine j_if_geT (tgt := 22) d_M_get_15 rfl (show nI 0 ≤ nI f from nI_le (by omega) (by omega)) ?_
  refine j_aload_n d_M_get_22 rfl ?_
  refine j_getf d_M_get_23 f_M_7 rfl rfl ?_
  refine j_iload_n d_M_get_26 rfl ?_
  refine j_zald d_M_get_27 rfl hi (by decide) ?_
  refine j_if_neF (tgt := 35) d_M_get_28 rfl hu ?_
  refine j_iconst (v := 2) d_M_get_31 rfl ?_
  refine j_goto (tgt := 36) d_M_get_32 rfl ?_
  refine j_putf d_M_get_36 f_M_73 rfl (Nat.le_of_ble_eq_true rfl) rfl rfl rfl ?_
  refine j_hp (h' := lay (s1 S 30 2) ++ J) rfl ?_
  refine j_aload_n d_M_get_39 rfl ?_
  refine j_getf d_M_get_40 f_M_73 rfl rfl ?_
  refine j_if_neT (tgt := 55) d_M_get_43 rfl (show ¬ (2 : Int32) = 0 by decide) ?_
  refine j_iconst (v := 0) d_M_get_55 rfl ?_
  exact j_iret rfl d_M_get_56 ⟨rfl, rfl⟩
theorem m_M_get (K : jK) (d : Nat) (hd : 1 ≤ d) (S : jS) (J : jH) (ch : Int32) (c : Nat) (hc : S.1 31 = nI c) (h6 : c ≤ 6) (i f : Nat) (hi : i < 32) (hf : f < 6) (hF : fdL (S.2.1 13) ch c 0 (-1) = nI f) (hu : ¬ S.2.1 10 i = 0) (w : Nat) (hw : S.2.1 15 f = nI w) (hw10 : w ≤ 10) : jM K M_M_get d [.ref 59, .int (nI i), .int ch] (lay S ++ J) (rI (mvL (S.2.1 14 f) w (S.2.1 16 f) (S.2.1 11 i) w 0 0 1) (lay (s1 S 30 0) ++ J)) 0 0 := by
  refine jM.of (by decide) (Nat.le_of_ble_eq_true rfl) ?_
  refine j_aload_n d_M_get_0 rfl ?_
  refine j_iload_n d_M_get_1 rfl ?_
  refine j_retI (j_callV d_M_get_2 v_M_fieldOf l_M_79 rfl rfl (m_M_fieldOf K (d - 1) S J ch c hc h6) (by omega) (by decide) (Nat.le_of_ble_eq_true rfl) rfl) rfl ?_
  rw [hF]
  refine j_istore_n d_M_get_5 (by decide) ?_
  refine j_aload_n d_M_get_6 rfl ?_
  refine j_iload_n d_M_get_7 rfl ?_
  refine j_retI (j_callS d_M_get_8 s_M_isWord l_M_83 rfl (m_M_isWord K (d - 1) _ (nI i)) (by omega) (by decide) (Nat.le_of_ble_eq_true rfl) rfl) rfl ?_
  refine j_if_eqF (tgt := 18) d_M_get_11 rfl (by rw [btw_nI hi]; decide) ?_
  refine j_iload_n d_M_get_14 rfl ?_
  refine j_if_geT (tgt := 22) d_M_get_15 rfl (show nI 0 ≤ nI f from nI_le (by omega) (by omega)) ?_
  refine j_aload_n d_M_get_22 rfl ?_
  refine j_getf d_M_get_23 f_M_7 rfl rfl ?_
  refine j_iload_n d_M_get_26 rfl ?_
  refine j_zald d_M_get_27 rfl hi (by decide) ?_
  refine j_if_neT (tgt := 35) d_M_get_28 rfl hu ?_
  refine j_iconst (v := 0) d_M_get_35 rfl ?_
  refine j_putf d_M_get_36 f_M_73 rfl (Nat.le_of_ble_eq_true rfl) rfl rfl rfl ?_
  refine j_hp (h' := lay (s1 S 30 0) ++ J) rfl ?_
  refine j_aload_n d_M_get_39 rfl ?_
  refine j_getf d_M_get_40 f_M_73 rfl rfl ?_
  refine j_if_neF (tgt := 55) d_M_get_43 rfl rfl ?_
  refine j_aload_n d_M_get_46 rfl ?_
  refine j_iload_n d_M_get_47 rfl ?_
  refine j_iload_n d_M_get_48 rfl ?_
  refine j_retI (j_callV d_M_get_49 v_M_valueOf l_M_95 rfl rfl (m_M_valueOf K (d - 1) (s1 S 30 0) J i f hi hf w hw hw10) (by omega) (by decide) (Nat.le_of_ble_eq_true rfl) rfl) rfl ?_
  refine j_goto (tgt := 56) d_M_get_52 rfl ?_
  exact j_iret rfl d_M_get_56 ⟨rfl, rfl⟩
