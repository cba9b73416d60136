/-! BitLoom$Words -/
theorem m_W_holds (K : jK) (d : Nat) (h : jH) (x : Int32) (i : Nat) (hi : i < 32) : jM K M_W_holds d [.int x, .int (nI i)] (h) (rI (b2i (bt x i)) h) 0 0 := by
  refine jM.of (by decide) (Nat.le_of_ble_eq_true rfl) ?_
  refine j_iload_n d_W_holds_0 rfl ?_
  refine j_iload_n d_W_holds_1 rfl ?_
  refine j_iushr d_W_holds_2 ?_
  refine j_iconst (v := 1) d_W_holds_3 rfl ?_
  refine j_iand d_W_holds_4 ?_
  refine j_iconst (v := 1) d_W_holds_5 rfl ?_
  refine j_icmp_ne (tgt := 13) d_W_holds_6 rfl (fun h6 => ?_) (fun h6 => ?_)
  · refine j_iconst (v := 0) d_W_holds_13 rfl ?_
    exact j_zret rfl rfl d_W_holds_14 ⟨by first | rw [show bt x i = true from (hb_iff x hi).mp h6]; rfl | (rw [show bt x i = false from Bool.eq_false_iff.mpr (fun q => h6 ((hb_iff x hi).mpr q))]; rfl), rfl⟩
  · refine j_iconst (v := 1) d_W_holds_9 rfl ?_
    refine j_goto (tgt := 14) d_W_holds_10 rfl ?_
    exact j_zret rfl rfl d_W_holds_14 ⟨by first | rw [show bt x i = true from (hb_iff x hi).mp h6]; rfl | (rw [show bt x i = false from Bool.eq_false_iff.mpr (fun q => h6 ((hb_iff x hi).mpr q))]; rfl), rfl⟩
theorem m_W_lowestOf (K : jK) (d : Nat) (hd : 1 ≤ d) (h : jH) (x : Int32) : jM K M_W_lowestOf d [.int x] h (rI (lowF x 32 0) h) 0 0 := by
  refine jM.of (by decide) (Nat.le_of_ble_eq_true rfl) ?_
  have loop : ∀ k i, i + k = 32 → jE K M_W_lowestOf d 2 [(0, .int x), (1, .int (nI i))] [] h (rI (lowF x k i) h) 0 0 := by
    intro k
    induction k with
    | zero =>
      intro i hi
      refine j_iload_n d_W_lowestOf_2 rfl ?_
      refine j_bipush (v := 32) d_W_lowestOf_3 (by decide) ?_
      refine j_icmp_geT (tgt := 24) d_W_lowestOf_5 rfl (show nI 32 ≤ nI i from nI_le (by omega) (by omega)) ?_
      refine j_iconst (v := -1) d_W_lowestOf_24 rfl ?_
      exact j_iret rfl d_W_lowestOf_25 ⟨rfl, rfl⟩
    | succ k ih =>
      intro i hi
      refine j_iload_n d_W_lowestOf_2 rfl ?_
      refine j_bipush (v := 32) d_W_lowestOf_3 (by decide) ?_
      refine j_icmp_geF (tgt := 24) d_W_lowestOf_5 rfl (show ¬ nI 32 ≤ nI i from nI_ge (by omega) (by omega)) ?_
      refine j_iload_n d_W_lowestOf_8 rfl ?_
      refine j_iload_n d_W_lowestOf_9 rfl ?_
      refine j_retI (j_callS d_W_lowestOf_10 s_W_holds l_W_15 rfl (m_W_holds K (d - 1) _ x i (by omega)) (by omega) (by decide) (Nat.le_of_ble_eq_true rfl) rfl) rfl ?_
      cases hb : bt x i with
      | false =>
        refine j_if_eqT (tgt := 18) d_W_lowestOf_13 rfl rfl ?_
        refine j_iincN d_W_lowestOf_18 rfl (by decide) ?_
        refine j_goto (tgt := 2) d_W_lowestOf_21 rfl ?_
        refine j_loc' [(0, .int x), (1, .int (nI (i + 1)))] ⟨rfl, rfl, trivial⟩ ?_
        rw [show lowF x (k + 1) i = lowF x k (i + 1) by rw [lowF, hb]; rfl]
        exact ih (i + 1) (by omega)
      | true =>
        refine j_if_eqF (tgt := 18) d_W_lowestOf_13 rfl (by decide) ?_
        refine j_iload_n d_W_lowestOf_16 rfl ?_
        exact j_iret rfl d_W_lowestOf_17 ⟨by rw [lowF, hb]; rfl, rfl⟩
  refine j_iconst (v := 0) d_W_lowestOf_0 rfl ?_
  refine j_istore_n d_W_lowestOf_1 (by decide) ?_
  exact j_loc' [(0, .int x), (1, .int (nI 0))] ⟨rfl, rfl, trivial⟩ (loop 32 0 rfl)
theorem m_W_free (K : jK) (d : Nat) (S : jS) (J : jH) : jM K M_W_free d [.ref 38] (lay S ++ J) (rI (S.1 4 ^^^ (-1)) (lay S ++ J)) 0 0 := by
  refine jM.of (by decide) (Nat.le_of_ble_eq_true rfl) ?_
  refine j_aload_n d_W_free_0 rfl ?_
  refine j_getf d_W_free_1 f_W_19 rfl rfl ?_
  refine j_iconst (v := -1) d_W_free_4 rfl ?_
  refine j_ixor d_W_free_5 ?_
  exact j_iret rfl d_W_free_6 ⟨rfl, rfl⟩
theorem m_W_inUse (K : jK) (d : Nat) (S : jS) (J : jH) : jM K M_W_inUse d [.ref 38] (lay S ++ J) (rI (S.1 4) (lay S ++ J)) 0 0 := by
  refine jM.of (by decide) (Nat.le_of_ble_eq_true rfl) ?_
  refine j_aload_n d_W_inUse_0 rfl ?_
  refine j_getf d_W_inUse_1 f_W_19 rfl rfl ?_
  exact j_iret rfl d_W_inUse_4 ⟨rfl, rfl⟩
theorem m_W_responding (K : jK) (d : Nat) (S : jS) (J : jH) : jM K M_W_responding d [.ref 38] (lay S ++ J) (rI (S.1 5) (lay S ++ J)) 0 0 := by
  refine jM.of (by decide) (Nat.le_of_ble_eq_true rfl) ?_
  refine j_aload_n d_W_responding_0 rfl ?_
  refine j_getf d_W_responding_1 f_W_23 rfl rfl ?_
  exact j_iret rfl d_W_responding_4 ⟨rfl, rfl⟩
theorem m_W_bitsOf (K : jK) (d : Nat) (S : jS) (J : jH) (i : Nat) (hi : i < 32) : jM K M_W_bitsOf d [.ref 38, .int (nI i)] (lay S ++ J) (rI (S.2.1 4 i) (lay S ++ J)) 0 0 := by
  refine jM.of (by decide) (Nat.le_of_ble_eq_true rfl) ?_
  refine j_aload_n d_W_bitsOf_0 rfl ?_
  refine j_getf d_W_bitsOf_1 f_W_9 rfl rfl ?_
  refine j_iload_n d_W_bitsOf_4 rfl ?_
  refine j_iald d_W_bitsOf_5 rfl hi (by decide) ?_
  exact j_iret rfl d_W_bitsOf_6 ⟨rfl, rfl⟩
theorem m_W_replace (K : jK) (d : Nat) (S : jS) (J : jH) (i : Nat) (hi : i < 32) (v : Int32) : jM K M_W_replace d [.ref 38, .int (nI i), .int v] (lay S ++ J) (rV (lay (s2 S 4 (upd (S.2.1 4) i v)) ++ J)) 0 0 := by
  refine jM.of (by decide) (Nat.le_of_ble_eq_true rfl) ?_
  refine j_aload_n d_W_replace_0 rfl ?_
  refine j_getf d_W_replace_1 f_W_9 rfl rfl ?_
  refine j_iload_n d_W_replace_4 rfl ?_
  refine j_iload_n d_W_replace_5 rfl ?_
  refine j_iast d_W_replace_6 rfl hi (by decide) rfl ?_
  exact j_vret rfl d_W_replace_7 ⟨rfl, rfl⟩
theorem m_W_occupy (K : jK) (d : Nat) (S : jS) (J : jH) (i : Nat) : jM K M_W_occupy d [.ref 38, .int (nI i)] (lay S ++ J) (rV (lay (s1 S 4 (S.1 4 ||| ((1 : Int32) <<< (nI i &&& 31)))) ++ J)) 0 0 := by
  refine jM.of (by decide) (Nat.le_of_ble_eq_true rfl) ?_
  refine j_aload_n d_W_occupy_0 rfl ?_
  refine j_dup d_W_occupy_1 rfl ?_
  refine j_getf d_W_occupy_2 f_W_19 rfl rfl ?_
  refine j_iconst (v := 1) d_W_occupy_5 rfl ?_
  refine j_iload_n d_W_occupy_6 rfl ?_
  refine j_ishl d_W_occupy_7 ?_
  refine j_ior d_W_occupy_8 ?_
  refine j_putf d_W_occupy_9 f_W_19 rfl (Nat.le_of_ble_eq_true rfl) rfl rfl rfl ?_
  exact j_vret rfl d_W_occupy_12 ⟨rfl, rfl⟩
theorem m_W_release (K : jK) (d : Nat) (S : jS) (J : jH) (i : Nat) (hi : i < 32) : jM K M_W_release d [.ref 38, .int (nI i)] (lay S ++ J) (rV (lay (s2 (s1 (s1 S 4 (S.1 4 &&& (((1 : Int32) <<< (nI i &&& 31)) ^^^ (-1)))) 5 (S.1 5 &&& (((1 : Int32) <<< (nI i &&& 31)) ^^^ (-1)))) 4 (upd (S.2.1 4) i 0)) ++ J)) 0 0 := by
  refine jM.of (by decide) (Nat.le_of_ble_eq_true rfl) ?_
  refine j_aload_n d_W_release_0 rfl ?_
  refine j_dup d_W_release_1 rfl ?_
  refine j_getf d_W_release_2 f_W_19 rfl rfl ?_
  refine j_iconst (v := 1) d_W_release_5 rfl ?_
  refine j_iload_n d_W_release_6 rfl ?_
  refine j_ishl d_W_release_7 ?_
  refine j_iconst (v := -1) d_W_release_8 rfl ?_
  refine j_ixor d_W_release_9 ?_
  refine j_iand d_W_release_10 ?_
  refine j_putf d_W_release_11 f_W_19 rfl (Nat.le_of_ble_eq_true rfl) rfl rfl rfl ?_
  refine j_aload_n d_W_release_14 rfl ?_
  refine j_dup d_W_release_15 rfl ?_
  refine j_getf d_W_release_16 f_W_23 rfl rfl ?_
  refine j_iconst (v := 1) d_W_release_19 rfl ?_
  refine j_iload_n d_W_release_20 rfl ?_
  refine j_ishl d_W_release_21 ?_
  refine j_iconst (v := -1) d_W_release_22 rfl ?_
  refine j_ixor d_W_release_23 ?_
  refine j_iand d_W_release_24 ?_
  refine j_putf d_W_release_25 f_W_23 rfl (Nat.le_of_ble_eq_true rfl) rfl rfl rfl ?_
  refine j_aload_n d_W_release_28 rfl ?_
  refine j_getf d_W_release_29 f_W_9 rfl rfl ?_
  refine j_iload_n d_W_release_32 rfl ?_
  refine j_iconst (v := 0) d_W_release_33 rfl ?_
  refine j_iast d_W_release_34 rfl hi (by decide) rfl ?_
  exact j_vret rfl d_W_release_35 ⟨rfl, rfl⟩
theorem m_W_respondOnly (K : jK) (d : Nat) (S : jS) (J : jH) (x : Int32) : jM K M_W_respondOnly d [.ref 38, .int x] (lay S ++ J) (rV (lay (s1 S 5 x) ++ J)) 0 0 := by
  refine jM.of (by decide) (Nat.le_of_ble_eq_true rfl) ?_
  refine j_aload_n d_W_respondOnly_0 rfl ?_
  refine j_iload_n d_W_respondOnly_1 rfl ?_
  refine j_putf d_W_respondOnly_2 f_W_23 rfl (Nat.le_of_ble_eq_true rfl) rfl rfl rfl ?_
  exact j_vret rfl d_W_respondOnly_5 ⟨rfl, rfl⟩
def mtch (f : Nat → Int32) (x m p : Int32) (w : Nat) : Bool := bt x w && decide ((f w ^^^ p) &&& m = 0)
theorem m_W_matching (K : jK) (d : Nat) (hd : 1 ≤ d) (S : jS) (J : jH) (x m p : Int32) : jM K M_W_matching d [.ref 38, .int x, .int m, .int p] (lay S ++ J) (rI (mkS (mtch (S.2.1 4) x m p) 32) (lay S ++ J)) 0 0 := by
  refine jM.of (by decide) (Nat.le_of_ble_eq_true rfl) ?_
  have loop : ∀ k i, i + k = 32 → jE K M_W_matching d 6 [(0, .ref 38), (1, .int x), (2, .int m), (3, .int p), (4, .int (mkS (mtch (S.2.1 4) x m p) i)), (5, .int (nI i))] [] (lay S ++ J) (rI (mkS (mtch (S.2.1 4) x m p) 32) (lay S ++ J)) 0 0 := by
    intro k
    induction k with
    | zero =>
      intro i hi
      have : i = 32 := by omega
      subst this
      refine j_iload d_W_matching_6 rfl ?_
      refine j_bipush (v := 32) d_W_matching_8 (by decide) ?_
      refine j_icmp_geT (tgt := 51) d_W_matching_10 rfl (show nI 32 ≤ nI 32 from nI_le (by omega) (by omega)) ?_
      refine j_iload d_W_matching_51 rfl ?_
      exact j_iret rfl d_W_matching_53 ⟨rfl, rfl⟩
    | succ k ih =>
      intro i hi
      refine j_iload d_W_matching_6 rfl ?_
      refine j_bipush (v := 32) d_W_matching_8 (by decide) ?_
      refine j_icmp_geF (tgt := 51) d_W_matching_10 rfl (show ¬ nI 32 ≤ nI i from nI_ge (by omega) (by omega)) ?_
      refine j_iload_n d_W_matching_13 rfl ?_
      refine j_iload d_W_matching_14 rfl ?_
      refine j_retI (j_callS d_W_matching_16 s_W_holds l_W_15 rfl (m_W_holds K (d - 1) _ x i (by omega)) (by omega) (by decide) (Nat.le_of_ble_eq_true rfl) rfl) rfl ?_
      cases hb : bt x i with
      | false =>
        refine j_if_eqT (tgt := 45) d_W_matching_19 rfl rfl ?_
        refine j_iincN d_W_matching_45 rfl (by decide) ?_
        refine j_goto (tgt := 6) d_W_matching_48 rfl ?_
        refine j_loc' [(0, .ref 38), (1, .int x), (2, .int m), (3, .int p), (4, .int (mkS (mtch (S.2.1 4) x m p) (i + 1))), (5, .int (nI (i + 1)))] ⟨rfl, rfl, rfl, rfl, by rw [show mkS (mtch (S.2.1 4) x m p) (i + 1) = mkS (mtch (S.2.1 4) x m p) i by rw [mkS]; simp [mtch, hb]]; rfl, rfl, trivial⟩ (ih (i + 1) (by omega))
      | true =>
        refine j_if_eqF (tgt := 45) d_W_matching_19 rfl (by decide) ?_
        refine j_aload_n d_W_matching_22 rfl ?_
        refine j_getf d_W_matching_23 f_W_9 rfl rfl ?_
        refine j_iload d_W_matching_26 rfl ?_
        refine j_iald d_W_matching_28 rfl (show i < 32 by omega) (by decide) ?_
        refine j_iload_n d_W_matching_29 rfl ?_
        refine j_ixor d_W_matching_30 ?_
        refine j_iload_n d_W_matching_31 rfl ?_
        refine j_iand d_W_matching_32 ?_
        refine j_if_ne (tgt := 45) d_W_matching_33 rfl (fun hc => ?_) (fun hc => ?_)
        · refine j_iincN d_W_matching_45 rfl (by decide) ?_
          refine j_goto (tgt := 6) d_W_matching_48 rfl ?_
          refine j_loc' [(0, .ref 38), (1, .int x), (2, .int m), (3, .int p), (4, .int (mkS (mtch (S.2.1 4) x m p) (i + 1))), (5, .int (nI (i + 1)))] ⟨rfl, rfl, rfl, rfl, by rw [show mkS (mtch (S.2.1 4) x m p) (i + 1) = mkS (mtch (S.2.1 4) x m p) i by rw [mkS]; simp [mtch, hc]]; rfl, rfl, trivial⟩ (ih (i + 1) (by omega))
        · refine j_iload d_W_matching_36 rfl ?_
          refine j_iconst (v := 1) d_W_matching_38 rfl ?_
          refine j_iload d_W_matching_39 rfl ?_
          refine j_ishl d_W_matching_41 ?_
          refine j_ior d_W_matching_42 ?_
          refine j_istore d_W_matching_43 (by decide) ?_
          refine j_iincN d_W_matching_45 rfl (by decide) ?_
          refine j_goto (tgt := 6) d_W_matching_48 rfl ?_
          refine j_loc' [(0, .ref 38), (1, .int x), (2, .int m), (3, .int p), (4, .int (mkS (mtch (S.2.1 4) x m p) (i + 1))), (5, .int (nI (i + 1)))] ⟨rfl, rfl, rfl, rfl, by rw [show mkS (mtch (S.2.1 4) x m p) (i + 1) = mkS (mtch (S.2.1 4) x m p) i ||| ((1 : Int32) <<< (nI i &&& 31)) by rw [mkS]; simp [mtch, hc, hb]]; rfl, rfl, trivial⟩ (ih (i + 1) (by omega))
  refine j_iconst (v := 0) d_W_matching_0 rfl ?_
  refine j_istore d_W_matching_1 (by decide) ?_
  refine j_iconst (v := 0) d_W_matching_3 rfl ?_
  refine j_istore d_W_matching_4 (by decide) ?_
  exact j_loc' [(0, .ref 38), (1, .int x), (2, .int m), (3, .int p), (4, .int (mkS (mtch (S.2.1 4) x m p) 0)), (5, .int (nI 0))] ⟨rfl, rfl, rfl, rfl, rfl, rfl, trivial⟩ (loop 32 0 rfl)
theorem m_W_overwrite (K : jK) (d : Nat) (hd : 1 ≤ d) (S : jS) (J : jH) (x m p : Int32) : jM K M_W_overwrite d [.ref 38, .int x, .int m, .int p] (lay S ++ J) (rV (lay (s2 S 4 (ovF (S.2.1 4) x m p 32)) ++ J)) 0 0 := by
  refine jM.of (by decide) (Nat.le_of_ble_eq_true rfl) ?_
  have loop : ∀ k i, i + k = 32 → jE K M_W_overwrite d 3 [(0, .ref 38), (1, .int x), (2, .int m), (3, .int p), (4, .int (nI i))] [] (lay (s2 S 4 (ovF (S.2.1 4) x m p i)) ++ J) (rV (lay (s2 S 4 (ovF (S.2.1 4) x m p 32)) ++ J)) 0 0 := by
    intro k
    induction k with
    | zero =>
      intro i hi
      have : i = 32 := by omega
      subst this
      refine j_iload d_W_overwrite_3 rfl ?_
      refine j_bipush (v := 32) d_W_overwrite_5 (by decide) ?_
      refine j_icmp_geT (tgt := 47) d_W_overwrite_7 rfl (show nI 32 ≤ nI 32 from nI_le (by omega) (by omega)) ?_
      exact j_vret rfl d_W_overwrite_47 ⟨rfl, rfl⟩
    | succ k ih =>
      intro i hi
      have ih' := ih (i + 1) (by omega)
      rw [ovF_s] at ih'
      refine j_iload d_W_overwrite_3 rfl ?_
      refine j_bipush (v := 32) d_W_overwrite_5 (by decide) ?_
      refine j_icmp_geF (tgt := 47) d_W_overwrite_7 rfl (show ¬ nI 32 ≤ nI i from nI_ge (by omega) (by omega)) ?_
      refine j_iload_n d_W_overwrite_10 rfl ?_
      refine j_iload d_W_overwrite_11 rfl ?_
      refine j_retI (j_callS d_W_overwrite_13 s_W_holds l_W_15 rfl (m_W_holds K (d - 1) _ x i (by omega)) (by omega) (by decide) (Nat.le_of_ble_eq_true rfl) rfl) rfl ?_
      cases hb : bt x i with
      | false =>
        rw [hb] at ih'
        refine j_if_eqT (tgt := 41) d_W_overwrite_16 rfl rfl ?_
        refine j_iincN d_W_overwrite_41 rfl (by decide) ?_
        refine j_goto (tgt := 3) d_W_overwrite_44 rfl ?_
        exact j_loc' [(0, .ref 38), (1, .int x), (2, .int m), (3, .int p), (4, .int (nI (i + 1)))] ⟨rfl, rfl, rfl, rfl, rfl, trivial⟩ ih'
      | true =>
        rw [hb] at ih'
        refine j_if_eqF (tgt := 41) d_W_overwrite_16 rfl (by decide) ?_
        refine j_aload_n d_W_overwrite_19 rfl ?_
        refine j_getf d_W_overwrite_20 f_W_9 rfl rfl ?_
        refine j_iload d_W_overwrite_23 rfl ?_
        refine j_aload_n d_W_overwrite_25 rfl ?_
        refine j_getf d_W_overwrite_26 f_W_9 rfl rfl ?_
        refine j_iload d_W_overwrite_29 rfl ?_
        refine j_iald d_W_overwrite_31 rfl (show i < 32 by omega) (by decide) ?_
        refine j_iload_n d_W_overwrite_32 rfl ?_
        refine j_iconst (v := -1) d_W_overwrite_33 rfl ?_
        refine j_ixor d_W_overwrite_34 ?_
        refine j_iand d_W_overwrite_35 ?_
        refine j_iload_n d_W_overwrite_36 rfl ?_
        refine j_iload_n d_W_overwrite_37 rfl ?_
        refine j_iand d_W_overwrite_38 ?_
        refine j_ior d_W_overwrite_39 ?_
        refine j_top (w := .int ((S.2.1 4 i &&& (m ^^^ (-1))) ||| (p &&& m))) (by simp [ovF, va_up]) ?_
        refine j_iast d_W_overwrite_40 rfl (show i < 32 by omega) (by decide) rfl ?_
        refine j_iincN d_W_overwrite_41 rfl (by decide) ?_
        refine j_goto (tgt := 3) d_W_overwrite_44 rfl ?_
        exact j_loc' [(0, .ref 38), (1, .int x), (2, .int m), (3, .int p), (4, .int (nI (i + 1)))] ⟨rfl, rfl, rfl, rfl, rfl, trivial⟩ ih'
  refine j_iconst (v := 0) d_W_overwrite_0 rfl ?_
  refine j_istore d_W_overwrite_1 (by decide) ?_
  have l0 := loop 32 0 rfl
  rw [ovF_0] at l0
  exact j_loc' [(0, .ref 38), (1, .int x), (2, .int m), (3, .int p), (4, .int (nI 0))] ⟨rfl, rfl, rfl, rfl, rfl, trivial⟩ l0
