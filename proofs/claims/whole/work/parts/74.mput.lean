/-! BitLoomModel: put, insert, field -/
theorem m_M_put_x (K : jK) (d : Nat) (hd : 1 ≤ d) (S : jS) (J : jH) (ch : Int32) (c : Nat) (hc : S.1 31 = nI c) (h6 : c ≤ 6) (w v : Int32) (hw : badW w ∨ fdL (S.2.1 13) ch c 0 (-1) < 0) : jM K M_M_put d [.ref 59, .int w, .int ch, .int v] (lay S ++ J) (rV (lay (s1 S 30 1) ++ J)) 0 0 := by
  refine jM.of (by decide) (Nat.le_of_ble_eq_true rfl) ?_
  have bad : jE K M_M_put d 20 [(0, .ref 59), (1, .int w), (2, .int ch), (3, .int v), (4, .int (fdL (S.2.1 13) ch c 0 (-1)))] [.ref 59] (lay S ++ J) (rV (lay (s1 S 30 1) ++ J)) 0 0 := by
    refine j_iconst (v := 1) d_M_put_20 rfl ?_
    refine j_goto (tgt := 52) d_M_put_21 rfl ?_
    refine j_putf d_M_put_52 f_M_73 rfl (Nat.le_of_ble_eq_true rfl) rfl rfl rfl ?_
    refine j_hp (h' := lay (s1 S 30 1) ++ J) rfl ?_
    refine j_aload_n d_M_put_55 rfl ?_
    refine j_getf d_M_put_56 f_M_73 rfl rfl ?_
    refine j_if_neT (tgt := 70) d_M_put_59 rfl (show ¬ (1 : Int32) = 0 by decide) ?_
    exact j_vret rfl d_M_put_70 ⟨rfl, rfl⟩
  refine j_aload_n d_M_put_0 rfl ?_
  refine j_iload_n d_M_put_1 rfl ?_
  refine j_retI (j_callV d_M_put_2 v_M_fieldOf l_M_79 rfl rfl (m_M_fieldOf K (d - 1) S J ch c hc h6) (by omega) (by decide) (Nat.le_of_ble_eq_true rfl) rfl) rfl ?_
  refine j_istore d_M_put_5 (by decide) ?_
  refine j_aload_n d_M_put_7 rfl ?_
  refine j_iload_n d_M_put_8 rfl ?_
  refine j_retI (j_callS d_M_put_9 s_M_isWord l_M_83 rfl (m_M_isWord K (d - 1) _ w) (by omega) (by decide) (Nat.le_of_ble_eq_true rfl) rfl) rfl ?_
  refine j_loc' [(0, .ref 59), (1, .int w), (2, .int ch), (3, .int v), (4, .int (fdL (S.2.1 13) ch c 0 (-1)))] ⟨rfl, rfl, rfl, rfl, rfl, trivial⟩ ?_
  refine j_if_eq (tgt := 20) d_M_put_12 rfl (fun h => bad) (fun h => ?_)
  refine j_iload d_M_put_15 rfl ?_
  refine j_if_geF (tgt := 24) d_M_put_17 rfl (Int32.not_le.mpr (hw.resolve_left (fun q => h (btw_bad q)))) ?_
  exact bad
theorem m_M_put_y (K : jK) (d : Nat) (hd : 1 ≤ d) (S : jS) (J : jH) (ch : Int32) (c : Nat) (hc : S.1 31 = nI c) (h6 : c ≤ 6) (i f : Nat) (v : Int32) (hi : i < 32) (hf : f < 6) (hF : fdL (S.2.1 13) ch c 0 (-1) = nI f) (hu : S.2.1 10 i = 0) : jM K M_M_put d [.ref 59, .int (nI i), .int ch, .int v] (lay S ++ J) (rV (lay (s1 S 30 2) ++ J)) 0 0 := by
  refine jM.of (by decide) (Nat.le_of_ble_eq_true rfl) ?_
  refine j_aload_n d_M_put_0 rfl ?_
  refine j_iload_n d_M_put_1 rfl ?_
  refine j_retI (j_callV d_M_put_2 v_M_fieldOf l_M_79 rfl rfl (m_M_fieldOf K (d - 1) S J ch c hc h6) (by omega) (by decide) (Nat.le_of_ble_eq_true rfl) rfl) rfl ?_
  rw [hF]
  refine j_istore d_M_put_5 (by decide) ?_
  refine j_aload_n d_M_put_7 rfl ?_
  refine j_iload_n d_M_put_8 rfl ?_
  refine j_retI (j_callS d_M_put_9 s_M_isWord l_M_83 rfl (m_M_isWord K (d - 1) _ (nI i)) (by omega) (by decide) (Nat.le_of_ble_eq_true rfl) rfl) rfl ?_
  refine j_if_eqF (tgt := 20) d_M_put_12 rfl (by rw [btw_nI hi]; decide) ?_
  refine j_iload d_M_put_15 rfl ?_
  refine j_if_geT (tgt := 24) d_M_put_17 rfl (show nI 0 ≤ nI f from nI_le (by omega) (by omega)) ?_
  refine j_aload_n d_M_put_24 rfl ?_
  refine j_getf d_M_put_25 f_M_7 rfl rfl ?_
  refine j_iload_n d_M_put_28 rfl ?_
  refine j_zald d_M_put_29 rfl hi (by decide) ?_
  refine j_if_neF (tgt := 37) d_M_put_30 rfl hu ?_
  refine j_iconst (v := 2) d_M_put_33 rfl ?_
  refine j_goto (tgt := 52) d_M_put_34 rfl ?_
  refine j_putf d_M_put_52 f_M_73 rfl (Nat.le_of_ble_eq_true rfl) rfl rfl rfl ?_
  refine j_hp (h' := lay (s1 S 30 2) ++ J) rfl ?_
  refine j_aload_n d_M_put_55 rfl ?_
  refine j_getf d_M_put_56 f_M_73 rfl rfl ?_
  refine j_if_neT (tgt := 70) d_M_put_59 rfl (show ¬ (2 : Int32) = 0 by decide) ?_
  exact j_vret rfl d_M_put_70 ⟨rfl, rfl⟩
theorem m_M_put (K : jK) (d : Nat) (hd : 1 ≤ d) (S : jS) (J : jH) (ch : Int32) (c : Nat) (hc : S.1 31 = nI c) (h6 : c ≤ 6) (i f : Nat) (v : Int32) (hi : i < 32) {lo wd : Nat → Nat} (hfo : fOk S.2.1 lo wd c) (hf : f < c) (hF : fdL (S.2.1 13) ch c 0 (-1) = nI f) (hu : ¬ S.2.1 10 i = 0) : jM K M_M_put d [.ref 59, .int (nI i), .int ch, .int v] (lay S ++ J) (if vfit (S.2.1 2 f) (S.2.1 3 f) v = 0 then rV (lay (s1 S 30 3) ++ J) else rV (lay (s2 (s1 S 30 0) 11 (upd (S.2.1 11) i (vput (S.2.1 1 f) (S.2.1 2 f) (S.2.1 11 i) v))) ++ J)) 0 0 := by
  refine jM.of (by decide) (Nat.le_of_ble_eq_true rfl) ?_
  refine j_aload_n d_M_put_0 rfl ?_
  refine j_iload_n d_M_put_1 rfl ?_
  refine j_retI (j_callV d_M_put_2 v_M_fieldOf l_M_79 rfl rfl (m_M_fieldOf K (d - 1) S J ch c hc h6) (by omega) (by decide) (Nat.le_of_ble_eq_true rfl) rfl) rfl ?_
  rw [hF]
  refine j_istore d_M_put_5 (by decide) ?_
  refine j_aload_n d_M_put_7 rfl ?_
  refine j_iload_n d_M_put_8 rfl ?_
  refine j_retI (j_callS d_M_put_9 s_M_isWord l_M_83 rfl (m_M_isWord K (d - 1) _ (nI i)) (by omega) (by decide) (Nat.le_of_ble_eq_true rfl) rfl) rfl ?_
  refine j_if_eqF (tgt := 20) d_M_put_12 rfl (by rw [btw_nI hi]; decide) ?_
  refine j_iload d_M_put_15 rfl ?_
  refine j_if_geT (tgt := 24) d_M_put_17 rfl (show nI 0 ≤ nI f from nI_le (by omega) (by omega)) ?_
  refine j_aload_n d_M_put_24 rfl ?_
  refine j_getf d_M_put_25 f_M_7 rfl rfl ?_
  refine j_iload_n d_M_put_28 rfl ?_
  refine j_zald d_M_put_29 rfl hi (by decide) ?_
  refine j_if_neT (tgt := 37) d_M_put_30 rfl hu ?_
  refine j_aload_n d_M_put_37 rfl ?_
  refine j_iload d_M_put_38 rfl ?_
  refine j_iload_n d_M_put_40 rfl ?_
  refine j_retI (j_callV d_M_put_41 v_M_fits l_M_87 rfl rfl (m_M_fit2 K (d - 1) S J f v hfo hf) (by omega) (by decide) (Nat.le_of_ble_eq_true rfl) rfl) rfl ?_
  by_cases hv : vfit (S.2.1 2 f) (S.2.1 3 f) v = 0
  · rw [if_pos hv]
    refine j_if_neF (tgt := 51) d_M_put_44 rfl hv ?_
    refine j_iconst (v := 3) d_M_put_47 rfl ?_
    refine j_goto (tgt := 52) d_M_put_48 rfl ?_
    refine j_putf d_M_put_52 f_M_73 rfl (Nat.le_of_ble_eq_true rfl) rfl rfl rfl ?_
    refine j_hp (h' := lay (s1 S 30 3) ++ J) rfl ?_
    refine j_aload_n d_M_put_55 rfl ?_
    refine j_getf d_M_put_56 f_M_73 rfl rfl ?_
    refine j_if_neT (tgt := 70) d_M_put_59 rfl (show ¬ (3 : Int32) = 0 by decide) ?_
    exact j_vret rfl d_M_put_70 ⟨rfl, rfl⟩
  · rw [if_neg hv]
    refine j_if_neT (tgt := 51) d_M_put_44 rfl hv ?_
    refine j_iconst (v := 0) d_M_put_51 rfl ?_
    refine j_putf d_M_put_52 f_M_73 rfl (Nat.le_of_ble_eq_true rfl) rfl rfl rfl ?_
    refine j_hp (h' := lay (s1 S 30 0) ++ J) rfl ?_
    refine j_aload_n d_M_put_55 rfl ?_
    refine j_getf d_M_put_56 f_M_73 rfl rfl ?_
    refine j_if_neF (tgt := 70) d_M_put_59 rfl rfl ?_
    refine j_aload_n d_M_put_62 rfl ?_
    refine j_iload_n d_M_put_63 rfl ?_
    refine j_iload d_M_put_64 rfl ?_
    refine j_iload_n d_M_put_66 rfl ?_
    refine j_retV (j_callV d_M_put_67 v_M_setValue l_M_91 rfl rfl (m_M_set2 K (d - 1) (s1 S 30 0) J i f v hi hfo hf) (by omega) (by decide) (Nat.le_of_ble_eq_true rfl) rfl) rfl ?_
    exact j_vret rfl d_M_put_70 ⟨rfl, rfl⟩
theorem lowF_two (x : Int32) : ∀ (k i : Nat), lowF x k i = -1 ∨ ∃ j : Nat, i ≤ j ∧ j < i + k ∧ lowF x k i = nI j ∧ bt x j = true
  | 0, i => .inl rfl
  | k + 1, i => by
    unfold lowF
    by_cases h : bt x i = true
    · rw [if_pos h]; exact .inr ⟨i, Nat.le_refl _, by omega, rfl, h⟩
    · rw [if_neg h]
      rcases lowF_two x k (i + 1) with q | ⟨j, h1, h2, h3, h4⟩
      · exact .inl q
      · exact .inr ⟨j, by omega, by omega, h3, h4⟩
def inQ (S : jS) (J : jH) (U : Int32) : jO → jH → Prop := if lowF (U ^^^ (-1)) 32 0 = -1 then rI 0 (lay (s1 S 30 1) ++ J) else rI (lowF (U ^^^ (-1)) 32 0) (lay (s2 (s2 (s2 (s1 S 30 0) 10 (upd (S.2.1 10) (lowF (U ^^^ (-1)) 32 0).toNatClampNeg 1)) 11 (upd (S.2.1 11) (lowF (U ^^^ (-1)) 32 0).toNatClampNeg 0)) 12 (upd (S.2.1 12) (lowF (U ^^^ (-1)) 32 0).toNatClampNeg 0)) ++ J)
theorem m_M_insert (K : jK) (d : Nat) (S : jS) (J : jH) (U : Int32) (hU : rsp (S.2.1 10) U) : jM K M_M_insert d [.ref 59] (lay S ++ J) (inQ S J U) 0 0 := by
  refine jM.of (by decide) (Nat.le_of_ble_eq_true rfl) ?_
  have fin : ∀ (ls : List (Nat × Value)), j_lg ls 0 = some (.ref 59) → j_lg ls 1 = some (.int (lowF (U ^^^ (-1)) 32 0)) → jE K M_M_insert d 30 ls [] (lay S ++ J) (inQ S J U) 0 0 := by
    intro ls l0 l1
    refine j_loc' [(0, .ref 59), (1, .int (lowF (U ^^^ (-1)) 32 0))] ⟨l0, l1, trivial⟩ ?_
    refine j_aload_n d_M_insert_30 rfl ?_
    refine j_iload_n d_M_insert_31 rfl ?_
    rcases lowF_two (U ^^^ (-1)) 32 0 with h | ⟨j, h1, h2, h3, h4⟩
    · rw [show inQ S J U = rI 0 (lay (s1 S 30 1) ++ J) from if_pos h]
      refine j_if_geF (tgt := 39) d_M_insert_32 rfl (by rw [h]; decide) ?_
      refine j_iconst (v := 1) d_M_insert_35 rfl ?_
      refine j_goto (tgt := 40) d_M_insert_36 rfl ?_
      refine j_putf d_M_insert_40 f_M_73 rfl (Nat.le_of_ble_eq_true rfl) rfl rfl rfl ?_
      refine j_hp (h' := lay (s1 S 30 1) ++ J) rfl ?_
      refine j_aload_n d_M_insert_43 rfl ?_
      refine j_getf d_M_insert_44 f_M_73 rfl rfl ?_
      refine j_if_leF (tgt := 52) d_M_insert_47 rfl (by show ¬ (1 : Int32) ≤ 0; decide) ?_
      refine j_iconst (v := 0) d_M_insert_50 rfl ?_
      exact j_iret rfl d_M_insert_51 ⟨rfl, rfl⟩
    · have hne : ¬ lowF (U ^^^ (-1)) 32 0 = -1 := by rw [h3]; exact nI_ne1 (by omega)
      rw [show inQ S J U = rI (lowF (U ^^^ (-1)) 32 0) (lay (s2 (s2 (s2 (s1 S 30 0) 10 (upd (S.2.1 10) (lowF (U ^^^ (-1)) 32 0).toNatClampNeg 1)) 11 (upd (S.2.1 11) (lowF (U ^^^ (-1)) 32 0).toNatClampNeg 0)) 12 (upd (S.2.1 12) (lowF (U ^^^ (-1)) 32 0).toNatClampNeg 0)) ++ J) from if_neg hne]
      rw [h3, nI_clamp (by omega)]
      refine j_if_geT (tgt := 39) d_M_insert_32 rfl (show nI 0 ≤ nI j from nI_le (by omega) (by omega)) ?_
      refine j_iconst (v := 0) d_M_insert_39 rfl ?_
      refine j_putf d_M_insert_40 f_M_73 rfl (Nat.le_of_ble_eq_true rfl) rfl rfl rfl ?_
      refine j_hp (h' := lay (s1 S 30 0) ++ J) rfl ?_
      refine j_aload_n d_M_insert_43 rfl ?_
      refine j_getf d_M_insert_44 f_M_73 rfl rfl ?_
      refine j_if_leT (tgt := 52) d_M_insert_47 rfl (by show (0 : Int32) ≤ 0; decide) ?_
      refine j_aload_n d_M_insert_52 rfl ?_
      refine j_getf d_M_insert_53 f_M_7 rfl rfl ?_
      refine j_iload_n d_M_insert_56 rfl ?_
      refine j_iconst (v := 1) d_M_insert_57 rfl ?_
      refine j_zast d_M_insert_58 rfl (show j < 32 by omega) (by decide) rfl rfl ?_
      refine j_aload_n d_M_insert_59 rfl ?_
      refine j_getf d_M_insert_60 f_M_13 rfl rfl ?_
      refine j_iload_n d_M_insert_63 rfl ?_
      refine j_iconst (v := 0) d_M_insert_64 rfl ?_
      refine j_iast d_M_insert_65 rfl (show j < 32 by omega) (by decide) rfl ?_
      refine j_aload_n d_M_insert_66 rfl ?_
      refine j_getf d_M_insert_67 f_M_17 rfl rfl ?_
      refine j_iload_n d_M_insert_70 rfl ?_
      refine j_iconst (v := 0) d_M_insert_71 rfl ?_
      refine j_zast d_M_insert_72 rfl (show j < 32 by omega) (by decide) rfl rfl ?_
      refine j_iload_n d_M_insert_73 rfl ?_
      exact j_iret rfl d_M_insert_74 ⟨rfl, rfl⟩
  have loop : ∀ (k : Nat) (v : Int32) (ls : List (Nat × Value)), k ≤ 32 → j_lg ls 0 = some (.ref 59) → j_lg ls 1 = some (.int v) → j_lg ls 2 = some (.int (nI k - 1)) → frL (bt U) k v = lowF (U ^^^ (-1)) 32 0 → jE K M_M_insert d 5 ls [] (lay S ++ J) (inQ S J U) 0 0 := by
    intro k
    induction k with
    | zero =>
      intro v ls hk l0 l1 l2 hv
      have hv : v = lowF (U ^^^ (-1)) 32 0 := hv
      refine j_loc' [(0, .ref 59), (1, .int v), (2, .int (nI 0 - 1))] ⟨l0, l1, l2, trivial⟩ ?_
      refine j_iload_n d_M_insert_5 rfl ?_
      refine j_if_ltT (tgt := 30) d_M_insert_6 rfl (by decide) ?_
      exact fin _ rfl (by rw [← hv]; rfl)
    | succ k ih =>
      intro v ls hk l0 l1 l2 hv
      have ek : nI (k + 1) - 1 = nI k := nI_pred k
      rw [ek] at l2
      refine j_loc' [(0, .ref 59), (1, .int v), (2, .int (nI k))] ⟨l0, l1, l2, trivial⟩ ?_
      have hxi : S.2.1 10 k = b2i (bt U k) := hU k (by omega)
      have stp : nI k + Int32.ofInt (-1) = nI k - 1 := by rw [Int32.sub_eq_add_neg]; rfl
      rw [frL] at hv
      refine j_iload_n d_M_insert_5 rfl ?_
      refine j_if_ltF (tgt := 30) d_M_insert_6 rfl (nI_pos (by omega)) ?_
      refine j_aload_n d_M_insert_9 rfl ?_
      refine j_getf d_M_insert_10 f_M_7 rfl rfl ?_
      refine j_iload_n d_M_insert_13 rfl ?_
      refine j_zald d_M_insert_14 rfl (show k < 32 by omega) (by decide) ?_
      by_cases hb : bt U k = true
      · rw [hb] at hxi
        rw [if_pos hb] at hv
        refine j_top (w := .int 1) (congrArg Value.int hxi) ?_
        refine j_if_eqF (tgt := 22) d_M_insert_15 rfl (by decide) ?_
        refine j_iload_n d_M_insert_18 rfl ?_
        refine j_goto (tgt := 23) d_M_insert_19 rfl ?_
        refine j_istore_n d_M_insert_23 (by decide) ?_
        refine j_iinc d_M_insert_24 rfl stp (by decide) ?_
        refine j_goto (tgt := 5) d_M_insert_27 rfl ?_
        exact ih v _ (by omega) rfl rfl rfl hv
      · rw [Bool.eq_false_iff.mpr hb] at hxi
        rw [if_neg hb] at hv
        refine j_top (w := .int 0) (congrArg Value.int hxi) ?_
        refine j_if_eqT (tgt := 22) d_M_insert_15 rfl rfl ?_
        refine j_iload_n d_M_insert_22 rfl ?_
        refine j_istore_n d_M_insert_23 (by decide) ?_
        refine j_iinc d_M_insert_24 rfl stp (by decide) ?_
        refine j_goto (tgt := 5) d_M_insert_27 rfl ?_
        exact ih (nI k) _ (by omega) rfl rfl rfl hv
  refine j_iconst (v := -1) d_M_insert_0 rfl ?_
  refine j_istore_n d_M_insert_1 (by decide) ?_
  refine j_bipush (v := 31) d_M_insert_2 (by decide) ?_
  refine j_istore_n d_M_insert_4 (by decide) ?_
  exact loop 32 (-1) _ (Nat.le_refl _) rfl rfl rfl (fr_low (U ^^^ (-1)) (bt U) 0 32 (-1) (fun j hj => by rw [b_not U (by omega)]; cases bt U j <;> rfl) rfl)
/-- the model's judgement of a new field: its name and its ground by itself -/
def gd0 (ch a w : Int32) (N : Nat → Int32) (c : Nat) : Bool := decide (97 ≤ ch) && (decide (ch ≤ 122) && (decide (fdL N ch c 0 (-1) < 0) && (decide (0 ≤ a) && (decide (a ≤ 23) && (decide (1 ≤ w) && (decide (w ≤ 10) && decide (a + w ≤ 24)))))))
/-- and beside the others -/
def gdL (a w : Int32) (lo wd : Nat → Int32) : Nat → Nat → Bool → Bool
  | 0, _, g => g
  | k + 1, i, g => if g = true then gdL a w lo wd k (i + 1) (decide (a + w ≤ lo i) || decide (lo i + wd i ≤ a)) else false
def gd (ch a w : Int32) (N lo wd : Nat → Int32) (c : Nat) : Bool := gdL a w lo wd c 0 (gd0 ch a w N c)
theorem gdL_f (a w : Int32) (lo wd : Nat → Int32) (k i : Nat) : gdL a w lo wd k i false = false := by cases k <;> rfl
def fdQ (S : jS) (J : jH) (ch a w z : Int32) (c : Nat) : jO → jH → Prop := if gd ch a w (S.2.1 13) (S.2.1 14) (S.2.1 15) c = false then rV (lay (s1 S 30 1) ++ J) else if c = 6 then rV (lay (s1 S 30 2) ++ J) else rV (lay (s1 (s2 (s2 (s2 (s2 (s1 S 30 0) 13 (upd (S.2.1 13) c ch)) 14 (upd (S.2.1 14) c a)) 15 (upd (S.2.1 15) c w)) 16 (upd (S.2.1 16) c z)) 31 (nI (c + 1))) ++ J)
theorem m_M_field (K : jK) (d : Nat) (hd : 1 ≤ d) (S : jS) (J : jH) (ch : Int32) (c : Nat) (hc : S.1 31 = nI c) (h6 : c ≤ 6) (a w z : Int32) (hch : narrow .char (.int ch) = .int ch) (hz : narrow .boolean (.int z) = .int z) : jM K M_M_field d [.ref 59, .int ch, .int a, .int w, .int z] (lay S ++ J) (fdQ S J ch a w z c) 0 0 := by
  refine jM.of (by decide) (Nat.le_of_ble_eq_true rfl) ?_
  have fin : ∀ (b : Bool) (ls : List (Nat × Value)), j_lg ls 0 = some (.ref 59) → j_lg ls 1 = some (.int ch) → j_lg ls 2 = some (.int a) → j_lg ls 3 = some (.int w) → j_lg ls 4 = some (.int z) → j_lg ls 5 = some (.int (b2i b)) → gd ch a w (S.2.1 13) (S.2.1 14) (S.2.1 15) c = b → jE K M_M_field d 118 ls [] (lay S ++ J) (fdQ S J ch a w z c) 0 0 := by
    intro b ls l0 l1 l2 l3 l4 l5 hg
    refine j_loc' [(0, .ref 59), (1, .int ch), (2, .int a), (3, .int w), (4, .int z), (5, .int (b2i b))] ⟨l0, l1, l2, l3, l4, l5, trivial⟩ ?_
    refine j_aload_n d_M_field_118 rfl ?_
    refine j_iload d_M_field_119 rfl ?_
    cases b with
    | false =>
      rw [show fdQ S J ch a w z c = rV (lay (s1 S 30 1) ++ J) from if_pos hg]
      refine j_if_neF (tgt := 128) d_M_field_121 rfl rfl ?_
      refine j_iconst (v := 1) d_M_field_124 rfl ?_
      refine j_goto (tgt := 142) d_M_field_125 rfl ?_
      refine j_putf d_M_field_142 f_M_73 rfl (Nat.le_of_ble_eq_true rfl) rfl rfl rfl ?_
      refine j_hp (h' := lay (s1 S 30 1) ++ J) rfl ?_
      refine j_aload_n d_M_field_145 rfl ?_
      refine j_getf d_M_field_146 f_M_73 rfl rfl ?_
      refine j_if_neT (tgt := 203) d_M_field_149 rfl (show ¬ (1 : Int32) = 0 by decide) ?_
      exact j_vret rfl d_M_field_203 ⟨rfl, rfl⟩
    | true =>
      refine j_if_neT (tgt := 128) d_M_field_121 rfl (by decide) ?_
      refine j_aload_n d_M_field_128 rfl ?_
      refine j_getf d_M_field_129 f_M_76 rfl rfl ?_
      refine j_top (w := .int (nI c)) (congrArg Value.int hc) ?_
      refine j_bipush (v := 6) d_M_field_132 (by decide) ?_
      have ng : ¬ gd ch a w (S.2.1 13) (S.2.1 14) (S.2.1 15) c = false := by rw [hg]; decide
      by_cases h6c : c = 6
      · rw [show fdQ S J ch a w z c = rV (lay (s1 S 30 2) ++ J) from (if_neg ng).trans (if_pos h6c)]
        refine j_icmp_neF (tgt := 141) d_M_field_134 rfl (by rw [h6c]; rfl) ?_
        refine j_iconst (v := 2) d_M_field_137 rfl ?_
        refine j_goto (tgt := 142) d_M_field_138 rfl ?_
        refine j_putf d_M_field_142 f_M_73 rfl (Nat.le_of_ble_eq_true rfl) rfl rfl rfl ?_
        refine j_hp (h' := lay (s1 S 30 2) ++ J) rfl ?_
        refine j_aload_n d_M_field_145 rfl ?_
        refine j_getf d_M_field_146 f_M_73 rfl rfl ?_
        refine j_if_neT (tgt := 203) d_M_field_149 rfl (show ¬ (2 : Int32) = 0 by decide) ?_
        exact j_vret rfl d_M_field_203 ⟨rfl, rfl⟩
      · have hc6 : c < 6 := by omega
        rw [show fdQ S J ch a w z c = rV (lay (s1 (s2 (s2 (s2 (s2 (s1 S 30 0) 13 (upd (S.2.1 13) c ch)) 14 (upd (S.2.1 14) c a)) 15 (upd (S.2.1 15) c w)) 16 (upd (S.2.1 16) c z)) 31 (nI (c + 1))) ++ J) from (if_neg ng).trans (if_neg h6c)]
        refine j_icmp_neT (tgt := 141) d_M_field_134 rfl (fun q => h6c ((nI_eq (b := 6) (by omega) (by omega)).mp q)) ?_
        refine j_iconst (v := 0) d_M_field_141 rfl ?_
        refine j_putf d_M_field_142 f_M_73 rfl (Nat.le_of_ble_eq_true rfl) rfl rfl rfl ?_
        refine j_hp (h' := lay (s1 S 30 0) ++ J) rfl ?_
        refine j_aload_n d_M_field_145 rfl ?_
        refine j_getf d_M_field_146 f_M_73 rfl rfl ?_
        refine j_if_neF (tgt := 203) d_M_field_149 rfl rfl ?_
        refine j_aload_n d_M_field_152 rfl ?_
        refine j_getf d_M_field_153 f_M_20 rfl rfl ?_
        refine j_aload_n d_M_field_156 rfl ?_
        refine j_getf d_M_field_157 f_M_76 rfl rfl ?_
        refine j_top (w := .int (nI c)) (congrArg Value.int hc) ?_
        refine j_iload_n d_M_field_160 rfl ?_
        refine j_cast d_M_field_161 rfl hc6 (by decide) hch rfl ?_
        refine j_aload_n d_M_field_162 rfl ?_
        refine j_getf d_M_field_163 f_M_24 rfl rfl ?_
        refine j_aload_n d_M_field_166 rfl ?_
        refine j_getf d_M_field_167 f_M_76 rfl rfl ?_
        refine j_top (w := .int (nI c)) (congrArg Value.int hc) ?_
        refine j_iload_n d_M_field_170 rfl ?_
        refine j_iast d_M_field_171 rfl hc6 (by decide) rfl ?_
        refine j_aload_n d_M_field_172 rfl ?_
        refine j_getf d_M_field_173 f_M_27 rfl rfl ?_
        refine j_aload_n d_M_field_176 rfl ?_
        refine j_getf d_M_field_177 f_M_76 rfl rfl ?_
        refine j_top (w := .int (nI c)) (congrArg Value.int hc) ?_
        refine j_iload_n d_M_field_180 rfl ?_
        refine j_iast d_M_field_181 rfl hc6 (by decide) rfl ?_
        refine j_aload_n d_M_field_182 rfl ?_
        refine j_getf d_M_field_183 f_M_30 rfl rfl ?_
        refine j_aload_n d_M_field_186 rfl ?_
        refine j_getf d_M_field_187 f_M_76 rfl rfl ?_
        refine j_top (w := .int (nI c)) (congrArg Value.int hc) ?_
        refine j_iload d_M_field_190 rfl ?_
        refine j_zast d_M_field_192 rfl hc6 (by decide) hz rfl ?_
        refine j_aload_n d_M_field_193 rfl ?_
        refine j_dup d_M_field_194 rfl ?_
        refine j_getf d_M_field_195 f_M_76 rfl rfl ?_
        refine j_top (w := .int (nI c)) (congrArg Value.int hc) ?_
        refine j_iconst (v := 1) d_M_field_198 rfl ?_
        refine j_iadd d_M_field_199 ?_
        refine j_top (w := .int (nI (c + 1))) (by rw [nI_succ]) ?_
        refine j_putf d_M_field_200 f_M_76 rfl (Nat.le_of_ble_eq_true rfl) rfl rfl rfl ?_
        exact j_vret rfl d_M_field_203 ⟨rfl, rfl⟩
  have loop : ∀ (k i : Nat) (g : Bool) (ls : List (Nat × Value)), i + k = c → j_lg ls 0 = some (.ref 59) → j_lg ls 1 = some (.int ch) → j_lg ls 2 = some (.int a) → j_lg ls 3 = some (.int w) → j_lg ls 4 = some (.int z) → j_lg ls 5 = some (.int (b2i g)) → j_lg ls 6 = some (.int (nI i)) → gd ch a w (S.2.1 13) (S.2.1 14) (S.2.1 15) c = gdL a w (S.2.1 14) (S.2.1 15) k i g → jE K M_M_field d 59 ls [] (lay S ++ J) (fdQ S J ch a w z c) 0 0 := by
    intro k
    induction k with
    | zero =>
      intro i g ls hi l0 l1 l2 l3 l4 l5 l6 hg
      refine j_loc' [(0, .ref 59), (1, .int ch), (2, .int a), (3, .int w), (4, .int z), (5, .int (b2i g)), (6, .int (nI i))] ⟨l0, l1, l2, l3, l4, l5, l6, trivial⟩ ?_
      refine j_iload d_M_field_59 rfl ?_
      refine j_aload_n d_M_field_61 rfl ?_
      refine j_getf d_M_field_62 f_M_76 rfl rfl ?_
      refine j_top (w := .int (nI c)) (congrArg Value.int hc) ?_
      refine j_icmp_geT (tgt := 118) d_M_field_65 rfl (nI_le (by omega) (by omega)) ?_
      exact fin g _ rfl rfl rfl rfl rfl rfl hg
    | succ k ih =>
      intro i g ls hi l0 l1 l2 l3 l4 l5 l6 hg
      refine j_loc' [(0, .ref 59), (1, .int ch), (2, .int a), (3, .int w), (4, .int z), (5, .int (b2i g)), (6, .int (nI i))] ⟨l0, l1, l2, l3, l4, l5, l6, trivial⟩ ?_
      refine j_iload d_M_field_59 rfl ?_
      refine j_aload_n d_M_field_61 rfl ?_
      refine j_getf d_M_field_62 f_M_76 rfl rfl ?_
      refine j_top (w := .int (nI c)) (congrArg Value.int hc) ?_
      refine j_icmp_geF (tgt := 118) d_M_field_65 rfl (nI_ge (by omega) (by omega)) ?_
      refine j_iload d_M_field_68 rfl ?_
      cases g with
      | false =>
        refine j_if_eqT (tgt := 118) d_M_field_70 rfl rfl ?_
        exact fin false _ rfl rfl rfl rfl rfl rfl hg
      | true =>
        rw [gdL, if_pos rfl] at hg
        refine j_if_eqF (tgt := 118) d_M_field_70 rfl (by decide) ?_
        refine j_iload_n d_M_field_73 rfl ?_
        refine j_iload_n d_M_field_74 rfl ?_
        refine j_iadd d_M_field_75 ?_
        refine j_aload_n d_M_field_76 rfl ?_
        refine j_getf d_M_field_77 f_M_24 rfl rfl ?_
        refine j_iload d_M_field_80 rfl ?_
        refine j_iald d_M_field_82 rfl (show i < 6 by omega) (by decide) ?_
        by_cases h1 : a + w ≤ S.2.1 14 i
        · refine j_icmp_leT (tgt := 105) d_M_field_83 rfl h1 ?_
          refine j_iconst (v := 1) d_M_field_105 rfl ?_
          refine j_goto (tgt := 110) d_M_field_106 rfl ?_
          refine j_istore d_M_field_110 (by decide) ?_
          refine j_iincN d_M_field_112 rfl (by decide) ?_
          refine j_goto (tgt := 59) d_M_field_115 rfl ?_
          exact ih (i + 1) true _ (by omega) rfl rfl rfl rfl rfl rfl rfl (by rw [hg, decide_eq_true h1]; rfl)
        · refine j_icmp_leF (tgt := 105) d_M_field_83 rfl h1 ?_
          refine j_aload_n d_M_field_86 rfl ?_
          refine j_getf d_M_field_87 f_M_24 rfl rfl ?_
          refine j_iload d_M_field_90 rfl ?_
          refine j_iald d_M_field_92 rfl (show i < 6 by omega) (by decide) ?_
          refine j_aload_n d_M_field_93 rfl ?_
          refine j_getf d_M_field_94 f_M_27 rfl rfl ?_
          refine j_iload d_M_field_97 rfl ?_
          refine j_iald d_M_field_99 rfl (show i < 6 by omega) (by decide) ?_
          refine j_iadd d_M_field_100 ?_
          refine j_iload_n d_M_field_101 rfl ?_
          by_cases h2 : S.2.1 14 i + S.2.1 15 i ≤ a
          · refine j_icmp_gtF (tgt := 109) d_M_field_102 rfl (Int32.not_lt.mpr h2) ?_
            refine j_iconst (v := 1) d_M_field_105 rfl ?_
            refine j_goto (tgt := 110) d_M_field_106 rfl ?_
            refine j_istore d_M_field_110 (by decide) ?_
            refine j_iincN d_M_field_112 rfl (by decide) ?_
            refine j_goto (tgt := 59) d_M_field_115 rfl ?_
            exact ih (i + 1) true _ (by omega) rfl rfl rfl rfl rfl rfl rfl (by rw [hg, decide_eq_false h1, decide_eq_true h2]; rfl)
          · refine j_icmp_gtT (tgt := 109) d_M_field_102 rfl (Int32.not_le.mp h2) ?_
            refine j_iconst (v := 0) d_M_field_109 rfl ?_
            refine j_istore d_M_field_110 (by decide) ?_
            refine j_iincN d_M_field_112 rfl (by decide) ?_
            refine j_goto (tgt := 59) d_M_field_115 rfl ?_
            exact ih (i + 1) false _ (by omega) rfl rfl rfl rfl rfl rfl rfl (by rw [hg, decide_eq_false h1, decide_eq_false h2]; rfl)
  have two : ∀ (b : Bool) (ls : List (Nat × Value)), j_lg ls 0 = some (.ref 59) → j_lg ls 1 = some (.int ch) → j_lg ls 2 = some (.int a) → j_lg ls 3 = some (.int w) → j_lg ls 4 = some (.int z) → gd0 ch a w (S.2.1 13) c = b → jE K M_M_field d 54 ls [.int (b2i b)] (lay S ++ J) (fdQ S J ch a w z c) 0 0 := by
    intro b ls l0 l1 l2 l3 l4 hb
    refine j_loc' [(0, .ref 59), (1, .int ch), (2, .int a), (3, .int w), (4, .int z)] ⟨l0, l1, l2, l3, l4, trivial⟩ ?_
    refine j_istore d_M_field_54 (by decide) ?_
    refine j_iconst (v := 0) d_M_field_56 rfl ?_
    refine j_istore d_M_field_57 (by decide) ?_
    exact loop c 0 b _ (by omega) rfl rfl rfl rfl rfl rfl rfl (by rw [← hb]; rfl)
  have no : ∀ (ls : List (Nat × Value)), j_lg ls 0 = some (.ref 59) → j_lg ls 1 = some (.int ch) → j_lg ls 2 = some (.int a) → j_lg ls 3 = some (.int w) → j_lg ls 4 = some (.int z) → gd0 ch a w (S.2.1 13) c = false → jE K M_M_field d 53 ls [] (lay S ++ J) (fdQ S J ch a w z c) 0 0 := by
    intro ls l0 l1 l2 l3 l4 hb
    refine j_iconst (v := 0) d_M_field_53 rfl ?_
    exact two false ls l0 l1 l2 l3 l4 hb
  refine j_iload_n d_M_field_0 rfl ?_
  refine j_bipush (v := 97) d_M_field_1 (by decide) ?_
  by_cases h1 : ch < 97
  · refine j_icmp_ltT (tgt := 53) d_M_field_3 rfl h1 ?_
    exact no _ rfl rfl rfl rfl rfl (by unfold gd0; rw [decide_eq_false (Int32.not_le.mpr h1)]; rfl)
  refine j_icmp_ltF (tgt := 53) d_M_field_3 rfl h1 ?_
  refine j_iload_n d_M_field_6 rfl ?_
  refine j_bipush (v := 122) d_M_field_7 (by decide) ?_
  by_cases h2 : 122 < ch
  · refine j_icmp_gtT (tgt := 53) d_M_field_9 rfl h2 ?_
    exact no _ rfl rfl rfl rfl rfl (by unfold gd0; rw [decide_eq_false (Int32.not_le.mpr h2)]; simp)
  refine j_icmp_gtF (tgt := 53) d_M_field_9 rfl h2 ?_
  refine j_aload_n d_M_field_12 rfl ?_
  refine j_iload_n d_M_field_13 rfl ?_
  refine j_retI (j_callV d_M_field_14 v_M_fieldOf l_M_79 rfl rfl (m_M_fieldOf K (d - 1) S J ch c hc h6) (by omega) (by decide) (Nat.le_of_ble_eq_true rfl) rfl) rfl ?_
  by_cases h3 : fdL (S.2.1 13) ch c 0 (-1) < 0
  rotate_left
  · refine j_if_geT (tgt := 53) d_M_field_17 rfl (Int32.not_lt.mp h3) ?_
    exact no _ rfl rfl rfl rfl rfl (by unfold gd0; rw [decide_eq_false h3]; simp)
  refine j_if_geF (tgt := 53) d_M_field_17 rfl (Int32.not_le.mpr h3) ?_
  refine j_iload_n d_M_field_20 rfl ?_
  by_cases h4 : a < 0
  · refine j_if_ltT (tgt := 53) d_M_field_21 rfl h4 ?_
    exact no _ rfl rfl rfl rfl rfl (by unfold gd0; rw [decide_eq_false (Int32.not_le.mpr h4)]; simp)
  refine j_if_ltF (tgt := 53) d_M_field_21 rfl h4 ?_
  refine j_iload_n d_M_field_24 rfl ?_
  refine j_bipush (v := 23) d_M_field_25 (by decide) ?_
  by_cases h5 : 23 < a
  · refine j_icmp_gtT (tgt := 53) d_M_field_27 rfl h5 ?_
    exact no _ rfl rfl rfl rfl rfl (by unfold gd0; rw [decide_eq_false (Int32.not_le.mpr h5)]; simp)
  refine j_icmp_gtF (tgt := 53) d_M_field_27 rfl h5 ?_
  refine j_iload_n d_M_field_30 rfl ?_
  refine j_iconst (v := 1) d_M_field_31 rfl ?_
  by_cases h7 : w < 1
  · refine j_icmp_ltT (tgt := 53) d_M_field_32 rfl h7 ?_
    exact no _ rfl rfl rfl rfl rfl (by unfold gd0; rw [decide_eq_false (Int32.not_le.mpr h7)]; simp)
  refine j_icmp_ltF (tgt := 53) d_M_field_32 rfl h7 ?_
  refine j_iload_n d_M_field_35 rfl ?_
  refine j_bipush (v := 10) d_M_field_36 (by decide) ?_
  by_cases h8 : 10 < w
  · refine j_icmp_gtT (tgt := 53) d_M_field_38 rfl h8 ?_
    exact no _ rfl rfl rfl rfl rfl (by unfold gd0; rw [decide_eq_false (Int32.not_le.mpr h8)]; simp)
  refine j_icmp_gtF (tgt := 53) d_M_field_38 rfl h8 ?_
  refine j_iload_n d_M_field_41 rfl ?_
  refine j_iload_n d_M_field_42 rfl ?_
  refine j_iadd d_M_field_43 ?_
  refine j_bipush (v := 24) d_M_field_44 (by decide) ?_
  by_cases h9 : 24 < a + w
  · refine j_icmp_gtT (tgt := 53) d_M_field_46 rfl h9 ?_
    exact no _ rfl rfl rfl rfl rfl (by unfold gd0; rw [decide_eq_false (Int32.not_le.mpr h9)]; simp)
  refine j_icmp_gtF (tgt := 53) d_M_field_46 rfl h9 ?_
  refine j_iconst (v := 1) d_M_field_49 rfl ?_
  refine j_goto (tgt := 54) d_M_field_50 rfl ?_
  exact two true _ rfl rfl rfl rfl rfl (by unfold gd0; rw [decide_eq_true (Int32.not_lt.mp h1), decide_eq_true (Int32.not_lt.mp h2), decide_eq_true h3, decide_eq_true (Int32.not_lt.mp h4), decide_eq_true (Int32.not_lt.mp h5), decide_eq_true (Int32.not_lt.mp h7), decide_eq_true (Int32.not_lt.mp h8), decide_eq_true (Int32.not_lt.mp h9)]; rfl)
