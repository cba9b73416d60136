/-! BitLoom$Statement: what is asked of what was read; BitLoom.search, place -/
theorem m_S_wrongAt (K : jK) (d : Nat) (S : jS) (J : jH) : jM K M_S_wrongAt d [.ref 42] (lay S ++ J) (rI (S.1 10) (lay S ++ J)) 0 0 := by
  refine jM.of (by decide) (Nat.le_of_ble_eq_true rfl) ?_
  refine j_aload_n d_S_wrongAt_0 rfl ?_
  refine j_getf d_S_wrongAt_1 f_S_56 rfl rfl ?_
  exact j_iret rfl d_S_wrongAt_4 ⟨rfl, rfl⟩
theorem m_S_taken (K : jK) (d : Nat) (S : jS) (J : jH) : jM K M_S_taken d [.ref 42] (lay S ++ J) (rI (S.1 9) (lay S ++ J)) 0 0 := by
  refine jM.of (by decide) (Nat.le_of_ble_eq_true rfl) ?_
  refine j_aload_n d_S_taken_0 rfl ?_
  refine j_getf d_S_taken_1 f_S_60 rfl rfl ?_
  exact j_iret rfl d_S_taken_4 ⟨rfl, rfl⟩
theorem m_S_subject (K : jK) (d : Nat) (S : jS) (J : jH) : jM K M_S_subject d [.ref 42] (lay S ++ J) (rI (S.1 8) (lay S ++ J)) 0 0 := by
  refine jM.of (by decide) (Nat.le_of_ble_eq_true rfl) ?_
  refine j_aload_n d_S_subject_0 rfl ?_
  refine j_getf d_S_subject_1 f_S_63 rfl rfl ?_
  exact j_iret rfl d_S_subject_4 ⟨rfl, rfl⟩
theorem m_S_action (K : jK) (d : Nat) (S : jS) (J : jH) : jM K M_S_action d [.ref 42] (lay S ++ J) (fun o g => o = .inl (some (.ref S.2.2.2.2)) ∧ g = lay S ++ J) 0 0 := by
  refine jM.of (by decide) (Nat.le_of_ble_eq_true rfl) ?_
  refine j_aload_n d_S_action_0 rfl ?_
  refine j_getf d_S_action_1 f_S_53 rfl rfl ?_
  exact j_aret rfl (.inl ⟨_, rfl⟩) d_S_action_4 ⟨rfl, rfl⟩
theorem z_S_66 : Cond.fieldLink "BitLoom$Statement" 66 "BitLoom$Action" "MAX" "LBitLoom$Action;" ∈ jt := j_in 805 (by decide +kernel) rfl
theorem z_S_69 : Cond.fieldLink "BitLoom$Statement" 69 "BitLoom$Action" "MIN" "LBitLoom$Action;" ∈ jt := j_in 807 (by decide +kernel) rfl
def lackV (t : Int32) (v : Nat) : Bool := decide (t = 0) && (decide (v = 1) || decide (v = 2))
theorem m_S_lacksWord (K : jK) (d : Nat) (S : jS) (J : jH) (v : Nat) (hv : v < 6) (hS : S.2.2.2.2 = 2 + v) : jM K M_S_lacksWord d [.ref 42] (lay S ++ J) (rI (b2i (lackV (S.1 9) v)) (lay S ++ J)) 0 0 := by
  refine jM.of (by decide) (Nat.le_of_ble_eq_true rfl) ?_
  have hMAX : ∀ s, jX K s → va_Z "BitLoom$Action" "MAX" "LBitLoom$Action;" (j_v K (.ref 3)) (jA K) s K.2.2.1 := x_actN K (i := 1) (by omega)
  have hMIN : ∀ s, jX K s → va_Z "BitLoom$Action" "MIN" "LBitLoom$Action;" (j_v K (.ref 4)) (jA K) s K.2.2.1 := x_actN K (i := 2) (by omega)
  refine j_aload_n d_S_lacksWord_0 rfl ?_
  refine j_getf d_S_lacksWord_1 f_S_60 rfl rfl ?_
  refine j_if_ne (tgt := 31) d_S_lacksWord_4 rfl (fun h4 => ?_) (fun h4 => ?_)
  · refine j_iconst (v := 0) d_S_lacksWord_31 rfl ?_
    exact j_zret rfl rfl d_S_lacksWord_32 ⟨by rw [lackV, decide_eq_false h4]; rfl, rfl⟩
  · refine j_aload_n d_S_lacksWord_7 rfl ?_
    refine j_getf d_S_lacksWord_8 f_S_53 rfl rfl ?_
    refine j_top (w := .ref (2 + v)) (congrArg Value.ref hS) ?_
    refine j_gets d_S_lacksWord_11 (.inl z_S_66) hMAX ?_
    by_cases h1 : v = 1
    · subst h1
      refine j_acmp_eqT d_S_lacksWord_14 (tgt := 27) rfl ?_
      refine j_iconst (v := 1) d_S_lacksWord_27 rfl ?_
      refine j_goto (tgt := 32) d_S_lacksWord_28 rfl ?_
      exact j_zret rfl rfl d_S_lacksWord_32 ⟨by rw [lackV, decide_eq_true h4]; rfl, rfl⟩
    · refine j_acmp_eqF (i := 2 + v) (j := 3) d_S_lacksWord_14 (tgt := 27) rfl (x_actI K (j := 1) hv (by omega) h1) ?_
      refine j_aload_n d_S_lacksWord_17 rfl ?_
      refine j_getf d_S_lacksWord_18 f_S_53 rfl rfl ?_
      refine j_top (w := .ref (2 + v)) (congrArg Value.ref hS) ?_
      refine j_gets d_S_lacksWord_21 (.inl z_S_69) hMIN ?_
      by_cases h2 : v = 2
      · subst h2
        refine j_acmp_neF d_S_lacksWord_24 (tgt := 31) rfl ?_
        refine j_iconst (v := 1) d_S_lacksWord_27 rfl ?_
        refine j_goto (tgt := 32) d_S_lacksWord_28 rfl ?_
        exact j_zret rfl rfl d_S_lacksWord_32 ⟨by rw [lackV, decide_eq_true h4]; rfl, rfl⟩
      · refine j_acmp_neT (i := 2 + v) (j := 4) d_S_lacksWord_24 (tgt := 31) rfl (x_actI K (j := 2) hv (by omega) h2) ?_
        refine j_iconst (v := 0) d_S_lacksWord_31 rfl ?_
        exact j_zret rfl rfl d_S_lacksWord_32 ⟨by rw [lackV, decide_eq_false h1, decide_eq_false h2, Bool.or_false, Bool.and_false]; rfl, rfl⟩
/-- a change's result, its fitting, and the word with it -/
def resC (A : Nat → Nat → Int32) (q : Chg) (b : Int32) : Int32 := res q.2.2.1 (ovl A q.2.1 b) (ovl A q.2.2.2 b)
def fitC (A : Nat → Nat → Int32) (q : Chg) (b : Int32) : Int32 := vfit (A 2 q.1) (A 3 q.1) (resC A q b)
def putC (A : Nat → Nat → Int32) (q : Chg) (b0 b : Int32) : Int32 := vput (A 1 q.1) (A 2 q.1) b0 (resC A q b)
def canV (A : Nat → Nat → Int32) (q : Chg) (z : Option Chg) (b : Int32) : Int32 := if fitC A q b = 0 then 0 else match z with
  | none => 1
  | some w => if fitC A w b = 0 then 0 else 1
def chgV (A : Nat → Nat → Int32) (q : Chg) (z : Option Chg) (b : Int32) : Int32 := match z with
  | none => putC A q b b
  | some w => putC A w (putC A q b b) b
theorem res_32 (x y : Int32) : res 32 x y = x := rfl
theorem isC_res {t l m g l2 m2 : Nat} {q : Chg} {S : jS} (h : isC t l m g l2 m2 q S) (b : Int32) : res (S.1 g) (opv S l m b) (opv S l2 m2 b) = resC S.2.1 q b := by
  obtain ⟨h1, h2, h3, h4, h5⟩ := h
  unfold resC
  rw [h4, isO_val h3]
  rcases h5 with h5 | ⟨-, h5⟩
  · rw [h5, res_32, res_32]
  · rw [isO_val h5]
theorem isC_r {t l m g l2 m2 : Nat} {q : Chg} {S : jS} (h : isC t l m g l2 m2 q S) : okO S l2 ∨ (¬ S.1 g = 43 ∧ ¬ S.1 g = 45 ∧ ¬ S.1 g = 42) := by
  obtain ⟨h1, h2, h3, h4, h5⟩ := h
  rcases h5 with h5 | ⟨-, h5⟩
  · refine .inr ?_
    rw [h4, h5]
    decide
  · exact .inl (isO_ok h5)
/-- the changes that were read -/
def isCs (q : Chg) (z : Option Chg) (S : jS) : Prop := isC 18 20 21 19 22 23 q S ∧ (match z with | none => S.1 7 = 0 | some w => S.1 7 = 1 ∧ isC 24 26 27 25 28 29 w S)
theorem m_S_canChange (K : jK) (d : Nat) (hd : 4 ≤ d) (S : jS) (J : jH) (b : Int32) (q : Chg) (z : Option Chg) (h : isCs q z S) : jM K M_S_canChange d [.ref 42, .int b] (lay S ++ J) (rI (canV S.2.1 q z b) (lay S ++ J)) 0 0 := by
  refine jM.of (by decide) (Nat.le_of_ble_eq_true rfl) ?_
  obtain ⟨h1, h2⟩ := h
  refine j_aload_n d_S_canChange_0 rfl ?_
  refine j_getf d_S_canChange_1 f_S_40 rfl rfl ?_
  refine j_iload_n d_S_canChange_4 rfl ?_
  refine j_retI (j_callV d_S_canChange_5 v_C_fitsIn l_S_72 rfl rfl (m_C_fitsIn_50 K (d - 1) (by omega) S J b (isO_ok h1.2.2.1) (isC_r h1) q.1 h1.1 h1.2.1) (by omega) (by decide) (Nat.le_of_ble_eq_true rfl) rfl) rfl ?_
  rw [isC_res h1]
  refine j_if_eq (tgt := 33) d_S_canChange_8 rfl (fun h8 => ?_) (fun h8 => ?_)
  · refine j_iconst (v := 0) d_S_canChange_33 rfl ?_
    exact j_zret rfl rfl d_S_canChange_34 ⟨by rw [show canV S.2.1 q z b = 0 from if_pos h8], rfl⟩
  · refine j_aload_n d_S_canChange_11 rfl ?_
    refine j_getf d_S_canChange_12 f_S_76 rfl rfl ?_
    cases z with
    | none =>
      refine j_if_eqT (tgt := 29) d_S_canChange_15 rfl h2 ?_
      refine j_iconst (v := 1) d_S_canChange_29 rfl ?_
      refine j_goto (tgt := 34) d_S_canChange_30 rfl ?_
      exact j_zret rfl rfl d_S_canChange_34 ⟨by rw [show canV S.2.1 q none b = 1 from if_neg h8], rfl⟩
    | some w =>
      obtain ⟨h3, h4⟩ := h2
      refine j_if_eqF (tgt := 29) d_S_canChange_15 rfl (by rw [h3]; decide) ?_
      refine j_aload_n d_S_canChange_18 rfl ?_
      refine j_getf d_S_canChange_19 f_S_44 rfl rfl ?_
      refine j_iload_n d_S_canChange_22 rfl ?_
      refine j_retI (j_callV d_S_canChange_23 v_C_fitsIn l_S_72 rfl rfl (m_C_fitsIn_54 K (d - 1) (by omega) S J b (isO_ok h4.2.2.1) (isC_r h4) w.1 h4.1 h4.2.1) (by omega) (by decide) (Nat.le_of_ble_eq_true rfl) rfl) rfl ?_
      rw [isC_res h4]
      refine j_if_eq (tgt := 33) d_S_canChange_26 rfl (fun h9 => ?_) (fun h9 => ?_)
      · refine j_iconst (v := 0) d_S_canChange_33 rfl ?_
        exact j_zret rfl rfl d_S_canChange_34 ⟨by rw [show canV S.2.1 q (some w) b = 0 from (if_neg h8).trans (if_pos h9)], rfl⟩
      · refine j_iconst (v := 1) d_S_canChange_29 rfl ?_
        refine j_goto (tgt := 34) d_S_canChange_30 rfl ?_
        exact j_zret rfl rfl d_S_canChange_34 ⟨by rw [show canV S.2.1 q (some w) b = 1 from (if_neg h8).trans (if_neg h9)], rfl⟩
theorem m_S_changed (K : jK) (d : Nat) (hd : 4 ≤ d) (S : jS) (J : jH) (b : Int32) (q : Chg) (z : Option Chg) (h : isCs q z S) : jM K M_S_changed d [.ref 42, .int b] (lay S ++ J) (rI (chgV S.2.1 q z b) (lay S ++ J)) 0 0 := by
  refine jM.of (by decide) (Nat.le_of_ble_eq_true rfl) ?_
  obtain ⟨h1, h2⟩ := h
  refine j_aload_n d_S_changed_0 rfl ?_
  refine j_getf d_S_changed_1 f_S_40 rfl rfl ?_
  refine j_iload_n d_S_changed_4 rfl ?_
  refine j_iload_n d_S_changed_5 rfl ?_
  refine j_retI (j_callV d_S_changed_6 v_C_appliedTo l_S_80 rfl rfl (m_C_appliedTo_50 K (d - 1) (by omega) S J b b (isO_ok h1.2.2.1) (isC_r h1) q.1 h1.1 h1.2.1) (by omega) (by decide) (Nat.le_of_ble_eq_true rfl) rfl) rfl ?_
  rw [isC_res h1]
  refine j_istore_n d_S_changed_9 (by decide) ?_
  refine j_aload_n d_S_changed_10 rfl ?_
  refine j_getf d_S_changed_11 f_S_76 rfl rfl ?_
  cases z with
  | none =>
    refine j_if_eqT (tgt := 29) d_S_changed_14 rfl h2 ?_
    refine j_iload_n d_S_changed_29 rfl ?_
    exact j_iret rfl d_S_changed_30 ⟨rfl, rfl⟩
  | some w =>
    obtain ⟨h3, h4⟩ := h2
    refine j_if_eqF (tgt := 29) d_S_changed_14 rfl (by rw [h3]; decide) ?_
    refine j_aload_n d_S_changed_17 rfl ?_
    refine j_getf d_S_changed_18 f_S_44 rfl rfl ?_
    refine j_iload_n d_S_changed_21 rfl ?_
    refine j_iload_n d_S_changed_22 rfl ?_
    refine j_retI (j_callV d_S_changed_23 v_C_appliedTo l_S_80 rfl rfl (m_C_appliedTo_54 K (d - 1) (by omega) S J (putC S.2.1 q b b) b (isO_ok h4.2.2.1) (isC_r h4) w.1 h4.1 h4.2.1) (by omega) (by decide) (Nat.le_of_ble_eq_true rfl) rfl) rfl ?_
    rw [isC_res h4]
    refine j_goto (tgt := 30) d_S_changed_26 rfl ?_
    exact j_iret rfl d_S_changed_30 ⟨rfl, rfl⟩
theorem m_B_place (K : jK) (d : Nat) (hd : 1 ≤ d) (S : jS) (J : jH) : jM K M_B_place d [.ref 32] (lay S ++ J) (rI (S.1 10) (lay S ++ J)) 0 0 := by
  refine jM.of (by decide) (Nat.le_of_ble_eq_true rfl) ?_
  refine j_aload_n d_B_place_0 rfl ?_
  refine j_getf d_B_place_1 f_B_35 rfl rfl ?_
  refine j_retI (j_callV d_B_place_4 v_S_wrongAt l_B_162 rfl rfl (m_S_wrongAt K (d - 1) S J) (by omega) (by decide) (Nat.le_of_ble_eq_true rfl) rfl) rfl ?_
  exact j_iret rfl d_B_place_7 ⟨rfl, rfl⟩
def srchX (S : jS) (m p am : Int32) : Int32 := mkS (mtch (S.2.1 4) (if am = 0 then S.1 4 else S.1 5) m p) 32
theorem m_B_search (K : jK) (d : Nat) (hd : 8 ≤ d) (S : jS) (J : jH) (m p am : Int32) : jM K M_B_search d [.ref 32, .int m, .int p, .int am] (lay S ++ J) (rI (bcJ (srchX S m p am)) (lay (s1 S 5 (srchX S m p am)) ++ J)) 0 0 := by
  refine jM.of (by decide) (Nat.le_of_ble_eq_true rfl) ?_
  have fin : ∀ (x : Int32) ls, x = (if am = 0 then S.1 4 else S.1 5) → j_lg ls 0 = some (.ref 32) → j_lg ls 1 = some (.int m) → j_lg ls 2 = some (.int p) → j_lg ls 4 = some (.int x) → jE K M_B_search d 23 ls [] (lay S ++ J) (rI (bcJ (srchX S m p am)) (lay (s1 S 5 (srchX S m p am)) ++ J)) 0 0 := by
    intro x ls hx l0 l1 l2 l4
    refine j_aload_n d_B_search_23 l0 ?_
    refine j_getf d_B_search_24 f_B_19 rfl rfl ?_
    refine j_aload_n d_B_search_27 l0 ?_
    refine j_getf d_B_search_28 f_B_19 rfl rfl ?_
    refine j_iload d_B_search_31 l4 ?_
    refine j_iload_n d_B_search_33 l1 ?_
    refine j_iload_n d_B_search_34 l2 ?_
    refine j_retI (j_callV d_B_search_35 v_W_matching l_B_117 rfl rfl (m_W_matching K (d - 1) (by omega) S J x m p) (by omega) (by decide) (Nat.le_of_ble_eq_true rfl) rfl) rfl ?_
    subst hx
    refine j_retV (j_callV d_B_search_38 v_W_respondOnly l_B_120 rfl rfl (m_W_respondOnly K (d - 1) S J (srchX S m p am)) (by omega) (by decide) (Nat.le_of_ble_eq_true rfl) rfl) rfl ?_
    refine j_aload_n d_B_search_41 l0 ?_
    refine j_getf d_B_search_42 f_B_19 rfl rfl ?_
    refine j_retI (j_callV d_B_search_45 v_W_responding l_B_111 rfl rfl (m_W_responding K (d - 1) (s1 S 5 (srchX S m p am)) J) (by omega) (by decide) (Nat.le_of_ble_eq_true rfl) rfl) rfl ?_
    refine j_retI (j_callS d_B_search_48 s_JInteger_bitCount l_B_123 rfl (m_JInteger_bitCount K (d - 1) _ _) (by omega) (by decide) (Nat.le_of_ble_eq_true rfl) rfl) rfl ?_
    exact j_iret rfl d_B_search_51 ⟨rfl, rfl⟩
  refine j_iload_n d_B_search_0 rfl ?_
  refine j_if_eq (tgt := 14) d_B_search_1 rfl (fun h1 => ?_) (fun h1 => ?_)
  · refine j_aload_n d_B_search_14 rfl ?_
    refine j_getf d_B_search_15 f_B_19 rfl rfl ?_
    refine j_retI (j_callV d_B_search_18 v_W_inUse l_B_114 rfl rfl (m_W_inUse K (d - 1) S J) (by omega) (by decide) (Nat.le_of_ble_eq_true rfl) rfl) rfl ?_
    refine j_istore d_B_search_21 (by decide) ?_
    exact fin _ _ (if_pos h1).symm rfl rfl rfl rfl
  · refine j_aload_n d_B_search_4 rfl ?_
    refine j_getf d_B_search_5 f_B_19 rfl rfl ?_
    refine j_retI (j_callV d_B_search_8 v_W_responding l_B_111 rfl rfl (m_W_responding K (d - 1) S J) (by omega) (by decide) (Nat.le_of_ble_eq_true rfl) rfl) rfl ?_
    refine j_goto (tgt := 21) d_B_search_11 rfl ?_
    refine j_istore d_B_search_21 (by decide) ?_
    exact fin _ _ (if_neg h1).symm rfl rfl rfl rfl
