/-! BitLoomModel: resultOf, change, changeAll -/
/-- a change that the reader may have read -/
def cgOk (c : Nat) (q : Chg) : Prop := q.1 < c ∧ opOk c q.2.1 ∧ (q.2.2.1 = 32 ∨ ((q.2.2.1 = 43 ∨ q.2.2.1 = 45 ∨ q.2.2.1 = 42) ∧ opOk c q.2.2.2))
theorem pChg_ok {T N : Nat → Int32} {c : Nat} {r r1 : List Tok} {q : Chg} (h : pChg T N c r = .inl (q, r1)) (h6 : c ≤ 6) : cgOk c q := by
  unfold pChg at h
  split at h
  · cases h
  · rename_i h1
    split at h
    · cases h
    · split at h
      · cases h
      · rename_i h3
        split at h
        · cases h
        · rename_i h4
          split at h
          · cases h
            exact ⟨pFld_ltc h1 h6, pOpd_ok h3 h6, .inl rfl⟩
          · rename_i h32
            split at h
            · cases h
            · rename_i h5
              cases h
              exact ⟨pFld_ltc h1 h6, pOpd_ok h3 h6, .inr ⟨(pSgn_or h4).resolve_left h32, pOpd_ok h5 h6⟩⟩
theorem m_M_resultOf (K : jK) (d : Nat) (hd : 1 ≤ d) (S : jS) (J : jH) (w g : Nat) (hw : w < 32) (hg : g < 2) {lo wd : Nat → Nat} {c : Nat} (hfo : fOk S.2.1 lo wd c) (q : Chg) (hq : isMC g q S) (hk : cgOk c q) : jM K M_M_resultOf d [.ref 59, .int (nI w), .int (nI g)] (lay S ++ J) (rI (resC S.2.1 q (S.2.1 11 w)) (lay S ++ J)) 0 0 := by
  refine jM.of (by decide) (Nat.le_of_ble_eq_true rfl) ?_
  have h6 := hfo.1
  obtain ⟨q1, q2, q3, q4⟩ := hq
  obtain ⟨k1, k2, k3⟩ := hk
  -- behind the first operand
  have first : jE K M_M_resultOf d 29 [(0, .ref 59), (1, .int (nI w)), (2, .int (nI g))] [.int (ovl S.2.1 q.2.1 (S.2.1 11 w))] (lay S ++ J) (rI (resC S.2.1 q (S.2.1 11 w)) (lay S ++ J)) 0 0 := by
    refine j_istore_n d_M_resultOf_29 (by decide) ?_
    refine j_aload_n d_M_resultOf_30 rfl ?_
    refine j_getf d_M_resultOf_31 f_M_61 rfl rfl ?_
    refine j_iload_n d_M_resultOf_34 rfl ?_
    refine j_iald d_M_resultOf_35 rfl hg (by decide) ?_
    refine j_top (w := .int (hwc q.2.2.1)) (congrArg Value.int q3) ?_
    by_cases h32 : q.2.2.1 = 32
    · refine j_if_neF (tgt := 41) d_M_resultOf_36 rfl (by rw [h32]; rfl) ?_
      refine j_iload_n d_M_resultOf_39 rfl ?_
      exact j_iret rfl d_M_resultOf_40 ⟨by unfold resC; rw [h32]; rfl, rfl⟩
    · obtain ⟨k4, k5⟩ := k3.resolve_left h32
      have q4 := q4.resolve_left h32
      refine j_if_neT (tgt := 41) d_M_resultOf_36 rfl (by rcases k4 with z | z | z <;> rw [z] <;> decide) ?_
      have second : ∀ ls : List (Nat × Value), j_lg ls 0 = some (.ref 59) → j_lg ls 2 = some (.int (nI g)) → j_lg ls 3 = some (.int (ovl S.2.1 q.2.1 (S.2.1 11 w))) → jE K M_M_resultOf d 70 ls [.int (ovl S.2.1 q.2.2.2 (S.2.1 11 w))] (lay S ++ J) (rI (resC S.2.1 q (S.2.1 11 w)) (lay S ++ J)) 0 0 := by
        intro ls l0 l2 l3
        refine j_loc' [(0, .ref 59), (2, .int (nI g)), (3, .int (ovl S.2.1 q.2.1 (S.2.1 11 w)))] ⟨l0, l2, l3, trivial⟩ ?_
        refine j_istore d_M_resultOf_70 (by decide) ?_
        refine j_aload_n d_M_resultOf_72 rfl ?_
        refine j_getf d_M_resultOf_73 f_M_61 rfl rfl ?_
        refine j_iload_n d_M_resultOf_76 rfl ?_
        refine j_iald d_M_resultOf_77 rfl hg (by decide) ?_
        refine j_top (w := .int (hwc q.2.2.1)) (congrArg Value.int q3) ?_
        refine j_iconst (v := 1) d_M_resultOf_78 rfl ?_
        rcases k4 with z | z | z
        · refine j_icmp_neF (tgt := 89) d_M_resultOf_79 rfl (by rw [z]; rfl) ?_
          refine j_iload_n d_M_resultOf_82 rfl ?_
          refine j_iload d_M_resultOf_83 rfl ?_
          refine j_iadd d_M_resultOf_85 ?_
          refine j_goto (tgt := 110) d_M_resultOf_86 rfl ?_
          exact j_iret rfl d_M_resultOf_110 ⟨by unfold resC; rw [z]; rfl, rfl⟩
        · refine j_icmp_neT (tgt := 89) d_M_resultOf_79 rfl (by rw [z]; decide) ?_
          refine j_aload_n d_M_resultOf_89 rfl ?_
          refine j_getf d_M_resultOf_90 f_M_61 rfl rfl ?_
          refine j_iload_n d_M_resultOf_93 rfl ?_
          refine j_iald d_M_resultOf_94 rfl hg (by decide) ?_
          refine j_top (w := .int (hwc q.2.2.1)) (congrArg Value.int q3) ?_
          refine j_iconst (v := 2) d_M_resultOf_95 rfl ?_
          refine j_icmp_neF (tgt := 106) d_M_resultOf_96 rfl (by rw [z]; rfl) ?_
          refine j_iload_n d_M_resultOf_99 rfl ?_
          refine j_iload d_M_resultOf_100 rfl ?_
          refine j_isub d_M_resultOf_102 ?_
          refine j_goto (tgt := 110) d_M_resultOf_103 rfl ?_
          exact j_iret rfl d_M_resultOf_110 ⟨by unfold resC; rw [z]; rfl, rfl⟩
        · refine j_icmp_neT (tgt := 89) d_M_resultOf_79 rfl (by rw [z]; decide) ?_
          refine j_aload_n d_M_resultOf_89 rfl ?_
          refine j_getf d_M_resultOf_90 f_M_61 rfl rfl ?_
          refine j_iload_n d_M_resultOf_93 rfl ?_
          refine j_iald d_M_resultOf_94 rfl hg (by decide) ?_
          refine j_top (w := .int (hwc q.2.2.1)) (congrArg Value.int q3) ?_
          refine j_iconst (v := 2) d_M_resultOf_95 rfl ?_
          refine j_icmp_neT (tgt := 106) d_M_resultOf_96 rfl (by rw [z]; decide) ?_
          refine j_iload_n d_M_resultOf_106 rfl ?_
          refine j_iload d_M_resultOf_107 rfl ?_
          refine j_imul d_M_resultOf_109 ?_
          exact j_iret rfl d_M_resultOf_110 ⟨by unfold resC; rw [z]; rfl, rfl⟩
      refine j_aload_n d_M_resultOf_41 rfl ?_
      refine j_getf d_M_resultOf_42 f_M_64 rfl rfl ?_
      refine j_iload_n d_M_resultOf_45 rfl ?_
      refine j_iald d_M_resultOf_46 rfl hg (by decide) ?_
      cases hx : q.2.2.2 with
      | inl f =>
        rw [hx] at q4 k5 second
        have k5 : f < c := k5
        refine j_top (w := .int (nI f)) (congrArg Value.int q4) ?_
        refine j_if_geT (tgt := 59) d_M_resultOf_47 rfl (show nI 0 ≤ nI f from nI_le (by omega) (by omega)) ?_
        refine j_aload_n d_M_resultOf_59 rfl ?_
        refine j_iload_n d_M_resultOf_60 rfl ?_
        refine j_aload_n d_M_resultOf_61 rfl ?_
        refine j_getf d_M_resultOf_62 f_M_64 rfl rfl ?_
        refine j_iload_n d_M_resultOf_65 rfl ?_
        refine j_iald d_M_resultOf_66 rfl hg (by decide) ?_
        refine j_top (w := .int (nI f)) (congrArg Value.int q4) ?_
        refine j_retI (j_callV d_M_resultOf_67 v_M_valueOf l_M_95 rfl rfl (m_M_val K (d - 1) S J w f hw hfo k5) (by omega) (by decide) (Nat.le_of_ble_eq_true rfl) rfl) rfl ?_
        exact second _ rfl rfl rfl
      | inr v =>
        rw [hx] at q4 second
        obtain ⟨q5, q6⟩ := q4
        refine j_top (w := .int (-1)) (congrArg Value.int q5) ?_
        refine j_if_geF (tgt := 59) d_M_resultOf_47 rfl (by decide) ?_
        refine j_aload_n d_M_resultOf_50 rfl ?_
        refine j_getf d_M_resultOf_51 f_M_67 rfl rfl ?_
        refine j_iload_n d_M_resultOf_54 rfl ?_
        refine j_iald d_M_resultOf_55 rfl hg (by decide) ?_
        refine j_top (w := .int v) (congrArg Value.int q6) ?_
        refine j_goto (tgt := 70) d_M_resultOf_56 rfl ?_
        exact second _ rfl rfl rfl
  refine j_aload_n d_M_resultOf_0 rfl ?_
  refine j_getf d_M_resultOf_1 f_M_55 rfl rfl ?_
  refine j_iload_n d_M_resultOf_4 rfl ?_
  refine j_iald d_M_resultOf_5 rfl hg (by decide) ?_
  cases hx : q.2.1 with
  | inl f =>
    rw [hx] at q2 k2 first
    have k2 : f < c := k2
    refine j_top (w := .int (nI f)) (congrArg Value.int q2) ?_
    refine j_if_geT (tgt := 18) d_M_resultOf_6 rfl (show nI 0 ≤ nI f from nI_le (by omega) (by omega)) ?_
    refine j_aload_n d_M_resultOf_18 rfl ?_
    refine j_iload_n d_M_resultOf_19 rfl ?_
    refine j_aload_n d_M_resultOf_20 rfl ?_
    refine j_getf d_M_resultOf_21 f_M_55 rfl rfl ?_
    refine j_iload_n d_M_resultOf_24 rfl ?_
    refine j_iald d_M_resultOf_25 rfl hg (by decide) ?_
    refine j_top (w := .int (nI f)) (congrArg Value.int q2) ?_
    refine j_retI (j_callV d_M_resultOf_26 v_M_valueOf l_M_95 rfl rfl (m_M_val K (d - 1) S J w f hw hfo k2) (by omega) (by decide) (Nat.le_of_ble_eq_true rfl) rfl) rfl ?_
    exact first
  | inr v =>
    rw [hx] at q2 first
    obtain ⟨q5, q6⟩ := q2
    refine j_top (w := .int (-1)) (congrArg Value.int q5) ?_
    refine j_if_geF (tgt := 18) d_M_resultOf_6 rfl (by decide) ?_
    refine j_aload_n d_M_resultOf_9 rfl ?_
    refine j_getf d_M_resultOf_10 f_M_58 rfl rfl ?_
    refine j_iload_n d_M_resultOf_13 rfl ?_
    refine j_iald d_M_resultOf_14 rfl hg (by decide) ?_
    refine j_top (w := .int v) (congrArg Value.int q6) ?_
    refine j_goto (tgt := 29) d_M_resultOf_15 rfl ?_
    exact first
/-- the changes of the action 'set' -/
def isMs (q : Chg) (z : Option Chg) (S : jS) : Prop := isMC 0 q S ∧ (match z with | none => S.1 46 = 0 | some y => S.1 46 = 1 ∧ isMC 1 y S)
def cgsOk (c : Nat) (q : Chg) (z : Option Chg) : Prop := cgOk c q ∧ (match z with | none => True | some y => cgOk c y)
theorem m_M_fit2 (K : jK) (d : Nat) (S : jS) (J : jH) (f : Nat) (v : Int32) {lo wd : Nat → Nat} {c : Nat} (hfo : fOk S.2.1 lo wd c) (hf : f < c) : jM K M_M_fits d [.ref 59, .int (nI f), .int v] (lay S ++ J) (rI (vfit (S.2.1 2 f) (S.2.1 3 f) v) (lay S ++ J)) 0 0 := by
  obtain ⟨h6, e1, e2, e3, hh⟩ := hfo
  obtain ⟨g1, g2, g3, g4, g5⟩ := hh f hf
  have := m_M_fits K d S J f v (by omega)
  rw [e2, e3, g2, fit_eq _ _ g3 g4]
  rw [g2] at this
  exact this
theorem m_M_set2 (K : jK) (d : Nat) (S : jS) (J : jH) (i f : Nat) (v : Int32) (hi : i < 32) {lo wd : Nat → Nat} {c : Nat} (hfo : fOk S.2.1 lo wd c) (hf : f < c) : jM K M_M_setValue d [.ref 59, .int (nI i), .int (nI f), .int v] (lay S ++ J) (rV (lay (s2 S 11 (upd (S.2.1 11) i (vput (S.2.1 1 f) (S.2.1 2 f) (S.2.1 11 i) v))) ++ J)) 0 0 := by
  obtain ⟨h6, e1, e2, e3, hh⟩ := hfo
  obtain ⟨g1, g2, g3, g4, g5⟩ := hh f hf
  have := m_M_setValue K d S J i f v hi (by omega)
  rw [e1, e2, g1, put_eq _ _ _ (by omega)]
  rw [g1] at this
  exact this
theorem upd_upd (f : Nat → Int32) (i : Nat) (u v : Int32) : upd (upd f i u) i v = upd f i v := by
  funext j
  unfold upd
  split <;> rfl
def cgQ (S : jS) (J : jH) (w : Nat) (q : Chg) (z : Option Chg) : jO → jH → Prop := if canV S.2.1 q z (S.2.1 11 w) = 0 then rI 0 (lay S ++ J) else rI 1 (lay (s2 S 11 (upd (S.2.1 11) w (chgV S.2.1 q z (S.2.1 11 w)))) ++ J)
theorem m_M_change (K : jK) (d : Nat) (hd : 2 ≤ d) (S : jS) (J : jH) (w : Nat) (hw : w < 32) {lo wd : Nat → Nat} {c : Nat} (hfo : fOk S.2.1 lo wd c) (q : Chg) (z : Option Chg) (hq : isMs q z S) (hk : cgsOk c q z) : jM K M_M_change d [.ref 59, .int (nI w)] (lay S ++ J) (cgQ S J w q z) 0 0 := by
  refine jM.of (by decide) (Nat.le_of_ble_eq_true rfl) ?_
  have h6 := hfo.1
  obtain ⟨q0, qz⟩ := hq
  obtain ⟨k0, kz⟩ := hk
  have hro := m_M_resultOf K (d - 1) (by omega) S J w 0 hw (by omega) hfo q q0 k0
  refine j_aload_n d_M_change_0 rfl ?_
  refine j_iload_n d_M_change_1 rfl ?_
  refine j_iconst (v := 0) d_M_change_2 rfl ?_
  refine j_retI (j_callV d_M_change_3 v_M_resultOf l_M_251 rfl rfl hro (by omega) (by decide) (Nat.le_of_ble_eq_true rfl) rfl) rfl ?_
  cases z with
  | none =>
    have qz : S.1 46 = 0 := qz
    refine j_istore_n d_M_change_6 (by decide) ?_
    refine j_aload_n d_M_change_7 rfl ?_
    refine j_getf d_M_change_8 f_M_203 rfl rfl ?_
    refine j_iconst (v := 1) d_M_change_11 rfl ?_
    refine j_icmp_neT (tgt := 24) d_M_change_12 rfl (by rw [qz]; decide) ?_
    refine j_iconst (v := 0) d_M_change_24 rfl ?_
    refine j_istore_n d_M_change_25 (by decide) ?_
    refine j_aload_n d_M_change_26 rfl ?_
    refine j_aload_n d_M_change_27 rfl ?_
    refine j_getf d_M_change_28 f_M_52 rfl rfl ?_
    refine j_iconst (v := 0) d_M_change_31 rfl ?_
    refine j_iald (j := 0) d_M_change_32 rfl (by omega) (by decide) ?_
    refine j_top (w := .int (nI q.1)) (congrArg Value.int q0.1) ?_
    refine j_iload_n d_M_change_33 rfl ?_
    refine j_retI (j_callV d_M_change_34 v_M_fits l_M_87 rfl rfl (m_M_fit2 K (d - 1) S J q.1 _ hfo k0.1) (by omega) (by decide) (Nat.le_of_ble_eq_true rfl) rfl) rfl ?_
    by_cases hc : vfit (S.2.1 2 q.1) (S.2.1 3 q.1) (resC S.2.1 q (S.2.1 11 w)) = 0
    · refine j_if_eqT (tgt := 62) d_M_change_37 rfl hc ?_
      refine j_iconst (v := 0) d_M_change_62 rfl ?_
      rw [show cgQ S J w q none = rI 0 (lay S ++ J) from if_pos (if_pos hc)]
      exact j_zret rfl rfl d_M_change_63 ⟨rfl, rfl⟩
    · refine j_if_eqF (tgt := 62) d_M_change_37 rfl hc ?_
      refine j_aload_n d_M_change_40 rfl ?_
      refine j_getf d_M_change_41 f_M_203 rfl rfl ?_
      refine j_iconst (v := 1) d_M_change_44 rfl ?_
      refine j_icmp_neT (tgt := 64) d_M_change_45 rfl (by rw [qz]; decide) ?_
      refine j_aload_n d_M_change_64 rfl ?_
      refine j_iload_n d_M_change_65 rfl ?_
      refine j_aload_n d_M_change_66 rfl ?_
      refine j_getf d_M_change_67 f_M_52 rfl rfl ?_
      refine j_iconst (v := 0) d_M_change_70 rfl ?_
      refine j_iald (j := 0) d_M_change_71 rfl (by omega) (by decide) ?_
      refine j_top (w := .int (nI q.1)) (congrArg Value.int q0.1) ?_
      refine j_iload_n d_M_change_72 rfl ?_
      refine j_retV (j_callV d_M_change_73 v_M_setValue l_M_91 rfl rfl (m_M_set2 K (d - 1) S J w q.1 _ hw hfo k0.1) (by omega) (by decide) (Nat.le_of_ble_eq_true rfl) rfl) rfl ?_
      refine j_aload_n d_M_change_76 rfl ?_
      refine j_getf d_M_change_77 f_M_203 rfl rfl ?_
      refine j_iconst (v := 1) d_M_change_80 rfl ?_
      refine j_icmp_neT (tgt := 96) d_M_change_81 rfl (by show ¬ S.1 46 = 1; rw [qz]; decide) ?_
      refine j_iconst (v := 1) d_M_change_96 rfl ?_
      rw [show cgQ S J w q none = rI 1 (lay (s2 S 11 (upd (S.2.1 11) w (chgV S.2.1 q none (S.2.1 11 w)))) ++ J) from if_neg (by rw [show canV S.2.1 q none (S.2.1 11 w) = 1 from if_neg hc]; decide)]
      exact j_zret rfl rfl d_M_change_97 ⟨rfl, rfl⟩
  | some y =>
    obtain ⟨qz, q1⟩ := qz
    have kz : cgOk c y := kz
    refine j_istore_n d_M_change_6 (by decide) ?_
    refine j_aload_n d_M_change_7 rfl ?_
    refine j_getf d_M_change_8 f_M_203 rfl rfl ?_
    refine j_iconst (v := 1) d_M_change_11 rfl ?_
    refine j_icmp_neF (tgt := 24) d_M_change_12 rfl qz ?_
    refine j_aload_n d_M_change_15 rfl ?_
    refine j_iload_n d_M_change_16 rfl ?_
    refine j_iconst (v := 1) d_M_change_17 rfl ?_
    refine j_retI (j_callV d_M_change_18 v_M_resultOf l_M_251 rfl rfl (m_M_resultOf K (d - 1) (by omega) S J w 1 hw (by omega) hfo y q1 kz) (by omega) (by decide) (Nat.le_of_ble_eq_true rfl) rfl) rfl ?_
    refine j_goto (tgt := 25) d_M_change_21 rfl ?_
    refine j_istore_n d_M_change_25 (by decide) ?_
    refine j_aload_n d_M_change_26 rfl ?_
    refine j_aload_n d_M_change_27 rfl ?_
    refine j_getf d_M_change_28 f_M_52 rfl rfl ?_
    refine j_iconst (v := 0) d_M_change_31 rfl ?_
    refine j_iald (j := 0) d_M_change_32 rfl (by omega) (by decide) ?_
    refine j_top (w := .int (nI q.1)) (congrArg Value.int q0.1) ?_
    refine j_iload_n d_M_change_33 rfl ?_
    refine j_retI (j_callV d_M_change_34 v_M_fits l_M_87 rfl rfl (m_M_fit2 K (d - 1) S J q.1 _ hfo k0.1) (by omega) (by decide) (Nat.le_of_ble_eq_true rfl) rfl) rfl ?_
    by_cases hc : vfit (S.2.1 2 q.1) (S.2.1 3 q.1) (resC S.2.1 q (S.2.1 11 w)) = 0
    · refine j_if_eqT (tgt := 62) d_M_change_37 rfl hc ?_
      refine j_iconst (v := 0) d_M_change_62 rfl ?_
      rw [show cgQ S J w q (some y) = rI 0 (lay S ++ J) from if_pos (if_pos hc)]
      exact j_zret rfl rfl d_M_change_63 ⟨rfl, rfl⟩
    · refine j_if_eqF (tgt := 62) d_M_change_37 rfl hc ?_
      refine j_aload_n d_M_change_40 rfl ?_
      refine j_getf d_M_change_41 f_M_203 rfl rfl ?_
      refine j_iconst (v := 1) d_M_change_44 rfl ?_
      refine j_icmp_neF (tgt := 64) d_M_change_45 rfl qz ?_
      refine j_aload_n d_M_change_48 rfl ?_
      refine j_aload_n d_M_change_49 rfl ?_
      refine j_getf d_M_change_50 f_M_52 rfl rfl ?_
      refine j_iconst (v := 1) d_M_change_53 rfl ?_
      refine j_iald (j := 1) d_M_change_54 rfl (by omega) (by decide) ?_
      refine j_top (w := .int (nI y.1)) (congrArg Value.int q1.1) ?_
      refine j_iload_n d_M_change_55 rfl ?_
      refine j_retI (j_callV d_M_change_56 v_M_fits l_M_87 rfl rfl (m_M_fit2 K (d - 1) S J y.1 _ hfo kz.1) (by omega) (by decide) (Nat.le_of_ble_eq_true rfl) rfl) rfl ?_
      by_cases hc2 : vfit (S.2.1 2 y.1) (S.2.1 3 y.1) (resC S.2.1 y (S.2.1 11 w)) = 0
      · refine j_if_neF (tgt := 64) d_M_change_59 rfl hc2 ?_
        refine j_iconst (v := 0) d_M_change_62 rfl ?_
        rw [show cgQ S J w q (some y) = rI 0 (lay S ++ J) from if_pos ((if_neg hc).trans (if_pos hc2))]
        exact j_zret rfl rfl d_M_change_63 ⟨rfl, rfl⟩
      · refine j_if_neT (tgt := 64) d_M_change_59 rfl hc2 ?_
        refine j_aload_n d_M_change_64 rfl ?_
        refine j_iload_n d_M_change_65 rfl ?_
        refine j_aload_n d_M_change_66 rfl ?_
        refine j_getf d_M_change_67 f_M_52 rfl rfl ?_
        refine j_iconst (v := 0) d_M_change_70 rfl ?_
        refine j_iald (j := 0) d_M_change_71 rfl (by omega) (by decide) ?_
        refine j_top (w := .int (nI q.1)) (congrArg Value.int q0.1) ?_
        refine j_iload_n d_M_change_72 rfl ?_
        refine j_retV (j_callV d_M_change_73 v_M_setValue l_M_91 rfl rfl (m_M_set2 K (d - 1) S J w q.1 _ hw hfo k0.1) (by omega) (by decide) (Nat.le_of_ble_eq_true rfl) rfl) rfl ?_
        refine j_aload_n d_M_change_76 rfl ?_
        refine j_getf d_M_change_77 f_M_203 rfl rfl ?_
        refine j_iconst (v := 1) d_M_change_80 rfl ?_
        refine j_icmp_neF (tgt := 96) d_M_change_81 rfl qz ?_
        refine j_aload_n d_M_change_84 rfl ?_
        refine j_iload_n d_M_change_85 rfl ?_
        refine j_aload_n d_M_change_86 rfl ?_
        refine j_getf d_M_change_87 f_M_52 rfl rfl ?_
        refine j_iconst (v := 1) d_M_change_90 rfl ?_
        refine j_iald (j := 1) d_M_change_91 rfl (by omega) (by decide) ?_
        refine j_top (w := .int (nI y.1)) (congrArg Value.int q1.1) ?_
        refine j_iload_n d_M_change_92 rfl ?_
        refine j_retV (j_callV d_M_change_93 v_M_setValue l_M_91 rfl rfl (m_M_set2 K (d - 1) (s2 S 11 (upd (S.2.1 11) w (vput (S.2.1 1 q.1) (S.2.1 2 q.1) (S.2.1 11 w) (resC S.2.1 q (S.2.1 11 w))))) J w y.1 _ hw hfo kz.1) (by omega) (by decide) (Nat.le_of_ble_eq_true rfl) rfl) rfl ?_
        refine j_iconst (v := 1) d_M_change_96 rfl ?_
        rw [show cgQ S J w q (some y) = rI 1 (lay (s2 S 11 (upd (S.2.1 11) w (chgV S.2.1 q (some y) (S.2.1 11 w)))) ++ J) from if_neg (by rw [show canV S.2.1 q (some y) (S.2.1 11 w) = 1 from (if_neg hc).trans (if_neg hc2)]; decide)]
        refine j_zret rfl rfl d_M_change_97 ⟨rfl, ?_⟩
        have e : upd (upd (S.2.1 11) w (vput (S.2.1 1 q.1) (S.2.1 2 q.1) (S.2.1 11 w) (resC S.2.1 q (S.2.1 11 w)))) w (vput (S.2.1 1 y.1) (S.2.1 2 y.1) (upd (S.2.1 11) w (vput (S.2.1 1 q.1) (S.2.1 2 q.1) (S.2.1 11 w) (resC S.2.1 q (S.2.1 11 w))) w) (resC S.2.1 y (S.2.1 11 w))) = upd (S.2.1 11) w (chgV S.2.1 q (some y) (S.2.1 11 w)) := by
          rw [upd_upd]
          congr 1
          rw [show upd (S.2.1 11) w (vput (S.2.1 1 q.1) (S.2.1 2 q.1) (S.2.1 11 w) (resC S.2.1 q (S.2.1 11 w))) w = vput (S.2.1 1 q.1) (S.2.1 2 q.1) (S.2.1 11 w) (resC S.2.1 q (S.2.1 11 w)) from if_pos rfl]
          rfl
        rw [← e]
        rfl
def rsp (f : Nat → Int32) (x : Int32) : Prop := ∀ w, w < 32 → f w = b2i (bt x w)
theorem m_M_changeAll (K : jK) (d : Nat) (hd : 3 ≤ d) (S : jS) (J : jH) (x : Int32) (hx : rsp (S.2.1 12) x) {lo wd : Nat → Nat} {c : Nat} (hfo : fOk S.2.1 lo wd c) (q : Chg) (z : Option Chg) (hq : isMs q z S) (hk : cgsOk c q z) : jM K M_M_changeAll d [.ref 59] (lay S ++ J) (rI (nI (chL (canV S.2.1 q z) (chgV S.2.1 q z) x 32 0 (S.2.1 11) (S.1 34) 0).2.2) (lay (s1 (s2 S 11 (chL (canV S.2.1 q z) (chgV S.2.1 q z) x 32 0 (S.2.1 11) (S.1 34) 0).1) 34 (chL (canV S.2.1 q z) (chgV S.2.1 q z) x 32 0 (S.2.1 11) (S.1 34) 0).2.1) ++ J)) 0 0 := by
  refine jM.of (by decide) (Nat.le_of_ble_eq_true rfl) ?_
  have loop : ∀ k i (g : Nat → Int32) (r : Int32) (n : Nat) (ls : List (Nat × Value)), i + k = 32 → j_lg ls 0 = some (.ref 59) → j_lg ls 1 = some (.int (nI n)) → j_lg ls 2 = some (.int (nI i)) → jE K M_M_changeAll d 4 ls [] (lay (s1 (s2 S 11 g) 34 r) ++ J) (rI (nI (chL (canV S.2.1 q z) (chgV S.2.1 q z) x k i g r n).2.2) (lay (s1 (s2 S 11 (chL (canV S.2.1 q z) (chgV S.2.1 q z) x k i g r n).1) 34 (chL (canV S.2.1 q z) (chgV S.2.1 q z) x k i g r n).2.1) ++ J)) 0 0 := by
    intro k
    induction k with
    | zero =>
      intro i g r n ls hi l0 l1 l2
      refine j_loc' [(0, .ref 59), (1, .int (nI n)), (2, .int (nI i))] ⟨l0, l1, l2, trivial⟩ ?_
      refine j_iload_n d_M_changeAll_4 rfl ?_
      refine j_bipush (v := 32) d_M_changeAll_5 (by decide) ?_
      refine j_icmp_geT (tgt := 78) d_M_changeAll_7 rfl (show nI 32 ≤ nI i from nI_le (by omega) (by omega)) ?_
      refine j_iload_n d_M_changeAll_78 rfl ?_
      exact j_iret rfl d_M_changeAll_79 ⟨rfl, rfl⟩
    | succ k ih =>
      intro i g r n ls hi l0 l1 l2
      refine j_loc' [(0, .ref 59), (1, .int (nI n)), (2, .int (nI i))] ⟨l0, l1, l2, trivial⟩ ?_
      have hxi : S.2.1 12 i = b2i (bt x i) := hx i (by omega)
      have hq' : isMs q z (s1 (s2 S 11 g) 34 r) := hq
      have hfo' : fOk (s1 (s2 S 11 g) 34 r).2.1 lo wd c := hfo
      refine j_iload_n d_M_changeAll_4 rfl ?_
      refine j_bipush (v := 32) d_M_changeAll_5 (by decide) ?_
      refine j_icmp_geF (tgt := 78) d_M_changeAll_7 rfl (show ¬ nI 32 ≤ nI i from nI_ge (by omega) (by omega)) ?_
      refine j_aload_n d_M_changeAll_10 rfl ?_
      refine j_getf d_M_changeAll_11 f_M_17 rfl rfl ?_
      refine j_iload_n d_M_changeAll_14 rfl ?_
      refine j_zald d_M_changeAll_15 rfl (show i < 32 by omega) (by decide) ?_
      by_cases hb : bt x i = true
      · rw [hb] at hxi
        rw [chL, if_pos hb]
        refine j_top (w := .int 1) (congrArg Value.int hxi) ?_
        refine j_if_eqF (tgt := 31) d_M_changeAll_16 rfl (by decide) ?_
        refine j_aload_n d_M_changeAll_19 rfl ?_
        refine j_iload_n d_M_changeAll_20 rfl ?_
        have hch := m_M_change K (d - 1) (by omega) (s1 (s2 S 11 g) 34 r) J i (by omega) hfo' q z hq' hk
        by_cases hc : canV S.2.1 q z (g i) = 0
        · rw [if_pos hc]
          rw [show cgQ (s1 (s2 S 11 g) 34 r) J i q z = rI 0 (lay (s1 (s2 S 11 g) 34 r) ++ J) from if_pos hc] at hch
          refine j_retI (j_callV d_M_changeAll_21 v_M_change l_M_254 rfl rfl hch (by omega) (by decide) (Nat.le_of_ble_eq_true rfl) rfl) rfl ?_
          refine j_if_eqT (tgt := 31) d_M_changeAll_24 rfl rfl ?_
          refine j_iconst (v := 0) d_M_changeAll_31 rfl ?_
          refine j_istore_n d_M_changeAll_32 (by decide) ?_
          refine j_iload_n d_M_changeAll_33 rfl ?_
          refine j_iload_n d_M_changeAll_34 rfl ?_
          refine j_if_eqT (tgt := 42) d_M_changeAll_35 rfl rfl ?_
          refine j_iconst (v := 0) d_M_changeAll_42 rfl ?_
          refine j_iadd d_M_changeAll_43 ?_
          refine j_istore_n d_M_changeAll_44 (by decide) ?_
          refine j_aload_n d_M_changeAll_45 rfl ?_
          refine j_dup d_M_changeAll_46 rfl ?_
          refine j_getf d_M_changeAll_47 f_M_257 rfl rfl ?_
          refine j_aload_n d_M_changeAll_50 rfl ?_
          refine j_getf d_M_changeAll_51 f_M_17 rfl rfl ?_
          refine j_iload_n d_M_changeAll_54 rfl ?_
          refine j_zald d_M_changeAll_55 rfl (show i < 32 by omega) (by decide) ?_
          refine j_top (w := .int 1) (congrArg Value.int hxi) ?_
          refine j_if_eqF (tgt := 67) d_M_changeAll_56 rfl (by decide) ?_
          refine j_iload_n d_M_changeAll_59 rfl ?_
          refine j_if_neF (tgt := 67) d_M_changeAll_60 rfl rfl ?_
          refine j_iconst (v := 1) d_M_changeAll_63 rfl ?_
          refine j_goto (tgt := 68) d_M_changeAll_64 rfl ?_
          refine j_iadd d_M_changeAll_68 ?_
          refine j_putf d_M_changeAll_69 f_M_257 rfl (Nat.le_of_ble_eq_true rfl) rfl rfl rfl ?_
          refine j_hp (h' := lay (s1 (s2 S 11 g) 34 (r + 1)) ++ J) rfl ?_
          refine j_iincN d_M_changeAll_72 rfl (by decide) ?_
          refine j_goto (tgt := 4) d_M_changeAll_75 rfl ?_
          exact ih (i + 1) g (r + 1) n _ (by omega) rfl (by show some (Value.int (nI n + 0)) = _; rw [Int32.add_zero]) rfl
        · rw [if_neg hc]
          rw [show cgQ (s1 (s2 S 11 g) 34 r) J i q z = rI 1 (lay (s2 (s1 (s2 S 11 g) 34 r) 11 (upd g i (chgV S.2.1 q z (g i)))) ++ J) from if_neg hc] at hch
          refine j_retI (j_callV d_M_changeAll_21 v_M_change l_M_254 rfl rfl hch (by omega) (by decide) (Nat.le_of_ble_eq_true rfl) rfl) rfl ?_
          refine j_if_eqF (tgt := 31) d_M_changeAll_24 rfl (by decide) ?_
          refine j_iconst (v := 1) d_M_changeAll_27 rfl ?_
          refine j_goto (tgt := 32) d_M_changeAll_28 rfl ?_
          refine j_istore_n d_M_changeAll_32 (by decide) ?_
          refine j_iload_n d_M_changeAll_33 rfl ?_
          refine j_iload_n d_M_changeAll_34 rfl ?_
          refine j_if_eqF (tgt := 42) d_M_changeAll_35 rfl (by decide) ?_
          refine j_iconst (v := 1) d_M_changeAll_38 rfl ?_
          refine j_goto (tgt := 43) d_M_changeAll_39 rfl ?_
          refine j_iadd d_M_changeAll_43 ?_
          refine j_istore_n d_M_changeAll_44 (by decide) ?_
          refine j_aload_n d_M_changeAll_45 rfl ?_
          refine j_dup d_M_changeAll_46 rfl ?_
          refine j_getf d_M_changeAll_47 f_M_257 rfl rfl ?_
          refine j_aload_n d_M_changeAll_50 rfl ?_
          refine j_getf d_M_changeAll_51 f_M_17 rfl rfl ?_
          refine j_iload_n d_M_changeAll_54 rfl ?_
          refine j_zald d_M_changeAll_55 rfl (show i < 32 by omega) (by decide) ?_
          refine j_top (w := .int 1) (congrArg Value.int hxi) ?_
          refine j_if_eqF (tgt := 67) d_M_changeAll_56 rfl (by decide) ?_
          refine j_iload_n d_M_changeAll_59 rfl ?_
          refine j_if_neT (tgt := 67) d_M_changeAll_60 rfl (by decide) ?_
          refine j_iconst (v := 0) d_M_changeAll_67 rfl ?_
          refine j_iadd d_M_changeAll_68 ?_
          refine j_top (w := .int r) (by show Value.int (r + 0) = _; rw [Int32.add_zero]) ?_
          refine j_putf d_M_changeAll_69 f_M_257 rfl (Nat.le_of_ble_eq_true rfl) rfl rfl rfl ?_
          refine j_hp (h' := lay (s1 (s2 S 11 (upd g i (chgV S.2.1 q z (g i)))) 34 r) ++ J) rfl ?_
          refine j_iincN d_M_changeAll_72 rfl (by decide) ?_
          refine j_goto (tgt := 4) d_M_changeAll_75 rfl ?_
          exact ih (i + 1) (upd g i (chgV S.2.1 q z (g i))) r (n + 1) _ (by omega) rfl (by show some (Value.int (nI n + 1)) = _; rw [nI_succ]) rfl
      · rw [Bool.eq_false_iff.mpr hb] at hxi
        rw [chL, if_neg hb]
        refine j_top (w := .int 0) (congrArg Value.int hxi) ?_
        refine j_if_eqT (tgt := 31) d_M_changeAll_16 rfl rfl ?_
        refine j_iconst (v := 0) d_M_changeAll_31 rfl ?_
        refine j_istore_n d_M_changeAll_32 (by decide) ?_
        refine j_iload_n d_M_changeAll_33 rfl ?_
        refine j_iload_n d_M_changeAll_34 rfl ?_
        refine j_if_eqT (tgt := 42) d_M_changeAll_35 rfl rfl ?_
        refine j_iconst (v := 0) d_M_changeAll_42 rfl ?_
        refine j_iadd d_M_changeAll_43 ?_
        refine j_istore_n d_M_changeAll_44 (by decide) ?_
        refine j_aload_n d_M_changeAll_45 rfl ?_
        refine j_dup d_M_changeAll_46 rfl ?_
        refine j_getf d_M_changeAll_47 f_M_257 rfl rfl ?_
        refine j_aload_n d_M_changeAll_50 rfl ?_
        refine j_getf d_M_changeAll_51 f_M_17 rfl rfl ?_
        refine j_iload_n d_M_changeAll_54 rfl ?_
        refine j_zald d_M_changeAll_55 rfl (show i < 32 by omega) (by decide) ?_
        refine j_top (w := .int 0) (congrArg Value.int hxi) ?_
        refine j_if_eqT (tgt := 67) d_M_changeAll_56 rfl rfl ?_
        refine j_iconst (v := 0) d_M_changeAll_67 rfl ?_
        refine j_iadd d_M_changeAll_68 ?_
        refine j_top (w := .int r) (by show Value.int (r + 0) = _; rw [Int32.add_zero]) ?_
        refine j_putf d_M_changeAll_69 f_M_257 rfl (Nat.le_of_ble_eq_true rfl) rfl rfl rfl ?_
        refine j_hp (h' := lay (s1 (s2 S 11 g) 34 r) ++ J) rfl ?_
        refine j_iincN d_M_changeAll_72 rfl (by decide) ?_
        refine j_goto (tgt := 4) d_M_changeAll_75 rfl ?_
        exact ih (i + 1) g r n _ (by omega) rfl (by show some (Value.int (nI n + 0)) = _; rw [Int32.add_zero]) rfl
  refine j_iconst (v := 0) d_M_changeAll_0 rfl ?_
  refine j_istore_n d_M_changeAll_1 (by decide) ?_
  refine j_iconst (v := 0) d_M_changeAll_2 rfl ?_
  refine j_istore_n d_M_changeAll_3 (by decide) ?_
  refine j_hp (h' := lay (s1 (s2 S 11 (S.2.1 11)) 34 (S.1 34)) ++ J) rfl ?_
  exact loop 32 0 (S.2.1 11) (S.1 34) 0 _ rfl rfl rfl rfl
