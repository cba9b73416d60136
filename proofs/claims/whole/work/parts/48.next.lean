/-! BitLoomModel: afterFirst, next -/
def isInt (Q : jO → jH → Prop) : Prop := ∀ o h, Q o h → ∃ v : Int32, o = .inl (some (.int v))
theorem isInt_rI (v : Int32) (g : jH) : isInt (rI v g) := fun o h q => ⟨v, q.1⟩
theorem isInt_st (S : jS) (J : jH) (v : Int32) (R : jS → Prop) : isInt (stQ S J v R) := fun o h q => ⟨v, q.1⟩
theorem isInt_if {p : Prop} [Decidable p] {A B : jO → jH → Prop} (ha : isInt A) (hb : isInt B) : isInt (if p then A else B) := by
  split
  · exact ha
  · exact hb
theorem isInt_ac (S : jS) (J : jH) (k : Int32) (g : Nat) : isInt (acQ S J k g) := isInt_if (isInt_rI _ _) (isInt_if (isInt_rI _ _) (isInt_rI _ _))
def hwc (k : Int32) : Int32 := if k = 43 then 1 else if k = 45 then 2 else if k = 42 then 3 else 0
def fiQ (S : jS) (J : jH) (k : Int32) (g : Nat) : jO → jH → Prop := if k = 43 ∨ k = 45 ∨ k = 42 then rI 12 (lay (s2 S 25 (upd (S.2.1 25) g (hwc k))) ++ J) else acQ (s2 S 25 (upd (S.2.1 25) g 0)) J k g
theorem isInt_fi (S : jS) (J : jH) (k : Int32) (g : Nat) : isInt (fiQ S J k g) := isInt_if (isInt_rI _ _) (isInt_ac _ _ _ _)
theorem m_M_afterFirst (K : jK) (d : Nat) (hd : 4 ≤ d) (S : jS) (J : jH) (n : Nat) (k : Int32) (b e : Nat) (hT : Tk S n k b e) (c : Nat) (hc : S.1 31 = nI c) (h6c : c ≤ 6) (g : Nat) (hg : g < 2) (hS : S.1 46 = nI g) : jM K M_M_afterFirst d [.ref 59] (lay S ++ J) (fiQ S J k g) 0 0 := by
  refine jM.of (by decide) (Nat.le_of_ble_eq_true rfl) ?_
  have yes : ∀ v : Int32, 0 < v → v = hwc k → (k = 43 ∨ k = 45 ∨ k = 42) → jE K M_M_afterFirst d 48 [(0, .ref 59)] [.int v, .int (nI g), .ref 75] (lay S ++ J) (fiQ S J k g) 0 0 := by
    intro v hv hh hor
    unfold fiQ
    rw [if_pos hor, ← hh]
    refine j_iast d_M_afterFirst_48 rfl hg (by decide) rfl ?_
    refine j_hp (h' := lay (s2 S 25 (upd (S.2.1 25) g v)) ++ J) rfl ?_
    refine j_aload_n d_M_afterFirst_49 rfl ?_
    refine j_getf d_M_afterFirst_50 f_M_61 rfl rfl ?_
    refine j_aload_n d_M_afterFirst_53 rfl ?_
    refine j_getf d_M_afterFirst_54 f_M_203 rfl rfl ?_
    refine j_top (w := .int (nI g)) (congrArg Value.int hS) ?_
    refine j_iald d_M_afterFirst_57 rfl hg (by decide) ?_
    refine j_top (w := .int v) (congrArg Value.int (if_pos rfl)) ?_
    refine j_if_leF (tgt := 66) d_M_afterFirst_58 rfl (Int32.not_le.mpr hv) ?_
    refine j_bipush (v := 12) d_M_afterFirst_61 (by decide) ?_
    refine j_goto (tgt := 70) d_M_afterFirst_63 rfl ?_
    exact j_iret rfl d_M_afterFirst_70 ⟨rfl, rfl⟩
  refine j_aload_n d_M_afterFirst_0 rfl ?_
  refine j_getf d_M_afterFirst_1 f_M_61 rfl rfl ?_
  refine j_aload_n d_M_afterFirst_4 rfl ?_
  refine j_getf d_M_afterFirst_5 f_M_203 rfl rfl ?_
  refine j_top (w := .int (nI g)) (congrArg Value.int hS) ?_
  refine j_aload_n d_M_afterFirst_8 rfl ?_
  refine j_bipush (v := 43) d_M_afterFirst_9 (by decide) ?_
  refine j_retI (j_callV d_M_afterFirst_11 v_M_isIt l_M_175 rfl rfl (m_M_isIt K (d - 1) S J n k b e hT 43 (by decide)) (by omega) (by decide) (Nat.le_of_ble_eq_true rfl) rfl) rfl ?_
  by_cases h1 : k = 43
  · rw [b2i_dT h1]
    refine j_if_eqF (tgt := 21) d_M_afterFirst_14 rfl (by decide) ?_
    refine j_iconst (v := 1) d_M_afterFirst_17 rfl ?_
    refine j_goto (tgt := 48) d_M_afterFirst_18 rfl ?_
    exact yes 1 (by decide) (by rw [h1]; rfl) (.inl h1)
  · rw [b2i_dF h1]
    refine j_if_eqT (tgt := 21) d_M_afterFirst_14 rfl rfl ?_
    refine j_aload_n d_M_afterFirst_21 rfl ?_
    refine j_bipush (v := 45) d_M_afterFirst_22 (by decide) ?_
    refine j_retI (j_callV d_M_afterFirst_24 v_M_isIt l_M_175 rfl rfl (m_M_isIt K (d - 1) S J n k b e hT 45 (by decide)) (by omega) (by decide) (Nat.le_of_ble_eq_true rfl) rfl) rfl ?_
    by_cases h2 : k = 45
    · rw [b2i_dT h2]
      refine j_if_eqF (tgt := 34) d_M_afterFirst_27 rfl (by decide) ?_
      refine j_iconst (v := 2) d_M_afterFirst_30 rfl ?_
      refine j_goto (tgt := 48) d_M_afterFirst_31 rfl ?_
      exact yes 2 (by decide) (by rw [h2]; rfl) (.inr (.inl h2))
    · rw [b2i_dF h2]
      refine j_if_eqT (tgt := 34) d_M_afterFirst_27 rfl rfl ?_
      refine j_aload_n d_M_afterFirst_34 rfl ?_
      refine j_bipush (v := 42) d_M_afterFirst_35 (by decide) ?_
      refine j_retI (j_callV d_M_afterFirst_37 v_M_isIt l_M_175 rfl rfl (m_M_isIt K (d - 1) S J n k b e hT 42 (by decide)) (by omega) (by decide) (Nat.le_of_ble_eq_true rfl) rfl) rfl ?_
      by_cases h3 : k = 42
      · rw [b2i_dT h3]
        refine j_if_eqF (tgt := 47) d_M_afterFirst_40 rfl (by decide) ?_
        refine j_iconst (v := 3) d_M_afterFirst_43 rfl ?_
        refine j_goto (tgt := 48) d_M_afterFirst_44 rfl ?_
        exact yes 3 (by decide) (by rw [h3]; rfl) (.inr (.inr h3))
      · rw [b2i_dF h3]
        refine j_if_eqT (tgt := 47) d_M_afterFirst_40 rfl rfl ?_
        refine j_iconst (v := 0) d_M_afterFirst_47 rfl ?_
        unfold fiQ
        rw [if_neg (by rintro (q | q | q); exact h1 q; exact h2 q; exact h3 q)]
        refine j_iast d_M_afterFirst_48 rfl hg (by decide) rfl ?_
        refine j_hp (h' := lay (s2 S 25 (upd (S.2.1 25) g 0)) ++ J) rfl ?_
        refine j_aload_n d_M_afterFirst_49 rfl ?_
        refine j_getf d_M_afterFirst_50 f_M_61 rfl rfl ?_
        refine j_aload_n d_M_afterFirst_53 rfl ?_
        refine j_getf d_M_afterFirst_54 f_M_203 rfl rfl ?_
        refine j_top (w := .int (nI g)) (congrArg Value.int hS) ?_
        refine j_iald d_M_afterFirst_57 rfl hg (by decide) ?_
        refine j_top (w := .int 0) (congrArg Value.int (if_pos rfl)) ?_
        refine j_if_leT (tgt := 66) d_M_afterFirst_58 rfl (by decide) ?_
        refine j_aload_n d_M_afterFirst_66 rfl ?_
        have f1 : frM [] [25] S (s2 S 25 (upd (S.2.1 25) g 0)) := (frM.rf _ _ S).s2 (by decide) _
        refine j_ret0 (j_callV d_M_afterFirst_67 v_M_afterChange l_M_209 rfl rfl (m_M_afterChange K (d - 1) (by omega) (s2 S 25 (upd (S.2.1 25) g 0)) J n k b e (hT.keep f1 (by decide)) c hc h6c g hg hS) (by omega) (by decide) (Nat.le_of_ble_eq_true rfl) rfl) rfl (fun v h' hq => ?_) (fun k' h' hq => hq)
        obtain ⟨u, hu⟩ := isInt_ac _ _ _ _ _ _ hq
        cases hu
        exact j_iret rfl d_M_afterFirst_70 hq
theorem m_M_next_0 (K : jK) (d : Nat) (hd : 1 ≤ d) (S : jS) (J : jH) (Q : jO → jH → Prop) (hQ : isInt Q) (hO : jM K M_M_start (d - 1) [.ref 59] (lay S ++ J) Q 0 0) : jM K M_M_next d [.ref 59, .int 0] (lay S ++ J) Q 0 0 := by
  refine jM.of (by decide) (Nat.le_of_ble_eq_true rfl) ?_
  refine j_iload_n d_M_next_0 rfl ?_
  refine j_if_eqT (tgt := 9) d_M_next_1 rfl rfl ?_
  refine j_iload_n d_M_next_9 rfl ?_
  refine j_if_neF (tgt := 20) d_M_next_10 rfl rfl ?_
  refine j_aload_n d_M_next_13 rfl ?_
  refine j_ret0 (j_callV d_M_next_14 v_M_start l_M_212 rfl rfl hO (by omega) (by decide) (Nat.le_of_ble_eq_true rfl) rfl) rfl (fun v h' hq => ?_) (fun k' h' hq => hq)
  obtain ⟨u, hu⟩ := hQ _ _ hq
  cases hu
  refine j_goto (tgt := 24) d_M_next_17 rfl ?_
  exact j_iret rfl d_M_next_24 hq
theorem m_M_next_1 (K : jK) (d : Nat) (hd : 1 ≤ d) (S : jS) (J : jH) (Q : jO → jH → Prop) (hQ : isInt Q) (hO : jM K M_M_one (d - 1) [.ref 59] (lay S ++ J) Q 0 0) : jM K M_M_next d [.ref 59, .int 1] (lay S ++ J) Q 0 0 := by
  refine jM.of (by decide) (Nat.le_of_ble_eq_true rfl) ?_
  refine j_iload_n d_M_next_0 rfl ?_
  refine j_if_eqF (tgt := 9) d_M_next_1 rfl (by decide) ?_
  refine j_iload_n d_M_next_4 rfl ?_
  refine j_iconst (v := 1) d_M_next_5 rfl ?_
  refine j_icmp_neF (tgt := 25) d_M_next_6 rfl rfl ?_
  refine j_iload_n d_M_next_9 rfl ?_
  refine j_if_neT (tgt := 20) d_M_next_10 rfl (by decide) ?_
  refine j_aload_n d_M_next_20 rfl ?_
  refine j_ret0 (j_callV d_M_next_21 v_M_one l_M_215 rfl rfl hO (by omega) (by decide) (Nat.le_of_ble_eq_true rfl) rfl) rfl (fun v h' hq => ?_) (fun k' h' hq => hq)
  obtain ⟨u, hu⟩ := hQ _ _ hq
  cases hu
  exact j_iret rfl d_M_next_24 hq
theorem m_M_next_2 (K : jK) (d : Nat) (hd : 1 ≤ d) (S : jS) (J : jH) (Q : jO → jH → Prop) (hQ : isInt Q) (hO : jM K M_M_negative (d - 1) [.ref 59, .int 3] (lay S ++ J) Q 0 0) : jM K M_M_next d [.ref 59, .int 2] (lay S ++ J) Q 0 0 := by
  refine jM.of (by decide) (Nat.le_of_ble_eq_true rfl) ?_
  refine j_iload_n d_M_next_0 rfl ?_
  refine j_if_eqF (tgt := 9) d_M_next_1 rfl (by decide) ?_
  refine j_iload_n d_M_next_4 rfl ?_
  refine j_iconst (v := 1) d_M_next_5 rfl ?_
  refine j_icmp_neT (tgt := 25) d_M_next_6 rfl (by decide) ?_
  refine j_iload_n d_M_next_25 rfl ?_
  refine j_iconst (v := 2) d_M_next_26 rfl ?_
  refine j_icmp_eqT (tgt := 35) d_M_next_27 rfl rfl ?_
  refine j_aload_n d_M_next_35 rfl ?_
  refine j_iload_n d_M_next_36 rfl ?_
  refine j_iconst (v := 2) d_M_next_37 rfl ?_
  refine j_icmp_neF (tgt := 45) d_M_next_38 rfl rfl ?_
  refine j_iconst (v := 3) d_M_next_41 rfl ?_
  refine j_goto (tgt := 47) d_M_next_42 rfl ?_
  refine j_ret0 (j_callV d_M_next_47 v_M_negative l_M_218 rfl rfl hO (by omega) (by decide) (Nat.le_of_ble_eq_true rfl) rfl) rfl (fun v h' hq => ?_) (fun k' h' hq => hq)
  obtain ⟨u, hu⟩ := hQ _ _ hq
  cases hu
  exact j_iret rfl d_M_next_50 hq
theorem m_M_next_5 (K : jK) (d : Nat) (hd : 1 ≤ d) (S : jS) (J : jH) (Q : jO → jH → Prop) (hQ : isInt Q) (hO : jM K M_M_negative (d - 1) [.ref 59, .int 6] (lay S ++ J) Q 0 0) : jM K M_M_next d [.ref 59, .int 5] (lay S ++ J) Q 0 0 := by
  refine jM.of (by decide) (Nat.le_of_ble_eq_true rfl) ?_
  refine j_iload_n d_M_next_0 rfl ?_
  refine j_if_eqF (tgt := 9) d_M_next_1 rfl (by decide) ?_
  refine j_iload_n d_M_next_4 rfl ?_
  refine j_iconst (v := 1) d_M_next_5 rfl ?_
  refine j_icmp_neT (tgt := 25) d_M_next_6 rfl (by decide) ?_
  refine j_iload_n d_M_next_25 rfl ?_
  refine j_iconst (v := 2) d_M_next_26 rfl ?_
  refine j_icmp_eqF (tgt := 35) d_M_next_27 rfl (by decide) ?_
  refine j_iload_n d_M_next_30 rfl ?_
  refine j_iconst (v := 5) d_M_next_31 rfl ?_
  refine j_icmp_neF (tgt := 51) d_M_next_32 rfl rfl ?_
  refine j_aload_n d_M_next_35 rfl ?_
  refine j_iload_n d_M_next_36 rfl ?_
  refine j_iconst (v := 2) d_M_next_37 rfl ?_
  refine j_icmp_neT (tgt := 45) d_M_next_38 rfl (by decide) ?_
  refine j_bipush (v := 6) d_M_next_45 (by decide) ?_
  refine j_ret0 (j_callV d_M_next_47 v_M_negative l_M_218 rfl rfl hO (by omega) (by decide) (Nat.le_of_ble_eq_true rfl) rfl) rfl (fun v h' hq => ?_) (fun k' h' hq => hq)
  obtain ⟨u, hu⟩ := hQ _ _ hq
  cases hu
  exact j_iret rfl d_M_next_50 hq
theorem m_M_next_3 (K : jK) (d : Nat) (hd : 1 ≤ d) (S : jS) (J : jH) (Q : jO → jH → Prop) (hQ : isInt Q) (hO : jM K M_M_relate (d - 1) [.ref 59] (lay S ++ J) Q 0 0) : jM K M_M_next d [.ref 59, .int 3] (lay S ++ J) Q 0 0 := by
  refine jM.of (by decide) (Nat.le_of_ble_eq_true rfl) ?_
  refine j_iload_n d_M_next_0 rfl ?_
  refine j_if_eqF (tgt := 9) d_M_next_1 rfl (by decide) ?_
  refine j_iload_n d_M_next_4 rfl ?_
  refine j_iconst (v := 1) d_M_next_5 rfl ?_
  refine j_icmp_neT (tgt := 25) d_M_next_6 rfl (by decide) ?_
  refine j_iload_n d_M_next_25 rfl ?_
  refine j_iconst (v := 2) d_M_next_26 rfl ?_
  refine j_icmp_eqF (tgt := 35) d_M_next_27 rfl (by decide) ?_
  refine j_iload_n d_M_next_30 rfl ?_
  refine j_iconst (v := 5) d_M_next_31 rfl ?_
  refine j_icmp_neT (tgt := 51) d_M_next_32 rfl (by decide) ?_
  refine j_iload_n d_M_next_51 rfl ?_
  refine j_tabIn (tgt := 120) d_M_next_52 (by decide) (by decide) rfl rfl ?_
  refine j_aload_n d_M_next_120 rfl ?_
  refine j_ret0 (j_callV d_M_next_121 v_M_relate l_M_222 rfl rfl hO (by omega) (by decide) (Nat.le_of_ble_eq_true rfl) rfl) rfl (fun v h' hq => ?_) (fun k' h' hq => hq)
  obtain ⟨u, hu⟩ := hQ _ _ hq
  cases hu
  exact j_iret rfl d_M_next_124 hq
theorem m_M_next_4 (K : jK) (d : Nat) (hd : 1 ≤ d) (S : jS) (J : jH) (Q : jO → jH → Prop) (hQ : isInt Q) (hO : jM K M_M_operand (d - 1) [.ref 59, .int 5, .int 6] (lay S ++ J) Q 0 0) : jM K M_M_next d [.ref 59, .int 4] (lay S ++ J) Q 0 0 := by
  refine jM.of (by decide) (Nat.le_of_ble_eq_true rfl) ?_
  refine j_iload_n d_M_next_0 rfl ?_
  refine j_if_eqF (tgt := 9) d_M_next_1 rfl (by decide) ?_
  refine j_iload_n d_M_next_4 rfl ?_
  refine j_iconst (v := 1) d_M_next_5 rfl ?_
  refine j_icmp_neT (tgt := 25) d_M_next_6 rfl (by decide) ?_
  refine j_iload_n d_M_next_25 rfl ?_
  refine j_iconst (v := 2) d_M_next_26 rfl ?_
  refine j_icmp_eqF (tgt := 35) d_M_next_27 rfl (by decide) ?_
  refine j_iload_n d_M_next_30 rfl ?_
  refine j_iconst (v := 5) d_M_next_31 rfl ?_
  refine j_icmp_neT (tgt := 51) d_M_next_32 rfl (by decide) ?_
  refine j_iload_n d_M_next_51 rfl ?_
  refine j_tabIn (tgt := 125) d_M_next_52 (by decide) (by decide) rfl rfl ?_
  refine j_aload_n d_M_next_125 rfl ?_
  refine j_iconst (v := 5) d_M_next_126 rfl ?_
  refine j_bipush (v := 6) d_M_next_127 (by decide) ?_
  refine j_ret0 (j_callV d_M_next_129 v_M_operand l_M_185 rfl rfl hO (by omega) (by decide) (Nat.le_of_ble_eq_true rfl) rfl) rfl (fun v h' hq => ?_) (fun k' h' hq => hq)
  obtain ⟨u, hu⟩ := hQ _ _ hq
  cases hu
  exact j_iret rfl d_M_next_132 hq
theorem m_M_next_6 (K : jK) (d : Nat) (hd : 1 ≤ d) (S : jS) (J : jH) (Q : jO → jH → Prop) (hQ : isInt Q) (hO : jM K M_M_afterOne (d - 1) [.ref 59] (lay S ++ J) Q 0 0) : jM K M_M_next d [.ref 59, .int 6] (lay S ++ J) Q 0 0 := by
  refine jM.of (by decide) (Nat.le_of_ble_eq_true rfl) ?_
  refine j_iload_n d_M_next_0 rfl ?_
  refine j_if_eqF (tgt := 9) d_M_next_1 rfl (by decide) ?_
  refine j_iload_n d_M_next_4 rfl ?_
  refine j_iconst (v := 1) d_M_next_5 rfl ?_
  refine j_icmp_neT (tgt := 25) d_M_next_6 rfl (by decide) ?_
  refine j_iload_n d_M_next_25 rfl ?_
  refine j_iconst (v := 2) d_M_next_26 rfl ?_
  refine j_icmp_eqF (tgt := 35) d_M_next_27 rfl (by decide) ?_
  refine j_iload_n d_M_next_30 rfl ?_
  refine j_iconst (v := 5) d_M_next_31 rfl ?_
  refine j_icmp_neT (tgt := 51) d_M_next_32 rfl (by decide) ?_
  refine j_iload_n d_M_next_51 rfl ?_
  refine j_tabIn (tgt := 133) d_M_next_52 (by decide) (by decide) rfl rfl ?_
  refine j_aload_n d_M_next_133 rfl ?_
  refine j_ret0 (j_callV d_M_next_134 v_M_afterOne l_M_225 rfl rfl hO (by omega) (by decide) (Nat.le_of_ble_eq_true rfl) rfl) rfl (fun v h' hq => ?_) (fun k' h' hq => hq)
  obtain ⟨u, hu⟩ := hQ _ _ hq
  cases hu
  exact j_iret rfl d_M_next_137 hq
theorem m_M_next_7 (K : jK) (d : Nat) (hd : 1 ≤ d) (S : jS) (J : jH) (Q : jO → jH → Prop) (hQ : isInt Q) (hO : jM K M_M_pick (d - 1) [.ref 59, .int 8] (lay S ++ J) Q 0 0) : jM K M_M_next d [.ref 59, .int 7] (lay S ++ J) Q 0 0 := by
  refine jM.of (by decide) (Nat.le_of_ble_eq_true rfl) ?_
  refine j_iload_n d_M_next_0 rfl ?_
  refine j_if_eqF (tgt := 9) d_M_next_1 rfl (by decide) ?_
  refine j_iload_n d_M_next_4 rfl ?_
  refine j_iconst (v := 1) d_M_next_5 rfl ?_
  refine j_icmp_neT (tgt := 25) d_M_next_6 rfl (by decide) ?_
  refine j_iload_n d_M_next_25 rfl ?_
  refine j_iconst (v := 2) d_M_next_26 rfl ?_
  refine j_icmp_eqF (tgt := 35) d_M_next_27 rfl (by decide) ?_
  refine j_iload_n d_M_next_30 rfl ?_
  refine j_iconst (v := 5) d_M_next_31 rfl ?_
  refine j_icmp_neT (tgt := 51) d_M_next_32 rfl (by decide) ?_
  refine j_iload_n d_M_next_51 rfl ?_
  refine j_tabIn (tgt := 138) d_M_next_52 (by decide) (by decide) rfl rfl ?_
  refine j_aload_n d_M_next_138 rfl ?_
  refine j_bipush (v := 8) d_M_next_139 (by decide) ?_
  refine j_ret0 (j_callV d_M_next_141 v_M_pick l_M_228 rfl rfl hO (by omega) (by decide) (Nat.le_of_ble_eq_true rfl) rfl) rfl (fun v h' hq => ?_) (fun k' h' hq => hq)
  obtain ⟨u, hu⟩ := hQ _ _ hq
  cases hu
  exact j_iret rfl d_M_next_144 hq
theorem m_M_next_9 (K : jK) (d : Nat) (hd : 1 ≤ d) (S : jS) (J : jH) (Q : jO → jH → Prop) (hQ : isInt Q) (hO : jM K M_M_part (d - 1) [.ref 59, .int 0, .int 0, .int 10, .int 11] (lay S ++ J) Q 0 0) : jM K M_M_next d [.ref 59, .int 9] (lay S ++ J) Q 0 0 := by
  refine jM.of (by decide) (Nat.le_of_ble_eq_true rfl) ?_
  refine j_iload_n d_M_next_0 rfl ?_
  refine j_if_eqF (tgt := 9) d_M_next_1 rfl (by decide) ?_
  refine j_iload_n d_M_next_4 rfl ?_
  refine j_iconst (v := 1) d_M_next_5 rfl ?_
  refine j_icmp_neT (tgt := 25) d_M_next_6 rfl (by decide) ?_
  refine j_iload_n d_M_next_25 rfl ?_
  refine j_iconst (v := 2) d_M_next_26 rfl ?_
  refine j_icmp_eqF (tgt := 35) d_M_next_27 rfl (by decide) ?_
  refine j_iload_n d_M_next_30 rfl ?_
  refine j_iconst (v := 5) d_M_next_31 rfl ?_
  refine j_icmp_neT (tgt := 51) d_M_next_32 rfl (by decide) ?_
  refine j_iload_n d_M_next_51 rfl ?_
  refine j_tabIn (tgt := 162) d_M_next_52 (by decide) (by decide) rfl rfl ?_
  refine j_aload_n d_M_next_162 rfl ?_
  refine j_iconst (v := 0) d_M_next_163 rfl ?_
  refine j_iload_n d_M_next_164 rfl ?_
  refine j_bipush (v := 10) d_M_next_165 (by decide) ?_
  refine j_icmp_neT (tgt := 174) d_M_next_167 rfl (by decide) ?_
  refine j_iconst (v := 0) d_M_next_174 rfl ?_
  refine j_bipush (v := 10) d_M_next_175 (by decide) ?_
  refine j_bipush (v := 11) d_M_next_177 (by decide) ?_
  refine j_ret0 (j_callV d_M_next_179 v_M_part l_M_231 rfl rfl hO (by omega) (by decide) (Nat.le_of_ble_eq_true rfl) rfl) rfl (fun v h' hq => ?_) (fun k' h' hq => hq)
  obtain ⟨u, hu⟩ := hQ _ _ hq
  cases hu
  exact j_iret rfl d_M_next_182 hq
theorem m_M_next_10 (K : jK) (d : Nat) (hd : 1 ≤ d) (S : jS) (J : jH) (Q : jO → jH → Prop) (hQ : isInt Q) (hO : jM K M_M_part (d - 1) [.ref 59, .int 0, .int 1, .int 10, .int 11] (lay S ++ J) Q 0 0) : jM K M_M_next d [.ref 59, .int 10] (lay S ++ J) Q 0 0 := by
  refine jM.of (by decide) (Nat.le_of_ble_eq_true rfl) ?_
  refine j_iload_n d_M_next_0 rfl ?_
  refine j_if_eqF (tgt := 9) d_M_next_1 rfl (by decide) ?_
  refine j_iload_n d_M_next_4 rfl ?_
  refine j_iconst (v := 1) d_M_next_5 rfl ?_
  refine j_icmp_neT (tgt := 25) d_M_next_6 rfl (by decide) ?_
  refine j_iload_n d_M_next_25 rfl ?_
  refine j_iconst (v := 2) d_M_next_26 rfl ?_
  refine j_icmp_eqF (tgt := 35) d_M_next_27 rfl (by decide) ?_
  refine j_iload_n d_M_next_30 rfl ?_
  refine j_iconst (v := 5) d_M_next_31 rfl ?_
  refine j_icmp_neT (tgt := 51) d_M_next_32 rfl (by decide) ?_
  refine j_iload_n d_M_next_51 rfl ?_
  refine j_tabIn (tgt := 162) d_M_next_52 (by decide) (by decide) rfl rfl ?_
  refine j_aload_n d_M_next_162 rfl ?_
  refine j_iconst (v := 0) d_M_next_163 rfl ?_
  refine j_iload_n d_M_next_164 rfl ?_
  refine j_bipush (v := 10) d_M_next_165 (by decide) ?_
  refine j_icmp_neF (tgt := 174) d_M_next_167 rfl rfl ?_
  refine j_iconst (v := 1) d_M_next_170 rfl ?_
  refine j_goto (tgt := 175) d_M_next_171 rfl ?_
  refine j_bipush (v := 10) d_M_next_175 (by decide) ?_
  refine j_bipush (v := 11) d_M_next_177 (by decide) ?_
  refine j_ret0 (j_callV d_M_next_179 v_M_part l_M_231 rfl rfl hO (by omega) (by decide) (Nat.le_of_ble_eq_true rfl) rfl) rfl (fun v h' hq => ?_) (fun k' h' hq => hq)
  obtain ⟨u, hu⟩ := hQ _ _ hq
  cases hu
  exact j_iret rfl d_M_next_182 hq
theorem m_M_next_11 (K : jK) (d : Nat) (hd : 1 ≤ d) (S : jS) (J : jH) (Q : jO → jH → Prop) (hQ : isInt Q) (hO : jM K M_M_afterFirst (d - 1) [.ref 59] (lay S ++ J) Q 0 0) : jM K M_M_next d [.ref 59, .int 11] (lay S ++ J) Q 0 0 := by
  refine jM.of (by decide) (Nat.le_of_ble_eq_true rfl) ?_
  refine j_iload_n d_M_next_0 rfl ?_
  refine j_if_eqF (tgt := 9) d_M_next_1 rfl (by decide) ?_
  refine j_iload_n d_M_next_4 rfl ?_
  refine j_iconst (v := 1) d_M_next_5 rfl ?_
  refine j_icmp_neT (tgt := 25) d_M_next_6 rfl (by decide) ?_
  refine j_iload_n d_M_next_25 rfl ?_
  refine j_iconst (v := 2) d_M_next_26 rfl ?_
  refine j_icmp_eqF (tgt := 35) d_M_next_27 rfl (by decide) ?_
  refine j_iload_n d_M_next_30 rfl ?_
  refine j_iconst (v := 5) d_M_next_31 rfl ?_
  refine j_icmp_neT (tgt := 51) d_M_next_32 rfl (by decide) ?_
  refine j_iload_n d_M_next_51 rfl ?_
  refine j_tabIn (tgt := 183) d_M_next_52 (by decide) (by decide) rfl rfl ?_
  refine j_aload_n d_M_next_183 rfl ?_
  refine j_ret0 (j_callV d_M_next_184 v_M_afterFirst l_M_235 rfl rfl hO (by omega) (by decide) (Nat.le_of_ble_eq_true rfl) rfl) rfl (fun v h' hq => ?_) (fun k' h' hq => hq)
  obtain ⟨u, hu⟩ := hQ _ _ hq
  cases hu
  exact j_iret rfl d_M_next_187 hq
theorem m_M_next_12 (K : jK) (d : Nat) (hd : 1 ≤ d) (S : jS) (J : jH) (Q : jO → jH → Prop) (hQ : isInt Q) (hO : jM K M_M_part (d - 1) [.ref 59, .int 1, .int 0, .int 13, .int 14] (lay S ++ J) Q 0 0) : jM K M_M_next d [.ref 59, .int 12] (lay S ++ J) Q 0 0 := by
  refine jM.of (by decide) (Nat.le_of_ble_eq_true rfl) ?_
  refine j_iload_n d_M_next_0 rfl ?_
  refine j_if_eqF (tgt := 9) d_M_next_1 rfl (by decide) ?_
  refine j_iload_n d_M_next_4 rfl ?_
  refine j_iconst (v := 1) d_M_next_5 rfl ?_
  refine j_icmp_neT (tgt := 25) d_M_next_6 rfl (by decide) ?_
  refine j_iload_n d_M_next_25 rfl ?_
  refine j_iconst (v := 2) d_M_next_26 rfl ?_
  refine j_icmp_eqF (tgt := 35) d_M_next_27 rfl (by decide) ?_
  refine j_iload_n d_M_next_30 rfl ?_
  refine j_iconst (v := 5) d_M_next_31 rfl ?_
  refine j_icmp_neT (tgt := 51) d_M_next_32 rfl (by decide) ?_
  refine j_iload_n d_M_next_51 rfl ?_
  refine j_tabIn (tgt := 188) d_M_next_52 (by decide) (by decide) rfl rfl ?_
  refine j_aload_n d_M_next_188 rfl ?_
  refine j_iconst (v := 1) d_M_next_189 rfl ?_
  refine j_iload_n d_M_next_190 rfl ?_
  refine j_bipush (v := 13) d_M_next_191 (by decide) ?_
  refine j_icmp_neT (tgt := 200) d_M_next_193 rfl (by decide) ?_
  refine j_iconst (v := 0) d_M_next_200 rfl ?_
  refine j_bipush (v := 13) d_M_next_201 (by decide) ?_
  refine j_bipush (v := 14) d_M_next_203 (by decide) ?_
  refine j_ret0 (j_callV d_M_next_205 v_M_part l_M_231 rfl rfl hO (by omega) (by decide) (Nat.le_of_ble_eq_true rfl) rfl) rfl (fun v h' hq => ?_) (fun k' h' hq => hq)
  obtain ⟨u, hu⟩ := hQ _ _ hq
  cases hu
  exact j_iret rfl d_M_next_208 hq
theorem m_M_next_13 (K : jK) (d : Nat) (hd : 1 ≤ d) (S : jS) (J : jH) (Q : jO → jH → Prop) (hQ : isInt Q) (hO : jM K M_M_part (d - 1) [.ref 59, .int 1, .int 1, .int 13, .int 14] (lay S ++ J) Q 0 0) : jM K M_M_next d [.ref 59, .int 13] (lay S ++ J) Q 0 0 := by
  refine jM.of (by decide) (Nat.le_of_ble_eq_true rfl) ?_
  refine j_iload_n d_M_next_0 rfl ?_
  refine j_if_eqF (tgt := 9) d_M_next_1 rfl (by decide) ?_
  refine j_iload_n d_M_next_4 rfl ?_
  refine j_iconst (v := 1) d_M_next_5 rfl ?_
  refine j_icmp_neT (tgt := 25) d_M_next_6 rfl (by decide) ?_
  refine j_iload_n d_M_next_25 rfl ?_
  refine j_iconst (v := 2) d_M_next_26 rfl ?_
  refine j_icmp_eqF (tgt := 35) d_M_next_27 rfl (by decide) ?_
  refine j_iload_n d_M_next_30 rfl ?_
  refine j_iconst (v := 5) d_M_next_31 rfl ?_
  refine j_icmp_neT (tgt := 51) d_M_next_32 rfl (by decide) ?_
  refine j_iload_n d_M_next_51 rfl ?_
  refine j_tabIn (tgt := 188) d_M_next_52 (by decide) (by decide) rfl rfl ?_
  refine j_aload_n d_M_next_188 rfl ?_
  refine j_iconst (v := 1) d_M_next_189 rfl ?_
  refine j_iload_n d_M_next_190 rfl ?_
  refine j_bipush (v := 13) d_M_next_191 (by decide) ?_
  refine j_icmp_neF (tgt := 200) d_M_next_193 rfl rfl ?_
  refine j_iconst (v := 1) d_M_next_196 rfl ?_
  refine j_goto (tgt := 201) d_M_next_197 rfl ?_
  refine j_bipush (v := 13) d_M_next_201 (by decide) ?_
  refine j_bipush (v := 14) d_M_next_203 (by decide) ?_
  refine j_ret0 (j_callV d_M_next_205 v_M_part l_M_231 rfl rfl hO (by omega) (by decide) (Nat.le_of_ble_eq_true rfl) rfl) rfl (fun v h' hq => ?_) (fun k' h' hq => hq)
  obtain ⟨u, hu⟩ := hQ _ _ hq
  cases hu
  exact j_iret rfl d_M_next_208 hq
theorem m_M_next_14 (K : jK) (d : Nat) (hd : 1 ≤ d) (S : jS) (J : jH) (Q : jO → jH → Prop) (hQ : isInt Q) (hO : jM K M_M_afterChange (d - 1) [.ref 59] (lay S ++ J) Q 0 0) : jM K M_M_next d [.ref 59, .int 14] (lay S ++ J) Q 0 0 := by
  refine jM.of (by decide) (Nat.le_of_ble_eq_true rfl) ?_
  refine j_iload_n d_M_next_0 rfl ?_
  refine j_if_eqF (tgt := 9) d_M_next_1 rfl (by decide) ?_
  refine j_iload_n d_M_next_4 rfl ?_
  refine j_iconst (v := 1) d_M_next_5 rfl ?_
  refine j_icmp_neT (tgt := 25) d_M_next_6 rfl (by decide) ?_
  refine j_iload_n d_M_next_25 rfl ?_
  refine j_iconst (v := 2) d_M_next_26 rfl ?_
  refine j_icmp_eqF (tgt := 35) d_M_next_27 rfl (by decide) ?_
  refine j_iload_n d_M_next_30 rfl ?_
  refine j_iconst (v := 5) d_M_next_31 rfl ?_
  refine j_icmp_neT (tgt := 51) d_M_next_32 rfl (by decide) ?_
  refine j_iload_n d_M_next_51 rfl ?_
  refine j_tabIn (tgt := 209) d_M_next_52 (by decide) (by decide) rfl rfl ?_
  refine j_aload_n d_M_next_209 rfl ?_
  refine j_ret0 (j_callV d_M_next_210 v_M_afterChange l_M_209 rfl rfl hO (by omega) (by decide) (Nat.le_of_ble_eq_true rfl) rfl) rfl (fun v h' hq => ?_) (fun k' h' hq => hq)
  obtain ⟨u, hu⟩ := hQ _ _ hq
  cases hu
  exact j_iret rfl d_M_next_213 hq
theorem m_M_next_15 (K : jK) (d : Nat) (hd : 1 ≤ d) (S : jS) (J : jH) (Q : jO → jH → Prop) (hQ : isInt Q) (hO : jM K M_M_pick (d - 1) [.ref 59, .int 16] (lay S ++ J) Q 0 0) : jM K M_M_next d [.ref 59, .int 15] (lay S ++ J) Q 0 0 := by
  refine jM.of (by decide) (Nat.le_of_ble_eq_true rfl) ?_
  refine j_iload_n d_M_next_0 rfl ?_
  refine j_if_eqF (tgt := 9) d_M_next_1 rfl (by decide) ?_
  refine j_iload_n d_M_next_4 rfl ?_
  refine j_iconst (v := 1) d_M_next_5 rfl ?_
  refine j_icmp_neT (tgt := 25) d_M_next_6 rfl (by decide) ?_
  refine j_iload_n d_M_next_25 rfl ?_
  refine j_iconst (v := 2) d_M_next_26 rfl ?_
  refine j_icmp_eqF (tgt := 35) d_M_next_27 rfl (by decide) ?_
  refine j_iload_n d_M_next_30 rfl ?_
  refine j_iconst (v := 5) d_M_next_31 rfl ?_
  refine j_icmp_neT (tgt := 51) d_M_next_32 rfl (by decide) ?_
  refine j_iload_n d_M_next_51 rfl ?_
  refine j_tabIn (tgt := 214) d_M_next_52 (by decide) (by decide) rfl rfl ?_
  refine j_aload_n d_M_next_214 rfl ?_
  refine j_bipush (v := 16) d_M_next_215 (by decide) ?_
  refine j_ret0 (j_callV d_M_next_217 v_M_pick l_M_228 rfl rfl hO (by omega) (by decide) (Nat.le_of_ble_eq_true rfl) rfl) rfl (fun v h' hq => ?_) (fun k' h' hq => hq)
  obtain ⟨u, hu⟩ := hQ _ _ hq
  cases hu
  exact j_iret rfl d_M_next_220 hq
theorem m_M_next_8 (K : jK) (d : Nat) (hd : 1 ≤ d) (S : jS) (J : jH) (n : Nat) (k : Int32) (b e : Nat) (hT : Tk S n k b e) : jM K M_M_next d [.ref 59, .int 8] (lay S ++ J) (if k = 61 then rI 9 (lay S ++ J) else rI 17 (lay S ++ J)) 0 0 := by
  refine jM.of (by decide) (Nat.le_of_ble_eq_true rfl) ?_
  refine j_iload_n d_M_next_0 rfl ?_
  refine j_if_eqF (tgt := 9) d_M_next_1 rfl (by decide) ?_
  refine j_iload_n d_M_next_4 rfl ?_
  refine j_iconst (v := 1) d_M_next_5 rfl ?_
  refine j_icmp_neT (tgt := 25) d_M_next_6 rfl (by decide) ?_
  refine j_iload_n d_M_next_25 rfl ?_
  refine j_iconst (v := 2) d_M_next_26 rfl ?_
  refine j_icmp_eqF (tgt := 35) d_M_next_27 rfl (by decide) ?_
  refine j_iload_n d_M_next_30 rfl ?_
  refine j_iconst (v := 5) d_M_next_31 rfl ?_
  refine j_icmp_neT (tgt := 51) d_M_next_32 rfl (by decide) ?_
  refine j_iload_n d_M_next_51 rfl ?_
  refine j_tabIn (tgt := 145) d_M_next_52 (by decide) (by decide) rfl rfl ?_
  refine j_aload_n d_M_next_145 rfl ?_
  refine j_bipush (v := 61) d_M_next_146 (by decide) ?_
  refine j_retI (j_callV d_M_next_148 v_M_isIt l_M_175 rfl rfl (m_M_isIt K (d - 1) S J n k b e hT 61 (by decide)) (by omega) (by decide) (Nat.le_of_ble_eq_true rfl) rfl) rfl ?_
  by_cases h1 : k = 61
  · rw [b2i_dT h1, if_pos h1]
    refine j_if_eqF (tgt := 159) d_M_next_151 rfl (by decide) ?_
    refine j_bipush (v := 9) d_M_next_154 (by decide) ?_
    refine j_goto (tgt := 161) d_M_next_156 rfl ?_
    exact j_iret rfl d_M_next_161 ⟨rfl, rfl⟩
  · rw [b2i_dF h1, if_neg h1]
    refine j_if_eqT (tgt := 159) d_M_next_151 rfl rfl ?_
    refine j_bipush (v := 17) d_M_next_159 (by decide) ?_
    exact j_iret rfl d_M_next_161 ⟨rfl, rfl⟩
theorem m_M_next_16 (K : jK) (d : Nat) (S : jS) (J : jH) : jM K M_M_next d [.ref 59, .int 16] (lay S ++ J) (rI 17 (lay S ++ J)) 0 0 := by
  refine jM.of (by decide) (Nat.le_of_ble_eq_true rfl) ?_
  refine j_iload_n d_M_next_0 rfl ?_
  refine j_if_eqF (tgt := 9) d_M_next_1 rfl (by decide) ?_
  refine j_iload_n d_M_next_4 rfl ?_
  refine j_iconst (v := 1) d_M_next_5 rfl ?_
  refine j_icmp_neT (tgt := 25) d_M_next_6 rfl (by decide) ?_
  refine j_iload_n d_M_next_25 rfl ?_
  refine j_iconst (v := 2) d_M_next_26 rfl ?_
  refine j_icmp_eqF (tgt := 35) d_M_next_27 rfl (by decide) ?_
  refine j_iload_n d_M_next_30 rfl ?_
  refine j_iconst (v := 5) d_M_next_31 rfl ?_
  refine j_icmp_neT (tgt := 51) d_M_next_32 rfl (by decide) ?_
  refine j_iload_n d_M_next_51 rfl ?_
  refine j_tabOut (tgt := 221) d_M_next_52 (by decide) rfl ?_
  refine j_bipush (v := 17) d_M_next_221 (by decide) ?_
  exact j_iret rfl d_M_next_223 ⟨rfl, rfl⟩
