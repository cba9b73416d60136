/-! BitLoomModel: actionOf, act, start, one, afterOne -/
def actN (w : Int64) : Int32 := if w = 7562612 then 1 else if w = 7168376 then 2 else if w = 7170414 then 3 else if w = 7566701 then 4 else if w = 1818850164 then 5 else if w = 427071729268 then 6 else 0
theorem lcmp_ne {x y : Int64} (h : ¬ lg_cmp x y = 0) : ¬ x = y := by
  intro q; subst q
  exact h (by unfold lg_cmp; simp [Int64.lt_irrefl])
theorem lcmp_eq {x y : Int64} (h : lg_cmp x y = 0) : x = y := by
  unfold lg_cmp at h
  split at h
  · exact absurd h (by decide)
  · split at h
    · assumption
    · exact absurd h (by decide)
theorem m_M_actionOf (K : jK) (d : Nat) (h : jH) (w : Int64) : jM K M_M_actionOf d [.long w] h (rI (actN w) h) 0 0 := by
  refine jM.of (by decide) (Nat.le_of_ble_eq_true rfl) ?_
  unfold actN
  refine j_lload_n d_M_actionOf_0 rfl ?_
  refine j_ldc2 d_M_actionOf_1 c_M_137 ?_
  refine j_lcmp d_M_actionOf_4 ?_
  refine j_if_ne (tgt := 10) d_M_actionOf_5 rfl (fun h0 => ?_) (fun h0 => ?_)
  rotate_left
  · rw [if_pos (lcmp_eq (by first | exact h0 | exact Classical.not_not.mp h0))]
    refine j_iconst (v := 1) d_M_actionOf_8 rfl ?_
    exact j_iret rfl d_M_actionOf_9 ⟨rfl, rfl⟩
  rw [if_neg (lcmp_ne h0)]
  refine j_lload_n d_M_actionOf_10 rfl ?_
  refine j_ldc2 d_M_actionOf_11 c_M_139 ?_
  refine j_lcmp d_M_actionOf_14 ?_
  refine j_if_ne (tgt := 20) d_M_actionOf_15 rfl (fun h1 => ?_) (fun h1 => ?_)
  rotate_left
  · rw [if_pos (lcmp_eq (by first | exact h1 | exact Classical.not_not.mp h1))]
    refine j_iconst (v := 2) d_M_actionOf_18 rfl ?_
    exact j_iret rfl d_M_actionOf_19 ⟨rfl, rfl⟩
  rw [if_neg (lcmp_ne h1)]
  refine j_lload_n d_M_actionOf_20 rfl ?_
  refine j_ldc2 d_M_actionOf_21 c_M_141 ?_
  refine j_lcmp d_M_actionOf_24 ?_
  refine j_if_ne (tgt := 30) d_M_actionOf_25 rfl (fun h2 => ?_) (fun h2 => ?_)
  rotate_left
  · rw [if_pos (lcmp_eq (by first | exact h2 | exact Classical.not_not.mp h2))]
    refine j_iconst (v := 3) d_M_actionOf_28 rfl ?_
    exact j_iret rfl d_M_actionOf_29 ⟨rfl, rfl⟩
  rw [if_neg (lcmp_ne h2)]
  refine j_lload_n d_M_actionOf_30 rfl ?_
  refine j_ldc2 d_M_actionOf_31 c_M_143 ?_
  refine j_lcmp d_M_actionOf_34 ?_
  refine j_if_ne (tgt := 40) d_M_actionOf_35 rfl (fun h3 => ?_) (fun h3 => ?_)
  rotate_left
  · rw [if_pos (lcmp_eq (by first | exact h3 | exact Classical.not_not.mp h3))]
    refine j_iconst (v := 4) d_M_actionOf_38 rfl ?_
    exact j_iret rfl d_M_actionOf_39 ⟨rfl, rfl⟩
  rw [if_neg (lcmp_ne h3)]
  refine j_lload_n d_M_actionOf_40 rfl ?_
  refine j_ldc2 d_M_actionOf_41 c_M_145 ?_
  refine j_lcmp d_M_actionOf_44 ?_
  refine j_if_ne (tgt := 50) d_M_actionOf_45 rfl (fun h4 => ?_) (fun h4 => ?_)
  rotate_left
  · rw [if_pos (lcmp_eq (by first | exact h4 | exact Classical.not_not.mp h4))]
    refine j_iconst (v := 5) d_M_actionOf_48 rfl ?_
    exact j_iret rfl d_M_actionOf_49 ⟨rfl, rfl⟩
  rw [if_neg (lcmp_ne h4)]
  refine j_lload_n d_M_actionOf_50 rfl ?_
  refine j_ldc2 d_M_actionOf_51 c_M_147 ?_
  refine j_lcmp d_M_actionOf_54 ?_
  refine j_if_ne (tgt := 63) d_M_actionOf_55 rfl (fun h5 => ?_) (fun h5 => ?_)
  · rw [if_neg (lcmp_ne h5)]
    refine j_iconst (v := 0) d_M_actionOf_63 rfl ?_
    exact j_iret rfl d_M_actionOf_64 ⟨rfl, rfl⟩
  · rw [if_pos (lcmp_eq (by first | exact h5 | exact Classical.not_not.mp h5))]
    refine j_bipush (v := 6) d_M_actionOf_58 (by decide) ?_
    refine j_goto (tgt := 64) d_M_actionOf_60 rfl ?_
    exact j_iret rfl d_M_actionOf_64 ⟨rfl, rfl⟩
/-- the action that the token stands for, and the state behind it -/
def actK (T : Nat → Int32) (k : Int32) (b e : Nat) : Int32 := if k = 97 then actN (ltL T b (e - b) 0 0) else 0
def actT (a : Int32) : Int32 := if a = 0 then 17 else if a = 1 then 7 else if a = 6 then 16 else 15
theorem Tk.word {S : jS} {n : Nat} {k : Int32} {b e : Nat} (h : Tk S n k b e) : (S.1 36 = 1 ∧ k = 97 ∧ S.2.2.1 = ltL (S.2.1 17) b (e - b) 0 0) ∨ (¬ S.1 36 = 1 ∧ ¬ k = 97) := by
  obtain ⟨-, -, -, -, -, h4⟩ := h
  rcases h4 with ⟨a1, a2, a3, a4⟩ | ⟨a1, a2, a3, a4, a5, a6, a7, a8⟩ | ⟨a1, a2, a3, a4, a5, a6⟩ | ⟨a1, a2, a3, a4, a5, a6, a7, a8, a9⟩ | ⟨a1, a2⟩
  · exact .inr ⟨by rw [a2]; decide, by rw [a1]; decide⟩
  · exact .inl ⟨a2, a1, a8⟩
  · exact .inr ⟨by rw [a2]; decide, by rw [a1]; decide⟩
  · exact .inr ⟨by rw [a5]; decide, fun z => by rw [z] at a3; exact absurd a3 (by decide)⟩
  · exact .inr ⟨by rw [a2]; decide, by rw [a1]; decide⟩
theorem m_M_act (K : jK) (d : Nat) (hd : 1 ≤ d) (S : jS) (J : jH) (n : Nat) (k : Int32) (b e : Nat) (hT : Tk S n k b e) : jM K M_M_act d [.ref 59] (lay S ++ J) (rI (actT (actK (S.2.1 17) k b e)) (lay (s1 S 44 (actK (S.2.1 17) k b e)) ++ J)) 0 0 := by
  refine jM.of (by decide) (Nat.le_of_ble_eq_true rfl) ?_
  have fin : ∀ v : Int32, v = actK (S.2.1 17) k b e → jE K M_M_act d 20 [(0, .ref 59)] [.int v, .ref 59] (lay S ++ J) (rI (actT (actK (S.2.1 17) k b e)) (lay (s1 S 44 (actK (S.2.1 17) k b e)) ++ J)) 0 0 := by
    intro v hv
    rw [← hv]
    refine j_putf d_M_act_20 f_M_167 rfl (Nat.le_of_ble_eq_true rfl) rfl rfl rfl ?_
    refine j_hp (h' := lay (s1 S 44 v) ++ J) rfl ?_
    unfold actT
    refine j_aload_n d_M_act_23 rfl ?_
    refine j_getf d_M_act_24 f_M_167 rfl rfl ?_
    refine j_if_ne (tgt := 35) d_M_act_27 rfl (fun h0 => ?_) (fun h0 => ?_)
    · rw [if_neg (show ¬ v = 0 from h0)]
      refine j_aload_n d_M_act_35 rfl ?_
      refine j_getf d_M_act_36 f_M_167 rfl rfl ?_
      refine j_iconst (v := 1) d_M_act_39 rfl ?_
      refine j_icmp_ne (tgt := 48) d_M_act_40 rfl (fun h1 => ?_) (fun h1 => ?_)
      · rw [if_neg (show ¬ v = 1 from h1)]
        refine j_aload_n d_M_act_48 rfl ?_
        refine j_getf d_M_act_49 f_M_167 rfl rfl ?_
        refine j_bipush (v := 6) d_M_act_52 (by decide) ?_
        refine j_icmp_ne (tgt := 62) d_M_act_54 rfl (fun h2 => ?_) (fun h2 => ?_)
        · rw [if_neg (show ¬ v = 6 from h2)]
          refine j_bipush (v := 15) d_M_act_62 (by decide) ?_
          exact j_iret rfl d_M_act_64 ⟨rfl, rfl⟩
        · rw [if_pos (show v = 6 by first | exact h2 | exact Classical.not_not.mp h2)]
          refine j_bipush (v := 16) d_M_act_57 (by decide) ?_
          refine j_goto (tgt := 64) d_M_act_59 rfl ?_
          exact j_iret rfl d_M_act_64 ⟨rfl, rfl⟩
      · rw [if_pos (show v = 1 by first | exact h1 | exact Classical.not_not.mp h1)]
        refine j_bipush (v := 7) d_M_act_43 (by decide) ?_
        refine j_goto (tgt := 64) d_M_act_45 rfl ?_
        exact j_iret rfl d_M_act_64 ⟨rfl, rfl⟩
    · rw [if_pos (show v = 0 by first | exact h0 | exact Classical.not_not.mp h0)]
      refine j_bipush (v := 17) d_M_act_30 (by decide) ?_
      refine j_goto (tgt := 64) d_M_act_32 rfl ?_
      exact j_iret rfl d_M_act_64 ⟨rfl, rfl⟩
  refine j_aload_n d_M_act_0 rfl ?_
  refine j_aload_n d_M_act_1 rfl ?_
  refine j_getf d_M_act_2 f_M_132 rfl rfl ?_
  refine j_iconst (v := 1) d_M_act_5 rfl ?_
  rcases hT.word with ⟨h1, hk, hlt⟩ | ⟨h1, hk⟩
  · refine j_icmp_neF (tgt := 19) d_M_act_6 rfl h1 ?_
    refine j_aload_n d_M_act_9 rfl ?_
    refine j_getf d_M_act_10 f_M_118 rfl rfl ?_
    refine j_top (w := .long (ltL (S.2.1 17) b (e - b) 0 0)) (congrArg Value.long hlt) ?_
    refine j_retI (j_callS d_M_act_13 s_M_actionOf l_M_163 rfl (m_M_actionOf K (d - 1) _ _) (by omega) (by decide) (Nat.le_of_ble_eq_true rfl) rfl) rfl ?_
    refine j_goto (tgt := 20) d_M_act_16 rfl ?_
    exact fin _ (by rw [actK, if_pos hk])
  · refine j_icmp_neT (tgt := 19) d_M_act_6 rfl h1 ?_
    refine j_iconst (v := 0) d_M_act_19 rfl ?_
    exact fin 0 (by rw [actK, if_neg hk])
/-- is the token the word 'where'? -/
def isWh (T : Nat → Int32) (k : Int32) (b e : Nat) : Prop := k = 97 ∧ ltL T b (e - b) 0 0 = 512852587109
theorem m_M_start (K : jK) (d : Nat) (hd : 2 ≤ d) (S : jS) (J : jH) (n : Nat) (k : Int32) (b e : Nat) (hT : Tk S n k b e) (C : List (Int32 × Int32)) (P : List Int32) (hM : Ms S C P) (hl : C.length ≤ 100) (Q : jO → jH → Prop)
    (h1 : isWh (S.2.1 17) k b e → Q (.inl (some (.int 1))) (lay S ++ J)) (h2 : ¬ isWh (S.2.1 17) k b e → ∀ S', frM [40, 41, 42, 43, 44] [19, 20, 21] S S' → Ms S' (C ++ [(6, 1)]) P → S'.1 44 = actK (S.2.1 17) k b e → Q (.inl (some (.int (actT (actK (S.2.1 17) k b e))))) (lay S' ++ J)) : jM K M_M_start d [.ref 59] (lay S ++ J) Q 0 0 := by
  refine jM.of (by decide) (Nat.le_of_ble_eq_true rfl) ?_
  have no : ¬ isWh (S.2.1 17) k b e → jE K M_M_start d 21 [(0, .ref 59)] [] (lay S ++ J) Q 0 0 := by
    intro hw
    refine j_aload_n d_M_start_21 rfl ?_
    refine j_bipush (v := 6) d_M_start_22 (by decide) ?_
    refine j_iconst (v := 1) d_M_start_24 rfl ?_
    refine j_retV (j_callV d_M_start_25 v_M_emit l_M_159 rfl rfl (m_M_emit K (d - 1) S J 6 1 C.length hM.1 (by omega)) (by omega) (by decide) (Nat.le_of_ble_eq_true rfl) rfl) rfl ?_
    refine j_aload_n d_M_start_28 rfl ?_
    have f1 : frM [40, 41, 42, 43, 44] [19, 20, 21] S (emS S C.length 6 1) := (((frM.rf [40, 41, 42, 43, 44] [19, 20, 21] S).s2 (by decide) _).s2 (by decide) _).s1 (by decide) _
    refine j_retI (j_callV d_M_start_29 v_M_act l_M_172 rfl rfl (m_M_act K (d - 1) (by omega) (emS S C.length 6 1) J n k b e (hT.keep f1 (by decide))) (by omega) (by decide) (Nat.le_of_ble_eq_true rfl) rfl) rfl ?_
    have k2 : frM [44] [] (emS S C.length 6 1) (s1 (emS S C.length 6 1) 44 (actK (S.2.1 17) k b e)) := (frM.rf _ _ _).s1 (by decide) _
    exact j_iret rfl d_M_start_32 (h2 hw (s1 (emS S C.length 6 1) 44 (actK (S.2.1 17) k b e)) (f1.s1 (by decide) _) ((hM.em 6 1).keep k2 (by decide)) rfl)
  refine j_aload_n d_M_start_0 rfl ?_
  refine j_getf d_M_start_1 f_M_132 rfl rfl ?_
  refine j_iconst (v := 1) d_M_start_4 rfl ?_
  rcases hT.word with ⟨g1, hk, hlt⟩ | ⟨g1, hk⟩
  · refine j_icmp_neF (tgt := 21) d_M_start_5 rfl g1 ?_
    refine j_aload_n d_M_start_8 rfl ?_
    refine j_getf d_M_start_9 f_M_118 rfl rfl ?_
    refine j_top (w := .long (ltL (S.2.1 17) b (e - b) 0 0)) (congrArg Value.long hlt) ?_
    refine j_ldc2 d_M_start_12 c_M_170 ?_
    refine j_lcmp d_M_start_15 ?_
    refine j_if_ne (tgt := 21) d_M_start_16 rfl (fun h0 => ?_) (fun h0 => ?_)
    · exact no (fun q => lcmp_ne h0 q.2)
    · refine j_iconst (v := 1) d_M_start_19 rfl ?_
      exact j_iret rfl d_M_start_20 (h1 ⟨hk, lcmp_eq (by first | exact h0 | exact Classical.not_not.mp h0)⟩)
  · refine j_icmp_neT (tgt := 21) d_M_start_5 rfl g1 ?_
    exact no (fun q => hk q.1)
