/-! BitLoomModel: relate, wholeOne, operand, negative, one, afterOne -/
/-- a step's answer, and what holds behind it -/
def stQ (S : jS) (J : jH) (v : Int32) (R : jS → Prop) : jO → jH → Prop := fun o h => o = .inl (some (.int v)) ∧ ∃ S', h = lay S' ++ J ∧ frM [40, 41, 42, 43, 44] [19, 20, 21] S S' ∧ R S'
section STQ
variable {K : jK} {M : jR} {d pc : Nat} {ls : List (Nat × Value)} {st st0 : List Value} {h : jH} {Q : jO → jH → Prop} {mc ms : Nat}
theorem j_stq {S : jS} {J : jH} {v : Int32} {R : jS → Prop} (hcall : jCall K M d pc ls st0 st h (stQ S J v R) 0 0) (hh : M.2.2.2.2 = []) (k : ∀ S', frM [40, 41, 42, 43, 44] [19, 20, 21] S S' → R S' → jE K M d (pc + 3) ls (.int v :: st) (lay S' ++ J) Q mc ms) : jE K M d pc ls st0 h Q mc ms :=
  j_ret0 hcall hh (fun v' g' hq => by
    obtain ⟨hv, S', rfl, h1, h2⟩ := hq
    cases hv
    exact k S' h1 h2) (fun k' g' hq => by cases hq.1)
theorem j_msq {X Y : List Nat} {S : jS} {J : jH} {C : List (Int32 × Int32)} {P : List Int32} (hcall : jCall K M d pc ls st0 st h (msQ X Y S J C P) 0 0) (hh : M.2.2.2.2 = []) (k : ∀ S', frM X Y S S' → Ms S' C P → jE K M d (pc + 3) ls st (lay S' ++ J) Q mc ms) : jE K M d pc ls st0 h Q mc ms :=
  j_ret0 hcall hh (fun v' g' hq => by
    obtain ⟨hv, S', rfl, h1, h2⟩ := hq
    cases hv
    exact k S' h1 h2) (fun k' g' hq => by cases hq.1)
end STQ
theorem m_M_relate (K : jK) (d : Nat) (hd : 1 ≤ d) (S : jS) (J : jH) (n : Nat) (k : Int32) (b e : Nat) (hT : Tk S n k b e) (C : List (Int32 × Int32)) (P : List Int32) (hM : Ms S C P) : jM K M_M_relate d [.ref 59] (lay S ++ J) (if k = 60 ∨ k = 61 ∨ k = 62 then stQ S J 4 (fun S' => Ms S' C P ∧ S'.1 43 = relc k) else stQ S J 17 (fun _ => True)) 0 0 := by
  refine jM.of (by decide) (Nat.le_of_ble_eq_true rfl) ?_
  have fin : ∀ v : Int32, 0 < v → v = relc k → (k = 60 ∨ k = 61 ∨ k = 62) → jE K M_M_relate d 44 [(0, .ref 59)] [.int v, .ref 59] (lay S ++ J) (if k = 60 ∨ k = 61 ∨ k = 62 then stQ S J 4 (fun S' => Ms S' C P ∧ S'.1 43 = relc k) else stQ S J 17 (fun _ => True)) 0 0 := by
    intro v hv hr hor
    rw [if_pos hor]
    refine j_putf d_M_relate_44 f_M_194 rfl (Nat.le_of_ble_eq_true rfl) rfl rfl rfl ?_
    refine j_hp (h' := lay (s1 S 43 v) ++ J) rfl ?_
    refine j_aload_n d_M_relate_47 rfl ?_
    refine j_getf d_M_relate_48 f_M_194 rfl rfl ?_
    refine j_if_leF (tgt := 58) d_M_relate_51 rfl (Int32.not_le.mpr hv) ?_
    refine j_iconst (v := 4) d_M_relate_54 rfl ?_
    refine j_goto (tgt := 60) d_M_relate_55 rfl ?_
    have f1 : frM [43] [] S (s1 S 43 v) := (frM.rf _ _ S).s1 (by decide) v
    exact j_iret rfl d_M_relate_60 ⟨rfl, _, rfl, f1.up (by decide) (by decide), hM.keep f1 (by decide), hr⟩
  refine j_aload_n d_M_relate_0 rfl ?_
  refine j_aload_n d_M_relate_1 rfl ?_
  refine j_bipush (v := 60) d_M_relate_2 (by decide) ?_
  refine j_retI (j_callV d_M_relate_4 v_M_isIt l_M_175 rfl rfl (m_M_isIt K (d - 1) S J n k b e hT 60 (by decide)) (by omega) (by decide) (Nat.le_of_ble_eq_true rfl) rfl) rfl ?_
  by_cases h1 : k = 60
  · rw [b2i_dT h1]
    refine j_if_eqF (tgt := 15) d_M_relate_7 rfl (by decide) ?_
    refine j_bipush (v := 7) d_M_relate_10 (by decide) ?_
    refine j_goto (tgt := 44) d_M_relate_12 rfl ?_
    exact fin 7 (by decide) (by rw [h1]; rfl) (.inl h1)
  · rw [b2i_dF h1]
    refine j_if_eqT (tgt := 15) d_M_relate_7 rfl rfl ?_
    refine j_aload_n d_M_relate_15 rfl ?_
    refine j_bipush (v := 61) d_M_relate_16 (by decide) ?_
    refine j_retI (j_callV d_M_relate_18 v_M_isIt l_M_175 rfl rfl (m_M_isIt K (d - 1) S J n k b e hT 61 (by decide)) (by omega) (by decide) (Nat.le_of_ble_eq_true rfl) rfl) rfl ?_
    by_cases h2 : k = 61
    · rw [b2i_dT h2]
      refine j_if_eqF (tgt := 29) d_M_relate_21 rfl (by decide) ?_
      refine j_bipush (v := 8) d_M_relate_24 (by decide) ?_
      refine j_goto (tgt := 44) d_M_relate_26 rfl ?_
      exact fin 8 (by decide) (by rw [h2]; rfl) (.inr (.inl h2))
    · rw [b2i_dF h2]
      refine j_if_eqT (tgt := 29) d_M_relate_21 rfl rfl ?_
      refine j_aload_n d_M_relate_29 rfl ?_
      refine j_bipush (v := 62) d_M_relate_30 (by decide) ?_
      refine j_retI (j_callV d_M_relate_32 v_M_isIt l_M_175 rfl rfl (m_M_isIt K (d - 1) S J n k b e hT 62 (by decide)) (by omega) (by decide) (Nat.le_of_ble_eq_true rfl) rfl) rfl ?_
      by_cases h3 : k = 62
      · rw [b2i_dT h3]
        refine j_if_eqF (tgt := 43) d_M_relate_35 rfl (by decide) ?_
        refine j_bipush (v := 9) d_M_relate_38 (by decide) ?_
        refine j_goto (tgt := 44) d_M_relate_40 rfl ?_
        exact fin 9 (by decide) (by rw [h3]; rfl) (.inr (.inr h3))
      · rw [b2i_dF h3]
        refine j_if_eqT (tgt := 43) d_M_relate_35 rfl rfl ?_
        refine j_iconst (v := 0) d_M_relate_43 rfl ?_
        rw [if_neg (by rintro (q | q | q); exact h1 q; exact h2 q; exact h3 q)]
        refine j_putf d_M_relate_44 f_M_194 rfl (Nat.le_of_ble_eq_true rfl) rfl rfl rfl ?_
        refine j_hp (h' := lay (s1 S 43 0) ++ J) rfl ?_
        refine j_aload_n d_M_relate_47 rfl ?_
        refine j_getf d_M_relate_48 f_M_194 rfl rfl ?_
        refine j_if_leT (tgt := 58) d_M_relate_51 rfl (show (0 : Int32) ≤ 0 by decide) ?_
        refine j_bipush (v := 17) d_M_relate_58 (by decide) ?_
        exact j_iret rfl d_M_relate_60 ⟨rfl, _, rfl, (frM.rf _ _ S).s1 (by decide) _, trivial⟩
/-- the orders behind a whole one -/
abbrev twN (P : List Int32) : List (Int32 × Int32) := zer (P.takeWhile (two 3 3))
abbrev dwN (P : List Int32) : List Int32 := P.dropWhile (two 3 3)
theorem m_M_wholeOne (K : jK) (d : Nat) (hd : 2 ≤ d) (S : jS) (J : jH) (C : List (Int32 × Int32)) (P : List Int32) (hM : Ms S C P) (hl : C.length + P.length ≤ 118) (rl : Int32) (hr : S.1 43 = rl) : jM K M_M_wholeOne d [.ref 59] (lay S ++ J) (stQ S J 6 (fun S' => Ms S' (C ++ [(rl, 0)] ++ twN P) (dwN P))) 0 0 := by
  refine jM.of (by decide) (Nat.le_of_ble_eq_true rfl) ?_
  refine j_aload_n d_M_wholeOne_0 rfl ?_
  refine j_aload_n d_M_wholeOne_1 rfl ?_
  refine j_getf d_M_wholeOne_2 f_M_194 rfl rfl ?_
  refine j_top (w := .int rl) (congrArg Value.int hr) ?_
  refine j_iconst (v := 0) d_M_wholeOne_5 rfl ?_
  refine j_retV (j_callV d_M_wholeOne_6 v_M_emit l_M_159 rfl rfl (m_M_emit K (d - 1) S J rl 0 C.length hM.1 (by omega)) (by omega) (by decide) (Nat.le_of_ble_eq_true rfl) rfl) rfl ?_
  refine j_aload_n d_M_wholeOne_9 rfl ?_
  refine j_msq (j_callV d_M_wholeOne_10 v_M_denied l_M_197 rfl rfl (m_M_denied K (d - 1) (by omega) (emS S C.length rl 0) J (C ++ [(rl, 0)]) P (hM.em rl 0) (by simp; omega)) (by omega) (by decide) (Nat.le_of_ble_eq_true rfl) rfl) rfl (fun S' f1 hM1 => ?_)
  refine j_bipush (v := 6) d_M_wholeOne_13 (by decide) ?_
  exact j_iret rfl d_M_wholeOne_15 ⟨rfl, S', rfl, ((((frM.rf [40, 41, 42, 43, 44] [19, 20, 21] S).s2 (by decide) _).s2 (by decide) _).s1 (by decide) _).tr (f1.up (by decide) (by decide)), hM1⟩
/-- the orders behind an operand -/
def thn (t rl : Int32) (C : List (Int32 × Int32)) (P : List Int32) : List (Int32 × Int32) × List Int32 := if t = 6 then (C ++ [(rl, 0)] ++ twN P, dwN P) else (C, P)
def thQ (S : jS) (J : jH) (t rl : Int32) (C : List (Int32 × Int32)) (P : List Int32) : jO → jH → Prop := stQ S J t (fun S' => Ms S' (thn t rl C P).1 (thn t rl C P).2)
theorem Tk.num {S : jS} {n : Nat} {k : Int32} {b e : Nat} (h : Tk S n k b e) : (S.1 36 = 2 ∧ k = 48 ∧ S.1 39 = numV (S.2.1 17) (e - b) b 0) ∨ (¬ S.1 36 = 2 ∧ ¬ k = 48) := by
  obtain ⟨-, -, -, -, -, h4⟩ := h
  rcases h4 with ⟨a1, a2, a3, a4⟩ | ⟨a1, a2, a3, a4, a5, a6, a7, a8⟩ | ⟨a1, a2, a3, a4, a5, a6⟩ | ⟨a1, a2, a3, a4, a5, a6, a7, a8, a9⟩ | ⟨a1, a2⟩
  · exact .inr ⟨by rw [a2]; decide, by rw [a1]; decide⟩
  · exact .inr ⟨by rw [a2]; decide, by rw [a1]; decide⟩
  · exact .inl ⟨a2, a1, a6⟩
  · exact .inr ⟨by rw [a5]; decide, fun z => by rw [z] at a4; exact absurd a4 (by decide)⟩
  · exact .inr ⟨by rw [a2]; decide, by rw [a1]; decide⟩
theorem m_M_negative (K : jK) (d : Nat) (hd : 3 ≤ d) (S : jS) (J : jH) (n : Nat) (k : Int32) (b e : Nat) (hT : Tk S n k b e) (C : List (Int32 × Int32)) (P : List Int32) (hM : Ms S C P) (hl : C.length + P.length ≤ 117) (t rl : Int32) (hr : S.1 43 = rl) : jM K M_M_negative d [.ref 59, .int t] (lay S ++ J) (if k = 48 then thQ S J t rl (C ++ [(6, -(numV (S.2.1 17) (e - b) b 0))]) P else stQ S J 17 (fun _ => True)) 0 0 := by
  refine jM.of (by decide) (Nat.le_of_ble_eq_true rfl) ?_
  refine j_aload_n d_M_negative_0 rfl ?_
  refine j_getf d_M_negative_1 f_M_132 rfl rfl ?_
  refine j_iconst (v := 2) d_M_negative_4 rfl ?_
  rcases hT.num with ⟨h2, hk, ham⟩ | ⟨h2, hk⟩
  · rw [if_pos hk]
    refine j_icmp_eqT (tgt := 11) d_M_negative_5 rfl h2 ?_
    refine j_aload_n d_M_negative_11 rfl ?_
    refine j_bipush (v := 6) d_M_negative_12 (by decide) ?_
    refine j_aload_n d_M_negative_14 rfl ?_
    refine j_getf d_M_negative_15 f_M_115 rfl rfl ?_
    refine j_top (w := .int (numV (S.2.1 17) (e - b) b 0)) (congrArg Value.int ham) ?_
    refine j_ineg d_M_negative_18 ?_
    refine j_retV (j_callV d_M_negative_19 v_M_emit l_M_159 rfl rfl (m_M_emit K (d - 1) S J 6 _ C.length hM.1 (by omega)) (by omega) (by decide) (Nat.le_of_ble_eq_true rfl) rfl) rfl ?_
    refine j_iload_n d_M_negative_22 rfl ?_
    refine j_bipush (v := 6) d_M_negative_23 (by decide) ?_
    by_cases h6 : t = 6
    · refine j_icmp_neF (tgt := 35) d_M_negative_25 rfl h6 ?_
      refine j_aload_n d_M_negative_28 rfl ?_
      refine j_stq (j_callV d_M_negative_29 v_M_wholeOne l_M_188 rfl rfl (m_M_wholeOne K (d - 1) (by omega) (emS S C.length 6 (-(numV (S.2.1 17) (e - b) b 0))) J (C ++ [(6, -(numV (S.2.1 17) (e - b) b 0))]) P (hM.em 6 (-(numV (S.2.1 17) (e - b) b 0))) (by simp; omega) rl hr) (by omega) (by decide) (Nat.le_of_ble_eq_true rfl) rfl) rfl (fun S' f1 hM1 => ?_)
      refine j_goto (tgt := 36) d_M_negative_32 rfl ?_
      refine j_iret rfl d_M_negative_36 ⟨by rw [h6], S', rfl, ((((frM.rf [40, 41, 42, 43, 44] [19, 20, 21] S).s2 (by decide) _).s2 (by decide) _).s1 (by decide) _).tr f1, ?_⟩
      unfold thn
      rw [if_pos h6]
      exact hM1
    · refine j_icmp_neT (tgt := 35) d_M_negative_25 rfl h6 ?_
      refine j_iload_n d_M_negative_35 rfl ?_
      refine j_iret rfl d_M_negative_36 ⟨rfl, _, rfl, ((((frM.rf [40, 41, 42, 43, 44] [19, 20, 21] S).s2 (by decide) _).s2 (by decide) _).s1 (by decide) _), ?_⟩
      unfold thn
      rw [if_neg h6]
      exact (hM.em 6 (-(numV (S.2.1 17) (e - b) b 0)))
  · rw [if_neg hk]
    refine j_icmp_eqF (tgt := 11) d_M_negative_5 rfl h2 ?_
    refine j_bipush (v := 17) d_M_negative_8 (by decide) ?_
    exact j_iret rfl d_M_negative_10 ⟨rfl, S, rfl, frM.rf _ _ _, trivial⟩
theorem m_M_operand (K : jK) (d : Nat) (hd : 3 ≤ d) (S : jS) (J : jH) (n : Nat) (k : Int32) (b e : Nat) (hT : Tk S n k b e) (C : List (Int32 × Int32)) (P : List Int32) (hM : Ms S C P) (hl : C.length + P.length ≤ 117) (mi t rl : Int32) (hr : S.1 43 = rl) (c : Nat) (hc : S.1 31 = nI c) (h6c : c ≤ 6) : jM K M_M_operand d [.ref 59, .int mi, .int t] (lay S ++ J)
    (if k = 45 then stQ S J mi (fun S' => S' = S) else if k = 48 then thQ S J t rl (C ++ [(6, numV (S.2.1 17) (e - b) b 0)]) P else if nmd S c k b e < 0 then stQ S J 17 (fun _ => True) else thQ S J t rl (C ++ [(5, nmd S c k b e)]) P) 0 0 := by
  refine jM.of (by decide) (Nat.le_of_ble_eq_true rfl) ?_
  refine j_aload_n d_M_operand_0 rfl ?_
  refine j_bipush (v := 45) d_M_operand_1 (by decide) ?_
  refine j_retI (j_callV d_M_operand_3 v_M_isIt l_M_175 rfl rfl (m_M_isIt K (d - 1) S J n k b e hT 45 (by decide)) (by omega) (by decide) (Nat.le_of_ble_eq_true rfl) rfl) rfl ?_
  by_cases h1 : k = 45
  · rw [b2i_dT h1, if_pos h1]
    refine j_if_eqF (tgt := 11) d_M_operand_6 rfl (by decide) ?_
    refine j_iload_n d_M_operand_9 rfl ?_
    exact j_iret rfl d_M_operand_10 ⟨rfl, S, rfl, frM.rf _ _ _, rfl⟩
  · rw [b2i_dF h1, if_neg h1]
    refine j_if_eqT (tgt := 11) d_M_operand_6 rfl rfl ?_
    refine j_aload_n d_M_operand_11 rfl ?_
    refine j_getf d_M_operand_12 f_M_132 rfl rfl ?_
    refine j_iconst (v := 2) d_M_operand_15 rfl ?_
    rcases hT.num with ⟨h2, hk, ham⟩ | ⟨h2, hk⟩
    · rw [if_pos hk]
      refine j_icmp_neF (tgt := 44) d_M_operand_16 rfl h2 ?_
      refine j_aload_n d_M_operand_19 rfl ?_
      refine j_bipush (v := 6) d_M_operand_20 (by decide) ?_
      refine j_aload_n d_M_operand_22 rfl ?_
      refine j_getf d_M_operand_23 f_M_115 rfl rfl ?_
      refine j_top (w := .int (numV (S.2.1 17) (e - b) b 0)) (congrArg Value.int ham) ?_
      refine j_retV (j_callV d_M_operand_26 v_M_emit l_M_159 rfl rfl (m_M_emit K (d - 1) S J 6 _ C.length hM.1 (by omega)) (by omega) (by decide) (Nat.le_of_ble_eq_true rfl) rfl) rfl ?_
      refine j_iload_n d_M_operand_29 rfl ?_
      refine j_bipush (v := 6) d_M_operand_30 (by decide) ?_
      by_cases h6 : t = 6
      · refine j_icmp_neF (tgt := 42) d_M_operand_32 rfl h6 ?_
        refine j_aload_n d_M_operand_35 rfl ?_
        refine j_stq (j_callV d_M_operand_36 v_M_wholeOne l_M_188 rfl rfl (m_M_wholeOne K (d - 1) (by omega) (emS S C.length 6 (numV (S.2.1 17) (e - b) b 0)) J (C ++ [(6, numV (S.2.1 17) (e - b) b 0)]) P (hM.em 6 (numV (S.2.1 17) (e - b) b 0)) (by simp; omega) rl hr) (by omega) (by decide) (Nat.le_of_ble_eq_true rfl) rfl) rfl (fun S' f1 hM1 => ?_)
        refine j_goto (tgt := 43) d_M_operand_39 rfl ?_
        refine j_iret rfl d_M_operand_43 ⟨by rw [h6], S', rfl, ((((frM.rf [40, 41, 42, 43, 44] [19, 20, 21] S).s2 (by decide) _).s2 (by decide) _).s1 (by decide) _).tr f1, ?_⟩
        unfold thn
        rw [if_pos h6]
        exact hM1
      · refine j_icmp_neT (tgt := 42) d_M_operand_32 rfl h6 ?_
        refine j_iload_n d_M_operand_42 rfl ?_
        refine j_iret rfl d_M_operand_43 ⟨rfl, _, rfl, ((((frM.rf [40, 41, 42, 43, 44] [19, 20, 21] S).s2 (by decide) _).s2 (by decide) _).s1 (by decide) _), ?_⟩
        unfold thn
        rw [if_neg h6]
        exact (hM.em 6 (numV (S.2.1 17) (e - b) b 0))
    · rw [if_neg hk]
      refine j_icmp_neT (tgt := 44) d_M_operand_16 rfl h2 ?_
      refine j_aload_n d_M_operand_44 rfl ?_
      refine j_retI (j_callV d_M_operand_45 v_M_named l_M_191 rfl rfl (m_M_named K (d - 1) (by omega) S J n k b e hT c hc h6c) (by omega) (by decide) (Nat.le_of_ble_eq_true rfl) rfl) rfl ?_
      by_cases hg : nmd S c k b e < 0
      · rw [if_pos hg]
        refine j_if_geF (tgt := 54) d_M_operand_48 rfl (Int32.not_le.mpr hg) ?_
        refine j_bipush (v := 17) d_M_operand_51 (by decide) ?_
        exact j_iret rfl d_M_operand_53 ⟨rfl, S, rfl, frM.rf _ _ _, trivial⟩
      · rw [if_neg hg]
        refine j_if_geT (tgt := 54) d_M_operand_48 rfl (Int32.not_lt.mp hg) ?_
        refine j_aload_n d_M_operand_54 rfl ?_
        refine j_iconst (v := 5) d_M_operand_55 rfl ?_
        refine j_aload_n d_M_operand_56 rfl ?_
        refine j_retI (j_callV d_M_operand_57 v_M_named l_M_191 rfl rfl (m_M_named K (d - 1) (by omega) S J n k b e hT c hc h6c) (by omega) (by decide) (Nat.le_of_ble_eq_true rfl) rfl) rfl ?_
        refine j_retV (j_callV d_M_operand_60 v_M_emit l_M_159 rfl rfl (m_M_emit K (d - 1) S J 5 _ C.length hM.1 (by omega)) (by omega) (by decide) (Nat.le_of_ble_eq_true rfl) rfl) rfl ?_
        refine j_iload_n d_M_operand_63 rfl ?_
        refine j_bipush (v := 6) d_M_operand_64 (by decide) ?_
        by_cases h6 : t = 6
        · refine j_icmp_neF (tgt := 76) d_M_operand_66 rfl h6 ?_
          refine j_aload_n d_M_operand_69 rfl ?_
          refine j_stq (j_callV d_M_operand_70 v_M_wholeOne l_M_188 rfl rfl (m_M_wholeOne K (d - 1) (by omega) (emS S C.length 5 (nmd S c k b e)) J (C ++ [(5, nmd S c k b e)]) P (hM.em 5 (nmd S c k b e)) (by simp; omega) rl hr) (by omega) (by decide) (Nat.le_of_ble_eq_true rfl) rfl) rfl (fun S' f1 hM1 => ?_)
          refine j_goto (tgt := 77) d_M_operand_73 rfl ?_
          refine j_iret rfl d_M_operand_77 ⟨by rw [h6], S', rfl, ((((frM.rf [40, 41, 42, 43, 44] [19, 20, 21] S).s2 (by decide) _).s2 (by decide) _).s1 (by decide) _).tr f1, ?_⟩
          unfold thn
          rw [if_pos h6]
          exact hM1
        · refine j_icmp_neT (tgt := 76) d_M_operand_66 rfl h6 ?_
          refine j_iload_n d_M_operand_76 rfl ?_
          refine j_iret rfl d_M_operand_77 ⟨rfl, _, rfl, ((((frM.rf [40, 41, 42, 43, 44] [19, 20, 21] S).s2 (by decide) _).s2 (by decide) _).s1 (by decide) _), ?_⟩
          unfold thn
          rw [if_neg h6]
          exact (hM.em 5 (nmd S c k b e))
