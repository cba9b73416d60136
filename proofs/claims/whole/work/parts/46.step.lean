/-! BitLoomModel: one, afterOne -/
theorem m_M_one_p (K : jK) (d : Nat) (hd : 4 ≤ d) (S : jS) (J : jH) (n : Nat) (k : Int32) (b e : Nat) (hT : Tk S n k b e) (C : List (Int32 × Int32)) (P : List Int32) (hM : Ms S C P) (hl : C.length + P.length ≤ 117) (hk : k = 33 ∨ k = 40) : jM K M_M_one d [.ref 59] (lay S ++ J) (if nst P = 8 then stQ S J 17 (fun _ => True) else stQ S J 1 (fun S' => Ms S' C ((if k = 33 then 3 else 4) :: P))) 0 0 := by
  refine jM.of (by decide) (Nat.le_of_ble_eq_true rfl) ?_
  have hns := nst_le P
  have pile : jE K M_M_one d 18 [(0, .ref 59)] [] (lay S ++ J) (if nst P = 8 then stQ S J 17 (fun _ => True) else stQ S J 1 (fun S' => Ms S' C ((if k = 33 then 3 else 4) :: P))) 0 0 := by
    refine j_aload_n d_M_one_18 rfl ?_
    refine j_getf d_M_one_19 f_M_178 rfl rfl ?_
    refine j_top (w := .int (nI (nst P))) (congrArg Value.int hM.2.2.1) ?_
    refine j_bipush (v := 8) d_M_one_22 (by decide) ?_
    by_cases h8 : nst P = 8
    · rw [if_pos h8]
      refine j_icmp_neF (tgt := 30) d_M_one_24 rfl (by rw [h8]; rfl) ?_
      refine j_bipush (v := 17) d_M_one_27 (by decide) ?_
      exact j_iret rfl d_M_one_29 ⟨rfl, S, rfl, frM.rf _ _ _, trivial⟩
    · rw [if_neg h8]
      refine j_icmp_neT (tgt := 30) d_M_one_24 rfl (fun q => h8 ((nI_eq (b := 8) (by omega) (by omega)).mp q)) ?_
      refine j_aload_n d_M_one_30 rfl ?_
      refine j_dup d_M_one_31 rfl ?_
      refine j_getf d_M_one_32 f_M_178 rfl rfl ?_
      refine j_top (w := .int (nI (nst P))) (congrArg Value.int hM.2.2.1) ?_
      refine j_iconst (v := 1) d_M_one_35 rfl ?_
      refine j_iadd d_M_one_36 ?_
      refine j_top (w := .int (nI (nst P + 1))) (by rw [nI_succ]) ?_
      refine j_putf d_M_one_37 f_M_178 rfl (Nat.le_of_ble_eq_true rfl) rfl rfl rfl ?_
      refine j_hp (h' := lay (s1 S 42 (nI (nst P + 1))) ++ J) rfl ?_
      refine j_aload_n d_M_one_40 rfl ?_
      refine j_aload_n d_M_one_41 rfl ?_
      refine j_bipush (v := 33) d_M_one_42 (by decide) ?_
      have f1 : frM [42] [] S (s1 S 42 (nI (nst P + 1))) := (frM.rf _ _ S).s1 (by decide) _
      refine j_retI (j_callV d_M_one_44 v_M_isIt l_M_175 rfl rfl (m_M_isIt K (d - 1) (s1 S 42 (nI (nst P + 1))) J n k b e (hT.keep f1 (by decide)) 33 (by decide)) (by omega) (by decide) (Nat.le_of_ble_eq_true rfl) rfl) rfl ?_
      have push : ∀ x : Int32, (x = 3 ∨ x = 4) → x = (if k = 33 then 3 else 4) → jE K M_M_one d 55 [(0, .ref 59)] [.int x, .ref 59] (lay (s1 S 42 (nI (nst P + 1))) ++ J) (stQ S J 1 (fun S' => Ms S' C ((if k = 33 then 3 else 4) :: P))) 0 0 := by
        intro x hx he
        refine j_retV (j_callV d_M_one_55 v_M_push l_M_181 rfl rfl (m_M_push K (d - 1) (s1 S 42 (nI (nst P + 1))) J x P.length hM.2.1 (by omega)) (by omega) (by decide) (Nat.le_of_ble_eq_true rfl) rfl) rfl ?_
        refine j_iconst (v := 1) d_M_one_58 rfl ?_
        refine j_iret rfl d_M_one_59 ⟨rfl, s1 (s1 (s2 S 21 (upd (S.2.1 21) P.length x)) 41 (nI (P.length + 1))) 42 (nI (nst P + 1)), rfl, ((((frM.rf [40, 41, 42, 43, 44] [19, 20, 21] S).s2 (by decide) _).s1 (by decide) _).s1 (by decide) _), ?_⟩
        rw [← he]
        exact hM.pu x (nst P + 1) (by rw [nst, if_pos hx, Nat.add_comm])
      by_cases h33 : k = 33
      · rw [b2i_dT h33]
        refine j_if_eqF (tgt := 54) d_M_one_47 rfl (by decide) ?_
        refine j_iconst (v := 3) d_M_one_50 rfl ?_
        refine j_goto (tgt := 55) d_M_one_51 rfl ?_
        exact push 3 (.inl rfl) (by rw [if_pos h33])
      · rw [b2i_dF h33]
        refine j_if_eqT (tgt := 54) d_M_one_47 rfl rfl ?_
        refine j_iconst (v := 4) d_M_one_54 rfl ?_
        exact push 4 (.inr rfl) (by rw [if_neg h33])
  refine j_aload_n d_M_one_0 rfl ?_
  refine j_bipush (v := 33) d_M_one_1 (by decide) ?_
  refine j_retI (j_callV d_M_one_3 v_M_isIt l_M_175 rfl rfl (m_M_isIt K (d - 1) S J n k b e hT 33 (by decide)) (by omega) (by decide) (Nat.le_of_ble_eq_true rfl) rfl) rfl ?_
  by_cases h33 : k = 33
  · rw [b2i_dT h33]
    refine j_if_neT (tgt := 18) d_M_one_6 rfl (by decide) ?_
    exact pile
  · rw [b2i_dF h33]
    refine j_if_neF (tgt := 18) d_M_one_6 rfl rfl ?_
    refine j_aload_n d_M_one_9 rfl ?_
    refine j_bipush (v := 40) d_M_one_10 (by decide) ?_
    refine j_retI (j_callV d_M_one_12 v_M_isIt l_M_175 rfl rfl (m_M_isIt K (d - 1) S J n k b e hT 40 (by decide)) (by omega) (by decide) (Nat.le_of_ble_eq_true rfl) rfl) rfl ?_
    rw [b2i_dT (hk.resolve_left h33)]
    refine j_if_eqF (tgt := 60) d_M_one_15 rfl (by decide) ?_
    exact pile
theorem m_M_one_o (K : jK) (d : Nat) (hd : 4 ≤ d) (S : jS) (J : jH) (n : Nat) (k : Int32) (b e : Nat) (hT : Tk S n k b e) (Q : jO → jH → Prop) (hO : jM K M_M_operand (d - 1) [.ref 59, .int 2, .int 3] (lay S ++ J) Q 0 0) (hQ : ∀ o h, Q o h → ∃ v, o = .inl (some (.int v))) (h33 : ¬ k = 33) (h40 : ¬ k = 40) : jM K M_M_one d [.ref 59] (lay S ++ J) Q 0 0 := by
  refine jM.of (by decide) (Nat.le_of_ble_eq_true rfl) ?_
  refine j_aload_n d_M_one_0 rfl ?_
  refine j_bipush (v := 33) d_M_one_1 (by decide) ?_
  refine j_retI (j_callV d_M_one_3 v_M_isIt l_M_175 rfl rfl (m_M_isIt K (d - 1) S J n k b e hT 33 (by decide)) (by omega) (by decide) (Nat.le_of_ble_eq_true rfl) rfl) rfl ?_
  rw [b2i_dF h33]
  refine j_if_neF (tgt := 18) d_M_one_6 rfl rfl ?_
  refine j_aload_n d_M_one_9 rfl ?_
  refine j_bipush (v := 40) d_M_one_10 (by decide) ?_
  refine j_retI (j_callV d_M_one_12 v_M_isIt l_M_175 rfl rfl (m_M_isIt K (d - 1) S J n k b e hT 40 (by decide)) (by omega) (by decide) (Nat.le_of_ble_eq_true rfl) rfl) rfl ?_
  rw [b2i_dF h40]
  refine j_if_eqT (tgt := 60) d_M_one_15 rfl rfl ?_
  refine j_aload_n d_M_one_60 rfl ?_
  refine j_iconst (v := 2) d_M_one_61 rfl ?_
  refine j_iconst (v := 3) d_M_one_62 rfl ?_
  refine j_ret0 (j_callV d_M_one_63 v_M_operand l_M_185 rfl rfl hO (by omega) (by decide) (Nat.le_of_ble_eq_true rfl) rfl) rfl (fun v g hq => ?_) (fun k' g hq => hq)
  obtain ⟨u, hu⟩ := hQ _ _ hq
  cases hu
  exact j_iret rfl d_M_one_66 hq
/-- what the model does behind a whole one -/
def afQ (S : jS) (J : jH) (k : Int32) (b e : Nat) (C : List (Int32 × Int32)) (P : List Int32) : jO → jH → Prop :=
  if k = 38 then stQ S J 1 (fun S' => Ms S' (C ++ zer (P.takeWhile (two 2 2))) (2 :: P.dropWhile (two 2 2)))
  else if k = 124 then stQ S J 1 (fun S' => Ms S' (C ++ zer (P.takeWhile (two 2 1))) (1 :: P.dropWhile (two 2 1)))
  else if P.dropWhile (two 2 1) = [] then stQ S J (actT (actK (S.2.1 17) k b e)) (fun S' => Ms S' (C ++ zer (P.takeWhile (two 2 1))) [] ∧ S'.1 44 = actK (S.2.1 17) k b e)
  else if k = 41 then stQ S J 6 (fun S' => Ms S' (C ++ zer (P.takeWhile (two 2 1)) ++ twN (P.dropWhile (two 2 1)).tail) (dwN (P.dropWhile (two 2 1)).tail))
  else stQ S J 17 (fun _ => True)
theorem tw_len (f : Int32 → Bool) (P : List Int32) : (P.takeWhile f).length + (P.dropWhile f).length = P.length := by
  rw [← List.length_append, List.takeWhile_append_dropWhile]
theorem m_M_afterOne (K : jK) (d : Nat) (hd : 4 ≤ d) (S : jS) (J : jH) (n : Nat) (k : Int32) (b e : Nat) (hT : Tk S n k b e) (C : List (Int32 × Int32)) (P : List Int32) (hM : Ms S C P) (hl : C.length + P.length ≤ 117) (h4 : ∀ x P', P.dropWhile (two 2 1) = x :: P' → x = 4) : jM K M_M_afterOne d [.ref 59] (lay S ++ J) (afQ S J k b e C P) 0 0 := by
  refine jM.of (by decide) (Nat.le_of_ble_eq_true rfl) ?_
  have l1 := tw_len (two 2 2) P
  have l2 := tw_len (two 2 1) P
  unfold afQ
  refine j_aload_n d_M_afterOne_0 rfl ?_
  refine j_bipush (v := 38) d_M_afterOne_1 (by decide) ?_
  refine j_retI (j_callV d_M_afterOne_3 v_M_isIt l_M_175 rfl rfl (m_M_isIt K (d - 1) S J n k b e hT 38 (by decide)) (by omega) (by decide) (Nat.le_of_ble_eq_true rfl) rfl) rfl ?_
  by_cases h38 : k = 38
  · rw [b2i_dT h38, if_pos h38]
    refine j_if_eqF (tgt := 22) d_M_afterOne_6 rfl (by decide) ?_
    refine j_aload_n d_M_afterOne_9 rfl ?_
    refine j_iconst (v := 2) d_M_afterOne_10 rfl ?_
    refine j_iconst (v := 2) d_M_afterOne_11 rfl ?_
    refine j_msq (j_callV d_M_afterOne_12 v_M_settle l_M_200 rfl rfl (m_M_settle K (d - 1) (by omega) S J 2 2 (.inr rfl) (.inr rfl) C P hM (by omega)) (by omega) (by decide) (Nat.le_of_ble_eq_true rfl) rfl) rfl (fun S1 f1 hM1 => ?_)
    refine j_aload_n d_M_afterOne_15 rfl ?_
    refine j_iconst (v := 2) d_M_afterOne_16 rfl ?_
    refine j_retV (j_callV d_M_afterOne_17 v_M_push l_M_181 rfl rfl (m_M_push K (d - 1) S1 J 2 (P.dropWhile (two 2 2)).length hM1.2.1 (by omega)) (by omega) (by decide) (Nat.le_of_ble_eq_true rfl) rfl) rfl ?_
    refine j_iconst (v := 1) d_M_afterOne_20 rfl ?_
    refine j_iret rfl d_M_afterOne_21 ⟨rfl, _, rfl, ((f1.up (by decide) (by decide)).s2 (by decide) _).s1 (by decide) _, ?_⟩
    have := hM1.pu 2 (nst (P.dropWhile (two 2 2))) (by rw [nst, if_neg (by decide), Nat.zero_add])
    refine ⟨this.1, this.2.1, ?_, this.2.2.2.1, this.2.2.2.2⟩
    rw [nst, if_neg (by decide), Nat.zero_add]
    exact hM1.2.2.1
  · rw [b2i_dF h38, if_neg h38]
    refine j_if_eqT (tgt := 22) d_M_afterOne_6 rfl rfl ?_
    refine j_aload_n d_M_afterOne_22 rfl ?_
    refine j_iconst (v := 2) d_M_afterOne_23 rfl ?_
    refine j_iconst (v := 1) d_M_afterOne_24 rfl ?_
    refine j_msq (j_callV d_M_afterOne_25 v_M_settle l_M_200 rfl rfl (m_M_settle K (d - 1) (by omega) S J 2 1 (.inr rfl) (.inl rfl) C P hM (by omega)) (by omega) (by decide) (Nat.le_of_ble_eq_true rfl) rfl) rfl (fun S1 f1 hM1 => ?_)
    have hT1 : Tk S1 n k b e := hT.keep f1 (by decide)
    have e17 : S1.2.1 17 = S.2.1 17 := f1.2.1 17 (by decide)
    have g1 : frM [40, 41, 42, 43, 44] [19, 20, 21] S S1 := f1.up (by decide) (by decide)
    refine j_aload_n d_M_afterOne_28 rfl ?_
    refine j_bipush (v := 124) d_M_afterOne_29 (by decide) ?_
    refine j_retI (j_callV d_M_afterOne_31 v_M_isIt l_M_175 rfl rfl (m_M_isIt K (d - 1) S1 J n k b e hT1 124 (by decide)) (by omega) (by decide) (Nat.le_of_ble_eq_true rfl) rfl) rfl ?_
    by_cases h124 : k = 124
    · rw [b2i_dT h124, if_pos h124]
      refine j_if_eqF (tgt := 44) d_M_afterOne_34 rfl (by decide) ?_
      refine j_aload_n d_M_afterOne_37 rfl ?_
      refine j_iconst (v := 1) d_M_afterOne_38 rfl ?_
      refine j_retV (j_callV d_M_afterOne_39 v_M_push l_M_181 rfl rfl (m_M_push K (d - 1) S1 J 1 (P.dropWhile (two 2 1)).length hM1.2.1 (by omega)) (by omega) (by decide) (Nat.le_of_ble_eq_true rfl) rfl) rfl ?_
      refine j_iconst (v := 1) d_M_afterOne_42 rfl ?_
      refine j_iret rfl d_M_afterOne_43 ⟨rfl, _, rfl, (g1.s2 (by decide) _).s1 (by decide) _, ?_⟩
      have := hM1.pu 1 (nst (P.dropWhile (two 2 1))) (by rw [nst, if_neg (by decide), Nat.zero_add])
      refine ⟨this.1, this.2.1, ?_, this.2.2.2.1, this.2.2.2.2⟩
      rw [nst, if_neg (by decide), Nat.zero_add]
      exact hM1.2.2.1
    · rw [b2i_dF h124, if_neg h124]
      refine j_if_eqT (tgt := 44) d_M_afterOne_34 rfl rfl ?_
      refine j_aload_n d_M_afterOne_44 rfl ?_
      refine j_getf d_M_afterOne_45 f_M_152 rfl rfl ?_
      refine j_top (w := .int (nI (P.dropWhile (two 2 1)).length)) (congrArg Value.int hM1.2.1) ?_
      have hlen0 : (C ++ zer (P.takeWhile (two 2 1))).length + (P.dropWhile (two 2 1)).length ≤ 117 := by rw [List.length_append, zer, List.length_map]; omega
      generalize hP1 : P.dropWhile (two 2 1) = P1 at *
      generalize C ++ zer (P.takeWhile (two 2 1)) = C1 at *
      cases P1 with
      | nil =>
        rw [if_pos rfl]
        refine j_if_neF (tgt := 56) d_M_afterOne_48 rfl rfl ?_
        refine j_aload_n d_M_afterOne_51 rfl ?_
        refine j_retI (j_callV d_M_afterOne_52 v_M_act l_M_172 rfl rfl (m_M_act K (d - 1) (by omega) S1 J n k b e hT1) (by omega) (by decide) (Nat.le_of_ble_eq_true rfl) rfl) rfl ?_
        rw [e17]
        have k2 : frM [44] [] S1 (s1 S1 44 (actK (S.2.1 17) k b e)) := (frM.rf _ _ _).s1 (by decide) _
        exact j_iret rfl d_M_afterOne_55 ⟨rfl, _, rfl, g1.s1 (by decide) _, hM1.keep k2 (by decide), rfl⟩
      | cons x P2 =>
        have hx : x = 4 := h4 x P2 rfl
        subst hx
        rw [if_neg (fun q => by cases q)]
        simp only [List.length_cons] at l2 ⊢
        refine j_if_neT (tgt := 56) d_M_afterOne_48 rfl (fun q => absurd ((nI_eq (b := 0) (by omega) (by omega)).mp q) (by omega)) ?_
        refine j_aload_n d_M_afterOne_56 rfl ?_
        refine j_bipush (v := 41) d_M_afterOne_57 (by decide) ?_
        refine j_retI (j_callV d_M_afterOne_59 v_M_isIt l_M_175 rfl rfl (m_M_isIt K (d - 1) S1 J n k b e hT1 41 (by decide)) (by omega) (by decide) (Nat.le_of_ble_eq_true rfl) rfl) rfl ?_
        by_cases h41 : k = 41
        · rw [b2i_dT h41, if_pos h41]
          refine j_if_neT (tgt := 68) d_M_afterOne_62 rfl (by decide) ?_
          refine j_aload_n d_M_afterOne_68 rfl ?_
          refine j_dup d_M_afterOne_69 rfl ?_
          refine j_getf d_M_afterOne_70 f_M_152 rfl rfl ?_
          refine j_top (w := .int (nI (P2.length + 1))) (congrArg Value.int hM1.2.1) ?_
          refine j_iconst (v := 1) d_M_afterOne_73 rfl ?_
          refine j_isub d_M_afterOne_74 ?_
          refine j_top (w := .int (nI P2.length)) (by show Value.int (nI (P2.length + 1) - nI 1) = _; rw [pk_sub (by omega)]; rfl) ?_
          refine j_putf d_M_afterOne_75 f_M_152 rfl (Nat.le_of_ble_eq_true rfl) rfl rfl rfl ?_
          have hns : S1.1 42 = nI (nst P2 + 1) := by
            have := hM1.2.2.1
            rw [nst, if_pos (.inr rfl), Nat.add_comm] at this
            exact this
          have hle := nst_le P2
          refine j_aload_n d_M_afterOne_78 rfl ?_
          refine j_dup d_M_afterOne_79 rfl ?_
          refine j_getf d_M_afterOne_80 f_M_178 rfl rfl ?_
          refine j_top (w := .int (nI (nst P2 + 1))) (congrArg Value.int hns) ?_
          refine j_iconst (v := 1) d_M_afterOne_83 rfl ?_
          refine j_isub d_M_afterOne_84 ?_
          refine j_top (w := .int (nI (nst P2))) (by show Value.int (nI (nst P2 + 1) - nI 1) = _; rw [pk_sub (by omega)]; rfl) ?_
          refine j_putf d_M_afterOne_85 f_M_178 rfl (Nat.le_of_ble_eq_true rfl) rfl rfl rfl ?_
          refine j_hp (h' := lay (s1 (s1 S1 41 (nI P2.length)) 42 (nI (nst P2))) ++ J) rfl ?_
          refine j_aload_n d_M_afterOne_88 rfl ?_
          have hM2 : Ms (s1 (s1 S1 41 (nI P2.length)) 42 (nI (nst P2))) C1 P2 := ⟨hM1.1, rfl, rfl, hM1.2.2.2.1, hM1.rest⟩
          refine j_msq (j_callV d_M_afterOne_89 v_M_denied l_M_197 rfl rfl (m_M_denied K (d - 1) (by omega) (s1 (s1 S1 41 (nI P2.length)) 42 (nI (nst P2))) J C1 P2 hM2 (by simp only [List.length_cons] at hlen0; omega)) (by omega) (by decide) (Nat.le_of_ble_eq_true rfl) rfl) rfl (fun S3 f3 hM3 => ?_)
          refine j_bipush (v := 6) d_M_afterOne_92 (by decide) ?_
          exact j_iret rfl d_M_afterOne_94 ⟨rfl, S3, rfl, ((g1.s1 (by decide) _).s1 (by decide) _).tr (f3.up (by decide) (by decide)), hM3⟩
        · rw [b2i_dF h41, if_neg h41]
          refine j_if_neF (tgt := 68) d_M_afterOne_62 rfl rfl ?_
          refine j_bipush (v := 17) d_M_afterOne_65 (by decide) ?_
          exact j_iret rfl d_M_afterOne_67 ⟨rfl, S1, rfl, g1, trivial⟩
