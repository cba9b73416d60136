/-! BitLoomModel: settle, denied, isIt, named -/
theorem j_ret00 : True := trivial
/-- the pile's top goes to the orders while it is of these -/
def msQ (X Y : List Nat) (S : jS) (J : jH) (C : List (Int32 × Int32)) (P : List Int32) : jO → jH → Prop := fun o h => o = .inl none ∧ ∃ S', h = lay S' ++ J ∧ frM X Y S S' ∧ Ms S' C P
def two (a b x : Int32) : Bool := decide (x = a) || decide (x = b)
def zer (P : List Int32) : List (Int32 × Int32) := P.map fun x => (x, 0)
theorem nst_le (P : List Int32) : nst P ≤ P.length := by
  induction P with
  | nil => exact Nat.le_refl _
  | cons x P ih => unfold nst; simp only [List.length_cons]; split <;> omega
theorem m_M_settle (K : jK) (d : Nat) (hd : 1 ≤ d) (S : jS) (J : jH) (a b : Int32) (ha : a = 1 ∨ a = 2) (hb : b = 1 ∨ b = 2) (C : List (Int32 × Int32)) (P : List Int32) (h : Ms S C P) (hl : C.length + P.length ≤ 119) : jM K M_M_settle d [.ref 59, .int a, .int b] (lay S ++ J) (msQ [40, 41] [19, 20] S J (C ++ zer (P.takeWhile (two a b))) (P.dropWhile (two a b))) 0 0 := by
  refine jM.of (by decide) (Nat.le_of_ble_eq_true rfl) ?_
  have loop : ∀ (P0 : List Int32) (S0 : jS) (C0 : List (Int32 × Int32)), frM [40, 41] [19, 20] S S0 → Ms S0 C0 P0 → C0.length + P0.length ≤ 119 → C0 ++ zer (P0.takeWhile (two a b)) = C ++ zer (P.takeWhile (two a b)) → P0.dropWhile (two a b) = P.dropWhile (two a b) → jE K M_M_settle d 0 [(0, .ref 59), (1, .int a), (2, .int b)] [] (lay S0 ++ J) (msQ [40, 41] [19, 20] S J (C ++ zer (P.takeWhile (two a b))) (P.dropWhile (two a b))) 0 0 := by
    intro P0
    induction P0 with
    | nil =>
      intro S0 C0 hf hM hl0 hC hP
      refine j_aload_n d_M_settle_0 rfl ?_
      refine j_retI (j_callV d_M_settle_1 v_M_upper l_M_155 rfl rfl (m_M_upper K (d - 1) S0 J C0 [] hM (by simp)) (by omega) (by decide) (Nat.le_of_ble_eq_true rfl) rfl) rfl ?_
      refine j_iload_n d_M_settle_4 rfl ?_
      refine j_icmp_eqF (tgt := 16) d_M_settle_5 rfl (by rcases ha with q | q <;> rw [q] <;> decide) ?_
      refine j_aload_n d_M_settle_8 rfl ?_
      refine j_retI (j_callV d_M_settle_9 v_M_upper l_M_155 rfl rfl (m_M_upper K (d - 1) S0 J C0 [] hM (by simp)) (by omega) (by decide) (Nat.le_of_ble_eq_true rfl) rfl) rfl ?_
      refine j_iload_n d_M_settle_12 rfl ?_
      refine j_icmp_neT (tgt := 43) d_M_settle_13 rfl (by rcases hb with q | q <;> rw [q] <;> decide) ?_
      refine j_vret rfl d_M_settle_43 ⟨rfl, S0, rfl, hf, ?_⟩
      rw [← hC, ← hP]
      simpa [zer] using hM
    | cons x P0 ih =>
      intro S0 C0 hf hM hl0 hC hP
      simp only [List.length_cons] at hl0
      have pop : two a b x = true → ∀ ls, j_lg ls 0 = some (.ref 59) → j_lg ls 1 = some (.int a) → j_lg ls 2 = some (.int b) → jE K M_M_settle d 16 ls [] (lay S0 ++ J) (msQ [40, 41] [19, 20] S J (C ++ zer (P.takeWhile (two a b))) (P.dropWhile (two a b))) 0 0 := by
        intro hx ls l0 l1 l2
        have hx12 : x = 1 ∨ x = 2 := by
          unfold two at hx
          rw [Bool.or_eq_true] at hx
          rcases hx with q | q
          · rw [of_decide_eq_true q]; exact ha
          · rw [of_decide_eq_true q]; exact hb
        refine j_aload_n d_M_settle_16 l0 ?_
        refine j_dup d_M_settle_17 rfl ?_
        refine j_getf d_M_settle_18 f_M_152 rfl rfl ?_
        refine j_top (w := .int (nI (P0.length + 1))) (congrArg Value.int hM.2.1) ?_
        refine j_iconst (v := 1) d_M_settle_21 rfl ?_
        refine j_isub d_M_settle_22 ?_
        refine j_top (w := .int (nI P0.length)) (by show Value.int (nI (P0.length + 1) - nI 1) = _; rw [pk_sub (by omega)]; rfl) ?_
        refine j_putf d_M_settle_23 f_M_152 rfl (Nat.le_of_ble_eq_true rfl) rfl rfl rfl ?_
        refine j_hp (h' := lay (s1 S0 41 (nI P0.length)) ++ J) rfl ?_
        refine j_aload_n d_M_settle_26 l0 ?_
        refine j_aload_n d_M_settle_27 l0 ?_
        refine j_getf d_M_settle_28 f_M_49 rfl rfl ?_
        refine j_aload_n d_M_settle_31 l0 ?_
        refine j_getf d_M_settle_32 f_M_152 rfl rfl ?_
        refine j_iald (j := P0.length) d_M_settle_35 rfl (show P0.length < 120 by omega) (by decide) ?_
        refine j_top (w := .int x) (congrArg Value.int hM.top) ?_
        refine j_iconst (v := 0) d_M_settle_36 rfl ?_
        refine j_retV (j_callV d_M_settle_37 v_M_emit l_M_159 rfl rfl (m_M_emit K (d - 1) (s1 S0 41 (nI P0.length)) J x 0 C0.length hM.1 (by omega)) (by omega) (by decide) (Nat.le_of_ble_eq_true rfl) rfl) rfl ?_
        refine j_goto (tgt := 0) d_M_settle_40 rfl ?_
        refine j_loc' [(0, .ref 59), (1, .int a), (2, .int b)] ⟨l0, l1, l2, trivial⟩ ?_
        have hM1 : Ms (s1 S0 41 (nI P0.length)) C0 P0 := ⟨hM.1, rfl, by
          have := hM.2.2.1
          rw [nst, if_neg (by rcases hx12 with q | q <;> rw [q] <;> decide), Nat.zero_add] at this
          exact this, hM.2.2.2.1, hM.rest⟩
        refine ih (emS (s1 S0 41 (nI P0.length)) C0.length x 0) (C0 ++ [(x, 0)]) ?_ (hM1.em x 0) (by simp; omega) ?_ ?_
        · exact (((hf.s1 (by decide) _).s2 (by decide) _).s2 (by decide) _).s1 (by decide) _
        · rw [← hC, List.takeWhile_cons_of_pos hx, List.append_assoc]; rfl
        · rw [← hP, List.dropWhile_cons_of_pos hx]
      refine j_aload_n d_M_settle_0 rfl ?_
      refine j_retI (j_callV d_M_settle_1 v_M_upper l_M_155 rfl rfl (m_M_upper K (d - 1) S0 J C0 (x :: P0) hM (by simp; omega)) (by omega) (by decide) (Nat.le_of_ble_eq_true rfl) rfl) rfl ?_
      refine j_iload_n d_M_settle_4 rfl ?_
      refine j_icmp_eq (tgt := 16) d_M_settle_5 rfl (fun q => ?_) (fun q => ?_)
      · exact pop (by unfold two; rw [decide_eq_true (show x = a from q)]; rfl) _ rfl rfl rfl
      · refine j_aload_n d_M_settle_8 rfl ?_
        refine j_retI (j_callV d_M_settle_9 v_M_upper l_M_155 rfl rfl (m_M_upper K (d - 1) S0 J C0 (x :: P0) hM (by simp; omega)) (by omega) (by decide) (Nat.le_of_ble_eq_true rfl) rfl) rfl ?_
        refine j_iload_n d_M_settle_12 rfl ?_
        by_cases q2 : x = b
        · refine j_icmp_neF (tgt := 43) d_M_settle_13 rfl q2 ?_
          exact pop (by unfold two; rw [decide_eq_true q2, Bool.or_true]) _ rfl rfl rfl
        · refine j_icmp_neT (tgt := 43) d_M_settle_13 rfl q2 ?_
          have hx : ¬ two a b x = true := by
            unfold two
            rw [decide_eq_false (show ¬ x = a from q), decide_eq_false q2]
            decide
          refine j_vret rfl d_M_settle_43 ⟨rfl, S0, rfl, hf, ?_⟩
          rw [← hC, ← hP, List.takeWhile_cons_of_neg hx, List.dropWhile_cons_of_neg hx]
          simpa [zer] using hM
  exact loop P S C (frM.rf _ _ _) h hl rfl rfl
theorem m_M_denied (K : jK) (d : Nat) (hd : 1 ≤ d) (S : jS) (J : jH) (C : List (Int32 × Int32)) (P : List Int32) (h : Ms S C P) (hl : C.length + P.length ≤ 119) : jM K M_M_denied d [.ref 59] (lay S ++ J) (msQ [40, 41, 42] [19, 20] S J (C ++ zer (P.takeWhile (two 3 3))) (P.dropWhile (two 3 3))) 0 0 := by
  refine jM.of (by decide) (Nat.le_of_ble_eq_true rfl) ?_
  have loop : ∀ (P0 : List Int32) (S0 : jS) (C0 : List (Int32 × Int32)), frM [40, 41, 42] [19, 20] S S0 → Ms S0 C0 P0 → C0.length + P0.length ≤ 119 → C0 ++ zer (P0.takeWhile (two 3 3)) = C ++ zer (P.takeWhile (two 3 3)) → P0.dropWhile (two 3 3) = P.dropWhile (two 3 3) → jE K M_M_denied d 0 [(0, .ref 59)] [] (lay S0 ++ J) (msQ [40, 41, 42] [19, 20] S J (C ++ zer (P.takeWhile (two 3 3))) (P.dropWhile (two 3 3))) 0 0 := by
    intro P0
    induction P0 with
    | nil =>
      intro S0 C0 hf hM hl0 hC hP
      refine j_aload_n d_M_denied_0 rfl ?_
      refine j_retI (j_callV d_M_denied_1 v_M_upper l_M_155 rfl rfl (m_M_upper K (d - 1) S0 J C0 [] hM (by simp)) (by omega) (by decide) (Nat.le_of_ble_eq_true rfl) rfl) rfl ?_
      refine j_iconst (v := 3) d_M_denied_4 rfl ?_
      refine j_icmp_neT (tgt := 37) d_M_denied_5 rfl (show ¬ (0 : Int32) = 3 by decide) ?_
      refine j_vret rfl d_M_denied_37 ⟨rfl, S0, rfl, hf, ?_⟩
      rw [← hC, ← hP]
      simpa [zer] using hM
    | cons x P0 ih =>
      intro S0 C0 hf hM hl0 hC hP
      simp only [List.length_cons] at hl0
      refine j_aload_n d_M_denied_0 rfl ?_
      refine j_retI (j_callV d_M_denied_1 v_M_upper l_M_155 rfl rfl (m_M_upper K (d - 1) S0 J C0 (x :: P0) hM (by simp; omega)) (by omega) (by decide) (Nat.le_of_ble_eq_true rfl) rfl) rfl ?_
      refine j_iconst (v := 3) d_M_denied_4 rfl ?_
      by_cases q : x = 3
      · refine j_icmp_neF (tgt := 37) d_M_denied_5 rfl q ?_
        subst q
        refine j_aload_n d_M_denied_8 rfl ?_
        refine j_dup d_M_denied_9 rfl ?_
        refine j_getf d_M_denied_10 f_M_152 rfl rfl ?_
        refine j_top (w := .int (nI (P0.length + 1))) (congrArg Value.int hM.2.1) ?_
        refine j_iconst (v := 1) d_M_denied_13 rfl ?_
        refine j_isub d_M_denied_14 ?_
        refine j_top (w := .int (nI P0.length)) (by show Value.int (nI (P0.length + 1) - nI 1) = _; rw [pk_sub (by omega)]; rfl) ?_
        refine j_putf d_M_denied_15 f_M_152 rfl (Nat.le_of_ble_eq_true rfl) rfl rfl rfl ?_
        have hns : S0.1 42 = nI (nst P0 + 1) := by
          have := hM.2.2.1
          rw [nst, if_pos (.inl rfl), Nat.add_comm] at this
          exact this
        refine j_aload_n d_M_denied_18 rfl ?_
        refine j_dup d_M_denied_19 rfl ?_
        refine j_getf d_M_denied_20 f_M_178 rfl rfl ?_
        refine j_top (w := .int (nI (nst P0 + 1))) (congrArg Value.int hns) ?_
        refine j_iconst (v := 1) d_M_denied_23 rfl ?_
        refine j_isub d_M_denied_24 ?_
        refine j_top (w := .int (nI (nst P0))) (by show Value.int (nI (nst P0 + 1) - nI 1) = _; rw [pk_sub (by omega)]; rfl) ?_
        refine j_putf d_M_denied_25 f_M_178 rfl (Nat.le_of_ble_eq_true rfl) rfl rfl rfl ?_
        refine j_hp (h' := lay (s1 (s1 S0 41 (nI P0.length)) 42 (nI (nst P0))) ++ J) rfl ?_
        refine j_aload_n d_M_denied_28 rfl ?_
        refine j_iconst (v := 3) d_M_denied_29 rfl ?_
        refine j_iconst (v := 0) d_M_denied_30 rfl ?_
        refine j_retV (j_callV d_M_denied_31 v_M_emit l_M_159 rfl rfl (m_M_emit K (d - 1) (s1 (s1 S0 41 (nI P0.length)) 42 (nI (nst P0))) J 3 0 C0.length hM.1 (by omega)) (by omega) (by decide) (Nat.le_of_ble_eq_true rfl) rfl) rfl ?_
        refine j_goto (tgt := 0) d_M_denied_34 rfl ?_
        have hM1 : Ms (s1 (s1 S0 41 (nI P0.length)) 42 (nI (nst P0))) C0 P0 := ⟨hM.1, rfl, rfl, hM.2.2.2.1, hM.rest⟩
        refine ih (emS (s1 (s1 S0 41 (nI P0.length)) 42 (nI (nst P0))) C0.length 3 0) (C0 ++ [(3, 0)]) ?_ (hM1.em 3 0) (by simp; omega) ?_ ?_
        · exact ((((hf.s1 (by decide) _).s1 (by decide) _).s2 (by decide) _).s2 (by decide) _).s1 (by decide) _
        · rw [← hC, List.takeWhile_cons_of_pos (by decide), List.append_assoc]; rfl
        · rw [← hP, List.dropWhile_cons_of_pos (by decide)]
      · refine j_icmp_neT (tgt := 37) d_M_denied_5 rfl q ?_
        have hx : ¬ two 3 3 x = true := by
          unfold two
          rw [decide_eq_false q]
          decide
        refine j_vret rfl d_M_denied_37 ⟨rfl, S0, rfl, hf, ?_⟩
        rw [← hC, ← hP, List.takeWhile_cons_of_neg hx, List.dropWhile_cons_of_neg hx]
        simpa [zer] using hM
  exact loop P S C (frM.rf _ _ _) h hl rfl rfl
abbrev sgC (c : Int32) : Prop := ¬ c = 46 ∧ ¬ c = 97 ∧ ¬ c = 48 ∧ ¬ c = 63
theorem Tk.kind {S : jS} {n : Nat} {k : Int32} {b e : Nat} (h : Tk S n k b e) {c : Int32} (hc : sgC c) : (S.1 36 = 3 ∧ b < n ∧ k = S.2.1 17 b) ∨ (¬ S.1 36 = 3 ∧ ¬ k = c) := by
  obtain ⟨-, -, -, -, -, h4⟩ := h
  rcases h4 with ⟨a1, a2, a3, a4⟩ | ⟨a1, a2, a3, a4, a5, a6, a7, a8⟩ | ⟨a1, a2, a3, a4, a5, a6⟩ | ⟨a1, a2, a3, a4, a5, a6, a7, a8, a9⟩ | ⟨a1, a2⟩
  · exact .inr ⟨by rw [a2]; decide, by rw [a1]; exact fun q => hc.1 q.symm⟩
  · exact .inr ⟨by rw [a2]; decide, by rw [a1]; exact fun q => hc.2.1 q.symm⟩
  · exact .inr ⟨by rw [a2]; decide, by rw [a1]; exact fun q => hc.2.2.1 q.symm⟩
  · exact .inl ⟨a5, a6, a1⟩
  · exact .inr ⟨by rw [a2]; decide, by rw [a1]; exact fun q => hc.2.2.2 q.symm⟩
theorem m_M_isIt (K : jK) (d : Nat) (S : jS) (J : jH) (n : Nat) (k : Int32) (b e : Nat) (hT : Tk S n k b e) (c : Int32) (hc : sgC c) : jM K M_M_isIt d [.ref 59, .int c] (lay S ++ J) (rI (b2i (decide (k = c))) (lay S ++ J)) 0 0 := by
  refine jM.of (by decide) (Nat.le_of_ble_eq_true rfl) ?_
  have hb := hT.2.2.2.1
  have h100 := hT.2.1
  refine j_aload_n d_M_isIt_0 rfl ?_
  refine j_getf d_M_isIt_1 f_M_132 rfl rfl ?_
  refine j_iconst (v := 3) d_M_isIt_4 rfl ?_
  rcases hT.kind hc with ⟨h3, hbn, hk⟩ | ⟨h3, hk⟩
  · refine j_icmp_neF (tgt := 25) d_M_isIt_5 rfl h3 ?_
    refine j_aload_n d_M_isIt_8 rfl ?_
    refine j_getf d_M_isIt_9 f_M_33 rfl rfl ?_
    refine j_aload_n d_M_isIt_12 rfl ?_
    refine j_getf d_M_isIt_13 f_M_105 rfl rfl ?_
    refine j_top (w := .int (nI b)) (congrArg Value.int hb) ?_
    refine j_cald d_M_isIt_16 rfl (show b < 100 by omega) (by decide) ?_
    refine j_iload_n d_M_isIt_17 rfl ?_
    by_cases q : k = c
    · rw [b2i_dT q]
      refine j_icmp_neF (tgt := 25) d_M_isIt_18 rfl (hk ▸ q) ?_
      refine j_iconst (v := 1) d_M_isIt_21 rfl ?_
      refine j_goto (tgt := 26) d_M_isIt_22 rfl ?_
      exact j_zret rfl rfl d_M_isIt_26 ⟨rfl, rfl⟩
    · rw [b2i_dF q]
      refine j_icmp_neT (tgt := 25) d_M_isIt_18 rfl (hk ▸ q) ?_
      refine j_iconst (v := 0) d_M_isIt_25 rfl ?_
      exact j_zret rfl rfl d_M_isIt_26 ⟨rfl, rfl⟩
  · rw [b2i_dF hk]
    refine j_icmp_neT (tgt := 25) d_M_isIt_5 rfl h3 ?_
    refine j_iconst (v := 0) d_M_isIt_25 rfl ?_
    exact j_zret rfl rfl d_M_isIt_26 ⟨rfl, rfl⟩
/-- the field that the token names, or -1 -/
def nmd (S : jS) (c : Nat) (k : Int32) (b e : Nat) : Int32 := if isLt k b e = true then fdL (S.2.1 13) (S.2.1 17 b) c 0 (-1) else -1
theorem m_M_named (K : jK) (d : Nat) (hd : 1 ≤ d) (S : jS) (J : jH) (n : Nat) (k : Int32) (b e : Nat) (hT : Tk S n k b e) (c : Nat) (hc : S.1 31 = nI c) (h6 : c ≤ 6) : jM K M_M_named d [.ref 59] (lay S ++ J) (rI (nmd S c k b e) (lay S ++ J)) 0 0 := by
  refine jM.of (by decide) (Nat.le_of_ble_eq_true rfl) ?_
  have hb := hT.2.2.2.1
  have h100 := hT.2.1
  have no : ¬ S.1 36 = 1 → ¬ k = 97 → jE K M_M_named d 5 [(0, .ref 59)] [.int 1, .int (S.1 36)] (lay S ++ J) (rI (nmd S c k b e) (lay S ++ J)) 0 0 := by
    intro h1 hk
    refine j_icmp_neT (tgt := 37) d_M_named_5 rfl h1 ?_
    refine j_iconst (v := -1) d_M_named_37 rfl ?_
    exact j_iret rfl d_M_named_38 ⟨by rw [nmd, isLt, decide_eq_false hk]; rfl, rfl⟩
  refine j_aload_n d_M_named_0 rfl ?_
  refine j_getf d_M_named_1 f_M_132 rfl rfl ?_
  refine j_iconst (v := 1) d_M_named_4 rfl ?_
  obtain ⟨-, -, -, -, -, h4⟩ := hT
  rcases h4 with ⟨a1, a2, a3, a4⟩ | ⟨a1, a2, a3, a4, a5, a6, a7, a8⟩ | ⟨a1, a2, a3, a4, a5, a6⟩ | ⟨a1, a2, a3, a4, a5, a6, a7, a8, a9⟩ | ⟨a1, a2⟩
  · exact no (by rw [a2]; decide) (by rw [a1]; decide)
  · refine j_icmp_neF (tgt := 37) d_M_named_5 rfl a2 ?_
    refine j_aload_n d_M_named_8 rfl ?_
    refine j_getf d_M_named_9 f_M_112 rfl rfl ?_
    refine j_top (w := .int (nI e)) (congrArg Value.int a4) ?_
    refine j_aload_n d_M_named_12 rfl ?_
    refine j_getf d_M_named_13 f_M_105 rfl rfl ?_
    refine j_iconst (v := 1) d_M_named_16 rfl ?_
    refine j_iadd d_M_named_17 ?_
    refine j_top (w := .int (nI (b + 1))) (by rw [nI_succ]; exact congrArg (fun x => Value.int (x + 1)) hb) ?_
    by_cases q : e = b + 1
    · refine j_icmp_neF (tgt := 37) d_M_named_18 rfl (by rw [q]) ?_
      refine j_aload_n d_M_named_21 rfl ?_
      refine j_aload_n d_M_named_22 rfl ?_
      refine j_getf d_M_named_23 f_M_33 rfl rfl ?_
      refine j_aload_n d_M_named_26 rfl ?_
      refine j_getf d_M_named_27 f_M_105 rfl rfl ?_
      refine j_top (w := .int (nI b)) (congrArg Value.int hb) ?_
      refine j_cald d_M_named_30 rfl (show b < 100 by omega) (by decide) ?_
      refine j_retI (j_callV d_M_named_31 v_M_fieldOf l_M_79 rfl rfl (m_M_fieldOf K (d - 1) S J (S.2.1 17 b) c hc h6) (by omega) (by decide) (Nat.le_of_ble_eq_true rfl) rfl) rfl ?_
      refine j_goto (tgt := 38) d_M_named_34 rfl ?_
      exact j_iret rfl d_M_named_38 ⟨by rw [nmd, isLt, decide_eq_true a1, decide_eq_true (show e - b = 1 by omega)]; rfl, rfl⟩
    · refine j_icmp_neT (tgt := 37) d_M_named_18 rfl (fun z => q ((nI_eq (by omega) (by omega)).mp z)) ?_
      refine j_iconst (v := -1) d_M_named_37 rfl ?_
      exact j_iret rfl d_M_named_38 ⟨by rw [nmd, isLt, decide_eq_false (show ¬ e - b = 1 by omega), Bool.and_false]; rfl, rfl⟩
  · exact no (by rw [a2]; decide) (by rw [a1]; decide)
  · exact no (by rw [a5]; decide) (fun z => by rw [z] at a3; exact absurd a3 (by decide))
  · exact no (by rw [a2]; decide) (by rw [a1]; decide)
