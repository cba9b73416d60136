/-! BitLoomModel: the token that is looked at; isIt, named, emit, upper, push, settle, denied -/
/-- the model looks at the token (k, b, e) -/
def Tk (S : jS) (n : Nat) (k : Int32) (b e : Nat) : Prop := S.1 32 = nI n ∧ n ≤ 100 ∧ chOk (S.2.1 17) ∧ S.1 37 = nI b ∧ b ≤ n ∧ (
  (k = 46 ∧ S.1 36 = 0 ∧ b = n ∧ S.1 39 = 0) ∨
  (k = 97 ∧ S.1 36 = 1 ∧ b < n ∧ S.1 38 = nI e ∧ b < e ∧ e ≤ n ∧ S.1 39 = 0 ∧ S.2.2.1 = ltL (S.2.1 17) b (e - b) 0 0) ∨
  (k = 48 ∧ S.1 36 = 2 ∧ b < n ∧ S.1 38 = nI e ∧ e ≤ n ∧ S.1 39 = numV (S.2.1 17) (e - b) b 0) ∨
  (k = S.2.1 17 b ∧ isSg k = true ∧ isL k = false ∧ isD k = false ∧ S.1 36 = 3 ∧ b < n ∧ S.1 38 = nI e ∧ e ≤ n ∧ S.1 39 = 0) ∨
  (k = 63 ∧ S.1 36 = 4))
theorem Scn.tk {S : jS} {n p : Nat} {kd : Int32} {b e : Nat} {am : Int32} {lt : Int64} (h : Scn (S.2.1 17) n p kd b e am lt) (hn : S.1 32 = nI n) (h100 : n ≤ 100) (hc : chOk (S.2.1 17)) : ∃ k e1 r, tokL (S.2.1 17) n p = (k, b, e1) :: r ∧ Tk (scS S kd (nI b) (nI e) am lt) n k b e1 ∧ (¬ k = 46 → ¬ k = 63 → e = e1 ∧ e ≤ n ∧ r = tokL (S.2.1 17) n e1) ∧ (k = 46 → r = []) := by
  obtain ⟨k, e1, r, h1, h2, h3, h4⟩ := h
  refine ⟨k, e1, r, h1, ⟨hn, h100, hc, rfl, h2, ?_⟩, ?_, ?_⟩
  · rcases h4 with ⟨a1, a2, a3, a4, a5⟩ | ⟨a1, a2, a3, a4, a5, a6, a7, a8⟩ | ⟨a1, a2, a3, a4, a5, a6⟩ | ⟨a1, a2, a3, a4, a5, a6, a7, a8, a9⟩ | ⟨a1, a2⟩
    · exact .inl ⟨a1, a2, a3, a5⟩
    · subst a4; exact .inr (.inl ⟨a1, a2, a3, rfl, a5, h3, a6, a7⟩)
    · subst a4; exact .inr (.inr (.inl ⟨a1, a2, a3, rfl, h3, a5⟩))
    · subst a7; exact .inr (.inr (.inr (.inl ⟨a1, a2, a3, a4, a5, a6, rfl, h3, a8⟩)))
    · exact .inr (.inr (.inr (.inr ⟨a1, a2⟩)))
  · intro q1 q2
    rcases h4 with ⟨a1, a2, a3, a4, a5⟩ | ⟨a1, a2, a3, a4, a5, a6, a7, a8⟩ | ⟨a1, a2, a3, a4, a5, a6⟩ | ⟨a1, a2, a3, a4, a5, a6, a7, a8, a9⟩ | ⟨a1, a2⟩
    · exact absurd a1 q1
    · exact ⟨a4, h3, a8⟩
    · exact ⟨a4, h3, a6⟩
    · exact ⟨a7, h3, a9⟩
    · exact absurd a1 q2
  · intro q1
    rcases h4 with ⟨a1, a2, a3, a4, a5⟩ | ⟨a1, a2, a3, a4, a5, a6, a7, a8⟩ | ⟨a1, a2, a3, a4, a5, a6⟩ | ⟨a1, a2, a3, a4, a5, a6, a7, a8, a9⟩ | ⟨a1, a2⟩
    · exact a4
    · rw [q1] at a1; exact absurd a1 (by decide)
    · rw [q1] at a1; exact absurd a1 (by decide)
    · exact absurd q1 (isSg_46 a2)
    · rw [q1] at a1; exact absurd a1 (by decide)
/-- the same but for these numbers and arrays -/
def frM (X Y : List Nat) (S S' : jS) : Prop := (∀ i, ¬ i ∈ X → S'.1 i = S.1 i) ∧ (∀ i, ¬ i ∈ Y → S'.2.1 i = S.2.1 i) ∧ S'.2.2 = S.2.2
theorem frM.rf (X Y : List Nat) (S : jS) : frM X Y S S := ⟨fun _ _ => rfl, fun _ _ => rfl, rfl⟩
theorem frM.tr {X Y : List Nat} {A B C : jS} (h : frM X Y A B) (g : frM X Y B C) : frM X Y A C := ⟨fun i hi => (g.1 i hi).trans (h.1 i hi), fun i hi => (g.2.1 i hi).trans (h.2.1 i hi), g.2.2.trans h.2.2⟩
theorem frM.up {X Y X' Y' : List Nat} {A B : jS} (hs : ∀ i, i ∈ X → i ∈ X') (ht : ∀ i, i ∈ Y → i ∈ Y') (h : frM X Y A B) : frM X' Y' A B := ⟨fun i hi => h.1 i (fun q => hi (hs i q)), fun i hi => h.2.1 i (fun q => hi (ht i q)), h.2.2⟩
theorem frM.s1 {X Y : List Nat} {A B : jS} (h : frM X Y A B) {i : Nat} (hi : i ∈ X) (v : Int32) : frM X Y A (s1 B i v) := ⟨fun j hj => (j_une (i := i) (j := j) (fun e => hj (by rw [e]; exact hi))).trans (h.1 j hj), h.2.1, h.2.2⟩
theorem frM.s2 {X Y : List Nat} {A B : jS} (h : frM X Y A B) {i : Nat} (hi : i ∈ Y) (v : Nat → Int32) : frM X Y A (s2 B i v) := ⟨h.1, fun j hj => (j_une (i := i) (j := j) (fun e => hj (by rw [e]; exact hi))).trans (h.2.1 j hj), h.2.2⟩
theorem Tk.keep {S S' : jS} {n : Nat} {k : Int32} {b e : Nat} {X Y : List Nat} (h : Tk S n k b e) (f : frM X Y S S') (hX : (X.contains 32 || X.contains 36 || X.contains 37 || X.contains 38 || X.contains 39 || Y.contains 17) = false) : Tk S' n k b e := by
  obtain ⟨f1, f2, f3⟩ := f
  simp only [Bool.or_eq_false_iff, List.contains_eq_mem, decide_eq_false_iff_not] at hX
  obtain ⟨⟨⟨⟨⟨x1, x2⟩, x3⟩, x4⟩, x5⟩, x6⟩ := hX
  unfold Tk
  rw [f1 32 x1, f1 36 x2, f1 37 x3, f1 38 x4, f1 39 x5, f2 17 x6, f3]
  exact h
/-- the orders that were told, and the pile, its top first -/
def nst : List Int32 → Nat
  | [] => 0
  | x :: p => (if x = 3 ∨ x = 4 then 1 else 0) + nst p
def Ms (S : jS) (C : List (Int32 × Int32)) (P : List Int32) : Prop := S.1 40 = nI C.length ∧ S.1 41 = nI P.length ∧ S.1 42 = nI (nst P) ∧ (∀ j q, C[j]? = some q → S.2.1 19 j = q.1 ∧ S.2.1 20 j = q.2) ∧ (∀ j x, P.reverse[j]? = some x → S.2.1 21 j = x)
theorem Ms.keep {S S' : jS} {C : List (Int32 × Int32)} {P : List Int32} {X Y : List Nat} (h : Ms S C P) (f : frM X Y S S') (hX : (X.contains 40 || X.contains 41 || X.contains 42 || Y.contains 19 || Y.contains 20 || Y.contains 21) = false) : Ms S' C P := by
  obtain ⟨f1, f2, f3⟩ := f
  simp only [Bool.or_eq_false_iff, List.contains_eq_mem, decide_eq_false_iff_not] at hX
  obtain ⟨⟨⟨⟨⟨x1, x2⟩, x3⟩, x4⟩, x5⟩, x6⟩ := hX
  unfold Ms
  rw [f1 40 x1, f1 41 x2, f1 42 x3, f2 19 x4, f2 20 x5, f2 21 x6]
  exact h
abbrev emS (S : jS) (c : Nat) (w a : Int32) : jS := s1 (s2 (s2 S 19 (upd (S.2.1 19) c w)) 20 (upd (S.2.1 20) c a)) 40 (nI (c + 1))
theorem Ms.em {S : jS} {C : List (Int32 × Int32)} {P : List Int32} (h : Ms S C P) (w a : Int32) : Ms (emS S C.length w a) (C ++ [(w, a)]) P := by
  obtain ⟨h1, h2, h3, h4, h5⟩ := h
  refine ⟨by rw [List.length_append]; rfl, h2, h3, ?_, h5⟩
  intro j q hq
  by_cases hj : j < C.length
  · rw [List.getElem?_append_left hj] at hq
    obtain ⟨g1, g2⟩ := h4 j q hq
    exact ⟨(if_neg (by omega)).trans g1, (if_neg (by omega)).trans g2⟩
  · rw [List.getElem?_append_right (by omega)] at hq
    have hlt := (List.getElem?_eq_some_iff.mp hq).1
    simp at hlt
    have e : j = C.length := by omega
    subst e
    simp at hq
    subst hq
    exact ⟨if_pos rfl, if_pos rfl⟩
theorem Ms.top {S : jS} {C : List (Int32 × Int32)} {x : Int32} {P : List Int32} (h : Ms S C (x :: P)) : S.2.1 21 P.length = x := by
  refine h.2.2.2.2 P.length x ?_
  rw [List.reverse_cons, List.getElem?_append_right (by simp)]
  simp
theorem Ms.rest {S : jS} {C : List (Int32 × Int32)} {x : Int32} {P : List Int32} (h : Ms S C (x :: P)) : ∀ j y, P.reverse[j]? = some y → S.2.1 21 j = y := by
  intro j y hy
  refine h.2.2.2.2 j y ?_
  rw [List.reverse_cons, List.getElem?_append_left (List.getElem?_eq_some_iff.mp hy).1]
  exact hy
theorem Ms.pu {S : jS} {C : List (Int32 × Int32)} {P : List Int32} (h : Ms S C P) (x : Int32) (m : Nat) (hm : m = nst (x :: P)) : Ms ((s1 (s1 (s2 S 21 (upd (S.2.1 21) P.length x)) 41 (nI (P.length + 1))) 42 (nI m))) C (x :: P) := by
  obtain ⟨h1, h2, h3, h4, h5⟩ := h
  refine ⟨h1, rfl, congrArg nI hm, h4, ?_⟩
  intro j y hy
  show upd (S.2.1 21) P.length x j = y
  rw [List.reverse_cons] at hy
  by_cases hj : j < P.length
  · rw [List.getElem?_append_left (by simpa using hj)] at hy
    exact (if_neg (by omega)).trans (h5 j y hy)
  · rw [List.getElem?_append_right (by simpa using hj)] at hy
    have hlt := (List.getElem?_eq_some_iff.mp hy).1
    simp at hlt
    have e : j = P.length := by omega
    subst e
    simp at hy
    subst hy
    exact if_pos rfl
theorem m_M_emit (K : jK) (d : Nat) (S : jS) (J : jH) (w a : Int32) (c : Nat) (hc : S.1 40 = nI c) (h120 : c < 120) : jM K M_M_emit d [.ref 59, .int w, .int a] (lay S ++ J) (rV (lay (emS S c w a) ++ J)) 0 0 := by
  refine jM.of (by decide) (Nat.le_of_ble_eq_true rfl) ?_
  refine j_aload_n d_M_emit_0 rfl ?_
  refine j_getf d_M_emit_1 f_M_43 rfl rfl ?_
  refine j_aload_n d_M_emit_4 rfl ?_
  refine j_getf d_M_emit_5 f_M_149 rfl rfl ?_
  refine j_top (w := .int (nI c)) (congrArg Value.int hc) ?_
  refine j_iload_n d_M_emit_8 rfl ?_
  refine j_iast d_M_emit_9 rfl h120 (by decide) rfl ?_
  refine j_aload_n d_M_emit_10 rfl ?_
  refine j_getf d_M_emit_11 f_M_46 rfl rfl ?_
  refine j_aload_n d_M_emit_14 rfl ?_
  refine j_getf d_M_emit_15 f_M_149 rfl rfl ?_
  refine j_top (w := .int (nI c)) (congrArg Value.int hc) ?_
  refine j_iload_n d_M_emit_18 rfl ?_
  refine j_iast d_M_emit_19 rfl h120 (by decide) rfl ?_
  refine j_aload_n d_M_emit_20 rfl ?_
  refine j_dup d_M_emit_21 rfl ?_
  refine j_getf d_M_emit_22 f_M_149 rfl rfl ?_
  refine j_iconst (v := 1) d_M_emit_25 rfl ?_
  refine j_iadd d_M_emit_26 ?_
  refine j_top (w := .int (nI (c + 1))) (by rw [nI_succ]; exact congrArg (fun x => Value.int (x + 1)) hc) ?_
  refine j_putf d_M_emit_27 f_M_149 rfl (Nat.le_of_ble_eq_true rfl) rfl rfl rfl ?_
  exact j_vret rfl d_M_emit_30 ⟨rfl, rfl⟩
def tp (P : List Int32) : Int32 := match P with
  | [] => 0
  | x :: _ => x
theorem m_M_upper (K : jK) (d : Nat) (S : jS) (J : jH) (C : List (Int32 × Int32)) (P : List Int32) (h : Ms S C P) (hP : P.length ≤ 119) : jM K M_M_upper d [.ref 59] (lay S ++ J) (rI (tp P) (lay S ++ J)) 0 0 := by
  refine jM.of (by decide) (Nat.le_of_ble_eq_true rfl) ?_
  refine j_aload_n d_M_upper_0 rfl ?_
  refine j_getf d_M_upper_1 f_M_152 rfl rfl ?_
  refine j_top (w := .int (nI P.length)) (congrArg Value.int h.2.1) ?_
  cases P with
  | nil =>
    refine j_if_neF (tgt := 11) d_M_upper_4 rfl rfl ?_
    refine j_iconst (v := 0) d_M_upper_7 rfl ?_
    refine j_goto (tgt := 22) d_M_upper_8 rfl ?_
    exact j_iret rfl d_M_upper_22 ⟨rfl, rfl⟩
  | cons x P =>
    simp only [List.length_cons] at hP ⊢
    refine j_if_neT (tgt := 11) d_M_upper_4 rfl (fun q => absurd ((nI_eq (b := 0) (by omega) (by omega)).mp q) (by omega)) ?_
    refine j_aload_n d_M_upper_11 rfl ?_
    refine j_getf d_M_upper_12 f_M_49 rfl rfl ?_
    refine j_aload_n d_M_upper_15 rfl ?_
    refine j_getf d_M_upper_16 f_M_152 rfl rfl ?_
    refine j_top (w := .int (nI (P.length + 1))) (congrArg Value.int h.2.1) ?_
    refine j_iconst (v := 1) d_M_upper_19 rfl ?_
    refine j_isub d_M_upper_20 ?_
    refine j_top (w := .int (nI P.length)) (by show Value.int (nI (P.length + 1) - nI 1) = _; rw [pk_sub (by omega)]; rfl) ?_
    refine j_iald d_M_upper_21 rfl (show P.length < 120 by omega) (by decide) ?_
    exact j_iret rfl d_M_upper_22 ⟨by rw [h.top]; rfl, rfl⟩
theorem m_M_push (K : jK) (d : Nat) (S : jS) (J : jH) (x : Int32) (c : Nat) (hc : S.1 41 = nI c) (h120 : c < 120) : jM K M_M_push d [.ref 59, .int x] (lay S ++ J) (rV (lay (s1 (s2 S 21 (upd (S.2.1 21) c x)) 41 (nI (c + 1))) ++ J)) 0 0 := by
  refine jM.of (by decide) (Nat.le_of_ble_eq_true rfl) ?_
  refine j_aload_n d_M_push_0 rfl ?_
  refine j_getf d_M_push_1 f_M_49 rfl rfl ?_
  refine j_aload_n d_M_push_4 rfl ?_
  refine j_getf d_M_push_5 f_M_152 rfl rfl ?_
  refine j_top (w := .int (nI c)) (congrArg Value.int hc) ?_
  refine j_iload_n d_M_push_8 rfl ?_
  refine j_iast d_M_push_9 rfl h120 (by decide) rfl ?_
  refine j_aload_n d_M_push_10 rfl ?_
  refine j_dup d_M_push_11 rfl ?_
  refine j_getf d_M_push_12 f_M_152 rfl rfl ?_
  refine j_iconst (v := 1) d_M_push_15 rfl ?_
  refine j_iadd d_M_push_16 ?_
  refine j_top (w := .int (nI (c + 1))) (by rw [nI_succ]; exact congrArg (fun x => Value.int (x + 1)) hc) ?_
  refine j_putf d_M_push_17 f_M_152 rfl (Nat.le_of_ble_eq_true rfl) rfl rfl rfl ?_
  exact j_vret rfl d_M_push_20 ⟨rfl, rfl⟩
