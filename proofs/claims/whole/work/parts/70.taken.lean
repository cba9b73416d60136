/-! BitLoomModel: valueOf as the class tells it, reckon, isTaken -/
/-- the fields, told alike by class and model -/
def fOk (A : Nat → Nat → Int32) (lo wd : Nat → Nat) (c : Nat) : Prop := c ≤ 6 ∧ A 1 = A 14 ∧ A 2 = A 15 ∧ A 3 = A 16 ∧ ∀ f, f < c → A 14 f = nI (lo f) ∧ A 15 f = nI (wd f) ∧ 1 ≤ wd f ∧ wd f ≤ 10 ∧ lo f + wd f ≤ 24
theorem fOk.eq {A B : Nat → Nat → Int32} {lo wd : Nat → Nat} {c : Nat} (h : fOk A lo wd c) (e1 : B 1 = A 1) (e2 : B 2 = A 2) (e3 : B 3 = A 3) (e14 : B 14 = A 14) (e15 : B 15 = A 15) (e16 : B 16 = A 16) : fOk B lo wd c := by
  unfold fOk
  rw [e1, e2, e3, e14, e15, e16]
  exact h
/-- a field's value in a word of the model -/
abbrev mvl (A : Nat → Nat → Int32) (f w : Nat) : Int32 := vval (A 1 f) (A 2 f) (A 3 f) (A 11 w)
theorem m_M_val (K : jK) (d : Nat) (S : jS) (J : jH) (i f : Nat) (hi : i < 32) {lo wd : Nat → Nat} {c : Nat} (h : fOk S.2.1 lo wd c) (hf : f < c) : jM K M_M_valueOf d [.ref 59, .int (nI i), .int (nI f)] (lay S ++ J) (rI (mvl S.2.1 f i) (lay S ++ J)) 0 0 := by
  obtain ⟨h6, e1, e2, e3, hh⟩ := h
  obtain ⟨g1, g2, g3, g4, g5⟩ := hh f hf
  have := m_M_valueOf K d S J i f hi (by omega) (wd f) g2 g4
  rw [g1] at this
  unfold mvl
  rw [e1, e2, e3, g1, g2, val_eq _ _ g3 g4 g5]
  exact this
theorem m_M_reckon (K : jK) (d : Nat) (h : jH) (o x y : Int32) (ho : o = 1 ∨ o = 2 ∨ o = 7 ∨ o = 8 ∨ o = 9) : jM K M_M_reckon d [.int o, .int x, .int y] h (rI (rkn o x y) h) 0 0 := by
  refine jM.of (by decide) (Nat.le_of_ble_eq_true rfl) ?_
  refine j_iload_n d_M_reckon_0 rfl ?_
  rcases ho with rfl | rfl | rfl | rfl | rfl
  · refine j_tabIn (tgt := 48) d_M_reckon_1 (by decide) (by decide) rfl rfl ?_
    refine j_iload_n d_M_reckon_48 rfl ?_
    refine j_iload_n d_M_reckon_49 rfl ?_
    refine j_ior d_M_reckon_50 ?_
    exact j_iret rfl d_M_reckon_51 ⟨rfl, rfl⟩
  · refine j_tabIn (tgt := 52) d_M_reckon_1 (by decide) (by decide) rfl rfl ?_
    refine j_iload_n d_M_reckon_52 rfl ?_
    refine j_iload_n d_M_reckon_53 rfl ?_
    refine j_iand d_M_reckon_54 ?_
    exact j_iret rfl d_M_reckon_55 ⟨rfl, rfl⟩
  · refine j_tabIn (tgt := 56) d_M_reckon_1 (by decide) (by decide) rfl rfl ?_
    refine j_iload_n d_M_reckon_56 rfl ?_
    refine j_iload_n d_M_reckon_57 rfl ?_
    by_cases hc : x < y
    · refine j_icmp_geF (tgt := 65) d_M_reckon_58 rfl (Int32.not_le.mpr hc) ?_
      refine j_iconst (v := 1) d_M_reckon_61 rfl ?_
      refine j_goto (tgt := 66) d_M_reckon_62 rfl ?_
      exact j_iret rfl d_M_reckon_66 ⟨by rw [show rkn 7 x y = if x < y then 1 else 0 from rfl, if_pos hc], rfl⟩
    · refine j_icmp_geT (tgt := 65) d_M_reckon_58 rfl (Int32.not_lt.mp hc) ?_
      refine j_iconst (v := 0) d_M_reckon_65 rfl ?_
      exact j_iret rfl d_M_reckon_66 ⟨by rw [show rkn 7 x y = if x < y then 1 else 0 from rfl, if_neg hc], rfl⟩
  · refine j_tabIn (tgt := 67) d_M_reckon_1 (by decide) (by decide) rfl rfl ?_
    refine j_iload_n d_M_reckon_67 rfl ?_
    refine j_iload_n d_M_reckon_68 rfl ?_
    by_cases hc : x = y
    · refine j_icmp_neF (tgt := 76) d_M_reckon_69 rfl hc ?_
      refine j_iconst (v := 1) d_M_reckon_72 rfl ?_
      refine j_goto (tgt := 77) d_M_reckon_73 rfl ?_
      exact j_iret rfl d_M_reckon_77 ⟨by rw [show rkn 8 x y = if x = y then 1 else 0 from rfl, if_pos hc], rfl⟩
    · refine j_icmp_neT (tgt := 76) d_M_reckon_69 rfl hc ?_
      refine j_iconst (v := 0) d_M_reckon_76 rfl ?_
      exact j_iret rfl d_M_reckon_77 ⟨by rw [show rkn 8 x y = if x = y then 1 else 0 from rfl, if_neg hc], rfl⟩
  · refine j_tabOut (tgt := 78) d_M_reckon_1 (by decide) rfl ?_
    refine j_iload_n d_M_reckon_78 rfl ?_
    refine j_iload_n d_M_reckon_79 rfl ?_
    by_cases hc : y < x
    · refine j_icmp_leF (tgt := 87) d_M_reckon_80 rfl (Int32.not_le.mpr hc) ?_
      refine j_iconst (v := 1) d_M_reckon_83 rfl ?_
      refine j_goto (tgt := 88) d_M_reckon_84 rfl ?_
      exact j_iret rfl d_M_reckon_88 ⟨by rw [show rkn 9 x y = if y < x then 1 else 0 from rfl, if_pos hc], rfl⟩
    · refine j_icmp_leT (tgt := 87) d_M_reckon_80 rfl (Int32.not_lt.mp hc) ?_
      refine j_iconst (v := 0) d_M_reckon_87 rfl ?_
      exact j_iret rfl d_M_reckon_88 ⟨by rw [show rkn 9 x y = if y < x then 1 else 0 from rfl, if_neg hc], rfl⟩
/-- the stack, its top first -/
def Sk (S : jS) (st : List Int32) : Prop := S.1 47 = nI st.length ∧ ∀ j x, st.reverse[j]? = some x → S.2.1 28 j = x
theorem Sk.top {S : jS} {x : Int32} {st : List Int32} (h : Sk S (x :: st)) : S.2.1 28 st.length = x := by
  refine h.2 st.length x ?_
  rw [List.reverse_cons, List.getElem?_append_right (by simp)]
  simp
theorem Sk.rest {S : jS} {x : Int32} {st : List Int32} (h : Sk S (x :: st)) : ∀ j y, st.reverse[j]? = some y → S.2.1 28 j = y := by
  intro j y hy
  refine h.2 j y ?_
  rw [List.reverse_cons, List.getElem?_append_left (List.getElem?_eq_some_iff.mp hy).1]
  exact hy
theorem Sk.po {S : jS} {x : Int32} {st : List Int32} (h : Sk S (x :: st)) : Sk (s1 S 47 (nI st.length)) st := ⟨rfl, h.rest⟩
theorem Sk.wr {S : jS} {st : List Int32} (h : ∀ j y, st.reverse[j]? = some y → S.2.1 28 j = y) (x : Int32) (h47 : S.1 47 = nI (st.length + 1)) : Sk (s2 S 28 (upd (S.2.1 28) st.length x)) (x :: st) := by
  refine ⟨h47, ?_⟩
  intro j y hy
  show upd (S.2.1 28) st.length x j = y
  rw [List.reverse_cons] at hy
  by_cases hj : j < st.length
  · rw [List.getElem?_append_left (by simpa using hj)] at hy
    exact (if_neg (by omega)).trans (h j y hy)
  · rw [List.getElem?_append_right (by simpa using hj)] at hy
    have hlt := (List.getElem?_eq_some_iff.mp hy).1
    simp at hlt
    have e : j = st.length := by omega
    subst e
    simp at hy
    subst hy
    exact if_pos rfl
def tkQ (S : jS) (J : jH) (b : Bool) : jO → jH → Prop := fun o h => o = .inl (some (.int (b2i b))) ∧ ∃ S', h = lay S' ++ J ∧ frM [47] [28] S S'
theorem m_M_isTaken (K : jK) (d : Nat) (hd : 1 ≤ d) (S : jS) (J : jH) (w : Nat) (hw : w < 32) (C : List (Int32 × Int32)) (hM : Ms S C []) (hl : C.length ≤ 110) {lo wd : Nat → Nat} {c : Nat} (hfo : fOk S.2.1 lo wd c) (hC : ordOk c C) (v : Int32) (hev : evO (fun f => mvl S.2.1 f w) C [] = some [v]) (u : Bool) (hu : S.2.1 10 w = b2i u) : jM K M_M_isTaken d [.ref 59, .int (nI w)] (lay S ++ J) (tkQ S J (u && decide (v = 1))) 0 0 := by
  refine jM.of (by decide) (Nat.le_of_ble_eq_true rfl) ?_
  refine j_aload_n d_M_isTaken_0 rfl ?_
  refine j_iconst (v := 0) d_M_isTaken_1 rfl ?_
  refine j_putf d_M_isTaken_2 f_M_244 rfl (Nat.le_of_ble_eq_true rfl) rfl rfl rfl ?_
  refine j_hp (h' := lay (s1 S 47 0) ++ J) rfl ?_
  refine j_iconst (v := 0) d_M_isTaken_5 rfl ?_
  refine j_istore_n d_M_isTaken_6 (by decide) ?_
  have fA : frM [47] [28] S (s1 S 47 0) := (frM.rf _ _ S).s1 (by decide) _
  cases u with
  | false =>
    have hu : S.2.1 10 w = 0 := hu
    have fin : jE K M_M_isTaken d 172 [(0, .ref 59), (1, .int (nI w)), (2, .int (nI 0))] [] (lay (s1 S 47 0) ++ J) (tkQ S J (false && decide (v = 1))) 0 0 := by
      refine j_aload_n d_M_isTaken_172 rfl ?_
      refine j_getf d_M_isTaken_173 f_M_7 rfl rfl ?_
      refine j_iload_n d_M_isTaken_176 rfl ?_
      refine j_zald d_M_isTaken_177 rfl hw (by decide) ?_
      refine j_top (w := .int 0) (congrArg Value.int hu) ?_
      refine j_if_eqT (tgt := 195) d_M_isTaken_178 rfl rfl ?_
      refine j_iconst (v := 0) d_M_isTaken_195 rfl ?_
      exact j_zret rfl rfl d_M_isTaken_196 ⟨rfl, _, rfl, fA⟩
    refine j_loc' [(0, .ref 59), (1, .int (nI w)), (2, .int (nI 0))] ⟨rfl, rfl, rfl, trivial⟩ ?_
    refine j_iload_n d_M_isTaken_7 rfl ?_
    refine j_aload_n d_M_isTaken_8 rfl ?_
    refine j_getf d_M_isTaken_9 f_M_149 rfl rfl ?_
    refine j_top (w := .int (nI C.length)) (congrArg Value.int hM.1) ?_
    by_cases h0 : C.length = 0
    · refine j_icmp_geT (tgt := 172) d_M_isTaken_12 rfl (nI_le (by omega) (by omega)) ?_
      exact fin
    · refine j_icmp_geF (tgt := 172) d_M_isTaken_12 rfl (nI_ge (by omega) (by omega)) ?_
      refine j_aload_n d_M_isTaken_15 rfl ?_
      refine j_getf d_M_isTaken_16 f_M_7 rfl rfl ?_
      refine j_iload_n d_M_isTaken_19 rfl ?_
      refine j_zald d_M_isTaken_20 rfl hw (by decide) ?_
      refine j_top (w := .int 0) (congrArg Value.int hu) ?_
      refine j_if_eqT (tgt := 172) d_M_isTaken_21 rfl rfl ?_
      exact fin
  | true =>
    have hu : S.2.1 10 w = 1 := hu
    have loop : ∀ (D : List (Int32 × Int32)) (k : Nat) (st : List Int32) (S1 : jS) (x3 : List (Nat × Value)), frM [47] [28] S S1 → Sk S1 st → st.length ≤ k → k + D.length = C.length → C.drop k = D → evO (fun f => mvl S.2.1 f w) D st = some [v] → jE K M_M_isTaken d 7 ((0, .ref 59) :: (1, .int (nI w)) :: (2, .int (nI k)) :: x3) [] (lay S1 ++ J) (tkQ S J (true && decide (v = 1))) 0 0 := by
      intro D
      induction D with
      | nil =>
        intro k st S1 x3 f1 hSk hlk hkl hdr hev
        cases hev
        have hkl : k = C.length := by simpa using hkl
        refine j_loc' [(0, .ref 59), (1, .int (nI w)), (2, .int (nI k))] ⟨rfl, rfl, rfl, trivial⟩ ?_
        refine j_iload_n d_M_isTaken_7 rfl ?_
        refine j_aload_n d_M_isTaken_8 rfl ?_
        refine j_getf d_M_isTaken_9 f_M_149 rfl rfl ?_
        refine j_top (w := .int (nI C.length)) (congrArg Value.int ((f1.1 40 (by decide)).trans hM.1)) ?_
        refine j_icmp_geT (tgt := 172) d_M_isTaken_12 rfl (nI_le (by omega) (by omega)) ?_
        refine j_aload_n d_M_isTaken_172 rfl ?_
        refine j_getf d_M_isTaken_173 f_M_7 rfl rfl ?_
        refine j_iload_n d_M_isTaken_176 rfl ?_
        refine j_zald d_M_isTaken_177 rfl hw (by decide) ?_
        refine j_top (w := .int 1) (congrArg Value.int ((congrFun (f1.2.1 10 (by decide)) w).trans hu)) ?_
        refine j_if_eqF (tgt := 195) d_M_isTaken_178 rfl (by decide) ?_
        refine j_aload_n d_M_isTaken_181 rfl ?_
        refine j_getf d_M_isTaken_182 f_M_70 rfl rfl ?_
        refine j_iconst (v := 0) d_M_isTaken_185 rfl ?_
        refine j_iald (j := 0) d_M_isTaken_186 rfl (by omega) (by decide) ?_
        refine j_top (w := .int v) (congrArg Value.int hSk.top) ?_
        refine j_iconst (v := 1) d_M_isTaken_187 rfl ?_
        by_cases hv : v = 1
        · refine j_icmp_neF (tgt := 195) d_M_isTaken_188 rfl hv ?_
          refine j_iconst (v := 1) d_M_isTaken_191 rfl ?_
          refine j_goto (tgt := 196) d_M_isTaken_192 rfl ?_
          exact j_zret rfl rfl d_M_isTaken_196 ⟨by rw [decide_eq_true hv]; rfl, _, rfl, f1⟩
        · refine j_icmp_neT (tgt := 195) d_M_isTaken_188 rfl hv ?_
          refine j_iconst (v := 0) d_M_isTaken_195 rfl ?_
          exact j_zret rfl rfl d_M_isTaken_196 ⟨by rw [decide_eq_false hv]; rfl, _, rfl, f1⟩
      | cons q D ih =>
        intro k st S1 x3 f1 hSk hlk hkl hdr hev
        simp only [List.length_cons] at hkl
        have hq : C[k]? = some q := by rw [← List.head?_drop, hdr]; rfl
        have hdr2 : C.drop (k + 1) = D := by rw [← List.drop_drop, hdr]; rfl
        have hqC : q ∈ C := List.mem_of_getElem? hq
        obtain ⟨ho, ha⟩ := hM.2.2.2.1 k q hq
        have hfo1 : fOk S1.2.1 lo wd c := hfo.eq (f1.2.1 1 (by decide)) (f1.2.1 2 (by decide)) (f1.2.1 3 (by decide)) (f1.2.1 14 (by decide)) (f1.2.1 15 (by decide)) (f1.2.1 16 (by decide))
        have hmv : ∀ f, mvl S1.2.1 f w = mvl S.2.1 f w := fun f => by
          unfold mvl
          rw [f1.2.1 1 (by decide), f1.2.1 2 (by decide), f1.2.1 3 (by decide), f1.2.1 11 (by decide)]
        refine j_loc' [(0, .ref 59), (1, .int (nI w)), (2, .int (nI k))] ⟨rfl, rfl, rfl, trivial⟩ ?_
        refine j_iload_n d_M_isTaken_7 rfl ?_
        refine j_aload_n d_M_isTaken_8 rfl ?_
        refine j_getf d_M_isTaken_9 f_M_149 rfl rfl ?_
        refine j_top (w := .int (nI C.length)) (congrArg Value.int ((f1.1 40 (by decide)).trans hM.1)) ?_
        refine j_icmp_geF (tgt := 172) d_M_isTaken_12 rfl (nI_ge (by omega) (by omega)) ?_
        refine j_aload_n d_M_isTaken_15 rfl ?_
        refine j_getf d_M_isTaken_16 f_M_7 rfl rfl ?_
        refine j_iload_n d_M_isTaken_19 rfl ?_
        refine j_zald d_M_isTaken_20 rfl hw (by decide) ?_
        refine j_top (w := .int 1) (congrArg Value.int ((congrFun (f1.2.1 10 (by decide)) w).trans hu)) ?_
        refine j_if_eqF (tgt := 172) d_M_isTaken_21 rfl (by decide) ?_
        refine j_aload_n d_M_isTaken_24 rfl ?_
        refine j_getf d_M_isTaken_25 f_M_43 rfl rfl ?_
        refine j_iload_n d_M_isTaken_28 rfl ?_
        refine j_iald d_M_isTaken_29 rfl (show k < 120 by omega) (by decide) ?_
        refine j_top (w := .int q.1) (congrArg Value.int ((congrFun (f1.2.1 19 (by decide)) k).trans ho)) ?_
        refine j_istore_n d_M_isTaken_30 (by decide) ?_
        refine j_iload_n d_M_isTaken_31 rfl ?_
        refine j_iconst (v := 5) d_M_isTaken_32 rfl ?_
        -- what is pushed
        have push : ∀ (x : Int32) (S2 : jS), S2 = S1 → evO (fun f => mvl S.2.1 f w) D (x :: st) = some [v] → jE K M_M_isTaken d 75 [(3, .int q.1), (0, .ref 59), (1, .int (nI w)), (2, .int (nI k))] [.int x, .int (nI st.length), .ref 78] (lay S2 ++ J) (tkQ S J (true && decide (v = 1))) 0 0 := by
          intro x S2 hS2 hev
          subst hS2
          refine j_iast d_M_isTaken_75 rfl (show st.length < 120 by omega) (by decide) rfl ?_
          refine j_hp (h' := lay (s2 S2 28 (upd (S2.2.1 28) st.length x)) ++ J) rfl ?_
          refine j_aload_n d_M_isTaken_76 rfl ?_
          refine j_dup d_M_isTaken_77 rfl ?_
          refine j_getf d_M_isTaken_78 f_M_244 rfl rfl ?_
          refine j_iconst (v := 1) d_M_isTaken_81 rfl ?_
          refine j_iadd d_M_isTaken_82 ?_
          refine j_top (w := .int (nI (st.length + 1))) (by rw [nI_succ]; exact congrArg (fun x => Value.int (x + 1)) hSk.1) ?_
          refine j_putf d_M_isTaken_83 f_M_244 rfl (Nat.le_of_ble_eq_true rfl) rfl rfl rfl ?_
          refine j_hp (h' := lay (s1 (s2 S2 28 (upd (S2.2.1 28) st.length x)) 47 (nI (st.length + 1))) ++ J) rfl ?_
          refine j_goto (tgt := 166) d_M_isTaken_86 rfl ?_
          refine j_iincN d_M_isTaken_166 rfl (by decide) ?_
          refine j_goto (tgt := 7) d_M_isTaken_169 rfl ?_
          refine j_loc' ((0, .ref 59) :: (1, .int (nI w)) :: (2, .int (nI (k + 1))) :: []) ⟨rfl, rfl, rfl, trivial⟩ ?_
          refine ih (k + 1) (x :: st) _ [] ((f1.s2 (by decide) _).s1 (by decide) _) ?_ (by simp only [List.length_cons]; omega) (by omega) hdr2 hev
          have hw' := Sk.wr (S := s1 S2 47 (nI (st.length + 1))) (st := st) hSk.2 x rfl
          exact ⟨rfl, hw'.2⟩
        unfold evO at hev
        rcases hC q hqC with ⟨h5, f, hfc, hqf⟩ | h6 | h3 | hb
        · refine j_icmp_eqT (tgt := 42) d_M_isTaken_33 rfl h5 ?_
          refine j_aload_n d_M_isTaken_42 rfl ?_
          refine j_getf d_M_isTaken_43 f_M_70 rfl rfl ?_
          refine j_aload_n d_M_isTaken_46 rfl ?_
          refine j_getf d_M_isTaken_47 f_M_244 rfl rfl ?_
          refine j_top (w := .int (nI st.length)) (congrArg Value.int hSk.1) ?_
          refine j_iload_n d_M_isTaken_50 rfl ?_
          refine j_iconst (v := 5) d_M_isTaken_51 rfl ?_
          refine j_icmp_neF (tgt := 69) d_M_isTaken_52 rfl h5 ?_
          refine j_aload_n d_M_isTaken_55 rfl ?_
          refine j_iload_n d_M_isTaken_56 rfl ?_
          refine j_aload_n d_M_isTaken_57 rfl ?_
          refine j_getf d_M_isTaken_58 f_M_46 rfl rfl ?_
          refine j_iload_n d_M_isTaken_61 rfl ?_
          refine j_iald d_M_isTaken_62 rfl (show k < 120 by omega) (by decide) ?_
          refine j_top (w := .int (nI f)) (congrArg Value.int (((congrFun (f1.2.1 20 (by decide)) k).trans ha).trans hqf)) ?_
          refine j_retI (j_callV d_M_isTaken_63 v_M_valueOf l_M_95 rfl rfl (m_M_val K (d - 1) S1 J w f hw hfo1 hfc) (by omega) (by decide) (Nat.le_of_ble_eq_true rfl) rfl) rfl ?_
          refine j_top (w := .int (mvl S.2.1 f w)) (congrArg Value.int (hmv f)) ?_
          refine j_goto (tgt := 75) d_M_isTaken_66 rfl ?_
          refine j_loc' [(3, .int q.1), (0, .ref 59), (1, .int (nI w)), (2, .int (nI k))] ⟨rfl, rfl, rfl, rfl, trivial⟩ ?_
          refine push _ S1 rfl ?_
          rw [show stO (fun f => mvl S.2.1 f w) q st = some (mvl S.2.1 f w :: st) by unfold stO; rw [if_pos h5, hqf, nI_clamp (by have := hfo.1; omega)]] at hev
          exact hev
        · have h5 : ¬ q.1 = 5 := by rw [h6]; decide
          refine j_icmp_eqF (tgt := 42) d_M_isTaken_33 rfl h5 ?_
          refine j_iload_n d_M_isTaken_36 rfl ?_
          refine j_bipush (v := 6) d_M_isTaken_37 (by decide) ?_
          refine j_icmp_neF (tgt := 89) d_M_isTaken_39 rfl h6 ?_
          refine j_aload_n d_M_isTaken_42 rfl ?_
          refine j_getf d_M_isTaken_43 f_M_70 rfl rfl ?_
          refine j_aload_n d_M_isTaken_46 rfl ?_
          refine j_getf d_M_isTaken_47 f_M_244 rfl rfl ?_
          refine j_top (w := .int (nI st.length)) (congrArg Value.int hSk.1) ?_
          refine j_iload_n d_M_isTaken_50 rfl ?_
          refine j_iconst (v := 5) d_M_isTaken_51 rfl ?_
          refine j_icmp_neT (tgt := 69) d_M_isTaken_52 rfl h5 ?_
          refine j_aload_n d_M_isTaken_69 rfl ?_
          refine j_getf d_M_isTaken_70 f_M_46 rfl rfl ?_
          refine j_iload_n d_M_isTaken_73 rfl ?_
          refine j_iald d_M_isTaken_74 rfl (show k < 120 by omega) (by decide) ?_
          refine j_top (w := .int q.2) (congrArg Value.int ((congrFun (f1.2.1 20 (by decide)) k).trans ha)) ?_
          refine j_loc' [(3, .int q.1), (0, .ref 59), (1, .int (nI w)), (2, .int (nI k))] ⟨rfl, rfl, rfl, rfl, trivial⟩ ?_
          refine push _ S1 rfl ?_
          rw [show stO (fun f => mvl S.2.1 f w) q st = some (q.2 :: st) by unfold stO; rw [if_neg h5, if_pos h6]] at hev
          exact hev
        · have h5 : ¬ q.1 = 5 := by rw [h3]; decide
          have h6 : ¬ q.1 = 6 := by rw [h3]; decide
          refine j_icmp_eqF (tgt := 42) d_M_isTaken_33 rfl h5 ?_
          refine j_iload_n d_M_isTaken_36 rfl ?_
          refine j_bipush (v := 6) d_M_isTaken_37 (by decide) ?_
          refine j_icmp_neT (tgt := 89) d_M_isTaken_39 rfl h6 ?_
          refine j_iload_n d_M_isTaken_89 rfl ?_
          refine j_iconst (v := 3) d_M_isTaken_90 rfl ?_
          refine j_icmp_neF (tgt := 121) d_M_isTaken_91 rfl h3 ?_
          cases st with
          | nil =>
            rw [show stO (fun f => mvl S.2.1 f w) q [] = none by unfold stO; rw [if_neg h5, if_neg h6, if_pos h3]] at hev
            cases hev
          | cons x r =>
          rw [show stO (fun f => mvl S.2.1 f w) q (x :: r) = some ((1 - x) :: r) by unfold stO; rw [if_neg h5, if_neg h6, if_pos h3]] at hev
          simp only [List.length_cons] at hlk
          refine j_aload_n d_M_isTaken_94 rfl ?_
          refine j_getf d_M_isTaken_95 f_M_70 rfl rfl ?_
          refine j_aload_n d_M_isTaken_98 rfl ?_
          refine j_getf d_M_isTaken_99 f_M_244 rfl rfl ?_
          refine j_top (w := .int (nI (r.length + 1))) (congrArg Value.int hSk.1) ?_
          refine j_iconst (v := 1) d_M_isTaken_102 rfl ?_
          refine j_isub d_M_isTaken_103 ?_
          refine j_top (w := .int (nI r.length)) (by show Value.int (nI (r.length + 1) - nI 1) = _; rw [pk_sub (by omega)]; rfl) ?_
          refine j_iconst (v := 1) d_M_isTaken_104 rfl ?_
          refine j_aload_n d_M_isTaken_105 rfl ?_
          refine j_getf d_M_isTaken_106 f_M_70 rfl rfl ?_
          refine j_aload_n d_M_isTaken_109 rfl ?_
          refine j_getf d_M_isTaken_110 f_M_244 rfl rfl ?_
          refine j_top (w := .int (nI (r.length + 1))) (congrArg Value.int hSk.1) ?_
          refine j_iconst (v := 1) d_M_isTaken_113 rfl ?_
          refine j_isub d_M_isTaken_114 ?_
          refine j_top (w := .int (nI r.length)) (by show Value.int (nI (r.length + 1) - nI 1) = _; rw [pk_sub (by omega)]; rfl) ?_
          refine j_iald d_M_isTaken_115 rfl (show r.length < 120 by omega) (by decide) ?_
          refine j_top (w := .int x) (congrArg Value.int hSk.top) ?_
          refine j_isub d_M_isTaken_116 ?_
          refine j_iast d_M_isTaken_117 rfl (show r.length < 120 by omega) (by decide) rfl ?_
          refine j_hp (h' := lay (s2 S1 28 (upd (S1.2.1 28) r.length (1 - x))) ++ J) rfl ?_
          refine j_goto (tgt := 166) d_M_isTaken_118 rfl ?_
          refine j_iincN d_M_isTaken_166 rfl (by decide) ?_
          refine j_goto (tgt := 7) d_M_isTaken_169 rfl ?_
          refine j_loc' ((0, .ref 59) :: (1, .int (nI w)) :: (2, .int (nI (k + 1))) :: []) ⟨rfl, rfl, rfl, trivial⟩ ?_
          exact ih (k + 1) ((1 - x) :: r) _ [] (f1.s2 (by decide) _) (Sk.wr hSk.rest (1 - x) hSk.1) (by simp only [List.length_cons]; omega) (by omega) hdr2 hev
        · have h5 : ¬ q.1 = 5 := by rcases hb with z | z | z | z | z <;> rw [z] <;> decide
          have h6 : ¬ q.1 = 6 := by rcases hb with z | z | z | z | z <;> rw [z] <;> decide
          have h3 : ¬ q.1 = 3 := by rcases hb with z | z | z | z | z <;> rw [z] <;> decide
          refine j_icmp_eqF (tgt := 42) d_M_isTaken_33 rfl h5 ?_
          refine j_iload_n d_M_isTaken_36 rfl ?_
          refine j_bipush (v := 6) d_M_isTaken_37 (by decide) ?_
          refine j_icmp_neT (tgt := 89) d_M_isTaken_39 rfl h6 ?_
          refine j_iload_n d_M_isTaken_89 rfl ?_
          refine j_iconst (v := 3) d_M_isTaken_90 rfl ?_
          refine j_icmp_neT (tgt := 121) d_M_isTaken_91 rfl h3 ?_
          cases st with
          | nil =>
            rw [show stO (fun f => mvl S.2.1 f w) q [] = none by unfold stO; rw [if_neg h5, if_neg h6, if_neg h3]] at hev
            cases hev
          | cons y r0 =>
          cases r0 with
          | nil =>
            rw [show stO (fun f => mvl S.2.1 f w) q [y] = none by unfold stO; rw [if_neg h5, if_neg h6, if_neg h3]] at hev
            cases hev
          | cons x r =>
          rw [show stO (fun f => mvl S.2.1 f w) q (y :: x :: r) = some (rkn q.1 x y :: r) by unfold stO; rw [if_neg h5, if_neg h6, if_neg h3]] at hev
          simp only [List.length_cons] at hlk
          refine j_aload_n d_M_isTaken_121 rfl ?_
          refine j_dup d_M_isTaken_122 rfl ?_
          refine j_getf d_M_isTaken_123 f_M_244 rfl rfl ?_
          refine j_top (w := .int (nI (r.length + 1 + 1))) (congrArg Value.int hSk.1) ?_
          refine j_iconst (v := 1) d_M_isTaken_126 rfl ?_
          refine j_isub d_M_isTaken_127 ?_
          refine j_top (w := .int (nI (r.length + 1))) (by show Value.int (nI (r.length + 1 + 1) - nI 1) = _; rw [pk_sub (by omega)]; rfl) ?_
          refine j_putf d_M_isTaken_128 f_M_244 rfl (Nat.le_of_ble_eq_true rfl) rfl rfl rfl ?_
          refine j_hp (h' := lay (s1 S1 47 (nI (r.length + 1))) ++ J) rfl ?_
          refine j_aload_n d_M_isTaken_131 rfl ?_
          refine j_getf d_M_isTaken_132 f_M_70 rfl rfl ?_
          refine j_aload_n d_M_isTaken_135 rfl ?_
          refine j_getf d_M_isTaken_136 f_M_244 rfl rfl ?_
          refine j_top (w := .int (nI (r.length + 1))) rfl ?_
          refine j_iconst (v := 1) d_M_isTaken_139 rfl ?_
          refine j_isub d_M_isTaken_140 ?_
          refine j_top (w := .int (nI r.length)) (by show Value.int (nI (r.length + 1) - nI 1) = _; rw [pk_sub (by omega)]; rfl) ?_
          refine j_iload_n d_M_isTaken_141 rfl ?_
          refine j_aload_n d_M_isTaken_142 rfl ?_
          refine j_getf d_M_isTaken_143 f_M_70 rfl rfl ?_
          refine j_aload_n d_M_isTaken_146 rfl ?_
          refine j_getf d_M_isTaken_147 f_M_244 rfl rfl ?_
          refine j_top (w := .int (nI (r.length + 1))) rfl ?_
          refine j_iconst (v := 1) d_M_isTaken_150 rfl ?_
          refine j_isub d_M_isTaken_151 ?_
          refine j_top (w := .int (nI r.length)) (by show Value.int (nI (r.length + 1) - nI 1) = _; rw [pk_sub (by omega)]; rfl) ?_
          refine j_iald d_M_isTaken_152 rfl (show r.length < 120 by omega) (by decide) ?_
          refine j_top (w := .int x) (congrArg Value.int (Sk.top hSk.po)) ?_
          refine j_aload_n d_M_isTaken_153 rfl ?_
          refine j_getf d_M_isTaken_154 f_M_70 rfl rfl ?_
          refine j_aload_n d_M_isTaken_157 rfl ?_
          refine j_getf d_M_isTaken_158 f_M_244 rfl rfl ?_
          refine j_top (w := .int (nI (r.length + 1))) rfl ?_
          refine j_iald d_M_isTaken_161 rfl (show r.length + 1 < 120 by omega) (by decide) ?_
          refine j_top (w := .int y) (congrArg Value.int hSk.top) ?_
          refine j_retI (j_callS d_M_isTaken_162 s_M_reckon l_M_247 rfl (m_M_reckon K (d - 1) _ q.1 x y hb) (by omega) (by decide) (Nat.le_of_ble_eq_true rfl) rfl) rfl ?_
          refine j_iast d_M_isTaken_165 rfl (show r.length < 120 by omega) (by decide) rfl ?_
          refine j_hp (h' := lay (s2 (s1 S1 47 (nI (r.length + 1))) 28 (upd (S1.2.1 28) r.length (rkn q.1 x y))) ++ J) rfl ?_
          refine j_iincN d_M_isTaken_166 rfl (by decide) ?_
          refine j_goto (tgt := 7) d_M_isTaken_169 rfl ?_
          refine j_loc' ((0, .ref 59) :: (1, .int (nI w)) :: (2, .int (nI (k + 1))) :: []) ⟨rfl, rfl, rfl, trivial⟩ ?_
          exact ih (k + 1) (rkn q.1 x y :: r) _ [] ((f1.s1 (by decide) _).s2 (by decide) _) (Sk.wr (S := s1 S1 47 (nI (r.length + 1))) (Sk.rest hSk.po) (rkn q.1 x y) rfl) (by simp only [List.length_cons]; omega) (by omega) hdr2 hev
    refine j_loc' ((0, .ref 59) :: (1, .int (nI w)) :: (2, .int (nI 0)) :: []) ⟨rfl, rfl, rfl, trivial⟩ ?_
    exact loop C 0 [] _ [] fA ⟨rfl, fun j x hx => by simp at hx⟩ (Nat.le_refl _) (by omega) rfl hev
