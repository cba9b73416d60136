/-! BitLoom$Statement.readOne, readClause, readCondition -/
/-- a condition: its orders, one behind the other, and the words that it takes -/
abbrev Cnd : Type := List (Int32 × Int32) × Int32
def opc (x : Opd) : Int32 × Int32 := match x with
  | .inl j => (5, nI j)
  | .inr v => (6, v)
def relc (k : Int32) : Int32 := if k = 60 then 7 else if k = 61 then 8 else 9
def cmpC (A : Nat → Nat → Int32) (q : Int32 × Opd × Opd) : Cnd := ([opc q.2.1, opc q.2.2, (relc q.1, 0)], cmpV A q)
def mapR {α β : Type} (g : α → β) (x : Rs α) : Rs β := match x with
  | .inl (a, r) => .inl (g a, r)
  | .inr p => .inr p
abbrev PR : Type := Nat → List Tok → Rs Cnd → Prop
abbrev PL : Type := Nat → Cnd → List Tok → Rs Cnd → Prop
/-- what is closed under the readings of one -/
def Clo1 (A : Nat → Nat → Int32) (c : Nat) (P1 P4 : PR) : Prop :=
  (∀ o k s e r, ¬ k = 33 → ¬ k = 40 → P1 o ((k, s, e) :: r) (mapR (cmpC A) (pCmp (A 5) (A 0) c ((k, s, e) :: r)))) ∧
  (∀ o k s e r, (k = 33 ∨ k = 40) → 8 ≤ o → P1 o ((k, s, e) :: r) (.inr s)) ∧
  (∀ o s e r x r1, o < 8 → P1 (o + 1) r (.inl (x, r1)) → P1 o ((33, s, e) :: r) (.inl ((x.1 ++ [(3, 0)], x.2 ^^^ (-1)), r1))) ∧
  (∀ o s e r p, o < 8 → P1 (o + 1) r (.inr p) → P1 o ((33, s, e) :: r) (.inr p)) ∧
  (∀ o s e r x s2 e2 r1, o < 8 → P4 (o + 1) r (.inl (x, (41, s2, e2) :: r1)) → P1 o ((40, s, e) :: r) (.inl (x, r1))) ∧
  (∀ o s e r x k2 s2 e2 r1, o < 8 → P4 (o + 1) r (.inl (x, (k2, s2, e2) :: r1)) → ¬ k2 = 41 → P1 o ((40, s, e) :: r) (.inr s2)) ∧
  (∀ o s e r p, o < 8 → P4 (o + 1) r (.inr p) → P1 o ((40, s, e) :: r) (.inr p))
/-- what is closed under a chain -/
def CloL (z w : Int32) (f : Int32 → Int32 → Int32) (P1 P2 : PR) (P3 : PL) : Prop :=
  (∀ o r x r1 y, P1 o r (.inl (x, r1)) → P3 o x r1 y → P2 o r y) ∧
  (∀ o r p, P1 o r (.inr p) → P2 o r (.inr p)) ∧
  (∀ o x k s e r, ¬ k = z → P3 o x ((k, s, e) :: r) (.inl (x, (k, s, e) :: r))) ∧
  (∀ o x s e r y r1 q, P1 o r (.inl (y, r1)) → P3 o (x.1 ++ y.1 ++ [(w, 0)], f x.2 y.2) r1 q → P3 o x ((z, s, e) :: r) q) ∧
  (∀ o x s e r p, P1 o r (.inr p) → P3 o x ((z, s, e) :: r) (.inr p))
def cPo (P : Rs Cnd → Prop) (n c : Nat) (r : List Tok) (S : jS) (J : jH) : jO → jH → Prop := fun o h => ∃ y : Rs Cnd, P y ∧ (∀ x r1, y = .inl (x, r1) → r1.length < r.length) ∧ pst n c [12, 13, 14, 15, 16, 17] S J (yI fun x => x.2) y o h
/-- the contract of a piece of the condition, for every stand -/
def cOn (M : jR) (K : jK) (A : Nat → Nat → Int32) (n c D o : Nat) (P : PR) : Prop := ∀ d, D ≤ d → ∀ (S : jS) (J : jH) (r : List Tok), Rdr S n c r → S.2.1 = A → jM K M d [.ref 42, .int (nI o)] (lay S ++ J) (cPo (P o r) n c r S J) 0 0
section CPO
variable {K : jK} {M : jR} {d pc : Nat} {ls : List (Nat × Value)} {st st0 : List Value} {h : jH} {Q : jO → jH → Prop} {mc ms : Nat}
theorem j_cpo {P : Rs Cnd → Prop} {n c : Nat} {r : List Tok} {S : jS} {J : jH} (hcall : jCall K M d pc ls st0 st h (cPo P n c r S J) 0 0) (hh : M.2.2.2.2 = [])
    (kr : ∀ x r1 S', P (.inl (x, r1)) → r1.length < r.length → frm [12, 13, 14, 15, 16, 17] S S' → Rdr S' n c r1 → jE K M d (pc + 3) ls (.int x.2 :: st) (lay S' ++ J) Q mc ms)
    (kt : ∀ p S', P (.inr p) → frm [10, 12, 13, 14, 15, 16, 17] S S' → S'.1 10 = nI p → Q (.inr 10) (lay S' ++ J ++ [.inr (10, [])])) : jE K M d pc ls st0 h Q mc ms := by
  refine j_ret0 hcall hh (fun v g hq => ?_) (fun k g hq => ?_)
  · obtain ⟨y, hy, hl, hq⟩ := hq
    unfold pst at hq
    split at hq
    · obtain ⟨S', rfl, h1, h2, h3⟩ := hq
      cases h3
      exact kr _ _ S' hy (hl _ _ rfl) h1 h2
    · cases hq.1
  · obtain ⟨y, hy, hl, hq⟩ := hq
    unfold pst at hq
    split at hq
    · obtain ⟨S', rfl, h1, h2, h3⟩ := hq
      cases h3
    · obtain ⟨h0, S', rfl, h1, h2⟩ := hq
      cases h0
      exact kt _ S' hy h1 h2
end CPO
theorem Rdr.last {S : jS} {n c : Nat} {k : Int32} {s e : Nat} (h : Rdr S n c [(k, s, e)]) : k = 46 := by
  obtain ⟨a, k', s', e', r1, hr, -, -, -, -, -, -, -, hx⟩ := h.cur
  cases hr
  by_cases hk : k = 46
  · exact hk
  · obtain ⟨_, _, _, _, _, h0, -⟩ := (hx hk).2.2.cur
    cases h0
theorem Rdr.len {S : jS} {n c : Nat} {r : List Tok} (h : Rdr S n c r) : r.length ≤ 101 := by
  obtain ⟨h1, h2, h3, h4, h5, h6, h7, h8, a, h9, h10, h11⟩ := h
  have hl := tokL_len (S.2.1 5) n (n - 0) 0 (Nat.le_refl _) (Nat.zero_le _)
  rw [← h10, List.length_drop]
  omega
theorem c_S_readClause {K : jK} {A : Nat → Nat → Int32} {n c D o : Nat} {P1 P2 : PR} {P3 : PL} {w : Int32} (hC : CloL 38 w (fun a b => a &&& b) P1 P2 P3) (hO : cOn M_S_readOne K A n c D o P1) (hD : 7 ≤ D) : cOn M_S_readClause K A n c (D + 1) o P2 := by
  intro d hd S J r hR hA
  obtain ⟨c1, c2, c3, c4, c5⟩ := hC
  refine jM.of (by decide) (Nat.le_of_ble_eq_true rfl) ?_
  have loop : ∀ m i (S1 : jS) (x : Cnd) (r1 : List Tok), m + i = 100 → frm [12, 13, 14, 15, 16, 17] S S1 → Rdr S1 n c r1 → r1.length + i ≤ 101 → r1.length < r.length → (∀ y, P3 o x r1 y → P2 o r y) →
      jE K M_S_readClause d 8 [(0, .ref 42), (1, .int (nI o)), (2, .int x.2), (3, .int (nI i))] [] (lay S1 ++ J) (cPo (P2 o r) n c r S J) 0 0 := by
    intro m
    induction m with
    | zero =>
      intro i S1 x r1 hm hf hR1 hlen hlt hP
      have hi : i = 100 := by omega
      subst hi
      obtain ⟨a, k, s, e, r2, rfl, ha, h101, hk, hs, he, hse, hen, hnx⟩ := hR1.cur
      cases r2 with
      | cons q r2 => simp at hlen
      | nil =>
        have k46 := hR1.last
        refine j_iload_n d_S_readClause_8 rfl ?_
        refine j_bipush (v := 100) d_S_readClause_9 (by decide) ?_
        refine j_icmp_geT (tgt := 47) d_S_readClause_11 rfl (show nI 100 ≤ nI 100 from nI_le (by omega) (by omega)) ?_
        refine j_iload_n d_S_readClause_47 rfl ?_
        refine j_iret rfl d_S_readClause_48 ⟨_, hP _ (c3 o x k s e [] (by rw [k46]; decide)), ?_, S1, rfl, hf, hR1, rfl⟩
        intro x' r' q
        cases q
        exact hlt
    | succ m ih =>
      intro i S1 x r1 hm hf hR1 hlen hlt hP
      obtain ⟨a, k, s, e, r2, rfl, ha, h101, hk, hs, he, hse, hen, hnx⟩ := hR1.cur
      have hl := hR1.2.2.2.2.2.2.1
      have hn1 := hR1.2.1
      have hll := tokL_len (S1.2.1 5) n (n - 0) 0 (Nat.le_refl _) (Nat.zero_le _)
      refine j_iload_n d_S_readClause_8 rfl ?_
      refine j_bipush (v := 100) d_S_readClause_9 (by decide) ?_
      refine j_icmp_geF (tgt := 47) d_S_readClause_11 rfl (show ¬ nI 100 ≤ nI i from nI_ge (by omega) (by omega)) ?_
      refine j_aload_n d_S_readClause_14 rfl ?_
      refine j_getf d_S_readClause_15 f_S_24 rfl rfl ?_
      refine j_bipush (v := 38) d_S_readClause_18 (by decide) ?_
      refine j_retI (j_callV d_S_readClause_20 v_K_isSign l_S_125 rfl rfl (m_K_isSign K (d - 1) S1 J 38 a ha h101) (by omega) (by decide) (Nat.le_of_ble_eq_true rfl) rfl) rfl ?_
      rw [hk]
      by_cases hz : k = 38
      · rw [b2i_dT hz]
        have hx := hnx (by rw [hz]; decide)
        refine j_if_eqF (tgt := 47) d_S_readClause_23 rfl (by decide) ?_
        refine j_aload_n d_S_readClause_26 rfl ?_
        refine j_getf d_S_readClause_27 f_S_24 rfl rfl ?_
        refine j_retV (j_callV d_S_readClause_30 v_K_advance l_S_99 rfl rfl (m_K_advance K (d - 1) S1 J a ha h101 _ hl hx.2.1 (by omega)) (by omega) (by decide) (Nat.le_of_ble_eq_true rfl) rfl) rfl ?_
        refine j_iload_n d_S_readClause_33 rfl ?_
        refine j_aload_n d_S_readClause_34 rfl ?_
        refine j_iload_n d_S_readClause_35 rfl ?_
        have f2 : frm [12, 13, 14, 15, 16, 17] S (s1 S1 12 (nI (a + 1))) := hf.s1 (by decide) _
        refine j_cpo (j_callV d_S_readClause_36 v_S_readOne l_S_129 rfl rfl (hO (d - 1) (by omega) (s1 S1 12 (nI (a + 1))) J r2 hx.2.2 (f2.sy.trans hA)) (by omega) (by decide) (Nat.le_of_ble_eq_true rfl) rfl) rfl (fun y r3 S3 hy hl3 f3 hR3 => ?_) (fun p S3 hy f3 hp3 => ?_)
        · refine j_iand d_S_readClause_39 ?_
          refine j_istore_n d_S_readClause_40 (by decide) ?_
          refine j_iincN d_S_readClause_41 rfl (by decide) ?_
          refine j_goto (tgt := 8) d_S_readClause_44 rfl ?_
          refine j_loc' [(0, .ref 42), (1, .int (nI o)), (2, .int ((fun a b => a &&& b) x.2 y.2)), (3, .int (nI (i + 1)))] ⟨rfl, rfl, rfl, rfl, trivial⟩ ?_
          simp only [List.length_cons] at hlen hlt
          refine ih (i + 1) S3 (x.1 ++ y.1 ++ [(w, 0)], (fun a b => a &&& b) x.2 y.2) r3 (by omega) (f2.tr f3) hR3 (by omega) (by omega) ?_
          intro q hq
          subst hz
          exact hP q (c4 o x s e r2 y r3 q hy hq)
        · subst hz
          refine ⟨_, hP _ (c5 o x s e r2 p hy), (fun x' r' q => by cases q), rfl, S3, rfl, (f2.up (by decide)).tr f3, hp3⟩
      · rw [b2i_dF hz]
        refine j_if_eqT (tgt := 47) d_S_readClause_23 rfl rfl ?_
        refine j_iload_n d_S_readClause_47 rfl ?_
        refine j_iret rfl d_S_readClause_48 ⟨_, hP _ (c3 o x k s e r2 hz), ?_, S1, rfl, hf, hR1, rfl⟩
        intro x' r' q
        cases q
        exact hlt
  refine j_aload_n d_S_readClause_0 rfl ?_
  refine j_iload_n d_S_readClause_1 rfl ?_
  refine j_cpo (j_callV d_S_readClause_2 v_S_readOne l_S_129 rfl rfl (hO (d - 1) (by omega) S J r hR hA) (by omega) (by decide) (Nat.le_of_ble_eq_true rfl) rfl) rfl (fun y r3 S3 hy hl3 f3 hR3 => ?_) (fun p S3 hy f3 hp3 => ?_)
  · refine j_istore_n d_S_readClause_5 (by decide) ?_
    refine j_iconst (v := 0) d_S_readClause_6 rfl ?_
    refine j_istore_n d_S_readClause_7 (by decide) ?_
    have := hR.len
    refine j_loc' [(0, .ref 42), (1, .int (nI o)), (2, .int y.2), (3, .int (nI 0))] ⟨rfl, rfl, rfl, rfl, trivial⟩ ?_
    exact loop 100 0 S3 y r3 rfl f3 hR3 (by omega) hl3 (fun q hq => c1 o r y r3 q hy hq)
  · exact ⟨_, c2 o r p hy, (fun x' r' q => by cases q), rfl, S3, rfl, f3, hp3⟩
theorem c_S_readCondition {K : jK} {A : Nat → Nat → Int32} {n c D o : Nat} {P1 P2 : PR} {P3 : PL} {w : Int32} (hC : CloL 124 w (fun a b => a ||| b) P1 P2 P3) (hO : cOn M_S_readClause K A n c D o P1) (hD : 7 ≤ D) : cOn M_S_readCondition K A n c (D + 1) o P2 := by
  intro d hd S J r hR hA
  obtain ⟨c1, c2, c3, c4, c5⟩ := hC
  refine jM.of (by decide) (Nat.le_of_ble_eq_true rfl) ?_
  have loop : ∀ m i (S1 : jS) (x : Cnd) (r1 : List Tok), m + i = 100 → frm [12, 13, 14, 15, 16, 17] S S1 → Rdr S1 n c r1 → r1.length + i ≤ 101 → r1.length < r.length → (∀ y, P3 o x r1 y → P2 o r y) →
      jE K M_S_readCondition d 8 [(0, .ref 42), (1, .int (nI o)), (2, .int x.2), (3, .int (nI i))] [] (lay S1 ++ J) (cPo (P2 o r) n c r S J) 0 0 := by
    intro m
    induction m with
    | zero =>
      intro i S1 x r1 hm hf hR1 hlen hlt hP
      have hi : i = 100 := by omega
      subst hi
      obtain ⟨a, k, s, e, r2, rfl, ha, h101, hk, hs, he, hse, hen, hnx⟩ := hR1.cur
      cases r2 with
      | cons q r2 => simp at hlen
      | nil =>
        have k46 := hR1.last
        refine j_iload_n d_S_readCondition_8 rfl ?_
        refine j_bipush (v := 100) d_S_readCondition_9 (by decide) ?_
        refine j_icmp_geT (tgt := 47) d_S_readCondition_11 rfl (show nI 100 ≤ nI 100 from nI_le (by omega) (by omega)) ?_
        refine j_iload_n d_S_readCondition_47 rfl ?_
        refine j_iret rfl d_S_readCondition_48 ⟨_, hP _ (c3 o x k s e [] (by rw [k46]; decide)), ?_, S1, rfl, hf, hR1, rfl⟩
        intro x' r' q
        cases q
        exact hlt
    | succ m ih =>
      intro i S1 x r1 hm hf hR1 hlen hlt hP
      obtain ⟨a, k, s, e, r2, rfl, ha, h101, hk, hs, he, hse, hen, hnx⟩ := hR1.cur
      have hl := hR1.2.2.2.2.2.2.1
      have hn1 := hR1.2.1
      have hll := tokL_len (S1.2.1 5) n (n - 0) 0 (Nat.le_refl _) (Nat.zero_le _)
      refine j_iload_n d_S_readCondition_8 rfl ?_
      refine j_bipush (v := 100) d_S_readCondition_9 (by decide) ?_
      refine j_icmp_geF (tgt := 47) d_S_readCondition_11 rfl (show ¬ nI 100 ≤ nI i from nI_ge (by omega) (by omega)) ?_
      refine j_aload_n d_S_readCondition_14 rfl ?_
      refine j_getf d_S_readCondition_15 f_S_24 rfl rfl ?_
      refine j_bipush (v := 124) d_S_readCondition_18 (by decide) ?_
      refine j_retI (j_callV d_S_readCondition_20 v_K_isSign l_S_125 rfl rfl (m_K_isSign K (d - 1) S1 J 124 a ha h101) (by omega) (by decide) (Nat.le_of_ble_eq_true rfl) rfl) rfl ?_
      rw [hk]
      by_cases hz : k = 124
      · rw [b2i_dT hz]
        have hx := hnx (by rw [hz]; decide)
        refine j_if_eqF (tgt := 47) d_S_readCondition_23 rfl (by decide) ?_
        refine j_aload_n d_S_readCondition_26 rfl ?_
        refine j_getf d_S_readCondition_27 f_S_24 rfl rfl ?_
        refine j_retV (j_callV d_S_readCondition_30 v_K_advance l_S_99 rfl rfl (m_K_advance K (d - 1) S1 J a ha h101 _ hl hx.2.1 (by omega)) (by omega) (by decide) (Nat.le_of_ble_eq_true rfl) rfl) rfl ?_
        refine j_iload_n d_S_readCondition_33 rfl ?_
        refine j_aload_n d_S_readCondition_34 rfl ?_
        refine j_iload_n d_S_readCondition_35 rfl ?_
        have f2 : frm [12, 13, 14, 15, 16, 17] S (s1 S1 12 (nI (a + 1))) := hf.s1 (by decide) _
        refine j_cpo (j_callV d_S_readCondition_36 v_S_readClause l_S_122 rfl rfl (hO (d - 1) (by omega) (s1 S1 12 (nI (a + 1))) J r2 hx.2.2 (f2.sy.trans hA)) (by omega) (by decide) (Nat.le_of_ble_eq_true rfl) rfl) rfl (fun y r3 S3 hy hl3 f3 hR3 => ?_) (fun p S3 hy f3 hp3 => ?_)
        · refine j_ior d_S_readCondition_39 ?_
          refine j_istore_n d_S_readCondition_40 (by decide) ?_
          refine j_iincN d_S_readCondition_41 rfl (by decide) ?_
          refine j_goto (tgt := 8) d_S_readCondition_44 rfl ?_
          refine j_loc' [(0, .ref 42), (1, .int (nI o)), (2, .int ((fun a b => a ||| b) x.2 y.2)), (3, .int (nI (i + 1)))] ⟨rfl, rfl, rfl, rfl, trivial⟩ ?_
          simp only [List.length_cons] at hlen hlt
          refine ih (i + 1) S3 (x.1 ++ y.1 ++ [(w, 0)], (fun a b => a ||| b) x.2 y.2) r3 (by omega) (f2.tr f3) hR3 (by omega) (by omega) ?_
          intro q hq
          subst hz
          exact hP q (c4 o x s e r2 y r3 q hy hq)
        · subst hz
          refine ⟨_, hP _ (c5 o x s e r2 p hy), (fun x' r' q => by cases q), rfl, S3, rfl, (f2.up (by decide)).tr f3, hp3⟩
      · rw [b2i_dF hz]
        refine j_if_eqT (tgt := 47) d_S_readCondition_23 rfl rfl ?_
        refine j_iload_n d_S_readCondition_47 rfl ?_
        refine j_iret rfl d_S_readCondition_48 ⟨_, hP _ (c3 o x k s e r2 hz), ?_, S1, rfl, hf, hR1, rfl⟩
        intro x' r' q
        cases q
        exact hlt
  refine j_aload_n d_S_readCondition_0 rfl ?_
  refine j_iload_n d_S_readCondition_1 rfl ?_
  refine j_cpo (j_callV d_S_readCondition_2 v_S_readClause l_S_122 rfl rfl (hO (d - 1) (by omega) S J r hR hA) (by omega) (by decide) (Nat.le_of_ble_eq_true rfl) rfl) rfl (fun y r3 S3 hy hl3 f3 hR3 => ?_) (fun p S3 hy f3 hp3 => ?_)
  · refine j_istore_n d_S_readCondition_5 (by decide) ?_
    refine j_iconst (v := 0) d_S_readCondition_6 rfl ?_
    refine j_istore_n d_S_readCondition_7 (by decide) ?_
    have := hR.len
    refine j_loc' [(0, .ref 42), (1, .int (nI o)), (2, .int y.2), (3, .int (nI 0))] ⟨rfl, rfl, rfl, rfl, trivial⟩ ?_
    exact loop 100 0 S3 y r3 rfl f3 hR3 (by omega) hl3 (fun q hq => c1 o r y r3 q hy hq)
  · exact ⟨_, c2 o r p hy, (fun x' r' q => by cases q), rfl, S3, rfl, f3, hp3⟩
theorem c_S_readOne {K : jK} {A : Nat → Nat → Int32} {n c D o : Nat} {P1 P4 : PR} (hC : Clo1 A c P1 P4) (ho : o ≤ 8) (hO : o < 8 → cOn M_S_readOne K A n c D (o + 1) P1) (hN : o < 8 → cOn M_S_readCondition K A n c D (o + 1) P4) (hD : 9 ≤ D) : cOn M_S_readOne K A n c (D + 1) o P1 := by
  intro d hd S J r hR hA
  obtain ⟨c1, c2, c3, c4, c5, c6, c7⟩ := hC
  refine jM.of (by decide) (Nat.le_of_ble_eq_true rfl) ?_
  obtain ⟨a, k, s, e, r2, rfl, ha, h101, hk, hs, he, hse, hen, hnx⟩ := hR.cur
  have hl := hR.2.2.2.2.2.2.1
  have hn1 := hR.2.1
  have hll := tokL_len (S.2.1 5) n (n - 0) 0 (Nat.le_refl _) (Nat.zero_le _)
  have deep : ∀ ls, (k = 33 ∨ k = 40) → 8 ≤ o → j_lg ls 0 = some (.ref 42) → j_lg ls 1 = some (.int (nI o)) → jE K M_S_readOne d 31 ls [] (lay S ++ J) (cPo (P1 o ((k, s, e) :: r2)) n c ((k, s, e) :: r2) S J) 0 0 := by
    intro ls hor h8 l0 l1
    refine j_iload_n d_S_readOne_31 l1 ?_
    refine j_bipush (v := 8) d_S_readOne_32 (by decide) ?_
    refine j_icmp_ltF (tgt := 41) d_S_readOne_34 rfl (show ¬ nI o < nI 8 from Int32.not_lt.mpr (nI_le (by omega) (by omega))) ?_
    refine j_aload_n d_S_readOne_37 l0 ?_
    refine j_retX (j_callV d_S_readOne_38 v_S_refuse l_S_113 rfl rfl (m_S_refuse K (d - 1) (by omega) S J a ha h101 s hs) (by omega) (by decide) (Nat.le_of_ble_eq_true rfl) rfl) rfl ?_
    exact ⟨_, c2 o k s e r2 hor h8, (fun x' r' q => by cases q), rfl, _, rfl, (frm.rf _ S).s1 (by decide) _, rfl⟩
  refine j_aload_n d_S_readOne_0 rfl ?_
  refine j_getf d_S_readOne_1 f_S_24 rfl rfl ?_
  refine j_bipush (v := 33) d_S_readOne_4 (by decide) ?_
  refine j_retI (j_callV d_S_readOne_6 v_K_isSign l_S_125 rfl rfl (m_K_isSign K (d - 1) S J 33 a ha h101) (by omega) (by decide) (Nat.le_of_ble_eq_true rfl) rfl) rfl ?_
  rw [hk]
  by_cases h33 : k = 33
  · rw [b2i_dT h33]
    refine j_istore_n d_S_readOne_9 (by decide) ?_
    refine j_iload_n d_S_readOne_10 rfl ?_
    refine j_if_neT (tgt := 31) d_S_readOne_11 rfl (by decide) ?_
    by_cases h8 : 8 ≤ o
    · exact deep _ (.inl h33) h8 rfl rfl
    · have o8 : o < 8 := by omega
      have hx := hnx (by rw [h33]; decide)
      refine j_iload_n d_S_readOne_31 rfl ?_
      refine j_bipush (v := 8) d_S_readOne_32 (by decide) ?_
      refine j_icmp_ltT (tgt := 41) d_S_readOne_34 rfl (show nI o < nI 8 from Int32.not_le.mp (nI_ge (by omega) (by omega))) ?_
      refine j_aload_n d_S_readOne_41 rfl ?_
      refine j_getf d_S_readOne_42 f_S_24 rfl rfl ?_
      refine j_retV (j_callV d_S_readOne_45 v_K_advance l_S_99 rfl rfl (m_K_advance K (d - 1) S J a ha h101 _ hl hx.2.1 (by omega)) (by omega) (by decide) (Nat.le_of_ble_eq_true rfl) rfl) rfl ?_
      refine j_iload_n d_S_readOne_48 rfl ?_
      refine j_if_eqF (tgt := 62) d_S_readOne_49 rfl (by decide) ?_
      refine j_aload_n d_S_readOne_52 rfl ?_
      refine j_iload_n d_S_readOne_53 rfl ?_
      refine j_iconst (v := 1) d_S_readOne_54 rfl ?_
      refine j_iadd d_S_readOne_55 ?_
      refine j_top (w := .int (nI (o + 1))) (by rw [nI_succ]) ?_
      have f2 : frm [12, 13, 14, 15, 16, 17] S (s1 S 12 (nI (a + 1))) := (frm.rf _ S).s1 (by decide) _
      refine j_cpo (j_callV d_S_readOne_56 v_S_readOne l_S_129 rfl rfl (hO o8 (d - 1) (by omega) (s1 S 12 (nI (a + 1))) J r2 hx.2.2 hA) (by omega) (by decide) (Nat.le_of_ble_eq_true rfl) rfl) rfl (fun y r3 S3 hy hl3 f3 hR3 => ?_) (fun p S3 hy f3 hp3 => ?_)
      · refine j_iconst (v := -1) d_S_readOne_59 rfl ?_
        refine j_ixor d_S_readOne_60 ?_
        subst h33
        refine j_iret rfl d_S_readOne_61 ⟨_, c3 o s e r2 y r3 o8 hy, ?_, S3, rfl, f2.tr f3, hR3, rfl⟩
        intro x' r' q
        cases q
        simp only [List.length_cons]
        omega
      · subst h33
        exact ⟨_, c4 o s e r2 p o8 hy, (fun x' r' q => by cases q), rfl, S3, rfl, (f2.up (by decide)).tr f3, hp3⟩
  · rw [b2i_dF h33]
    refine j_istore_n d_S_readOne_9 (by decide) ?_
    refine j_iload_n d_S_readOne_10 rfl ?_
    refine j_if_neF (tgt := 31) d_S_readOne_11 rfl rfl ?_
    refine j_aload_n d_S_readOne_14 rfl ?_
    refine j_getf d_S_readOne_15 f_S_24 rfl rfl ?_
    refine j_bipush (v := 40) d_S_readOne_18 (by decide) ?_
    refine j_retI (j_callV d_S_readOne_20 v_K_isSign l_S_125 rfl rfl (m_K_isSign K (d - 1) S J 40 a ha h101) (by omega) (by decide) (Nat.le_of_ble_eq_true rfl) rfl) rfl ?_
    rw [hk]
    by_cases h40 : k = 40
    · rw [b2i_dT h40]
      refine j_if_neT (tgt := 31) d_S_readOne_23 rfl (by decide) ?_
      by_cases h8 : 8 ≤ o
      · exact deep _ (.inr h40) h8 rfl rfl
      · have o8 : o < 8 := by omega
        have hx := hnx (by rw [h40]; decide)
        refine j_iload_n d_S_readOne_31 rfl ?_
        refine j_bipush (v := 8) d_S_readOne_32 (by decide) ?_
        refine j_icmp_ltT (tgt := 41) d_S_readOne_34 rfl (show nI o < nI 8 from Int32.not_le.mp (nI_ge (by omega) (by omega))) ?_
        refine j_aload_n d_S_readOne_41 rfl ?_
        refine j_getf d_S_readOne_42 f_S_24 rfl rfl ?_
        refine j_retV (j_callV d_S_readOne_45 v_K_advance l_S_99 rfl rfl (m_K_advance K (d - 1) S J a ha h101 _ hl hx.2.1 (by omega)) (by omega) (by decide) (Nat.le_of_ble_eq_true rfl) rfl) rfl ?_
        refine j_iload_n d_S_readOne_48 rfl ?_
        refine j_if_eqT (tgt := 62) d_S_readOne_49 rfl rfl ?_
        refine j_aload_n d_S_readOne_62 rfl ?_
        refine j_iload_n d_S_readOne_63 rfl ?_
        refine j_iconst (v := 1) d_S_readOne_64 rfl ?_
        refine j_iadd d_S_readOne_65 ?_
        refine j_top (w := .int (nI (o + 1))) (by rw [nI_succ]) ?_
        have f2 : frm [12, 13, 14, 15, 16, 17] S (s1 S 12 (nI (a + 1))) := (frm.rf _ S).s1 (by decide) _
        refine j_cpo (j_callV d_S_readOne_66 v_S_readCondition l_S_102 rfl rfl (hN o8 (d - 1) (by omega) (s1 S 12 (nI (a + 1))) J r2 hx.2.2 hA) (by omega) (by decide) (Nat.le_of_ble_eq_true rfl) rfl) rfl (fun y r3 S3 hy hl3 f3 hR3 => ?_) (fun p S3 hy f3 hp3 => ?_)
        · refine j_istore_n d_S_readOne_69 (by decide) ?_
          refine j_aload_n d_S_readOne_70 rfl ?_
          refine j_bipush (v := 41) d_S_readOne_71 (by decide) ?_
          subst h40
          obtain ⟨a3, k3, s3, e3, r4, rfl, ha3, h1013, hk3, hs3, he3, hse3, hen3, hnx3⟩ := hR3.cur
          refine j_pst (j_callV d_S_readOne_73 v_S_passSign l_S_135 rfl rfl (m_S_passSign K (d - 1) (by omega) S3 J n c _ hR3 41 (by decide)) (by omega) (by decide) (Nat.le_of_ble_eq_true rfl) rfl) rfl (fun _ _ _ q => by cases q) (fun u r5 v5 S5 hx5 f5 hR5 hv5 => ?_) (fun p S5 hp f5 hp5 => ?_)
          · by_cases h41 : k3 = 41
            · rw [pPass, if_pos h41] at hx5
              cases hx5
              cases hv5
              subst h41
              refine j_st (st' := []) rfl ?_
              refine j_iload_n d_S_readOne_76 rfl ?_
              refine j_iret rfl d_S_readOne_77 ⟨_, c5 o s e r2 y s3 e3 r4 o8 hy, ?_, S5, rfl, (f2.tr f3).tr (f5.up (by decide)), hR5, rfl⟩
              intro x' r' q
              cases q
              simp only [List.length_cons] at hl3 ⊢
              omega
            · rw [pPass, if_neg h41] at hx5
              cases hx5
          · by_cases h41 : k3 = 41
            · rw [pPass, if_pos h41] at hp
              cases hp
            · rw [pPass, if_neg h41] at hp
              cases hp
              exact ⟨_, c6 o s e r2 y k3 _ e3 r4 o8 hy h41, (fun x' r' q => by cases q), rfl, S5, rfl, ((f2.tr f3).up (by decide)).tr (f5.up (by decide)), hp5⟩
        · subst h40
          exact ⟨_, c7 o s e r2 p o8 hy, (fun x' r' q => by cases q), rfl, S3, rfl, (f2.up (by decide)).tr f3, hp3⟩
    · rw [b2i_dF h40]
      refine j_if_neF (tgt := 31) d_S_readOne_23 rfl rfl ?_
      refine j_aload_n d_S_readOne_26 rfl ?_
      have h0 := c1 o k s e r2 h33 h40
      subst hA
      refine j_pst (j_callV d_S_readOne_27 v_S_readComparison l_S_132 rfl rfl (m_S_readComparison K (d - 1) (by omega) S J n c _ hR) (by omega) (by decide) (Nat.le_of_ble_eq_true rfl) rfl) rfl (fun _ _ _ q => by cases q) (fun q r5 v5 S5 hx5 f5 hR5 hv5 => ?_) (fun p S5 hp f5 hp5 => ?_)
      · cases hv5
        rw [hx5] at h0
        refine j_iret rfl d_S_readOne_30 ⟨_, h0, ?_, S5, rfl, f5, hR5, rfl⟩
        intro x' r' q
        cases q
        exact pCmp_len hx5
      · rw [hp] at h0
        exact ⟨_, h0, (fun x' r' q => by cases q), rfl, S5, rfl, f5, hp5⟩
/-- the three of them, at every depth -/
theorem c_all {K : jK} {A : Nat → Nat → Int32} {n c : Nat} {P1 P2 P4 : PR} {P3 P5 : PL} (h1 : Clo1 A c P1 P4) (h2 : CloL 38 2 (fun a b => a &&& b) P1 P2 P3) (h3 : CloL 124 1 (fun a b => a ||| b) P2 P4 P5) : ∀ j o, o + j = 8 → cOn M_S_readOne K A n c (10 + 3 * j) o P1 ∧ cOn M_S_readCondition K A n c (12 + 3 * j) o P4
  | 0, o, ho => by
    have a1 : cOn M_S_readOne K A n c (9 + 1) o P1 := c_S_readOne h1 (by omega) (fun q => absurd q (by omega)) (fun q => absurd q (by omega)) (Nat.le_refl _)
    exact ⟨a1, c_S_readCondition h3 (c_S_readClause h2 a1 (by omega)) (by omega)⟩
  | j + 1, o, ho => by
    obtain ⟨i1, i2⟩ := c_all h1 h2 h3 j (o + 1) (by omega)
    have a1 : cOn M_S_readOne K A n c ((12 + 3 * j) + 1) o P1 := c_S_readOne h1 (by omega) (fun _ d hd => i1 d (by omega)) (fun _ => i2) (by omega)
    exact ⟨fun d hd => a1 d (by omega), fun d hd => c_S_readCondition h3 (c_S_readClause h2 a1 (by omega)) (by omega) d (by omega)⟩
