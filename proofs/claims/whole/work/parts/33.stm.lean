/-! BitLoom$Statement.readAction, read -/
abbrev Act : Type := Nat × Nat × Chg × Option Chg
def pAct (T N : Nat → Int32) (c : Nat) (r : List Tok) : Rs Act := match pVerb T r with
  | .inr p => .inr p
  | .inl (v, r1) => if v = 0 then (match pChg T N c r1 with
      | .inr p => .inr p
      | .inl (_, []) => .inr 0
      | .inl (q, (k, s, e) :: r3) => if k = 44 then (match pChg T N c r3 with | .inr p => .inr p | .inl (q2, r4) => .inl ((0, 0, q, some q2), r4)) else .inl ((0, 0, q, none), (k, s, e) :: r3))
    else if v = 5 then .inl ((5, 0, (0, .inr 0, 32, .inr 0), none), r1)
    else match pFld T N c r1 with
      | .inr p => .inr p
      | .inl (f, r2) => .inl ((v, f, (0, .inr 0, 32, .inr 0), none), r2)
/-- the action that is told by the reader's numbers -/
def aIs (q : Act) (S : jS) : Prop := q.1 < 6 ∧ (q.1 = 0 → isC 18 20 21 19 22 23 q.2.2.1 S ∧ (match q.2.2.2 with | none => S.1 7 = 0 | some z => S.1 7 = 1 ∧ isC 24 26 27 25 28 29 z S)) ∧ (¬ q.1 = 0 → ¬ q.1 = 5 → q.2.1 < 6 ∧ S.1 8 = nI q.2.1)
def actQ (n c : Nat) (S : jS) (J : jH) (x : Rs Act) (o : jO) (h : jH) : Prop := match x with
  | .inl (q, r) => o = .inl none ∧ ∃ S', h = lay S' ++ J ∧ frm [7, 8, 12, 18, 19, 20, 21, 22, 23, 24, 25, 26, 27, 28, 29] (s5 S (2 + q.1)) S' ∧ Rdr S' n c r ∧ aIs q S'
  | .inr p => o = .inr 10 ∧ ∃ (S' : jS) (x : Nat), h = lay S' ++ J ++ [.inr (10, [])] ∧ frm (10 :: [7, 8, 12, 18, 19, 20, 21, 22, 23, 24, 25, 26, 27, 28, 29]) (s5 S x) S' ∧ S'.1 10 = nI p
theorem isC_keep {t l m g l2 m2 : Nat} {q : Chg} {S S' : jS} {Y : List Nat} (h : isC t l m g l2 m2 q S) (f : frm Y S S') (hY : (Y.contains t || Y.contains g || (Y.contains l || Y.contains m) || (Y.contains l2 || Y.contains m2)) = false) : isC t l m g l2 m2 q S' := by
  simp only [Bool.or_eq_false_iff] at hY
  obtain ⟨⟨⟨y1, y2⟩, y3⟩, y4⟩ := hY
  obtain ⟨h1, h2, h3, h4, h5⟩ := h
  simp only [List.contains_eq_mem, decide_eq_false_iff_not] at y1 y2
  exact ⟨h1, (f.1 t y1).trans h2, isO_keep h3 f (by rw [Bool.or_eq_false_iff]; exact y3), (f.1 g y2).trans h4, h5.imp id fun q => ⟨q.1, isO_keep q.2 f (by rw [Bool.or_eq_false_iff]; exact y4)⟩⟩
theorem m_S_readAction (K : jK) (d : Nat) (hd : 10 ≤ d) (S : jS) (J : jH) (n c : Nat) (r : List Tok) (hR : Rdr S n c r) : jM K M_S_readAction d [.ref 42] (lay S ++ J) (actQ n c S J (pAct (S.2.1 5) (S.2.1 0) c r)) 0 0 := by
  refine jM.of (by decide) (Nat.le_of_ble_eq_true rfl) ?_
  have hSET : ∀ s, jX K s → va_Z "BitLoom$Action" "SET" "LBitLoom$Action;" (j_v K (.ref 2)) (jA K) s K.2.2.1 := x_actN K (i := 0) (by omega)
  have hCNT : ∀ s, jX K s → va_Z "BitLoom$Action" "COUNT" "LBitLoom$Action;" (j_v K (.ref 7)) (jA K) s K.2.2.1 := x_actN K (i := 5) (by omega)
  refine j_aload_n d_S_readAction_0 rfl ?_
  refine j_ret0 (j_callV d_S_readAction_1 v_S_readVerb l_S_164 rfl rfl (m_S_readVerb K (d - 1) (by omega) S J n c r hR) (by omega) (by decide) (Nat.le_of_ble_eq_true rfl) rfl) rfl (fun v0 g0 hq => ?_) (fun k0 g0 hq => ?_)
  rotate_left
  · unfold verbQ at hq
    split at hq
    · cases hq.1
    · rename_i p hp
      obtain ⟨h0, rfl⟩ := hq
      cases h0
      rw [show pAct (S.2.1 5) (S.2.1 0) c r = .inr p by unfold pAct; rw [hp]]
      exact ⟨rfl, _, S.2.2.2.2, rfl, (frm.rf (10 :: [7, 8, 12, 18, 19, 20, 21, 22, 23, 24, 25, 26, 27, 28, 29]) S).s1 (by decide) _, rfl⟩
  unfold verbQ at hq
  split at hq
  rotate_left
  · cases hq.1
  rename_i v r1 hverb
  obtain ⟨h0, a, rfl, hR1, hv6⟩ := hq
  cases h0
  refine j_st (st' := []) rfl ?_
  have f0 : frm [7, 8, 12, 18, 19, 20, 21, 22, 23, 24, 25, 26, 27, 28, 29] (s5 S (2 + v)) (s5 (s1 S 12 (nI a)) (2 + v)) := (frm.rf [7, 8, 12, 18, 19, 20, 21, 22, 23, 24, 25, 26, 27, 28, 29] (s5 S (2 + v))).s1 (by decide) (nI a)
  have hR1 : Rdr (s5 (s1 S 12 (nI a)) (2 + v)) n c r1 := hR1
  refine j_aload_n d_S_readAction_4 rfl ?_
  refine j_getf d_S_readAction_5 f_S_53 rfl rfl ?_
  refine j_gets d_S_readAction_8 (.inl z_S_167) hSET ?_
  by_cases hv0 : v = 0
  · subst hv0
    refine j_acmp_neF d_S_readAction_11 (tgt := 60) rfl ?_
    refine j_aload_n d_S_readAction_14 rfl ?_
    refine j_aload_n d_S_readAction_15 rfl ?_
    refine j_getf d_S_readAction_16 f_S_40 rfl rfl ?_
    refine j_pst (j_callV d_S_readAction_19 v_S_readChange l_S_170 rfl rfl (m_S_readChange_50 K (d - 1) (by omega) (s5 (s1 S 12 (nI a)) (2 + 0)) J n c r1 hR1) (by omega) (by decide) (Nat.le_of_ble_eq_true rfl) rfl) rfl (fun _ _ _ q => by cases q.1) (fun q r2 v2 S2 hx2 f2 hR2 hv2 => ?_) (fun p S2 hp f2 hp1 => ?_)
    rotate_left
    · have hp : pChg (S.2.1 5) (S.2.1 0) c r1 = .inr p := hp
      rw [show pAct (S.2.1 5) (S.2.1 0) c r = .inr p by unfold pAct; rw [hverb]; simp only; rw [if_pos trivial, hp]]
      exact ⟨rfl, S2, 2, rfl, (f0.up (by decide)).tr (f2.up (by decide)), hp1⟩
    have hx2 : pChg (S.2.1 5) (S.2.1 0) c r1 = .inl (q, r2) := hx2
    obtain ⟨hv2, hC2⟩ := hv2
    cases hv2
    refine j_st (st' := []) rfl ?_
    have g2 : frm [7, 8, 12, 18, 19, 20, 21, 22, 23, 24, 25, 26, 27, 28, 29] (s5 S (2 + 0)) S2 := f0.tr (f2.up (by decide))
    obtain ⟨a2, k, s, e, r3, rfl, ha, h101, hk, hs, he, hse, hen, hnx⟩ := hR2.cur
    have hl := hR2.2.2.2.2.2.2.1
    have hn1 := hR2.2.1
    have hll := tokL_len (S2.2.1 5) n (n - 0) 0 (Nat.le_refl _) (Nat.zero_le _)
    refine j_aload_n d_S_readAction_22 rfl ?_
    refine j_aload_n d_S_readAction_23 rfl ?_
    refine j_getf d_S_readAction_24 f_S_24 rfl rfl ?_
    refine j_bipush (v := 44) d_S_readAction_27 (by decide) ?_
    refine j_retI (j_callV d_S_readAction_29 v_K_isSign l_S_125 rfl rfl (m_K_isSign K (d - 1) S2 J 44 a2 ha h101) (by omega) (by decide) (Nat.le_of_ble_eq_true rfl) rfl) rfl ?_
    rw [hk]
    by_cases h44 : k = 44
    · rw [b2i_dT h44]
      have hx := hnx (by rw [h44]; decide)
      refine j_putf d_S_readAction_32 f_S_76 rfl (Nat.le_of_ble_eq_true rfl) rfl rfl rfl ?_
      refine j_hp (h' := lay (s1 S2 7 1) ++ J) rfl ?_
      refine j_aload_n d_S_readAction_35 rfl ?_
      refine j_getf d_S_readAction_36 f_S_76 rfl rfl ?_
      refine j_if_eqF (tgt := 78) d_S_readAction_39 rfl (show ¬ (1 : Int32) = 0 by decide) ?_
      refine j_aload_n d_S_readAction_42 rfl ?_
      refine j_getf d_S_readAction_43 f_S_24 rfl rfl ?_
      refine j_retV (j_callV d_S_readAction_46 v_K_advance l_S_99 rfl rfl (m_K_advance K (d - 1) (s1 S2 7 1) J a2 ha h101 _ hl hx.2.1 (by omega)) (by omega) (by decide) (Nat.le_of_ble_eq_true rfl) rfl) rfl ?_
      have g3 : frm [7, 8, 12, 18, 19, 20, 21, 22, 23, 24, 25, 26, 27, 28, 29] (s5 S (2 + 0)) (s1 (s1 S2 7 1) 12 (nI (a2 + 1))) := (g2.s1 (by decide) _).s1 (by decide) _
      have k3 : frm [7, 12] S2 (s1 (s1 S2 7 1) 12 (nI (a2 + 1))) := ((frm.rf _ S2).s1 (by decide) _).s1 (by decide) _
      have hR3 : Rdr (s1 (s1 S2 7 1) 12 (nI (a2 + 1))) n c r3 := hx.2.2
      refine j_aload_n d_S_readAction_49 rfl ?_
      refine j_aload_n d_S_readAction_50 rfl ?_
      refine j_getf d_S_readAction_51 f_S_44 rfl rfl ?_
      refine j_pst (j_callV d_S_readAction_54 v_S_readChange l_S_170 rfl rfl (m_S_readChange_54 K (d - 1) (by omega) (s1 (s1 S2 7 1) 12 (nI (a2 + 1))) J n c r3 hR3) (by omega) (by decide) (Nat.le_of_ble_eq_true rfl) rfl) rfl (fun _ _ _ q => by cases q.1) (fun q4 r4 v4 S4 hx4 f4 hR4 hv4 => ?_) (fun p S4 hp f4 hp1 => ?_)
      · rw [g3.sy] at hx4
        have hx4 : pChg (S.2.1 5) (S.2.1 0) c r3 = .inl (q4, r4) := hx4
        obtain ⟨hv4, hC4⟩ := hv4
        cases hv4
        refine j_st (st' := []) rfl ?_
        rw [show pAct (S.2.1 5) (S.2.1 0) c r = .inl ((0, 0, q, some q4), r4) by unfold pAct; rw [hverb]; simp only; rw [if_pos trivial, hx2]; simp only; rw [if_pos h44, hx4]]
        refine j_goto (tgt := 78) d_S_readAction_57 rfl ?_
        exact j_vret rfl d_S_readAction_78 ⟨rfl, S4, rfl, g3.tr (f4.up (by decide)), hR4, (show (0 : Nat) < 6 by decide), fun _ => ⟨isC_keep (isC_keep hC2 k3 (by decide)) f4 (by decide), (f4.1 7 (by decide)), hC4⟩, fun q => absurd rfl q⟩
      · rw [g3.sy] at hp
        have hp : pChg (S.2.1 5) (S.2.1 0) c r3 = .inr p := hp
        rw [show pAct (S.2.1 5) (S.2.1 0) c r = .inr p by unfold pAct; rw [hverb]; simp only; rw [if_pos trivial, hx2]; simp only; rw [if_pos h44, hp]]
        exact ⟨rfl, S4, 2, rfl, (g3.up (by decide)).tr (f4.up (by decide)), hp1⟩
    · rw [b2i_dF h44]
      refine j_putf d_S_readAction_32 f_S_76 rfl (Nat.le_of_ble_eq_true rfl) rfl rfl rfl ?_
      refine j_hp (h' := lay (s1 S2 7 0) ++ J) rfl ?_
      refine j_aload_n d_S_readAction_35 rfl ?_
      refine j_getf d_S_readAction_36 f_S_76 rfl rfl ?_
      refine j_if_eqT (tgt := 78) d_S_readAction_39 rfl rfl ?_
      rw [show pAct (S.2.1 5) (S.2.1 0) c r = .inl ((0, 0, q, none), (k, s, e) :: r3) by unfold pAct; rw [hverb]; simp only; rw [if_pos trivial, hx2]; simp only; rw [if_neg h44]]
      have k3 : frm [7] S2 (s1 S2 7 0) := (frm.rf _ S2).s1 (by decide) _
      exact j_vret rfl d_S_readAction_78 ⟨rfl, s1 S2 7 0, rfl, g2.s1 (by decide) _, hR2.keep k3 (by decide), (show (0 : Nat) < 6 by decide), fun _ => ⟨isC_keep hC2 k3 (by decide), rfl⟩, fun q => absurd rfl q⟩
  · refine j_acmp_neT (i := 2 + v) (j := 2) d_S_readAction_11 (tgt := 60) rfl (x_actI K (j := 0) hv6 (by omega) hv0) ?_
    refine j_aload_n d_S_readAction_60 rfl ?_
    refine j_getf d_S_readAction_61 f_S_53 rfl rfl ?_
    refine j_gets d_S_readAction_64 (.inl z_S_47) hCNT ?_
    by_cases hv5 : v = 5
    · subst hv5
      refine j_acmp_eqT d_S_readAction_67 (tgt := 78) rfl ?_
      rw [show pAct (S.2.1 5) (S.2.1 0) c r = .inl ((5, 0, (0, .inr 0, 32, .inr 0), none), r1) by unfold pAct; rw [hverb]; simp only; rw [if_neg (by decide), if_pos trivial]]
      exact j_vret rfl d_S_readAction_78 ⟨rfl, _, rfl, f0, hR1, (show (5 : Nat) < 6 by decide), fun q => absurd q (show ¬ (5 : Nat) = 0 by decide), fun _ q => absurd rfl q⟩
    · refine j_acmp_eqF (i := 2 + v) (j := 7) d_S_readAction_67 (tgt := 78) rfl (x_actI K (j := 5) hv6 (by omega) hv5) ?_
      refine j_aload_n d_S_readAction_70 rfl ?_
      refine j_aload_n d_S_readAction_71 rfl ?_
      refine j_pst (j_callV d_S_readAction_72 v_S_readField l_S_174 rfl rfl (m_S_readField K (d - 1) (by omega) (s5 (s1 S 12 (nI a)) (2 + v)) J n c r1 hR1) (by omega) (by decide) (Nat.le_of_ble_eq_true rfl) rfl) rfl (fun _ _ _ q => by cases q) (fun f r2 v2 S2 hx2 f2 hR2 hv2 => ?_) (fun p S2 hp f2 hp1 => ?_)
      · have hx2 : pFld (S.2.1 5) (S.2.1 0) c r1 = .inl (f, r2) := hx2
        cases hv2
        refine j_st (st' := [.int (nI f), .ref 42]) rfl ?_
        refine j_putf d_S_readAction_75 f_S_63 rfl (Nat.le_of_ble_eq_true rfl) rfl rfl rfl ?_
        refine j_hp (h' := lay (s1 S2 8 (nI f)) ++ J) rfl ?_
        rw [show pAct (S.2.1 5) (S.2.1 0) c r = .inl ((v, f, (0, .inr 0, 32, .inr 0), none), r2) by unfold pAct; rw [hverb]; simp only; rw [if_neg hv0, if_neg hv5, hx2]]
        exact j_vret rfl d_S_readAction_78 ⟨rfl, s1 S2 8 (nI f), rfl, (f0.tr (f2.up (by decide))).s1 (by decide) _, hR2.keep ((frm.rf [8] S2).s1 (by decide) _) (by decide), hv6, fun q => absurd q hv0, fun _ _ => ⟨pFld_lt hx2 hR.2.2.2.2.2.1, rfl⟩⟩
      · have hp : pFld (S.2.1 5) (S.2.1 0) c r1 = .inr p := hp
        rw [show pAct (S.2.1 5) (S.2.1 0) c r = .inr p by unfold pAct; rw [hverb]; simp only; rw [if_neg hv0, if_neg hv5, hp]]
        exact ⟨rfl, S2, 2 + v, rfl, (f0.up (by decide)).tr (f2.up (by decide)), hp1⟩
/-- the same but for what the reader holds -/
def frR (S S' : jS) : Prop := (∀ i, ¬ i ∈ [7, 8, 9, 10, 11, 12, 13, 14, 15, 16, 17, 18, 19, 20, 21, 22, 23, 24, 25, 26, 27, 28, 29] → S'.1 i = S.1 i) ∧ (∀ i, ¬ i ∈ [6, 7, 8] → S'.2.1 i = S.2.1 i) ∧ S'.2.2.1 = S.2.2.1 ∧ S'.2.2.2.1 = S.2.2.2.1
theorem frR.fr {Y : List Nat} {A B C : jS} {x : Nat} (h : frR A B) (f : frm Y (s5 B x) C) (hY : ∀ i, i ∈ Y → i ∈ [7, 8, 9, 10, 11, 12, 13, 14, 15, 16, 17, 18, 19, 20, 21, 22, 23, 24, 25, 26, 27, 28, 29]) : frR A C := by
  obtain ⟨h1, h2, h3, h4⟩ := h
  obtain ⟨f1, f2⟩ := f
  refine ⟨fun i hi => (f1 i (fun q => hi (hY i q))).trans (h1 i hi), fun i hi => ?_, ?_, ?_⟩
  · rw [f2]; exact h2 i hi
  · rw [f2]; exact h3
  · rw [f2]; exact h4
theorem frR.f0 {Y : List Nat} {A B C : jS} (h : frR A B) (f : frm Y B C) (hY : ∀ i, i ∈ Y → i ∈ [7, 8, 9, 10, 11, 12, 13, 14, 15, 16, 17, 18, 19, 20, 21, 22, 23, 24, 25, 26, 27, 28, 29]) : frR A C := frR.fr (x := B.2.2.2.2) h f hY
/-- what stands before the action -/
def Whr (P4 : PR) (T : Nat → Int32) (r : List Tok) (x : Cnd) (r2 : List Tok) : Prop :=
  (∃ k s e r1, r = (k, s, e) :: r1 ∧ isWd T 6 k s e = true ∧ P4 0 r1 (.inl (x, r2))) ∨ (∃ k s e r1, r = (k, s, e) :: r1 ∧ isWd T 6 k s e = false ∧ x = ([(6, 1)], -1) ∧ r2 = r)
/-- a statement: its condition and its action, or where it is wrong -/
def Stm (P4 : PR) (T N : Nat → Int32) (c : Nat) (r : List Tok) (y : (Cnd × Act) ⊕ Nat) : Prop := match y with
  | .inl (x, q) => ∃ r2 s e r3, Whr P4 T r x r2 ∧ pAct T N c r2 = .inl (q, (46, s, e) :: r3)
  | .inr p => (∃ k s e r1, r = (k, s, e) :: r1 ∧ isWd T 6 k s e = true ∧ P4 0 r1 (.inr p)) ∨ (∃ x r2, Whr P4 T r x r2 ∧ (pAct T N c r2 = .inr p ∨ ∃ q k e r3, pAct T N c r2 = .inl (q, (k, p, e) :: r3) ∧ ¬ k = 46))
def readQ (P4 : PR) (n c : Nat) (S : jS) (J : jH) : jO → jH → Prop := fun o h => ∃ y, Stm P4 (S.2.1 5) (S.2.1 0) c (tokL (S.2.1 5) n 0) y ∧ (match y with
  | .inl (x, q) => o = .inl none ∧ ∃ S', h = lay S' ++ J ∧ frR S S' ∧ S'.2.2.2.2 = 2 + q.1 ∧ S'.1 10 = -1 ∧ S'.1 9 = S.1 4 &&& x.2 ∧ aIs q S'
  | .inr p => o = .inr 10 ∧ ∃ S', h = lay S' ++ J ++ [.inr (10, [])] ∧ frR S S' ∧ S'.1 10 = nI p)
theorem m_S_read (K : jK) (d : Nat) (hd : 40 ≤ d) (S : jS) (J : jH) (n c : Nat) (hn : S.1 6 = nI n) (h100 : n ≤ 100) (hc : chOk (S.2.1 5)) (ht : txOk (S.2.1 5) n) (hf : S.1 2 = nI c) (h6 : c ≤ 6) {P1 P2 P4 : PR} {P3 P5 : PL}
    (h1 : Clo1 S.2.1 c P1 P4) (h2 : CloL 38 2 (fun a b => a &&& b) P1 P2 P3) (h3 : CloL 124 1 (fun a b => a ||| b) P2 P4 P5) (hA : ∀ f6 f7 f8, Clo1 (va_up (va_up (va_up S.2.1 6 f6) 7 f7) 8 f8) c P1 P4) : jM K M_S_read d [.ref 42] (lay S ++ J) (readQ P4 n c S J) 0 0 := by
  refine jM.of (by decide) (Nat.le_of_ble_eq_true rfl) ?_
  refine j_aload_n d_S_read_0 rfl ?_
  refine j_iconst (v := -1) d_S_read_1 rfl ?_
  refine j_putf d_S_read_2 f_S_56 rfl (Nat.le_of_ble_eq_true rfl) rfl rfl rfl ?_
  refine j_hp (h' := lay (s1 S 10 (-1)) ++ J) rfl ?_
  refine j_aload_n d_S_read_5 rfl ?_
  refine j_getf d_S_read_6 f_S_24 rfl rfl ?_
  refine j_ret0 (j_callV d_S_read_9 v_K_cut l_S_84 rfl rfl (m_K_cut K (d - 1) (by omega) (s1 S 10 (-1)) J n hn h100 hc ht) (by omega) (by decide) (Nat.le_of_ble_eq_true rfl) rfl) rfl (fun v0 g0 hq => ?_) (fun k0 g0 hq => by cases hq.1)
  obtain ⟨h0, f6, f7, f8, rfl, hT⟩ := hq
  cases h0
  refine j_st (st' := []) rfl ?_
  refine j_aload_n d_S_read_12 rfl ?_
  refine j_aload_n d_S_read_13 rfl ?_
  refine j_getf d_S_read_14 f_S_15 rfl rfl ?_
  refine j_retI (j_callV d_S_read_17 v_W_inUse l_S_87 rfl rfl (m_W_inUse K (d - 1) _ J) (by omega) (by decide) (Nat.le_of_ble_eq_true rfl) rfl) rfl ?_
  refine j_putf d_S_read_20 f_S_60 rfl (Nat.le_of_ble_eq_true rfl) rfl rfl rfl ?_
  refine j_hp (h' := lay (s1 (tkS (s1 S 10 (-1)) (nI (tokL (S.2.1 5) n 0).length) 0 f6 f7 f8) 9 (S.1 4)) ++ J) rfl ?_
  have hRd : Rdr (s1 (tkS (s1 S 10 (-1)) (nI (tokL (S.2.1 5) n 0).length) 0 f6 f7 f8) 9 (S.1 4)) n c (tokL (S.2.1 5) n 0) :=
    ⟨hn, h100, hc, ht, hf, h6, rfl, hT, 0, rfl, rfl, List.length_pos_iff.mpr (tokL_ne _ n (n - 0) 0 (Nat.le_refl _) (Nat.zero_le _))⟩
  have hfr : frR S (s1 (tkS (s1 S 10 (-1)) (nI (tokL (S.2.1 5) n 0).length) 0 f6 f7 f8) 9 (S.1 4)) := by
    refine ⟨fun i hi => ?_, fun i hi => ?_, rfl, rfl⟩
    · simp only [List.mem_cons, not_or] at hi
      show va_up (va_up (va_up (va_up S.1 10 (-1)) 11 _) 12 0) 9 (S.1 4) i = S.1 i
      rw [j_une (by omega), j_une (by omega), j_une (by omega), j_une (by omega)]
    · simp only [List.mem_cons, not_or] at hi
      show va_up (va_up (va_up S.2.1 6 f6) 7 f7) 8 f8 i = S.2.1 i
      rw [j_une (by omega), j_une (by omega), j_une (by omega)]
  have hS10 : (s1 (tkS (s1 S 10 (-1)) (nI (tokL (S.2.1 5) n 0).length) 0 f6 f7 f8) 9 (S.1 4)).1 10 = -1 := rfl
  have hS9 : (s1 (tkS (s1 S 10 (-1)) (nI (tokL (S.2.1 5) n 0).length) 0 f6 f7 f8) 9 (S.1 4)).1 9 = S.1 4 := rfl
  have hS5 : (s1 (tkS (s1 S 10 (-1)) (nI (tokL (S.2.1 5) n 0).length) 0 f6 f7 f8) 9 (S.1 4)).2.1 5 = S.2.1 5 := rfl
  have hS0 : (s1 (tkS (s1 S 10 (-1)) (nI (tokL (S.2.1 5) n 0).length) 0 f6 f7 f8) 9 (S.1 4)).2.1 0 = S.2.1 0 := rfl
  have hSA : Clo1 (s1 (tkS (s1 S 10 (-1)) (nI (tokL (S.2.1 5) n 0).length) 0 f6 f7 f8) 9 (S.1 4)).2.1 c P1 P4 := hA f6 f7 f8
  generalize s1 (tkS (s1 S 10 (-1)) (nI (tokL (S.2.1 5) n 0).length) 0 f6 f7 f8) 9 (S.1 4) = S1 at *
  have fin : ∀ (S2 : jS) (x : Cnd) (r2 : List Tok), frR S S2 → S2.2.1 = S1.2.1 → S2.1 10 = -1 → S2.1 9 = S.1 4 &&& x.2 → Rdr S2 n c r2 → Whr P4 (S.2.1 5) (tokL (S.2.1 5) n 0) x r2 → jE K M_S_read d 56 [(0, .ref 42)] [] (lay S2 ++ J) (readQ P4 n c S J) 0 0 := by
    intro S2 x r2 hf2 e2 h10 h9 hR2 hW
    refine j_aload_n d_S_read_56 rfl ?_
    have e5 : S2.2.1 5 = S.2.1 5 := by rw [e2, hS5]
    have e0 : S2.2.1 0 = S.2.1 0 := by rw [e2, hS0]
    refine j_ret0 (j_callV d_S_read_57 v_S_readAction l_S_106 rfl rfl (m_S_readAction K (d - 1) (by omega) S2 J n c r2 hR2) (by omega) (by decide) (Nat.le_of_ble_eq_true rfl) rfl) rfl (fun v0 g0 hq => ?_) (fun k0 g0 hq => ?_)
    rotate_left
    · rw [e5, e0] at hq
      unfold actQ at hq
      split at hq
      · cases hq.1
      · rename_i p hp
        obtain ⟨h0, S3, y, rfl, f3, hp3⟩ := hq
        cases h0
        exact ⟨.inr p, .inr ⟨x, r2, hW, .inl hp⟩, rfl, S3, rfl, hf2.fr f3 (by decide), hp3⟩
    rw [e5, e0] at hq
    unfold actQ at hq
    split at hq
    rotate_left
    · cases hq.1
    rename_i q r3 hact
    obtain ⟨h0, S3, rfl, f3, hR3, hq3⟩ := hq
    cases h0
    refine j_st (st' := []) rfl ?_
    obtain ⟨a, k, s, e, r4, rfl, ha, h101, hk, hs, he, hse, hen, hnx⟩ := hR3.cur
    refine j_aload_n d_S_read_60 rfl ?_
    refine j_getf d_S_read_61 f_S_24 rfl rfl ?_
    refine j_retI (j_callV d_S_read_64 v_K_isEnd l_S_109 rfl rfl (m_K_isEnd K (d - 1) S3 J a ha h101) (by omega) (by decide) (Nat.le_of_ble_eq_true rfl) rfl) rfl ?_
    rw [hk]
    by_cases h46 : k = 46
    · rw [b2i_dT h46]
      refine j_if_neT (tgt := 74) d_S_read_67 rfl (by decide) ?_
      subst h46
      refine j_vret rfl d_S_read_74 ⟨.inl (x, q), ⟨r2, s, e, r4, hW, hact⟩, rfl, S3, rfl, hf2.fr f3 (by decide), ?_, ?_, ?_, hq3⟩
      · rw [f3.2]
      · exact (f3.1 10 (by decide)).trans h10
      · exact (f3.1 9 (by decide)).trans h9
    · rw [b2i_dF h46]
      refine j_if_neF (tgt := 74) d_S_read_67 rfl rfl ?_
      refine j_aload_n d_S_read_70 rfl ?_
      refine j_retX (j_callV d_S_read_71 v_S_refuse l_S_113 rfl rfl (m_S_refuse K (d - 1) (by omega) S3 J a ha h101 s hs) (by omega) (by decide) (Nat.le_of_ble_eq_true rfl) rfl) rfl ?_
      exact ⟨.inr s, .inr ⟨x, r2, hW, .inr ⟨q, k, e, r4, hact, h46⟩⟩, rfl, s1 S3 10 (nI s), rfl, (hf2.fr f3 (by decide)).f0 ((frm.rf [10] S3).s1 (by decide) _) (by decide), rfl⟩
  obtain ⟨a, k, s, e, r1, hr, ha, h101, hk, hs, he, hse, hen, hnx⟩ := hRd.cur
  have hn1 := hRd.1
  have hl := hRd.2.2.2.2.2.2.1
  have hll := tokL_len (S1.2.1 5) n (n - 0) 0 (Nat.le_refl _) (Nat.zero_le _)
  have hc1 : chOk (S1.2.1 5) := by rw [hS5]; exact hc
  refine j_aload_n d_S_read_23 rfl ?_
  refine j_getf d_S_read_24 f_S_24 rfl rfl ?_
  refine j_ldcs (i := 14) d_S_read_27 (fun s hX => by rw [j_adx K (by omega)]; exact hX.2.2.2.2.2.2.2.2.2.2.2.2.2.2.1) ?_
  refine j_retI (j_callV d_S_read_29 v_K_isWord l_S_95 rfl rfl (m_K_isWord K (d - 1) (by omega) S1 J a ha h101 n hn1 h100 hc1 s e hs he hse (by omega) hen 6 (by omega)) (by omega) (by decide) (Nat.le_of_ble_eq_true rfl) rfl) rfl ?_
  rw [hk, hS5]
  by_cases hw : isWd (S.2.1 5) 6 k s e = true
  · rw [hw]
    have hx := hnx (by rw [isWd_97 hw]; decide)
    refine j_if_eqF (tgt := 56) d_S_read_32 rfl (by decide) ?_
    refine j_aload_n d_S_read_35 rfl ?_
    refine j_getf d_S_read_36 f_S_24 rfl rfl ?_
    refine j_retV (j_callV d_S_read_39 v_K_advance l_S_99 rfl rfl (m_K_advance K (d - 1) S1 J a ha h101 _ hl hx.2.1 (by omega)) (by omega) (by decide) (Nat.le_of_ble_eq_true rfl) rfl) rfl ?_
    refine j_aload_n d_S_read_42 rfl ?_
    refine j_dup d_S_read_43 rfl ?_
    refine j_getf d_S_read_44 f_S_60 rfl rfl ?_
    refine j_aload_n d_S_read_47 rfl ?_
    refine j_iconst (v := 0) d_S_read_48 rfl ?_
    have hcn := (c_all (K := K) (n := n) hSA h2 h3 8 0 rfl).2
    refine j_cpo (j_callV d_S_read_49 v_S_readCondition l_S_102 rfl rfl (hcn (d - 1) (by omega) (s1 S1 12 (nI (a + 1))) J r1 hx.2.2 rfl) (by omega) (by decide) (Nat.le_of_ble_eq_true rfl) rfl) rfl (fun x r3 S3 hy hl3 f3 hR3 => ?_) (fun p S3 hy f3 hp3 => ?_)
    · refine j_iand d_S_read_52 ?_
      have g3 : frm [12, 13, 14, 15, 16, 17] S1 S3 := ((frm.rf [12, 13, 14, 15, 16, 17] S1).s1 (by decide) (nI (a + 1))).tr f3
      refine j_putf d_S_read_53 f_S_60 rfl (Nat.le_of_ble_eq_true rfl) rfl rfl rfl ?_
      refine j_hp (h' := lay (s1 S3 9 ((s1 S1 12 (nI (a + 1))).1 9 &&& x.2)) ++ J) rfl ?_
      refine fin (s1 S3 9 ((s1 S1 12 (nI (a + 1))).1 9 &&& x.2)) x r3 ((hfr.f0 g3 (by decide)).f0 ((frm.rf [9] S3).s1 (by decide) _) (by decide)) g3.sy ?_ ?_ (hR3.keep ((frm.rf [9] S3).s1 (by decide) _) (by decide)) (.inl ⟨k, s, e, r1, hr, hw, hy⟩)
      · exact (g3.1 10 (by decide)).trans hS10
      · show (s1 S1 12 (nI (a + 1))).1 9 &&& x.2 = _
        rw [show (s1 S1 12 (nI (a + 1))).1 9 = S1.1 9 from rfl, hS9]
    · exact ⟨.inr p, .inl ⟨k, s, e, r1, hr, hw, hy⟩, rfl, S3, rfl, (hfr.f0 ((frm.rf [12] S1).s1 (by decide) (nI (a + 1))) (by decide)).f0 f3 (by decide), hp3⟩
  · have hw' : isWd (S.2.1 5) 6 k s e = false := Bool.eq_false_iff.mpr hw
    rw [hw']
    refine j_if_eqT (tgt := 56) d_S_read_32 rfl rfl ?_
    refine fin S1 ([(6, 1)], -1) _ hfr rfl hS10 ?_ hRd (.inr ⟨k, s, e, r1, hr, hw', rfl, rfl⟩)
    rw [hS9]
    exact (Int32.and_neg_one).symm
