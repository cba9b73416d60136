/-! BitLoomModel.readText: the action and the whole text -/
/-- what the model's numbers tell of the action -/
def mAct (q : Act) (S : jS) : Prop := q.1 < 6 ∧ S.1 44 = nI (q.1 + 1) ∧ (q.1 = 0 → isMC 0 q.2.2.1 S ∧ (match q.2.2.2 with | none => S.1 46 = 0 | some z => S.1 46 = 1 ∧ isMC 1 z S)) ∧ (¬ q.1 = 0 → ¬ q.1 = 5 → S.1 45 = nI q.2.1)
def cB (J : jH) (Q : jO → jH → Prop) (S0 : jS) (q : Nat) : Prop := ∀ S', frC S0 S' → Q (.inl (some (.int (nI q)))) (lay S' ++ J)
def aE (J : jH) (Q : jO → jH → Prop) (S0 : jS) (C : List (Int32 × Int32)) (q : Act) (r : List Tok) : Prop := match r with
  | [] => True
  | (k, s, _) :: _ => (k = 46 → ∀ S', frC S0 S' → Ms S' C [] → mAct q S' → Q (.inl (some (.int (-1)))) (lay S' ++ J)) ∧ (¬ k = 46 → cB J Q S0 s)
/-- a whole statement must end here -/
theorem end16 {K : jK} {d : Nat} {J : jH} {Q : jO → jH → Prop} {S0 : jS} {n c : Nat} (hd : 8 ≤ d) (hok : RdOk S0 n c) {C : List (Int32 × Int32)} {q : Act} {r0 : List Tok} (hgo : aE J Q S0 C q r0) (p : Nat) (S : jS) (hp : tokL (S0.2.1 17) n p = r0) (hpn : p ≤ n) (hf : frC S0 S) (hM : Ms S C []) (hA : mAct q S) (h0 : ¬ q.1 = 0) : Rd K d J Q 16 p S := by
  cases r0 with
  | nil => exact absurd hp (tokL_ne _ n (n - p) p (Nat.le_refl _) hpn)
  | cons q0 r =>
  obtain ⟨k, s, e⟩ := q0
  have hT17 : S.2.1 17 = S0.2.1 17 := hf.2.1 17 (by decide)
  have kA : ∀ S1, scnd S S1 → mAct q S1 := by
    intro S1 hs
    obtain ⟨kd, b, e, am, lt, rfl⟩ := hs
    exact ⟨hA.1, hA.2.1, fun z => absurd z h0, hA.2.2.2⟩
  refine rd_step K d (by omega) S J Q n c p (hf.ok hok) hpn 16 k s e r (by rw [hT17]; exact hp) (fun z _ S1 hs => hgo.1 z S1 (hf.sc hs) (hs.ms hM) (kA S1 hs)) (fun z S1 hs => hgo.2 (by rw [z]; decide) S1 (hf.sc hs)) (fun hns _ S1 hs hT => ?_)
  exact nx_rI (m_M_next_16 K (d - 1) S1 J) hT (fun _ => hgo.2 (fun z => hns ⟨z, rfl⟩) S1 (hf.sc hs)) (fun z => absurd rfl z) (fun z => absurd rfl z)
/-- behind the action's word -/
theorem act_go {K : jK} {d : Nat} {J : jH} {Q : jO → jH → Prop} {S0 : jS} {n c : Nat} (hd : 8 ≤ d) (hok : RdOk S0 n c) {N : Nat → Int32} (hN : ∀ ch, fdL (S0.2.1 13) ch c 0 (-1) = ixOf N ch c 0) {C : List (Int32 × Int32)} {k : Int32} {s e p0 : Nat} {r3 : List Tok} {S1 : jS} (hp0 : p0 ≤ n) (htk : tokL (S0.2.1 17) n p0 = (k, s, e) :: r3) (hf : frC S0 S1) (hM : Ms S1 C []) (h44 : S1.1 44 = actK (S0.2.1 17) k s e) (h46 : S1.1 46 = 0)
    (hgo : cF (aE J Q S0 C) (cB J Q S0) (pAct (S0.2.1 17) N c ((k, s, e) :: r3))) : (actT (actK (S0.2.1 17) k s e) = 17 → Q (.inl (some (.int (nI s)))) (lay S1 ++ J)) ∧ (¬ actT (actK (S0.2.1 17) k s e) = 17 → ¬ k = 46 ∧ Rd K d J Q (actT (actK (S0.2.1 17) k s e)) e S1) := by
  have h6 := hok.2.2.2.2.2
  rcases (word_eq hp0 htk).1 with ⟨hv, ha⟩ | ⟨v, hv6, hv, ha, hk97⟩
  · rw [ha]
    refine ⟨fun _ => ?_, fun z => absurd rfl z⟩
    rw [show pAct (S0.2.1 17) N c ((k, s, e) :: r3) = .inr s by unfold pAct; rw [show pVerb (S0.2.1 17) ((k, s, e) :: r3) = .inr s by rw [pVerb, if_pos hv]]] at hgo
    exact hgo S1 hf
  · have h46k : ¬ k = 46 := by rw [hk97]; decide
    obtain ⟨he, hr⟩ := tokL_nx (S0.2.1 17) n (n - p0) p0 (Nat.le_refl _) hp0 htk h46k
    have hvb : pVerb (S0.2.1 17) ((k, s, e) :: r3) = .inl (v, r3) := by
      rw [pVerb, if_neg (by rw [hv]; exact nI_ne1 (by omega)), hv, nI_clamp (by omega)]
    rw [ha] at h44 ⊢
    by_cases h0 : v = 0
    · subst h0
      refine ⟨fun z => absurd z (by decide), fun _ => ⟨h46k, ?_⟩⟩
      show Rd K d J Q 7 e S1
      refine mG_chg hd hok (g := 0) (by omega) hf h46 hN ?_ e S1 hr he (frG.rf 0 S1) trivial
      cases h1 : pChg (S0.2.1 17) N c r3 with
      | inr q =>
        rw [show pAct (S0.2.1 17) N c ((k, s, e) :: r3) = .inr q by unfold pAct; rw [hvb]; simp only; rw [if_pos trivial, h1]] at hgo
        exact fun S' hf' => hgo S' (frG.c hf hf')
      | inl zr =>
        obtain ⟨z, r5⟩ := zr
        cases r5 with
        | nil => trivial
        | cons q5 r6 =>
          obtain ⟨k5, s5', e5⟩ := q5
          refine ⟨fun h44k p S hp hpn hfG hC => ?_, fun h46' S hfG hC => ?_, fun hn44 hn46 S' hfG => ?_⟩
          · have hk5 : k5 = 44 := h44k.2
            have hf2 : frC S0 (s1 S 46 1) := (frG.c hf hfG).s1 (by decide) 1
            have hM2 : Ms (s1 S 46 1) C [] := by
              obtain ⟨m1, m2, m3, m4, m5⟩ := hM
              have g40 : S.1 40 = S1.1 40 := hfG.1 40 (by decide)
              have g41 : S.1 41 = S1.1 41 := hfG.1 41 (by decide)
              have g42 : S.1 42 = S1.1 42 := hfG.1 42 (by decide)
              have g19 : S.2.1 19 = S1.2.1 19 := hfG.2.1 19 (by decide)
              have g20 : S.2.1 20 = S1.2.1 20 := hfG.2.1 20 (by decide)
              refine ⟨g40.trans m1, g41.trans m2, g42.trans m3, fun j q hq => ?_, fun j x hx => by simp at hx⟩
              have := m4 j q hq
              exact ⟨(congrFun g19 j).trans this.1, (congrFun g20 j).trans this.2⟩
            have h442 : (s1 S 46 1).1 44 = nI 1 := (hfG.1 44 (by decide)).trans h44
            have hC2 : isMC 0 z (s1 S 46 1) := hC.keep (fun _ => rfl)
            refine mG_chg hd hok (g := 1) (by omega) hf2 rfl hN ?_ p (s1 S 46 1) hp hpn (frG.rf 1 _) trivial
            cases h2 : pChg (S0.2.1 17) N c r6 with
            | inr q =>
              rw [show pAct (S0.2.1 17) N c ((k, s, e) :: r3) = .inr q by unfold pAct; rw [hvb]; simp only; rw [if_pos trivial, h1]; simp only; rw [if_pos hk5, h2]] at hgo
              exact fun S' hf' => hgo S' (frG.c hf2 hf')
            | inl zr2 =>
              obtain ⟨z2, r7⟩ := zr2
              rw [show pAct (S0.2.1 17) N c ((k, s, e) :: r3) = .inl ((0, 0, z, some z2), r7) by unfold pAct; rw [hvb]; simp only; rw [if_pos trivial, h1]; simp only; rw [if_pos hk5, h2]] at hgo
              have hgo : aE J Q S0 C (0, 0, z, some z2) r7 := hgo
              cases r7 with
              | nil => trivial
              | cons q7 r8 =>
                obtain ⟨k7, s7, e7⟩ := q7
                refine ⟨fun z => absurd z.1 (by decide), fun h46'' S' hfG' hC' => ?_, fun _ hn46 S' hfG' => hgo.2 hn46 S' (frG.c hf2 hfG')⟩
                refine hgo.1 h46'' S' (frG.c hf2 hfG') ?_ ⟨by show (0 : Nat) < 6; omega, (hfG'.1 44 (by decide)).trans h442, fun _ => ⟨hC2.keep (fun i => hfG'.2.2.1 i 0 (by decide)), (hfG'.1 46 (by decide)).trans rfl, hC'⟩, fun z => absurd rfl z⟩
                obtain ⟨m1, m2, m3, m4, m5⟩ := hM2
                refine ⟨(hfG'.1 40 (by decide)).trans m1, (hfG'.1 41 (by decide)).trans m2, (hfG'.1 42 (by decide)).trans m3, fun j q hq => ?_, fun j x hx => by simp at hx⟩
                have := m4 j q hq
                exact ⟨(congrFun (hfG'.2.1 19 (by decide)) j).trans this.1, (congrFun (hfG'.2.1 20 (by decide)) j).trans this.2⟩
          · have hk5 : ¬ k5 = 44 := by rw [h46']; decide
            rw [show pAct (S0.2.1 17) N c ((k, s, e) :: r3) = .inl ((0, 0, z, none), (k5, s5', e5) :: r6) by unfold pAct; rw [hvb]; simp only; rw [if_pos trivial, h1]; simp only; rw [if_neg hk5]] at hgo
            have hgo : aE J Q S0 C (0, 0, z, none) ((k5, s5', e5) :: r6) := hgo
            refine hgo.1 h46' S (frG.c hf hfG) ?_ ⟨by show (0 : Nat) < 6; omega, (hfG.1 44 (by decide)).trans h44, fun _ => ⟨hC, (hfG.1 46 (by decide)).trans h46⟩, fun z => absurd rfl z⟩
            obtain ⟨m1, m2, m3, m4, m5⟩ := hM
            refine ⟨(hfG.1 40 (by decide)).trans m1, (hfG.1 41 (by decide)).trans m2, (hfG.1 42 (by decide)).trans m3, fun j q hq => ?_, fun j x hx => by simp at hx⟩
            have := m4 j q hq
            exact ⟨(congrFun (hfG.2.1 19 (by decide)) j).trans this.1, (congrFun (hfG.2.1 20 (by decide)) j).trans this.2⟩
          · have hk5 : ¬ k5 = 44 := fun z => hn44 ⟨rfl, z⟩
            rw [show pAct (S0.2.1 17) N c ((k, s, e) :: r3) = .inl ((0, 0, z, none), (k5, s5', e5) :: r6) by unfold pAct; rw [hvb]; simp only; rw [if_pos trivial, h1]; simp only; rw [if_neg hk5]] at hgo
            have hgo : aE J Q S0 C (0, 0, z, none) ((k5, s5', e5) :: r6) := hgo
            exact hgo.2 hn46 S' (frG.c hf hfG)
    · by_cases h5 : v = 5
      · subst h5
        refine ⟨fun z => absurd z (by decide), fun _ => ⟨h46k, ?_⟩⟩
        show Rd K d J Q 16 e S1
        rw [show pAct (S0.2.1 17) N c ((k, s, e) :: r3) = .inl ((5, 0, (0, .inr 0, 32, .inr 0), none), r3) by unfold pAct; rw [hvb]; rfl] at hgo
        exact end16 hd hok hgo e S1 hr he hf hM ⟨by show (5 : Nat) < 6; omega, h44, fun z => absurd z (by decide), fun _ z => absurd rfl z⟩ (by decide)
      · have hT15 : actT (nI (v + 1)) = 15 := by
          rcases (by omega : v = 1 ∨ v = 2 ∨ v = 3 ∨ v = 4) with rfl | rfl | rfl | rfl <;> rfl
        rw [hT15]
        refine ⟨fun z => absurd z (by decide), fun _ => ⟨h46k, ?_⟩⟩
        cases r3 with
        | nil => exact absurd hr (tokL_ne _ n (n - e) e (Nat.le_refl _) he)
        | cons q3 r4 =>
        obtain ⟨k3, s3', e3⟩ := q3
        have hT17 : S1.2.1 17 = S0.2.1 17 := hf.2.1 17 (by decide)
        refine rd_step K d (by omega) S1 J Q n c e (hf.ok hok) he 15 k3 s3' e3 r4 (by rw [hT17]; exact hr) (fun _ q => absurd q (by decide)) (fun q S2 hs => ?_) (fun _ h63 S2 hs hT => ?_)
        · rw [show pAct (S0.2.1 17) N c ((k, s, e) :: (k3, s3', e3) :: r4) = .inr s3' by unfold pAct; rw [hvb]; simp only; rw [if_neg h0, if_neg h5, pFld_63 q]] at hgo
          exact hgo S2 (hf.sc hs)
        have hf2 := hf.sc hs
        have h172 : S2.2.1 17 = S0.2.1 17 := hf2.2.1 17 (by decide)
        have h132 : S2.2.1 13 = S0.2.1 13 := hf2.2.1 13 (by decide)
        have hok2 := hf2.ok hok
        have h442 : S2.1 44 = nI (v + 1) := by
          obtain ⟨kd, b, e, am, lt, rfl⟩ := hs
          exact h44
        have hpk := m_M_pick16 K (d - 1 - 1) (by omega) S2 J n k3 s3' e3 hT c hok2.2.2.2.2.1 h6
        rcases nmd_neg (S := S2) (N := N) (c := c) (by rw [h132]; exact hN) h6 (k := k3) (s := s3') (e := e3) r4 with ⟨hz, hpf⟩ | ⟨hz, f, hnf, hpf⟩
        · rw [if_pos hz] at hpk
          rw [h172] at hpf
          rw [show pAct (S0.2.1 17) N c ((k, s, e) :: (k3, s3', e3) :: r4) = .inr s3' by unfold pAct; rw [hvb]; simp only; rw [if_neg h0, if_neg h5, hpf]] at hgo
          exact nx_rI (m_M_next_15 K (d - 1) (by omega) S2 J _ (isInt_rI _ _) hpk) hT (fun _ => hgo S2 hf2) (fun q => absurd rfl q) (fun q => absurd rfl q)
        · rw [if_neg hz, hnf] at hpk
          rw [h172] at hpf
          rw [show pAct (S0.2.1 17) N c ((k, s, e) :: (k3, s3', e3) :: r4) = .inl ((v, f, (0, .inr 0, 32, .inr 0), none), r4) by unfold pAct; rw [hvb]; simp only; rw [if_neg h0, if_neg h5, hpf]] at hgo
          have h463 := (pFld_46 hpf).1
          obtain ⟨he3, hr3⟩ := tokL_nx (S0.2.1 17) n (n - e) e (Nat.le_refl _) he hr h463
          refine nx_rI (m_M_next_15 K (d - 1) (by omega) S2 J _ (isInt_rI _ _) hpk) (hT.keep ((frM.rf [45] [] S2).s1 (by decide) _) (by decide)) (fun q => absurd q (by decide)) (fun _ q => absurd q h463) (fun _ _ => ?_)
          exact end16 hd hok hgo e3 _ hr3 he3 (hf2.s1 (by decide) _) ((hs.ms hM).keep ((frM.rf [45] [] S2).s1 (by decide) _) (by decide)) ⟨hv6, h442, fun z => absurd z h0, fun _ _ => rfl⟩ h0
/-- what the model's reading of the text comes to -/
def rtQ (S0 : jS) (J : jH) (y : (Cnd × Act) ⊕ Nat) : jO → jH → Prop := fun o h => ∃ S', h = lay S' ++ J ∧ frC S0 S' ∧ (match y with
  | .inl (x, q) => o = .inl (some (.int (-1))) ∧ Ms S' x.1 [] ∧ mAct q S'
  | .inr p => o = .inl (some (.int (nI p))))
theorem frC_p {S0 S : jS} {v : Int32} (h : frC (s1 S0 46 v) S) : frC S0 S := ⟨fun i hi => (h.1 i hi).trans (j_une (fun e => hi (by rw [e]; decide))), h.2.1, h.2.2⟩
theorem m_M_readText (K : jK) (d : Nat) (hd : 9 ≤ d) (S0 : jS) (J : jH) (n c : Nat) (hok : RdOk S0 n c) {N : Nat → Int32} (hN : ∀ ch, fdL (S0.2.1 13) ch c 0 (-1) = ixOf N ch c 0) {P4 : PR} (hP4 : ∀ r y, P4 0 r y → ∀ Q, Q4 K d J Q (s1 S0 46 0) n 0 r y) (y : (Cnd × Act) ⊕ Nat) (hy : Stm P4 (S0.2.1 17) N c (tokL (S0.2.1 17) n 0) y) : jM K M_M_readText d [.ref 59] (lay S0 ++ J) (rtQ S0 J y) 0 0 := by
  refine jM.of (by decide) (Nat.le_of_ble_eq_true rfl) ?_
  refine j_aload_n d_M_readText_0 rfl ?_
  refine j_iconst (v := 0) d_M_readText_1 rfl ?_
  refine j_putf d_M_readText_2 f_M_149 rfl (Nat.le_of_ble_eq_true rfl) rfl rfl rfl ?_
  refine j_aload_n d_M_readText_5 rfl ?_
  refine j_iconst (v := 0) d_M_readText_6 rfl ?_
  refine j_putf d_M_readText_7 f_M_152 rfl (Nat.le_of_ble_eq_true rfl) rfl rfl rfl ?_
  refine j_aload_n d_M_readText_10 rfl ?_
  refine j_iconst (v := 0) d_M_readText_11 rfl ?_
  refine j_putf d_M_readText_12 f_M_178 rfl (Nat.le_of_ble_eq_true rfl) rfl rfl rfl ?_
  refine j_aload_n d_M_readText_15 rfl ?_
  refine j_iconst (v := 0) d_M_readText_16 rfl ?_
  refine j_putf d_M_readText_17 f_M_203 rfl (Nat.le_of_ble_eq_true rfl) rfl rfl rfl ?_
  refine j_hp (h' := lay (s1 (s1 (s1 (s1 S0 40 0) 41 0) 42 0) 46 0) ++ J) rfl ?_
  refine j_iconst (v := 0) d_M_readText_20 rfl ?_
  refine j_istore_n d_M_readText_21 (by decide) ?_
  refine j_iconst (v := 0) d_M_readText_22 rfl ?_
  refine j_istore_n d_M_readText_23 (by decide) ?_
  have hokA : RdOk (s1 S0 46 0) n c := hok
  have hfA : frB (s1 S0 46 0) (s1 (s1 (s1 (s1 S0 40 0) 41 0) 42 0) 46 0) := by
    refine ⟨fun i hi => ?_, fun _ _ => rfl, rfl⟩
    simp only [List.mem_cons, not_or] at hi
    show va_up (va_up (va_up (va_up S0.1 40 0) 41 0) 42 0) 46 0 i = va_up S0.1 46 0 i
    unfold va_up
    rw [if_neg (show ¬ i = 42 by omega), if_neg (show ¬ i = 41 by omega), if_neg (show ¬ i = 40 by omega)]
  have hMA : Ms (s1 (s1 (s1 (s1 S0 40 0) 41 0) 42 0) 46 0) [] [] := ⟨rfl, rfl, rfl, fun j q hq => by simp at hq, fun j x hx => by simp at hx⟩
  have goB : ∀ p : Nat, y = .inr p → cB J (rtQ S0 J y) (s1 S0 46 0) p := by
    intro p hp S' hf
    rw [hp]
    exact ⟨S', rfl, frC_p hf, rfl⟩
  have goA : ∀ x q, y = .inl (x, q) → ∀ S', frC (s1 S0 46 0) S' → Ms S' x.1 [] → mAct q S' → rtQ S0 J y (.inl (some (.int (-1)))) (lay S' ++ J) := by
    intro x q hxq S' hf hM hA
    rw [hxq]
    exact ⟨S', rfl, frC_p hf, rfl, hM, hA⟩
  have key : (∃ k s e r1 p, tokL (S0.2.1 17) n 0 = (k, s, e) :: r1 ∧ isWd (S0.2.1 17) 6 k s e = true ∧ P4 0 r1 (.inr p) ∧ y = .inr p) ∨ ∃ x r2, Whr P4 (S0.2.1 17) (tokL (S0.2.1 17) n 0) x r2 ∧ cF (aE J (rtQ S0 J y) (s1 S0 46 0) x.1) (cB J (rtQ S0 J y) (s1 S0 46 0)) (pAct (S0.2.1 17) N c r2) := by
    cases y with
    | inl xq =>
      obtain ⟨x, q⟩ := xq
      obtain ⟨r2, s, e, r3, hW, hA⟩ := hy
      refine .inr ⟨x, r2, hW, ?_⟩
      rw [hA]
      exact ⟨fun _ S' hf hM hA' => goA x q rfl S' hf hM hA', fun z => absurd rfl z⟩
    | inr p =>
      rcases hy with ⟨k, s, e, r1, h1, h2, h3⟩ | ⟨x, r2, hW, hA | ⟨q, k, e, r3, hA, hk⟩⟩
      · exact .inl ⟨k, s, e, r1, p, h1, h2, h3, rfl⟩
      · refine .inr ⟨x, r2, hW, ?_⟩
        rw [hA]
        exact goB p rfl
      · refine .inr ⟨x, r2, hW, ?_⟩
        rw [hA]
        exact ⟨fun z => absurd z hk, fun _ => goB p rfl⟩
  have hlen := tokL_len (S0.2.1 17) n (n - 0) 0 (Nat.le_refl _) (Nat.zero_le _)
  have h100 := hok.2.1
  -- the state of the action's word
  have a63 : ∀ (k : Int32) (s e p : Nat) (r : List Tok) (C : List (Int32 × Int32)), p ≤ n → tokL (S0.2.1 17) n p = (k, s, e) :: r → k = 63 → cF (aE J (rtQ S0 J y) (s1 S0 46 0) C) (cB J (rtQ S0 J y) (s1 S0 46 0)) (pAct (S0.2.1 17) N c ((k, s, e) :: r)) → cB J (rtQ S0 J y) (s1 S0 46 0) s := by
    intro k s e p r C hp htk h63 hgo
    rcases (word_eq hp htk).1 with ⟨hv, ha⟩ | ⟨v, hv6, hv, ha, hk97⟩
    · rw [show pAct (S0.2.1 17) N c ((k, s, e) :: r) = .inr s by unfold pAct; rw [show pVerb (S0.2.1 17) ((k, s, e) :: r) = .inr s by rw [pVerb, if_pos hv]]] at hgo
      exact hgo
    · rw [h63] at hk97
      exact absurd hk97 (by decide)
  cases htk : tokL (S0.2.1 17) n 0 with
  | nil => exact absurd htk (tokL_ne _ n (n - 0) 0 (Nat.le_refl _) (Nat.zero_le _))
  | cons q0 r =>
  obtain ⟨k, s, e⟩ := q0
  rw [htk] at key hlen
  simp only [List.length_cons] at hlen
  have hwd := word_eq (Nat.zero_le n) htk
  refine j_loc' [(0, .ref 59), (1, .int 0), (2, .int (nI 0))] ⟨rfl, rfl, rfl, trivial⟩ ?_
  refine rd_step K d (by omega) _ J (rtQ S0 J y) n c 0 (hfA.ok hokA) (Nat.zero_le n) 0 k s e r htk (fun _ q => absurd q (by decide)) (fun h63 S1 hs => ?_) (fun _ h63 S1 hs hT => ?_)
  · have nw : ¬ isWd (S0.2.1 17) 6 k s e = true := fun z => by rw [isWd_97 z] at h63; exact absurd h63 (by decide)
    rcases key with ⟨k', s', e', r1, p, h1, h2, -⟩ | ⟨x, r2, hW, hgo⟩
    · cases h1; exact absurd h2 nw
    · rcases hW with ⟨k', s', e', r1, h1, h2, -⟩ | ⟨k', s', e', r1, h1, h2, hx, hr2⟩
      · cases h1; exact absurd h2 nw
      · subst hr2
        exact a63 k s e 0 r x.1 (Nat.zero_le n) htk h63 hgo S1 (hfA.sc hs).c
  · have hfS := hfA.sc hs
    have h17 : S1.2.1 17 = S0.2.1 17 := hfS.2.1 17 (by decide)
    refine m_M_next_0 K (d - 1) (by omega) S1 J _ (fun o h q => by obtain ⟨v, S2, h0, -⟩ := q; exact ⟨v, h0⟩) ?_
    refine m_M_start K (d - 1 - 1) (by omega) S1 J n k s e hT [] [] (hs.ms hMA) (by simp) _ (fun hw => ?_) (fun hw S2 f2 hM2 h44 => ?_)
    · rw [h17] at hw
      have hwd6 := hwd.2.mp hw
      have h46 : ¬ k = 46 := by rw [hw.1]; decide
      obtain ⟨he, hr⟩ := tokL_nx (S0.2.1 17) n (n - 0) 0 (Nat.le_refl _) (Nat.zero_le _) htk h46
      refine ⟨1, S1, rfl, rfl, hT, fun q => absurd q (by decide), fun _ q => absurd q h46, fun _ _ => ?_⟩
      rcases key with ⟨k', s', e', r1, p, h1, h2, h3, h4⟩ | ⟨x, r2, hW, hgo⟩
      · cases h1
        obtain ⟨-, -, -, hQ⟩ := hP4 _ _ h3 (rtQ S0 J y)
        refine hQ [] [] (.inl rfl) (by omega) rfl (by simp only [List.length_nil]; omega) ?_ e S1 hr he hfS (hs.ms hMA)
        exact fun S' hf => goB p h4 S' hf.c
      · rcases hW with ⟨k', s', e', r1, h1, h2, h3⟩ | ⟨k', s', e', r1, h1, h2, hx, hr2⟩
        · cases h1
          obtain ⟨hl4, d38, d124, hQ⟩ := hP4 _ _ h3 (rtQ S0 J y)
          have hl4 : x.1.length + r2.length ≤ r.length := hl4
          refine hQ [] [] (.inl rfl) (by omega) rfl (by simp only [List.length_nil]; omega) ?_ e S1 hr he hfS (hs.ms hMA)
          intro X pd hpd hX p2 S2 hp2 hpn2 hf2 hM2
          have hlx : X.length + pd.length = x.1.length := by rw [← hX, List.length_append, zer_len]
          cases r2 with
          | nil => exact absurd hp2 (tokL_ne _ n (n - p2) p2 (Nat.le_refl _) hpn2)
          | cons q2 r3 =>
          obtain ⟨k2, s2', e2⟩ := q2
          have hT172 : S2.2.1 17 = S0.2.1 17 := hf2.2.1 17 (by decide)
          refine rd_step K d (by omega) S2 J (rtQ S0 J y) n c p2 (hf2.ok hokA) hpn2 6 k2 s2' e2 r3 (by rw [hT172]; exact hp2) (fun _ q => absurd q (by decide)) (fun q S3 hs3 => a63 k2 s2' e2 p2 r3 x.1 hpn2 hp2 q hgo S3 (hf2.sc hs3).c) (fun _ _ S3 hs3 hT3 => ?_)
          have hf3 := hf2.sc hs3
          have h173 : S3.2.1 17 = S0.2.1 17 := hf3.2.1 17 (by decide)
          have hO : oC [] := .inl rfl
          have haf := m_M_afterOne K (d - 1 - 1) (by omega) S3 J n k2 s2' e2 hT3 ([] ++ X) (pd ++ []) (hs3.ms hM2) (by simp only [List.length_append, List.length_nil]; omega) (fun x' P' q => hpd.h4 hO q)
          unfold afQ at haf
          rw [if_neg (d38 k2 s2' e2 r3 rfl), if_neg (d124 k2 s2' e2 r3 rfl), (hpd.tw hO).2, (hpd.tw hO).1, if_pos rfl, List.nil_append, hX, h173] at haf
          refine (m_M_next_6 K (d - 1) (by omega) S3 J _ (isInt_st _ _ _ _) haf).mono (fun o h hq => ?_)
          obtain ⟨h0, S4, rfl, f4, hM4, h444⟩ := hq
          have hf4 := hf3.m f4
          obtain ⟨g1, g2⟩ := act_go (K := K) (d := d) (J := J) (Q := rtQ S0 J y) (by omega) hokA hN hpn2 hp2 hf4.c hM4 h444 (hf4.1 46 (by decide)) hgo
          exact ⟨_, S4, h0, rfl, hT3.keep f4 (by decide), g1, fun z q => absurd q (g2 z).1, fun z _ => (g2 z).2⟩
        · cases h1
          rw [hwd6] at h2
          cases h2
    · rw [h17] at hw h44
      have nw : ¬ isWd (S0.2.1 17) 6 k s e = true := fun z => hw (hwd.2.mpr z)
      rw [h17]
      rcases key with ⟨k', s', e', r1, p, h1, h2, -⟩ | ⟨x, r2, hW, hgo⟩
      · cases h1; exact absurd h2 nw
      · rcases hW with ⟨k', s', e', r1, h1, h2, -⟩ | ⟨k', s', e', r1, h1, h2, hx, hr2⟩
        · cases h1; exact absurd h2 nw
        · subst hr2
          subst hx
          have hf4 := hfS.m f2
          obtain ⟨g1, g2⟩ := act_go (K := K) (d := d) (J := J) (Q := rtQ S0 J y) (by omega) hokA hN (Nat.zero_le n) htk hf4.c hM2 h44 (hf4.1 46 (by decide)) hgo
          exact ⟨_, S2, rfl, rfl, hT.keep f2 (by decide), g1, fun z q => absurd q (g2 z).1, fun z _ => (g2 z).2⟩
