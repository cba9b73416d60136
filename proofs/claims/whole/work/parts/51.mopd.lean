/-! operands and comparisons, read by the model -/
/-- as mR, with the relation that was read -/
def mRr (rl : Int32) (K : jK) (d : Nat) (J : jH) (Q : jO → jH → Prop) (S0 : jS) (n : Nat) (st : Int32) (r : List Tok) (C : List (Int32 × Int32)) (P : List Int32) : Prop := ∀ (p : Nat) (S : jS), tokL (S0.2.1 17) n p = r → p ≤ n → frB S0 S → Ms S C P → S.1 43 = rl → Rd K d J Q st p S
def opG (K : jK) (d : Nat) (J : jH) (Q : jO → jH → Prop) (S0 : jS) (n : Nat) (t rl : Int32) (C : List (Int32 × Int32)) (P : List Int32) (y : Rs Opd) : Prop := match y with
  | .inl (x, r1) => mR K d J Q S0 n t r1 (thn t rl (C ++ [opc x]) P).1 (thn t rl (C ++ [opc x]) P).2
  | .inr q => mB J Q S0 q
theorem nmd_neg {S : jS} {N : Nat → Int32} {c : Nat} (hN : ∀ ch, fdL (S.2.1 13) ch c 0 (-1) = ixOf N ch c 0) (h6 : c ≤ 6) {k : Int32} {s e : Nat} (r : List Tok) : (nmd S c k s e < 0 ∧ pFld (S.2.1 17) N c ((k, s, e) :: r) = .inr s) ∨ (¬ nmd S c k s e < 0 ∧ ∃ f : Nat, nmd S c k s e = nI f ∧ pFld (S.2.1 17) N c ((k, s, e) :: r) = .inl (f, r)) := by
  unfold nmd pFld
  by_cases hl : isLt k s e = true
  · simp only [if_pos hl]
    rw [hN]
    rcases ixOf_two N (S.2.1 17 s) c 0 with h | ⟨j, h1, h2, h3⟩
    · rw [h]
      exact .inl ⟨by decide, by rw [if_pos rfl]⟩
    · rw [h3]
      refine .inr ⟨Int32.not_lt.mpr (show nI 0 ≤ nI j from nI_le (by omega) (by omega)), j, rfl, ?_⟩
      rw [if_neg (nI_ne1 (by omega)), nI_clamp (by omega)]
  · simp only [if_neg hl]
    exact .inl ⟨by decide, trivial⟩
theorem mR_opd_1 {K : jK} {d : Nat} (hd : 8 ≤ d) {J : jH} {Q : jO → jH → Prop} {S0 : jS} {n c : Nat} (hok : RdOk S0 n c) {N : Nat → Int32} (hN : ∀ ch, fdL (S0.2.1 13) ch c 0 (-1) = ixOf N ch c 0) {rl : Int32} {k : Int32} {s e : Nat} {r : List Tok} {C : List (Int32 × Int32)} {P : List Int32} (hl : C.length + P.length ≤ 117) (h33 : ¬ k = 33) (h40 : ¬ k = 40)
    (hgo : opG K d J Q S0 n 3 rl C P (pOpd (S0.2.1 17) N c ((k, s, e) :: r))) : mRr rl K d J Q S0 n 1 ((k, s, e) :: r) C P := by
  intro p S hp hpn hf hM hrl
  have hT17 : S.2.1 17 = S0.2.1 17 := hf.2.1 17 (by decide)
  have h6 := hok.2.2.2.2.2
  refine rd_step K d (by omega) S J Q n c p (hf.ok hok) hpn 1 k s e r (by rw [hT17]; exact hp) (fun _ q => absurd q (by decide)) (fun q S1 hs => ?_) (fun _ h63 S1 hs hT => ?_)
  · have hy0 : pOpd (S0.2.1 17) N c ((k, s, e) :: r) = .inr s := by
      refine (if_neg (by rw [q]; decide)).trans ((if_neg (by rw [q]; decide)).trans ?_)
      rw [show pFld (S0.2.1 17) N c ((k, s, e) :: r) = .inr s by rw [pFld, if_neg (fun z => by rw [isLt_97 z] at q; exact absurd q (by decide))]]
    rw [hy0] at hgo
    exact hgo S1 (hf.sc hs)
  have hf1 := hf.sc hs
  have hM1 := hs.ms hM
  have hr1 : S1.1 43 = rl := hs.rel.trans hrl
  have h171 : S1.2.1 17 = S0.2.1 17 := hf1.2.1 17 (by decide)
  have h131 : S1.2.1 13 = S0.2.1 13 := hf1.2.1 13 (by decide)
  have hok1 := hf1.ok hok
  have hop := m_M_operand K (d - 1 - 1 - 1) (by omega) S1 J n k s e hT C P hM1 hl 2 3 rl hr1 c hok1.2.2.2.2.1 h6
  by_cases h45 : k = 45
  · rw [if_pos h45] at hop
    have h46 : ¬ k = 46 := by rw [h45]; decide
    obtain ⟨he, hr⟩ := tokL_nx (S0.2.1 17) n (n - p) p (Nat.le_refl _) hpn hp h46
    refine nx_of (m_M_next_1 K (d - 1) (by omega) S1 J _ (isInt_st _ _ _ _) (m_M_one_o K (d - 1 - 1) (by omega) S1 J n k s e hT _ hop (isInt_st _ _ _ _) h33 h40)) hT (by decide) h46 (fun S2 f2 hS2 => ?_)
    subst hS2
    cases r with
    | nil => exact absurd hr (tokL_ne _ n (n - e) e (Nat.le_refl _) he)
    | cons q2 r2 =>
      obtain ⟨k2, s2, e2⟩ := q2
      have hy1 : pOpd (S0.2.1 17) N c ((k, s, e) :: (k2, s2, e2) :: r2) = if k2 = 48 then .inl (.inr (-(numV (S0.2.1 17) (e2 - s2) s2 0)), r2) else .inr s2 := if_pos h45
      refine rd_step K d (by omega) S2 J Q n c e hok1 he 2 k2 s2 e2 r2 (by rw [h171]; exact hr) (fun _ q => absurd q (by decide)) (fun q S3 hs3 => ?_) (fun _ h63' S3 hs3 hT3 => ?_)
      · rw [hy1, if_neg (by rw [q]; decide)] at hgo
        exact hgo S3 (hf1.sc hs3)
      · have hf3 := hf1.sc hs3
        have h173 : S3.2.1 17 = S0.2.1 17 := hf3.2.1 17 (by decide)
        have hng := m_M_negative K (d - 1 - 1) (by omega) S3 J n k2 s2 e2 hT3 C P (hs3.ms hM1) hl 3 rl (hs3.rel.trans hr1)
        by_cases h48 : k2 = 48
        · rw [if_pos h48, h173] at hng
          rw [hy1, if_pos h48] at hgo
          have h46' : ¬ k2 = 46 := by rw [h48]; decide
          obtain ⟨he2, hr2⟩ := tokL_nx (S0.2.1 17) n (n - e) e (Nat.le_refl _) he hr h46'
          exact nx_of (m_M_next_2 K (d - 1) (by omega) S3 J _ (isInt_st _ _ _ _) hng) hT3 (by decide) h46' (fun S4 f4 hM4 => hgo e2 S4 hr2 he2 (hf3.m f4) hM4)
        · rw [if_neg h48] at hng
          rw [hy1, if_neg h48] at hgo
          exact nx_bad (m_M_next_2 K (d - 1) (by omega) S3 J _ (isInt_st _ _ _ _) hng) hT3 (fun S4 f4 => hgo S4 (hf3.m f4))
  · rw [if_neg h45] at hop
    by_cases h48 : k = 48
    · rw [if_pos h48, h171] at hop
      have h46 : ¬ k = 46 := by rw [h48]; decide
      obtain ⟨he, hr⟩ := tokL_nx (S0.2.1 17) n (n - p) p (Nat.le_refl _) hpn hp h46
      rw [show pOpd (S0.2.1 17) N c ((k, s, e) :: r) = .inl (.inr (numV (S0.2.1 17) (e - s) s 0), r) from (if_neg h45).trans (if_pos h48)] at hgo
      exact nx_of (m_M_next_1 K (d - 1) (by omega) S1 J _ (isInt_st _ _ _ _) (m_M_one_o K (d - 1 - 1) (by omega) S1 J n k s e hT _ hop (isInt_st _ _ _ _) h33 h40)) hT (by decide) h46 (fun S4 f4 hM4 => hgo e S4 hr he (hf1.m f4) hM4)
    · rw [if_neg h48] at hop
      have hy2 : pOpd (S0.2.1 17) N c ((k, s, e) :: r) = (match pFld (S0.2.1 17) N c ((k, s, e) :: r) with | .inl (f, r1) => .inl (.inl f, r1) | .inr p => .inr p) := (if_neg h45).trans (if_neg h48)
      rcases nmd_neg (S := S1) (N := N) (c := c) (by rw [h131]; exact hN) h6 (k := k) (s := s) (e := e) r with ⟨hz, hpf⟩ | ⟨hz, f, hnf, hpf⟩
      · rw [if_pos hz] at hop
        rw [h171] at hpf
        rw [hy2, hpf] at hgo
        exact nx_bad (m_M_next_1 K (d - 1) (by omega) S1 J _ (isInt_st _ _ _ _) (m_M_one_o K (d - 1 - 1) (by omega) S1 J n k s e hT _ hop (isInt_st _ _ _ _) h33 h40)) hT (fun S4 f4 => hgo S4 (hf1.m f4))
      · rw [if_neg hz, hnf] at hop
        rw [h171] at hpf
        rw [hy2, hpf] at hgo
        have h46 : ¬ k = 46 := by
          intro z
          rw [pFld] at hpf
          split at hpf
          · rename_i zz
            rw [isLt_97 zz] at z
            exact absurd z (by decide)
          · cases hpf
        obtain ⟨he, hr⟩ := tokL_nx (S0.2.1 17) n (n - p) p (Nat.le_refl _) hpn hp h46
        exact nx_of (m_M_next_1 K (d - 1) (by omega) S1 J _ (isInt_st _ _ _ _) (m_M_one_o K (d - 1 - 1) (by omega) S1 J n k s e hT _ hop (isInt_st _ _ _ _) h33 h40)) hT (by decide) h46 (fun S4 f4 hM4 => hgo e S4 hr he (hf1.m f4) hM4)
theorem mR_opd_4 {K : jK} {d : Nat} (hd : 8 ≤ d) {J : jH} {Q : jO → jH → Prop} {S0 : jS} {n c : Nat} (hok : RdOk S0 n c) {N : Nat → Int32} (hN : ∀ ch, fdL (S0.2.1 13) ch c 0 (-1) = ixOf N ch c 0) {rl : Int32} {k : Int32} {s e : Nat} {r : List Tok} {C : List (Int32 × Int32)} {P : List Int32} (hl : C.length + P.length ≤ 117)
    (hgo : opG K d J Q S0 n 6 rl C P (pOpd (S0.2.1 17) N c ((k, s, e) :: r))) : mRr rl K d J Q S0 n 4 ((k, s, e) :: r) C P := by
  intro p S hp hpn hf hM hrl
  have hT17 : S.2.1 17 = S0.2.1 17 := hf.2.1 17 (by decide)
  have h6 := hok.2.2.2.2.2
  refine rd_step K d (by omega) S J Q n c p (hf.ok hok) hpn 4 k s e r (by rw [hT17]; exact hp) (fun _ q => absurd q (by decide)) (fun q S1 hs => ?_) (fun _ h63 S1 hs hT => ?_)
  · have hy0 : pOpd (S0.2.1 17) N c ((k, s, e) :: r) = .inr s := by
      refine (if_neg (by rw [q]; decide)).trans ((if_neg (by rw [q]; decide)).trans ?_)
      rw [show pFld (S0.2.1 17) N c ((k, s, e) :: r) = .inr s by rw [pFld, if_neg (fun z => by rw [isLt_97 z] at q; exact absurd q (by decide))]]
    rw [hy0] at hgo
    exact hgo S1 (hf.sc hs)
  have hf1 := hf.sc hs
  have hM1 := hs.ms hM
  have hr1 : S1.1 43 = rl := hs.rel.trans hrl
  have h171 : S1.2.1 17 = S0.2.1 17 := hf1.2.1 17 (by decide)
  have h131 : S1.2.1 13 = S0.2.1 13 := hf1.2.1 13 (by decide)
  have hok1 := hf1.ok hok
  have hop := m_M_operand K (d - 1 - 1) (by omega) S1 J n k s e hT C P hM1 hl 5 6 rl hr1 c hok1.2.2.2.2.1 h6
  by_cases h45 : k = 45
  · rw [if_pos h45] at hop
    have h46 : ¬ k = 46 := by rw [h45]; decide
    obtain ⟨he, hr⟩ := tokL_nx (S0.2.1 17) n (n - p) p (Nat.le_refl _) hpn hp h46
    refine nx_of (m_M_next_4 K (d - 1) (by omega) S1 J _ (isInt_st _ _ _ _) hop) hT (by decide) h46 (fun S2 f2 hS2 => ?_)
    subst hS2
    cases r with
    | nil => exact absurd hr (tokL_ne _ n (n - e) e (Nat.le_refl _) he)
    | cons q2 r2 =>
      obtain ⟨k2, s2, e2⟩ := q2
      have hy1 : pOpd (S0.2.1 17) N c ((k, s, e) :: (k2, s2, e2) :: r2) = if k2 = 48 then .inl (.inr (-(numV (S0.2.1 17) (e2 - s2) s2 0)), r2) else .inr s2 := if_pos h45
      refine rd_step K d (by omega) S2 J Q n c e hok1 he 5 k2 s2 e2 r2 (by rw [h171]; exact hr) (fun _ q => absurd q (by decide)) (fun q S3 hs3 => ?_) (fun _ h63' S3 hs3 hT3 => ?_)
      · rw [hy1, if_neg (by rw [q]; decide)] at hgo
        exact hgo S3 (hf1.sc hs3)
      · have hf3 := hf1.sc hs3
        have h173 : S3.2.1 17 = S0.2.1 17 := hf3.2.1 17 (by decide)
        have hng := m_M_negative K (d - 1 - 1) (by omega) S3 J n k2 s2 e2 hT3 C P (hs3.ms hM1) hl 6 rl (hs3.rel.trans hr1)
        by_cases h48 : k2 = 48
        · rw [if_pos h48, h173] at hng
          rw [hy1, if_pos h48] at hgo
          have h46' : ¬ k2 = 46 := by rw [h48]; decide
          obtain ⟨he2, hr2⟩ := tokL_nx (S0.2.1 17) n (n - e) e (Nat.le_refl _) he hr h46'
          exact nx_of (m_M_next_5 K (d - 1) (by omega) S3 J _ (isInt_st _ _ _ _) hng) hT3 (by decide) h46' (fun S4 f4 hM4 => hgo e2 S4 hr2 he2 (hf3.m f4) hM4)
        · rw [if_neg h48] at hng
          rw [hy1, if_neg h48] at hgo
          exact nx_bad (m_M_next_5 K (d - 1) (by omega) S3 J _ (isInt_st _ _ _ _) hng) hT3 (fun S4 f4 => hgo S4 (hf3.m f4))
  · rw [if_neg h45] at hop
    by_cases h48 : k = 48
    · rw [if_pos h48, h171] at hop
      have h46 : ¬ k = 46 := by rw [h48]; decide
      obtain ⟨he, hr⟩ := tokL_nx (S0.2.1 17) n (n - p) p (Nat.le_refl _) hpn hp h46
      rw [show pOpd (S0.2.1 17) N c ((k, s, e) :: r) = .inl (.inr (numV (S0.2.1 17) (e - s) s 0), r) from (if_neg h45).trans (if_pos h48)] at hgo
      exact nx_of (m_M_next_4 K (d - 1) (by omega) S1 J _ (isInt_st _ _ _ _) hop) hT (by decide) h46 (fun S4 f4 hM4 => hgo e S4 hr he (hf1.m f4) hM4)
    · rw [if_neg h48] at hop
      have hy2 : pOpd (S0.2.1 17) N c ((k, s, e) :: r) = (match pFld (S0.2.1 17) N c ((k, s, e) :: r) with | .inl (f, r1) => .inl (.inl f, r1) | .inr p => .inr p) := (if_neg h45).trans (if_neg h48)
      rcases nmd_neg (S := S1) (N := N) (c := c) (by rw [h131]; exact hN) h6 (k := k) (s := s) (e := e) r with ⟨hz, hpf⟩ | ⟨hz, f, hnf, hpf⟩
      · rw [if_pos hz] at hop
        rw [h171] at hpf
        rw [hy2, hpf] at hgo
        exact nx_bad (m_M_next_4 K (d - 1) (by omega) S1 J _ (isInt_st _ _ _ _) hop) hT (fun S4 f4 => hgo S4 (hf1.m f4))
      · rw [if_neg hz, hnf] at hop
        rw [h171] at hpf
        rw [hy2, hpf] at hgo
        have h46 : ¬ k = 46 := by
          intro z
          rw [pFld] at hpf
          split at hpf
          · rename_i zz
            rw [isLt_97 zz] at z
            exact absurd z (by decide)
          · cases hpf
        obtain ⟨he, hr⟩ := tokL_nx (S0.2.1 17) n (n - p) p (Nat.le_refl _) hpn hp h46
        exact nx_of (m_M_next_4 K (d - 1) (by omega) S1 J _ (isInt_st _ _ _ _) hop) hT (by decide) h46 (fun S4 f4 hM4 => hgo e S4 hr he (hf1.m f4) hM4)
