/-! class and model side by side: run -/
section CLO
variable {A : Nat → Nat → Int32} {c : Nat}
theorem Clo1.and {P1 P4 R1 R4 : PR} (h : Clo1 A c P1 P4) (g : Clo1 A c R1 R4) : Clo1 A c (fun o r y => P1 o r y ∧ R1 o r y) (fun o r y => P4 o r y ∧ R4 o r y) := by
  obtain ⟨h1, h2, h3, h4, h5, h6, h7⟩ := h
  obtain ⟨g1, g2, g3, g4, g5, g6, g7⟩ := g
  exact ⟨fun o k s e r a b => ⟨h1 o k s e r a b, g1 o k s e r a b⟩, fun o k s e r a b => ⟨h2 o k s e r a b, g2 o k s e r a b⟩, fun o s e r x r1 a b => ⟨h3 o s e r x r1 a b.1, g3 o s e r x r1 a b.2⟩, fun o s e r p a b => ⟨h4 o s e r p a b.1, g4 o s e r p a b.2⟩, fun o s e r x s2 e2 r1 a b => ⟨h5 o s e r x s2 e2 r1 a b.1, g5 o s e r x s2 e2 r1 a b.2⟩, fun o s e r x k2 s2 e2 r1 a b z => ⟨h6 o s e r x k2 s2 e2 r1 a b.1 z, g6 o s e r x k2 s2 e2 r1 a b.2 z⟩, fun o s e r p a b => ⟨h7 o s e r p a b.1, g7 o s e r p a b.2⟩⟩
theorem Clo1.all {ι : Type} {P1 P4 : ι → PR} (h : ∀ i, Clo1 A c (P1 i) (P4 i)) : Clo1 A c (fun o r y => ∀ i, P1 i o r y) (fun o r y => ∀ i, P4 i o r y) :=
  ⟨fun o k s e r a b i => (h i).1 o k s e r a b, fun o k s e r a b i => (h i).2.1 o k s e r a b, fun o s e r x r1 a b i => (h i).2.2.1 o s e r x r1 a (b i), fun o s e r p a b i => (h i).2.2.2.1 o s e r p a (b i), fun o s e r x s2 e2 r1 a b i => (h i).2.2.2.2.1 o s e r x s2 e2 r1 a (b i), fun o s e r x k2 s2 e2 r1 a b z i => (h i).2.2.2.2.2.1 o s e r x k2 s2 e2 r1 a (b i) z, fun o s e r p a b i => (h i).2.2.2.2.2.2 o s e r p a (b i)⟩
theorem CloL.and {z w : Int32} {f : Int32 → Int32 → Int32} {P1 P2 R1 R2 : PR} {P3 R3 : PL} (h : CloL z w f P1 P2 P3) (g : CloL z w f R1 R2 R3) : CloL z w f (fun o r y => P1 o r y ∧ R1 o r y) (fun o r y => P2 o r y ∧ R2 o r y) (fun o x r y => P3 o x r y ∧ R3 o x r y) := by
  obtain ⟨h1, h2, h3, h4, h5⟩ := h
  obtain ⟨g1, g2, g3, g4, g5⟩ := g
  exact ⟨fun o r x r1 y a b => ⟨h1 o r x r1 y a.1 b.1, g1 o r x r1 y a.2 b.2⟩, fun o r p a => ⟨h2 o r p a.1, g2 o r p a.2⟩, fun o x k s e r a => ⟨h3 o x k s e r a, g3 o x k s e r a⟩, fun o x s e r y r1 q a b => ⟨h4 o x s e r y r1 q a.1 b.1, g4 o x s e r y r1 q a.2 b.2⟩, fun o x s e r p a => ⟨h5 o x s e r p a.1, g5 o x s e r p a.2⟩⟩
theorem CloL.all {ι : Type} {z w : Int32} {f : Int32 → Int32 → Int32} {P1 P2 : ι → PR} {P3 : ι → PL} (h : ∀ i, CloL z w f (P1 i) (P2 i) (P3 i)) : CloL z w f (fun o r y => ∀ i, P1 i o r y) (fun o r y => ∀ i, P2 i o r y) (fun o x r y => ∀ i, P3 i o x r y) :=
  ⟨fun o r x r1 y a b i => (h i).1 o r x r1 y (a i) (b i), fun o r p a i => (h i).2.1 o r p (a i), fun o x k s e r a i => (h i).2.2.1 o x k s e r a, fun o x s e r y r1 q a b i => (h i).2.2.2.1 o x s e r y r1 q (a i) (b i), fun o x s e r p a i => (h i).2.2.2.2 o x s e r p (a i)⟩
end CLO
/-- every machine that may read the text -/
def jI (T N : Nat → Int32) (n c : Nat) : Type := { i : jK × Nat × jH × (jO → jH → Prop) × jS // 8 ≤ i.2.1 ∧ RdOk i.2.2.2.2 n c ∧ T = i.2.2.2.2.2.1 17 ∧ ∀ ch, fdL (i.2.2.2.2.2.1 13) ch c 0 (-1) = ixOf N ch c 0 }
def vF (A : Nat → Nat → Int32) : Nat → Nat → Int32 := fun w f => vval (A 1 f) (A 2 f) (A 3 f) (A 4 w)
def PP (A : Nat → Nat → Int32) (n c : Nat) (Qi : jK → Nat → jH → (jO → jH → Prop) → jS → Nat → PR) : PR := fun o r y => (RS (vF A) c o r y ∧ BS n o r y) ∧ ∀ i : jI (A 5) (A 0) n c, Qi i.1.1 i.1.2.1 i.1.2.2.1 i.1.2.2.2.1 i.1.2.2.2.2 n o r y
def PQ (A : Nat → Nat → Int32) (n c : Nat) (Qi : jK → Nat → jH → (jO → jH → Prop) → jS → Nat → PL) : PL := fun o x r y => (RL (vF A) c o x r y ∧ BL n o x r y) ∧ ∀ i : jI (A 5) (A 0) n c, Qi i.1.1 i.1.2.1 i.1.2.2.1 i.1.2.2.2.1 i.1.2.2.2.2 n o x r y
theorem all_one (A : Nat → Nat → Int32) {n c : Nat} (h6 : c ≤ 6) : Clo1 A c (PP A n c Q1) (PP A n c Q4) :=
  Clo1.and (Clo1.and (sem_one (V := vF A) (fun _ _ _ _ => rfl) h6) bnd_one) (Clo1.all (fun i : jI (A 5) (A 0) n c => clo_one i.2.1 i.2.2.1 i.2.2.2.1 i.2.2.2.2))
theorem all_and (A : Nat → Nat → Int32) {n c : Nat} : CloL 38 2 (fun a b => a &&& b) (PP A n c Q1) (PP A n c Q2) (PQ A n c Q3) :=
  CloL.and (CloL.and sem_and (bnd_chain _ _ _)) (CloL.all (fun i : jI (A 5) (A 0) n c => clo_and i.2.1 i.2.2.1))
theorem all_or (A : Nat → Nat → Int32) {n c : Nat} : CloL 124 1 (fun a b => a ||| b) (PP A n c Q2) (PP A n c Q4) (PQ A n c Q5) :=
  CloL.and (CloL.and sem_or (bnd_chain _ _ _)) (CloL.all (fun i : jI (A 5) (A 0) n c => clo_or i.2.1 i.2.2.1))
theorem pAct_ok {T N : Nat → Int32} {c : Nat} {r r1 : List Tok} {q : Act} (h : pAct T N c r = .inl (q, r1)) (h6 : c ≤ 6) : aOk c q := by
  unfold pAct at h
  split at h
  · cases h
  · rename_i v r2 hv
    split at h
    · split at h
      · cases h
      · cases h
      · rename_i h1
        split at h
        · split at h
          · cases h
          · rename_i h2
            cases h
            exact ⟨by show (0 : Nat) < 6; omega, fun _ => ⟨pChg_ok h1 h6, pChg_ok h2 h6⟩, fun z => absurd rfl z⟩
        · cases h
          exact ⟨by show (0 : Nat) < 6; omega, fun _ => ⟨pChg_ok h1 h6, trivial⟩, fun z => absurd rfl z⟩
    · split at h
      · cases h
        exact ⟨by show (5 : Nat) < 6; omega, fun z => absurd z (by decide), fun _ z => absurd rfl z⟩
      · rename_i h0 h5
        split at h
        · cases h
        · rename_i h1
          cases h
          refine ⟨?_, fun z => absurd z h0, fun _ _ => pFld_ltc h1 h6⟩
          show v < 6
          unfold pVerb at hv
          split at hv
          · cases hv
          · split at hv
            · cases hv
            · rename_i hne
              rcases vbL_two (fun i => isWd T i _ _ _) 6 0 (-1) with z | ⟨j, z1, z2, z3⟩
              · exact absurd z hne
              · rw [z3, nI_clamp (by omega)] at hv
                cases hv
                omega
theorem chL_no (can chg : Int32 → Int32) (x : Int32) {w : Nat} (hw : bt x w = false) : ∀ (k i : Nat) (f : Nat → Int32) (r : Int32) (n : Nat), (chL can chg x k i f r n).1 w = f w
  | 0, i, f, r, n => rfl
  | k + 1, i, f, r, n => by
    unfold chL
    split
    · rename_i hb
      split
      · exact chL_no can chg x hw k (i + 1) f _ n
      · rw [chL_no can chg x hw k (i + 1) _ r _]
        exact if_neg (fun e => by rw [← e, hw] at hb; cases hb)
    · exact chL_no can chg x hw k (i + 1) f r n
theorem lstL_le (val : Int32 → Int32) (x : Int32) : ∀ (k i m : Nat) (f : Nat → Int32), (lstL val x k i m f).2 ≤ m + k
  | 0, i, m, f => Nat.le_refl _
  | k + 1, i, m, f => by
    unfold lstL
    split
    · have := lstL_le val x k (i + 1) (m + 1) (insW val m i f); omega
    · have := lstL_le val x k (i + 1) m f; omega
theorem ov_msk (g : Nat → Int32) : ovF g (-1) (-16777216) 0 32 = mskF g 32 := by
  funext j
  unfold ovF mskF
  by_cases h : j < 32
  · rw [if_pos ⟨h, b_m1 j h⟩, if_pos h, show (-16777216 : Int32) ^^^ (-1) = 16777215 by decide +kernel, show (0 : Int32) &&& (-16777216) = 0 by decide +kernel]
    apply b_ext
    intro i hi
    rw [b_or, b_0, Bool.or_false]
  · rw [if_neg (fun q => h q.1), if_neg h]
theorem Iv.pl {S S' : jS} {c n m : Nat} {lo wd : Nat → Nat} (h : Iv S c n m lo wd) (f : frR S S') {v : Int32} (h10 : S'.1 10 = v) (k : Int32) : Iv (s1 (s1 S' 33 v) 30 k) c n m lo wd := by
  obtain ⟨h1, h2, h3, h4, h5, h6, h7, h8, h9, h10', h11, h12⟩ := h
  have e1 : ∀ i, ¬ i ∈ [7, 8, 9, 10, 11, 12, 13, 14, 15, 16, 17, 18, 19, 20, 21, 22, 23, 24, 25, 26, 27, 28, 29] → S'.1 i = S.1 i := f.1
  have e2 : ∀ i, ¬ i ∈ [6, 7, 8] → S'.2.1 i = S.2.1 i := f.2.1
  have h5' := h5.eq (e2 1 (by decide)) (e2 2 (by decide)) (e2 3 (by decide)) (e2 14 (by decide)) (e2 15 (by decide)) (e2 16 (by decide))
  refine ⟨⟨(e1 2 (by decide)).trans h1.1, (e1 31 (by decide)).trans h1.2⟩, ⟨(e1 6 (by decide)).trans h2.1, (e1 32 (by decide)).trans h2.2.1, h2.2.2⟩, ⟨(e1 0 (by decide)).trans h3.1, (e1 35 (by decide)).trans h3.2.1, h3.2.2⟩, ⟨(e2 0 (by decide)).trans (h4.1.trans (e2 13 (by decide)).symm), (e2 4 (by decide)).trans (h4.2.1.trans (e2 11 (by decide)).symm), (e2 5 (by decide)).trans (h4.2.2.1.trans (e2 17 (by decide)).symm), (e2 9 (by decide)).trans (h4.2.2.2.trans (e2 18 (by decide)).symm)⟩, h5', ?_, ?_, ?_, ?_, ?_, ⟨h10, (e1 1 (by decide)).trans (h11.2.trans (e1 34 (by decide)).symm)⟩, ?_⟩
  · show dst (S'.2.1 0) c
    rw [e2 0 (by decide)]; exact h6
  · show cov (S'.1 3) lo wd c
    rw [e1 3 (by decide)]; exact h7
  · show rsp (S'.2.1 10) (S'.1 4)
    rw [e2 10 (by decide), e1 4 (by decide)]; exact h8
  · show rsp (S'.2.1 12) (S'.1 5)
    rw [e2 12 (by decide), e1 5 (by decide)]; exact h9
  · show ∀ w, w < 32 → bt (S'.1 4) w = false → bt (S'.1 5) w = false ∧ S'.2.1 4 w = 0
    rw [e1 4 (by decide), e1 5 (by decide), e2 4 (by decide)]; exact h10'
  · show chOk (S'.2.1 5) ∧ txOk (S'.2.1 5) n
    rw [e2 5 (by decide)]; exact h12
theorem Iv.z {S S' : jS} {c n m : Nat} {lo wd : Nat → Nat} (h : Iv S c n m lo wd) (f : frZ [36, 37, 38, 39, 40, 41, 42, 43, 44, 45, 46, 47] [19, 20, 21, 22, 23, 24, 25, 26, 27, 28] S S') : Iv S' c n m lo wd := h.keep (fun i hi => f.1 i ((by decide : ∀ i, i ∈ [0, 1, 2, 3, 4, 5, 6, 10, 31, 32, 33, 34, 35] → ¬ i ∈ [36, 37, 38, 39, 40, 41, 42, 43, 44, 45, 46, 47]) i hi)) (fun i hi => f.2.1 i ((by decide : ∀ i, i ∈ [0, 1, 2, 3, 4, 5, 9, 10, 11, 12, 13, 14, 15, 16, 17, 18] → ¬ i ∈ [19, 20, 21, 22, 23, 24, 25, 26, 27, 28]) i hi))
theorem cs4 (S : jS) (X : Nat → Int32) (Y : Int32) : (s1 (s2 S 4 X) 1 Y).2.1 4 = X := rfl
theorem cs1 (S : jS) (X : Nat → Int32) (Y : Int32) : (s1 (s2 S 4 X) 1 Y).1 1 = Y := rfl
theorem cs9 (S : jS) (X : Nat → Int32) (Y : Int32) : (s1 (s2 S 4 X) 1 Y).2.1 9 = S.2.1 9 := rfl
theorem cs0 (S : jS) (X : Nat → Int32) (Y : Int32) : (s1 (s2 S 4 X) 1 Y).1 0 = S.1 0 := rfl
theorem ct4 (S : jS) (X : Nat → Int32) (Y : Int32) : (s1 (s2 (s1 S 1 0) 9 X) 0 Y).2.1 4 = S.2.1 4 := rfl
theorem ct1 (S : jS) (X : Nat → Int32) (Y : Int32) : (s1 (s2 (s1 S 1 0) 9 X) 0 Y).1 1 = 0 := rfl
theorem ct9 (S : jS) (X : Nat → Int32) (Y : Int32) : (s1 (s2 (s1 S 1 0) 9 X) 0 Y).2.1 9 = X := rfl
theorem ct0 (S : jS) (X : Nat → Int32) (Y : Int32) : (s1 (s2 (s1 S 1 0) 9 X) 0 Y).1 0 = Y := rfl
theorem ce4 (S : jS) : (s1 S 1 0).2.1 4 = S.2.1 4 := rfl
theorem ce1 (S : jS) : (s1 S 1 0).1 1 = 0 := rfl
theorem ce9 (S : jS) : (s1 S 1 0).2.1 9 = S.2.1 9 := rfl
theorem ce0 (S : jS) : (s1 S 1 0).1 0 = S.1 0 := rfl
section ANS
variable {S S' S1 : jS} {c n m : Nat} {lo wd : Nat → Nat}
theorem an_ch (h : Iv S c n m lo wd) (f : ∀ i, ¬ i ∈ [6, 7, 8] → S'.2.1 i = S.2.1 i) (g : ∀ i, ¬ i ∈ [4, 6, 7, 8, 9] → S1.2.1 i = S.2.1 i) (q : Act) (t : Int32) : chL (canV S'.2.1 q.2.2.1 q.2.2.2) (chgV S'.2.1 q.2.2.1 q.2.2.2) t 32 0 (S'.2.1 4) 0 0 = mCh q t S1.2.1 := by
  have a1 : S'.2.1 1 = S1.2.1 1 := (f 1 (by decide)).trans (g 1 (by decide)).symm
  have a2 : S'.2.1 2 = S1.2.1 2 := (f 2 (by decide)).trans (g 2 (by decide)).symm
  have a3 : S'.2.1 3 = S1.2.1 3 := (f 3 (by decide)).trans (g 3 (by decide)).symm
  have a4 : S'.2.1 4 = S1.2.1 11 := (f 4 (by decide)).trans (h.2.2.2.1.2.1.trans (g 11 (by decide)).symm)
  rw [canV_eq a1 a2 a3, chgV_eq a1 a2 a3, a4]
theorem an_v (h : Iv S c n m lo wd) (f : ∀ i, ¬ i ∈ [6, 7, 8] → S'.2.1 i = S.2.1 i) (g : ∀ i, ¬ i ∈ [4, 6, 7, 8, 9] → S1.2.1 i = S.2.1 i) (k w : Nat) : fvl S'.2.1 k w = mvl S1.2.1 k w := by
  have a1 : S'.2.1 1 = S1.2.1 1 := (f 1 (by decide)).trans (g 1 (by decide)).symm
  have a2 : S'.2.1 2 = S1.2.1 2 := (f 2 (by decide)).trans (g 2 (by decide)).symm
  have a3 : S'.2.1 3 = S1.2.1 3 := (f 3 (by decide)).trans (g 3 (by decide)).symm
  have a4 : S'.2.1 4 = S1.2.1 11 := (f 4 (by decide)).trans (h.2.2.2.1.2.1.trans (g 11 (by decide)).symm)
  show vval (S'.2.1 1 k) (S'.2.1 2 k) (S'.2.1 3 k) (S'.2.1 4 w) = vval (S1.2.1 1 k) (S1.2.1 2 k) (S1.2.1 3 k) (S1.2.1 11 w)
  rw [a1, a2, a3, a4]
theorem an_ls (h : Iv S c n m lo wd) (f : ∀ i, ¬ i ∈ [6, 7, 8] → S'.2.1 i = S.2.1 i) (g : ∀ i, ¬ i ∈ [4, 6, 7, 8, 9] → S1.2.1 i = S.2.1 i) (q : Act) (t : Int32) : lstL (wvl S'.2.1 q.2.1) t 32 0 0 (S'.2.1 9) = mLs q t S1.2.1 := by
  have a9 : S'.2.1 9 = S1.2.1 18 := (f 9 (by decide)).trans (h.2.2.2.1.2.2.2.trans (g 18 (by decide)).symm)
  have eW : wvl S'.2.1 q.2.1 = mwl S1.2.1 q.2.1 := by
    funext z
    exact an_v h f g q.2.1 z.toNatClampNeg
  rw [eW, a9]
theorem an_rng (h : Iv S c n m lo wd) (g : ∀ i, ¬ i ∈ [4, 6, 7, 8, 9] → S1.2.1 i = S.2.1 i) (k : Nat) (hk : k < c) (w : Nat) : -512 ≤ mvl S1.2.1 k w ∧ mvl S1.2.1 k w ≤ 1023 := by
  obtain ⟨-, e1, e2, e3, hh⟩ := h.2.2.2.2.1
  obtain ⟨g1, g2, g3, g4, g5⟩ := hh k hk
  have e : mvl S1.2.1 k w = vval (nI (lo k)) (nI (wd k)) (S1.2.1 3 k) (S1.2.1 11 w) := by
    show vval (S1.2.1 1 k) (S1.2.1 2 k) (S1.2.1 3 k) (S1.2.1 11 w) = _
    rw [g 1 (by decide), g 2 (by decide), e1, e2, g1, g2]
  rw [e]
  exact val_in _ _ g3 g4 g5
theorem an_ex {t : Int32} (ht : ¬ t = 0) : ∃ j, 0 ≤ j ∧ j < 0 + 32 ∧ bt t j = true := by
  apply Classical.byContradiction
  intro hno
  apply ht
  apply b_ext
  intro i hi
  rw [b_0]
  cases hb : bt t i with
  | false => rfl
  | true => exact absurd ⟨i, Nat.zero_le _, by omega, hb⟩ hno
theorem n_2 : nI (1 + 1) = 2 := rfl
theorem n_3 : nI (2 + 1) = 3 := rfl
theorem n_4 : nI (3 + 1) = 4 := rfl
theorem an_ans (h : Iv S c n m lo wd) (f : ∀ i, ¬ i ∈ [6, 7, 8] → S'.2.1 i = S.2.1 i) (g : ∀ i, ¬ i ∈ [4, 6, 7, 8, 9] → S1.2.1 i = S.2.1 i) (q : Act) (hq : aOk c q) (t : Int32) (hl : ¬ lackV t q.1 = true) : carV q t S' = mAns q t S1.2.1 := by
  have hv6 := hq.1
  have eV : (fun w => fvl S'.2.1 q.2.1 w) = fun w => mvl S1.2.1 q.2.1 w := by
    funext w
    exact an_v h f g q.2.1 w
  unfold carV mAns
  by_cases h0 : q.1 = 0
  · rw [if_pos h0, if_pos h0, an_ch h f g]
  · rw [if_neg h0, if_neg h0]
    by_cases h4' : q.1 = 4
    · rw [if_neg (by omega), if_neg (by omega), if_neg (by omega), if_pos h4', if_pos h4', an_ls h f g]
    · rw [if_neg h4']
      by_cases h5' : q.1 = 5
      · rw [if_neg (by omega), if_neg (by omega), if_neg (by omega), if_neg h4', if_pos h5', bcJ_eq]
      · rw [if_neg h5', eV]
        have hf := hq.2.2 h0 h5'
        by_cases h1' : q.1 = 1
        · rw [if_pos h1', h1', n_2, if_neg (show ¬ (1 : Nat) = 4 by decide)]
          rw [ga_max t (fun w => mvl S1.2.1 q.2.1 w) (-512) 32 0 0 (fun j _ _ => (an_rng h g _ hf j).1) (an_ex (fun z => hl ((lack_iff _ _).mpr ⟨z, .inl h1'⟩)))]
        · rw [if_neg h1']
          by_cases h2' : q.1 = 2
          · rw [if_pos h2', h2', n_3, if_neg (show ¬ (2 : Nat) = 4 by decide)]
            rw [ga_min t (fun w => mvl S1.2.1 q.2.1 w) 1023 32 0 0 (fun j _ _ => (an_rng h g _ hf j).2) (an_ex (fun z => hl ((lack_iff _ _).mpr ⟨z, .inr h2'⟩)))]
          · have h3' : q.1 = 3 := by omega
            rw [if_neg h2', if_pos h3', h3', n_4, if_neg (show ¬ (3 : Nat) = 4 by decide)]
            rw [ga_sum t (fun w => mvl S1.2.1 q.2.1 w) 32 0 0 true]
theorem an_rest (h : Iv S c n m lo wd) (f : ∀ i, ¬ i ∈ [6, 7, 8] → S'.2.1 i = S.2.1 i) (g : ∀ i, ¬ i ∈ [4, 6, 7, 8, 9] → S1.2.1 i = S.2.1 i) (q : Act) (t : Int32) :
    (carS q t S').2.1 4 = mBits q t S1.2.1 ∧ (carS q t S').1 1 = mRef q t S1.2.1 ∧ (carS q t S').2.1 9 = mList q t S1.2.1 ∧ (∀ v, S'.1 0 = v → (carS q t S').1 0 = mMany q t S1.2.1 v) := by
  have a4 : S'.2.1 4 = S1.2.1 11 := (f 4 (by decide)).trans (h.2.2.2.1.2.1.trans (g 11 (by decide)).symm)
  have a9 : S'.2.1 9 = S1.2.1 18 := (f 9 (by decide)).trans (h.2.2.2.1.2.2.2.trans (g 18 (by decide)).symm)
  have eC := an_ch h f g q t
  have eL := an_ls h f g q t
  unfold carS mBits mRef mList mMany
  rw [eC, eL]
  by_cases h0 : q.1 = 0
  · have h4' : ¬ q.1 = 4 := by omega
    rw [if_pos h0, if_pos h0, if_pos h0, if_neg h4', cs4, cs1, cs9, cs0]
    refine ⟨rfl, rfl, a9, fun v hv => ?_⟩
    rw [if_neg h4']
    exact hv
  · rw [if_neg h0, if_neg h0, if_neg h0]
    by_cases h4' : q.1 = 4
    · rw [if_pos h4', if_pos h4', ct4, ct1, ct9, ct0]
      refine ⟨a4, rfl, rfl, fun v hv => ?_⟩
      rw [if_pos h4']
    · rw [if_neg h4', if_neg h4', ce4, ce1, ce9, ce0]
      refine ⟨a4, rfl, a9, fun v hv => ?_⟩
      rw [if_neg h4']
      exact hv
end ANS
theorem carS_fr (q : Act) (t : Int32) (S : jS) : (∀ i, ¬ i ∈ [0, 1] → (carS q t S).1 i = S.1 i) ∧ (∀ i, ¬ i ∈ [4, 9] → (carS q t S).2.1 i = S.2.1 i) ∧ (carS q t S).2.2 = S.2.2 := by
  have hf := (frM.rf [0, 1] [4, 9] S)
  unfold carS
  split
  · exact (hf.s2 (by decide) _).s1 (by decide) _
  · split
    · exact ((hf.s1 (by decide) _).s2 (by decide) _).s1 (by decide) _
    · exact hf.s1 (by decide) _
theorem run_end {S S' S1 S2 : jS} {c n m : Nat} {lo wd : Nat → Nat} (h : Iv S c n m lo wd) (q : Act) (hq : aOk c q) (x2 : Int32) (hl : ¬ lackV (S.1 4 &&& x2) q.1 = true) (hfr : frR S S') (hS1 : S1.1 = (endS q (S.1 4 &&& x2) S').1) (hS1' : S1.2.1 = (endS q (S.1 4 &&& x2) S').2.1) (h10' : S'.1 10 = -1) (fz : frZ [30, 32, 33, 34, 35, 36, 37, 38, 39, 40, 41, 42, 43, 44, 45, 46, 47] [11, 12, 18, 19, 20, 21, 22, 23, 24, 25, 26, 27, 28] S1 S2)
    (g32 : S2.1 32 = 0) (g33 : S2.1 33 = -1) (g34 : S2.1 34 = mRef q (S.1 4 &&& x2) S1.2.1) (g35 : S2.1 35 = mMany q (S.1 4 &&& x2) S1.2.1 (S1.1 35)) (g12 : rsp (S2.2.1 12) (S.1 4 &&& x2)) (g11 : S2.2.1 11 = mskF (mBits q (S.1 4 &&& x2) S1.2.1) 32) (g18 : S2.2.1 18 = mList q (S.1 4 &&& x2) S1.2.1) : carV q (S.1 4 &&& x2) S' = mAns q (S.1 4 &&& x2) S1.2.1 ∧ Inv S2 := by
  have h0 := h
  obtain ⟨h1, h2, h3, h4, h5, h6, h7, h8, h9, h10, h11, h12⟩ := h0
  have fc := carS_fr q (S.1 4 &&& x2) S'
  have g : ∀ i, ¬ i ∈ [4, 6, 7, 8, 9] → S1.2.1 i = S.2.1 i := fun i hi => by
    rw [hS1']
    show va_up (carS q (S.1 4 &&& x2) S').2.1 4 _ i = S.2.1 i
    rw [j_une (fun e => hi (by rw [e]; decide)), fc.2.1 i (fun z => hi ((by decide : ∀ i, i ∈ [4, 9] → i ∈ [4, 6, 7, 8, 9]) i z))]
    exact hfr.2.1 i (fun z => hi ((by decide : ∀ i, i ∈ [6, 7, 8] → i ∈ [4, 6, 7, 8, 9]) i z))
  have sc : ∀ i, ¬ i ∈ [0, 1, 5, 6] → ¬ i ∈ [7, 8, 9, 10, 11, 12, 13, 14, 15, 16, 17, 18, 19, 20, 21, 22, 23, 24, 25, 26, 27, 28, 29] → S1.1 i = S.1 i := fun i hi hr => by
    rw [hS1]
    show va_up (va_up (carS q (S.1 4 &&& x2) S').1 5 (S.1 4 &&& x2)) 6 0 i = S.1 i
    rw [j_une (fun e => hi (by rw [e]; decide)), j_une (fun e => hi (by rw [e]; decide)), fc.1 i (fun z => hi ((by decide : ∀ i, i ∈ [0, 1] → i ∈ [0, 1, 5, 6]) i z))]
    exact hfr.1 i hr
  have a1 := an_ans h (S' := S') (S1 := S1) hfr.2.1 g q hq (S.1 4 &&& x2) hl
  obtain ⟨a2, a3, a4, a5⟩ := an_rest h (S' := S') (S1 := S1) hfr.2.1 g q (S.1 4 &&& x2)
  refine ⟨a1, ?_⟩
  have s5 : S1.1 5 = S.1 4 &&& x2 := by rw [hS1]; rfl
  have s6 : S1.1 6 = 0 := by rw [hS1]; rfl
  have s0 : S1.1 0 = mMany q (S.1 4 &&& x2) S1.2.1 (nI m) := by
    rw [hS1]
    show (carS q (S.1 4 &&& x2) S').1 0 = _
    exact a5 (nI m) ((hfr.1 0 (by decide)).trans h3.1)
  have s1' : S1.1 1 = mRef q (S.1 4 &&& x2) S1.2.1 := by
    rw [hS1]
    exact a3
  have s10 : S1.1 10 = -1 := by
    rw [hS1]
    show (carS q (S.1 4 &&& x2) S').1 10 = -1
    exact (fc.1 10 (by decide)).trans h10'
  have r4 : S1.2.1 4 = mskF (mBits q (S.1 4 &&& x2) S1.2.1) 32 := by
    have : S1.2.1 4 = ovF ((carS q (S.1 4 &&& x2) S').2.1 4) (-1) (-16777216) 0 32 := by rw [hS1']; rfl
    rw [this, a2, ov_msk]
  have r9 : S1.2.1 9 = mList q (S.1 4 &&& x2) S1.2.1 := by
    have : S1.2.1 9 = (carS q (S.1 4 &&& x2) S').2.1 9 := by rw [hS1']; rfl
    rw [this, a4]
  have z1 : ∀ i, ¬ i ∈ [30, 32, 33, 34, 35, 36, 37, 38, 39, 40, 41, 42, 43, 44, 45, 46, 47] → ¬ i ∈ [0, 1, 5, 6] → ¬ i ∈ [7, 8, 9, 10, 11, 12, 13, 14, 15, 16, 17, 18, 19, 20, 21, 22, 23, 24, 25, 26, 27, 28, 29] → S2.1 i = S.1 i := fun i a b d => (fz.1 i a).trans (sc i b d)
  have z2 : ∀ i, ¬ i ∈ [11, 12, 18, 19, 20, 21, 22, 23, 24, 25, 26, 27, 28] → ¬ i ∈ [4, 6, 7, 8, 9] → S2.2.1 i = S.2.1 i := fun i a b => (fz.2.1 i a).trans (g i b)
  obtain ⟨m', hm', hmm⟩ : ∃ m' : Nat, m' ≤ 32 ∧ mMany q (S.1 4 &&& x2) S1.2.1 (nI m) = nI m' := by
    unfold mMany
    split
    · exact ⟨_, Nat.le_trans (lstL_le _ _ 32 0 0 _) (by omega), rfl⟩
    · exact ⟨m, h3.2.2, rfl⟩
  have e4 : S2.1 4 = S.1 4 := z1 4 (by decide) (by decide) (by decide)
  have e5 : S2.1 5 = S.1 4 &&& x2 := (fz.1 5 (by decide)).trans s5
  refine ⟨c, 0, m', lo, wd, ⟨(z1 2 (by decide) (by decide) (by decide)).trans h1.1, (z1 31 (by decide) (by decide) (by decide)).trans h1.2⟩, ⟨(fz.1 6 (by decide)).trans s6, g32, by omega⟩, ⟨(fz.1 0 (by decide)).trans (s0.trans hmm), ?_, hm'⟩, ⟨(z2 0 (by decide) (by decide)).trans (h4.1.trans (z2 13 (by decide) (by decide)).symm), (fz.2.1 4 (by decide)).trans (r4.trans g11.symm), (z2 5 (by decide) (by decide)).trans (h4.2.2.1.trans (z2 17 (by decide) (by decide)).symm), (fz.2.1 9 (by decide)).trans (r9.trans g18.symm)⟩, h5.eq (z2 1 (by decide) (by decide)) (z2 2 (by decide) (by decide)) (z2 3 (by decide) (by decide)) (z2 14 (by decide) (by decide)) (z2 15 (by decide) (by decide)) (z2 16 (by decide) (by decide)), ?_, ?_, ?_, ?_, ?_, ⟨(fz.1 10 (by decide)).trans (s10.trans g33.symm), (fz.1 1 (by decide)).trans (s1'.trans g34.symm)⟩, ?_⟩
  · rw [g35, sc 35 (by decide) (by decide), h3.2.1]; exact hmm
  · rw [z2 0 (by decide) (by decide)]; exact h6
  · rw [z1 3 (by decide) (by decide) (by decide)]; exact h7
  · rw [z2 10 (by decide) (by decide), e4]; exact h8
  · rw [e5]; exact g12
  · intro w hw hu
    rw [e4] at hu
    have ht : bt (S.1 4 &&& x2) w = false := by rw [b_and, hu, Bool.false_and]
    refine ⟨by rw [e5]; exact ht, ?_⟩
    rw [fz.2.1 4 (by decide), r4]
    have hb0 : mBits q (S.1 4 &&& x2) S1.2.1 w = 0 := by
      have e11 : S1.2.1 11 w = 0 := by rw [g 11 (by decide), ← h4.2.1]; exact (h10 w hw hu).2
      unfold mBits
      split
      · rw [show (mCh q (S.1 4 &&& x2) S1.2.1).1 w = S1.2.1 11 w from chL_no _ _ _ ht 32 0 _ _ _]
        exact e11
      · exact e11
    show (if w < 32 then mBits q (S.1 4 &&& x2) S1.2.1 w &&& 16777215 else _) = 0
    rw [if_pos hw, hb0]
    rfl
  · rw [z2 5 (by decide) (by decide)]
    exact ⟨h12.1, fun j hj => by omega⟩
theorem op_run (K : jK) (d : Nat) (hd : 60 ≤ d) (S : jS) (J : jH) (hI : Inv S) : jM K M_L_run d [.ref 32, .ref 79] (lay S ++ J) (wQ K d M_M_run [.ref 59] anyB) 1 6 := by
  obtain ⟨c, n, m, lo, wd, h⟩ := hI
  have h0 := h
  obtain ⟨h1, h2, h3, h4, h5, h6, h7, h8, h9, h10, h11, h12⟩ := h0
  have c6 := h5.1
  have mod : ∀ (S1 : jS) (J1 : jH) (y : (Cnd × Act) ⊕ Nat), Stm (PP S.2.1 n c Q4) (S.2.1 5) (S.2.1 0) c (tokL (S.2.1 5) n 0) y → S1.1 32 = S.1 32 → S1.1 31 = S.1 31 → (∀ i, ¬ i ∈ [4, 6, 7, 8, 9] → S1.2.1 i = S.2.1 i) → jM K M_M_run d [.ref 59] (lay S1 ++ J1) (mrQ S1 J1 (S.1 4) y) 0 0 ∧ ∀ x q, y = .inl (x, q) → aOk c q := by
    intro S1 J1 y hy e32 e31 g
    have hT : S1.2.1 17 = S.2.1 5 := (g 17 (by decide)).trans h4.2.2.1.symm
    have hok : RdOk S1 n c := ⟨e32.trans h2.2.1, h2.2.2, by rw [hT]; exact h12.1, by rw [hT]; exact h12.2, e31.trans h1.2, c6⟩
    have hN : ∀ ch, fdL (S1.2.1 13) ch c 0 (-1) = ixOf (S.2.1 0) ch c 0 := fun ch => by rw [g 13 (by decide), ← h4.1, fd_ix (S.2.1 0) ch c h6 c 0 (by omega)]
    have hP4 : ∀ r y, PP S.2.1 n c Q4 0 r y → ∀ Q, Q4 K (d - 1) J1 Q (s1 S1 46 0) n 0 r y := fun r y hp Q => hp.2 ⟨(K, d - 1, J1, Q, s1 S1 46 0), (by show 8 ≤ d - 1; omega), hok, hT.symm, hN⟩
    have hlen := tokL_len (S.2.1 5) n (n - 0) 0 (Nat.le_refl _) (Nat.zero_le _)
    have h100 := h2.2.2
    have hS : ∀ x q, y = .inl (x, q) → Sem (vF S.2.1) c x ∧ aOk c q ∧ x.1.length ≤ 110 := by
      intro x q hxq
      subst hxq
      obtain ⟨r2, s, e, r3, hW, hA⟩ := hy
      rcases hW with ⟨k', s', e', r1, q1, q2, q3⟩ | ⟨k', s', e', r1, q1, q2, q3, q4⟩
      · have hl : x.1.length + r2.length ≤ r1.length := (hP4 _ _ q3 (fun _ _ => True)).1
        rw [q1] at hlen
        simp only [List.length_cons] at hlen
        exact ⟨q3.1.1 x r2 rfl, pAct_ok hA c6, by omega⟩
      · subst q3
        exact ⟨sem_all, pAct_ok hA c6, by show (1 : Nat) ≤ 110; omega⟩
    have hpos : ∀ p, y = .inr p → p ≤ n := by
      intro p hp
      subst hp
      refine stm_b (fun r y hp hb => hp.1.2 hb) ?_ hy
      intro t ht
      obtain ⟨t1, t2, -⟩ := tokL_all (S.2.1 5) n (n - 0) 0 (Nat.le_refl _) (Nat.zero_le _) t ht
      omega
    have eV : (fun w f => mvl S1.2.1 f w) = vF S.2.1 := by
      funext w f
      show vval (S1.2.1 1 f) (S1.2.1 2 f) (S1.2.1 3 f) (S1.2.1 11 w) = vval (S.2.1 1 f) (S.2.1 2 f) (S.2.1 3 f) (S.2.1 4 w)
      rw [g 1 (by decide), g 2 (by decide), g 3 (by decide), g 11 (by decide), h4.2.1]
    have hy' : Stm (PP S.2.1 n c Q4) (S1.2.1 17) (S.2.1 0) c (tokL (S1.2.1 17) n 0) y := by rw [hT]; exact hy
    refine ⟨m_M_run K d (by omega) S1 J1 n c hok hN hP4 y hy' (h5.eq (g 1 (by decide)) (g 2 (by decide)) (g 3 (by decide)) (g 14 (by decide)) (g 15 (by decide)) (g 16 (by decide))) (S.1 4) (by rw [g 10 (by decide)]; exact h8) (by rw [eV]; exact hS) hpos, fun x q hxq => (hS x q hxq).2.1⟩
  refine m_L_run K d (by omega) S J _ _ (m_B_run K (d - 1) (by omega) S J n c h2.1 h2.2.2 h12.1 h12.2 h1.1 c6 (all_one S.2.1 (n := n) c6) (all_and S.2.1 (n := n)) (all_or S.2.1 (n := n))) (fun v hh hq => ?_) (fun x hh hq => ?_)
  · obtain ⟨y, hy, hq⟩ := hq
    cases y with
    | inr p => cases hq.1
    | inl xq =>
      obtain ⟨x, q⟩ := xq
      obtain ⟨S', hfr, h10', hA, hq⟩ := hq
      by_cases hl : lackV (S.1 4 &&& x.2) q.1 = true
      · rw [if_pos hl] at hq; cases hq.1
      · rw [if_neg hl] at hq
        obtain ⟨q1, rfl⟩ := hq
        cases q1
        refine ⟨_, _, J, rfl, rfl, 0, oS (endS q (S.1 4 &&& x.2) S') (carV q (S.1 4 &&& x.2) S').toInt64, J, rfl, rfl, ?_⟩
        have fc := carS_fr q (S.1 4 &&& x.2) S'
        obtain ⟨hmod, hqo⟩ := mod (oS (endS q (S.1 4 &&& x.2) S') (carV q (S.1 4 &&& x.2) S').toInt64) J (.inl (x, q)) hy ((fc.1 32 (by decide)).trans (hfr.1 32 (by decide))) ((fc.1 31 (by decide)).trans (hfr.1 31 (by decide))) (fun i hi => by
          show va_up (carS q (S.1 4 &&& x.2) S').2.1 4 _ i = S.2.1 i
          rw [j_une (fun e => hi (by rw [e]; decide)), fc.2.1 i (fun z => hi ((by decide : ∀ i, i ∈ [4, 9] → i ∈ [4, 6, 7, 8, 9]) i z))]
          exact hfr.2.1 i (fun z => hi ((by decide : ∀ i, i ∈ [6, 7, 8] → i ∈ [4, 6, 7, 8, 9]) i z)))
        refine hmod.mono (fun o h2' hq2 => ?_)
        obtain ⟨S2, rfl, fz, hq2⟩ := hq2
        have hq2 : (if lackV (S.1 4 &&& x.2) q.1 = true then _ else _) := hq2
        rw [if_neg hl] at hq2
        obtain ⟨o1, g30, g32, g33, g34, g35, g12, g12b, g11, g18⟩ := hq2
        obtain ⟨a1, hInv⟩ := run_end (S1 := oS (endS q (S.1 4 &&& x.2) S') (carV q (S.1 4 &&& x.2) S').toInt64) h q (hqo x q rfl) x.2 hl hfr rfl rfl h10' fz g32 g33 g34 g35 g12 g11 g18
        refine ⟨_, S2, o1, rfl, g30, fun _ => ?_, trivial, hInv⟩
        rw [← a1, fz.2.2]
        rfl
  · obtain ⟨y, hy, hq⟩ := hq
    cases y with
    | inr p =>
      obtain ⟨q1, S', rfl, hfr, h10'⟩ := hq
      cases q1
      refine .inl ⟨rfl, 1, S', J ++ [.inr (10, [])], rfl, List.append_assoc _ _ _, ?_⟩
      obtain ⟨hmod, -⟩ := mod S' (J ++ [.inr (10, [])]) (.inr p) hy (hfr.1 32 (by decide)) (hfr.1 31 (by decide)) (fun i hi => hfr.2.1 i (fun z => hi ((by decide : ∀ i, i ∈ [6, 7, 8] → i ∈ [4, 6, 7, 8, 9]) i z)))
      refine hmod.mono (fun o h2' hq2 => ?_)
      obtain ⟨S2, rfl, fz, o1, fd⟩ := hq2
      exact ⟨0, S2, o1, rfl, fd.1 30 (by decide), fun z => absurd z (by decide), trivial, c, n, m, lo, wd, (h.pl hfr h10' 1).z fd⟩
    | inl xq =>
      obtain ⟨x', q⟩ := xq
      obtain ⟨S', hfr, h10', hA, hq⟩ := hq
      by_cases hl : lackV (S.1 4 &&& x'.2) q.1 = true
      · rw [if_pos hl] at hq
        obtain ⟨q1, rfl⟩ := hq
        cases q1
        refine .inr ⟨rfl, 2, S', J ++ [.inr (11, [])], rfl, List.append_assoc _ _ _, ?_⟩
        obtain ⟨hmod, -⟩ := mod S' (J ++ [.inr (11, [])]) (.inl (x', q)) hy (hfr.1 32 (by decide)) (hfr.1 31 (by decide)) (fun i hi => hfr.2.1 i (fun z => hi ((by decide : ∀ i, i ∈ [6, 7, 8] → i ∈ [4, 6, 7, 8, 9]) i z)))
        refine hmod.mono (fun o h2' hq2 => ?_)
        obtain ⟨S2, rfl, fz, hq2⟩ := hq2
        have hq2 : (if lackV (S.1 4 &&& x'.2) q.1 = true then _ else _) := hq2
        rw [if_pos hl] at hq2
        obtain ⟨o1, fd⟩ := hq2
        exact ⟨0, S2, o1, rfl, fd.1 30 (by decide), fun z => absurd z (by decide), trivial, c, n, m, lo, wd, (h.pl hfr h10' 2).z fd⟩
      · rw [if_neg hl] at hq; cases hq.1
