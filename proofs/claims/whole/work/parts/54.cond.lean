/-! the whole condition, read by the model -/
def pdC (pd : List Int32) : Prop := pdL pd ∨ ∃ q, pdL q ∧ pd = q ++ [1]
def Q4 (K : jK) (d : Nat) (J : jH) (Q : jO → jH → Prop) (S0 : jS) (n : Nat) : PR := fun o r y => lenX r.length y ∧ hdY 38 y ∧ hdY 124 y ∧ ∀ C P0, oC P0 → o ≤ 8 → nst P0 = o → C.length + P0.length + r.length ≤ 110 → kont K d J Q S0 n pdC C P0 y → mR K d J Q S0 n 1 r C P0
def Q5 (K : jK) (d : Nat) (J : jH) (Q : jO → jH → Prop) (S0 : jS) (n : Nat) : PL := fun o x r y => hdNot 38 r → lenX (x.1.length + r.length) y ∧ hdY 38 y ∧ hdY 124 y ∧ ∀ C P0 X pd, oC P0 → o ≤ 8 → nst P0 = o → C.length + x.1.length + P0.length + r.length ≤ 110 → pdC pd → X ++ zer pd = x.1 → kont K d J Q S0 n pdC C P0 y → mR K d J Q S0 n 6 r (C ++ X) (pd ++ P0)
theorem pdC.tw {pd P : List Int32} (hp : pdC pd) (h : oC P) : (pd ++ P).takeWhile (two 2 1) = pd ∧ (pd ++ P).dropWhile (two 2 1) = P := by
  rcases hp with (rfl | rfl) | ⟨q, rfl | rfl, rfl⟩
  · exact ⟨h.dw.2, h.dw.1⟩
  · exact ⟨congrArg (fun z => 2 :: z) h.dw.2, h.dw.1⟩
  · exact ⟨congrArg (fun z => 1 :: z) h.dw.2, h.dw.1⟩
  · exact ⟨congrArg (fun z => 2 :: 1 :: z) h.dw.2, h.dw.1⟩
theorem pdC.h4 {pd P : List Int32} (hp : pdC pd) (h : oC P) {x : Int32} {P' : List Int32} (q : (pd ++ P).dropWhile (two 2 1) = x :: P') : x = 4 := by
  rw [(hp.tw h).2] at q
  rcases h with rfl | ⟨P2, rfl⟩
  · cases q
  · cases q; rfl
theorem zer_len (pd : List Int32) : (zer pd).length = pd.length := by unfold zer; rw [List.length_map]
theorem zer_app (a b : List Int32) : zer (a ++ b) = zer a ++ zer b := by unfold zer; rw [List.map_append]
theorem or_step {K : jK} {d : Nat} {J : jH} {Q : jO → jH → Prop} {S0 : jS} {n c : Nat} (hd : 8 ≤ d) (hok : RdOk S0 n c) {x : Cnd} {s e : Nat} {r : List Tok} {C : List (Int32 × Int32)} {P0 pd : List Int32} {X : List (Int32 × Int32)} (hP : oC P0) (hl : C.length + x.1.length + P0.length ≤ 112) (hpd : pdC pd) (hX : X ++ zer pd = x.1) (go : mR K d J Q S0 n 1 r (C ++ x.1) (1 :: P0)) : mR K d J Q S0 n 6 ((124, s, e) :: r) (C ++ X) (pd ++ P0) := by
  have hlx : X.length + pd.length = x.1.length := by rw [← hX, List.length_append, zer_len]
  refine mR_and (by omega) hok (by simp only [List.length_append]; omega) (fun x' P' q => hpd.h4 hP q) (by decide) (by decide) 1 (by decide) (C ++ x.1) (1 :: P0) (fun S1 => ?_) go
  unfold afQ
  rw [if_neg (by decide), if_pos rfl, (hpd.tw hP).1, (hpd.tw hP).2, List.append_assoc, hX]
theorem clo_or {K : jK} {d : Nat} {J : jH} {Q : jO → jH → Prop} {S0 : jS} {n c : Nat} (hd : 8 ≤ d) (hok : RdOk S0 n c) : CloL 124 1 (fun a b => a ||| b) (Q2 K d J Q S0 n) (Q4 K d J Q S0 n) (Q5 K d J Q S0 n) := by
  refine ⟨?_, ?_, ?_, ?_, ?_⟩
  · intro o r x r1 y ⟨l1, d1, h1⟩ h5
    obtain ⟨l3, d3, d4, h3⟩ := h5 d1
    refine ⟨l3.le l1, d3, d4, ?_⟩
    intro C P0 hP ho hn hl hk
    refine h1 C P0 (.inl hP) ho hn hl ?_
    have l1 : x.1.length + r1.length ≤ r.length := l1
    intro X pd hpd hX
    exact h3 C P0 X pd hP ho hn (by omega) (.inl hpd) hX hk
  · intro o r p ⟨l1, d1, h1⟩
    exact ⟨trivial, trivial, trivial, fun C P0 hP ho hn hl hk => h1 C P0 (.inl hP) ho hn hl hk⟩
  · intro o x k s e r hk h38
    refine ⟨Nat.le_refl _, h38, ?_, fun C P0 X pd hP ho hn hl hpd hX hkn => hkn X pd hpd hX⟩
    intro k' s' e' r' q
    cases q
    exact hk
  · intro o x s e r y r1 q ⟨l1, d1, h1⟩ h5 _
    obtain ⟨l3, d3, d4, h3⟩ := h5 d1
    have l1 : y.1.length + r1.length ≤ r.length := l1
    simp only [List.length_append, List.length_cons, List.length_nil] at l3
    refine ⟨l3.le (by simp only [List.length_cons]; omega), d3, d4, ?_⟩
    intro C P0 X pd hP ho hn hl hpd hX hk
    simp only [List.length_cons] at hl
    refine or_step hd hok hP (by omega) hpd hX ?_
    refine h1 (C ++ x.1) (1 :: P0) (.inr ⟨P0, rfl, hP⟩) ho (by rw [nst, if_neg (by decide), Nat.zero_add]; exact hn) (by simp only [List.length_append, List.length_cons]; omega) ?_
    intro X2 pd2 hpd2 hX2
    have := h3 C P0 (x.1 ++ X2) (pd2 ++ [1]) hP ho hn (by simp only [List.length_append, List.length_cons, List.length_nil]; omega) (.inr ⟨pd2, hpd2, rfl⟩) (by rw [zer_app, ← List.append_assoc, List.append_assoc x.1, hX2]; rfl) hk
    rw [List.append_assoc] at this ⊢
    exact this
  · intro o x s e r p ⟨l1, d1, h1⟩ _
    refine ⟨trivial, trivial, trivial, ?_⟩
    intro C P0 X pd hP ho hn hl hpd hX hk
    simp only [List.length_cons] at hl
    refine or_step hd hok hP (by omega) hpd hX ?_
    exact h1 (C ++ x.1) (1 :: P0) (.inr ⟨P0, rfl, hP⟩) ho (by rw [nst, if_neg (by decide), Nat.zero_add]; exact hn) (by simp only [List.length_append, List.length_cons]; omega) hk
/-- all the rules of one -/
theorem clo_one {K : jK} {d : Nat} {J : jH} {Q : jO → jH → Prop} {S0 : jS} {n c : Nat} (hd : 8 ≤ d) (hok : RdOk S0 n c) {A : Nat → Nat → Int32} (hA : A 5 = S0.2.1 17) (hN : ∀ ch, fdL (S0.2.1 13) ch c 0 (-1) = ixOf (A 0) ch c 0) : Clo1 A c (Q1 K d J Q S0 n) (Q4 K d J Q S0 n) := by
  have n8 : ∀ {o : Nat} {P : List Int32}, o < 8 → nst P = o → ¬ nst P = 8 := fun h1 h2 => by omega
  refine ⟨fun o k s e r h33 h40 => Q1_cmp hd hok hA hN o k s e r h33 h40, ?_, ?_, ?_, ?_, ?_, ?_⟩
  · intro o k s e r hk h8
    refine ⟨trivial, fun C P ho hn hl hgo => ?_⟩
    simp only [List.length_cons] at hl
    exact mR_open (by omega) hok (by omega) hk (fun _ => hgo) (fun q => absurd (hn.trans (by omega)) q)
  · intro o s e r x r1 ho8 ⟨l1, h1⟩
    have l1 : x.1.length + r1.length ≤ r.length := l1
    refine ⟨by show (x.1 ++ [(3, 0)]).length + r1.length ≤ _; simp only [List.length_append, List.length_cons, List.length_nil]; omega, fun C P ho hn hl hgo => ?_⟩
    simp only [List.length_cons] at hl
    refine mR_open (by omega) hok (by omega) (.inl rfl) (fun q => absurd q (n8 ho8 hn)) (fun _ => ?_)
    refine h1 C (3 :: P) (by omega) (by rw [nst, if_pos (.inl rfl), hn, Nat.add_comm]) (by simp only [List.length_cons]; omega) ?_
    show mR K d J Q S0 n 6 r1 (C ++ x.1 ++ twN (3 :: P)) (dwN (3 :: P))
    have hgo : mR K d J Q S0 n 6 r1 (C ++ (x.1 ++ [(3, 0)]) ++ twN P) (dwN P) := hgo
    rw [show twN (3 :: P) = (3, 0) :: twN P from rfl, show dwN (3 :: P) = dwN P from rfl]
    rw [show C ++ x.1 ++ (3, 0) :: twN P = C ++ (x.1 ++ [(3, 0)]) ++ twN P by simp only [List.append_assoc, List.cons_append, List.nil_append]]
    exact hgo
  · intro o s e r p ho8 ⟨l1, h1⟩
    refine ⟨trivial, fun C P ho hn hl hgo => ?_⟩
    simp only [List.length_cons] at hl
    refine mR_open (by omega) hok (by omega) (.inl rfl) (fun q => absurd q (n8 ho8 hn)) (fun _ => ?_)
    exact h1 C (3 :: P) (by omega) (by rw [nst, if_pos (.inl rfl), hn, Nat.add_comm]) (by simp only [List.length_cons]; omega) hgo
  · intro o s e r x s2 e2 r1 ho8 ⟨l1, d1, d2, h1⟩
    have l1 : x.1.length + (r1.length + 1) ≤ r.length := l1
    refine ⟨by show x.1.length + r1.length ≤ _; simp only [List.length_cons]; omega, fun C P ho hn hl hgo => ?_⟩
    simp only [List.length_cons] at hl
    refine mR_open (by omega) hok (by omega) (.inr rfl) (fun q => absurd q (n8 ho8 hn)) (fun _ => ?_)
    refine h1 C (4 :: P) (.inr ⟨P, rfl⟩) (by omega) (by rw [nst, if_pos (.inr rfl), hn, Nat.add_comm]) (by simp only [List.length_cons]; omega) ?_
    intro X pd hpd hX
    have hlx : X.length + pd.length = x.1.length := by rw [← hX, List.length_append, zer_len]
    have hP4 : oC (4 :: P) := .inr ⟨P, rfl⟩
    refine mR_and (by omega) hok (by simp only [List.length_append, List.length_cons]; omega) (fun x' P' q => hpd.h4 hP4 q) (by decide) (by decide) 6 (by decide) (C ++ x.1 ++ twN P) (dwN P) (fun S1 => ?_) hgo
    unfold afQ
    rw [if_neg (by decide), if_neg (by decide), (hpd.tw hP4).1, (hpd.tw hP4).2, if_neg (fun q => by cases q), if_pos rfl, List.append_assoc C X, hX]
    rfl
  · intro o s e r x k2 s2 e2 r1 ho8 ⟨l1, d1, d2, h1⟩ h41
    have l1 : x.1.length + (r1.length + 1) ≤ r.length := l1
    refine ⟨trivial, fun C P ho hn hl hgo => ?_⟩
    simp only [List.length_cons] at hl
    refine mR_open (by omega) hok (by omega) (.inr rfl) (fun q => absurd q (n8 ho8 hn)) (fun _ => ?_)
    refine h1 C (4 :: P) (.inr ⟨P, rfl⟩) (by omega) (by rw [nst, if_pos (.inr rfl), hn, Nat.add_comm]) (by simp only [List.length_cons]; omega) ?_
    intro X pd hpd hX
    have hlx : X.length + pd.length = x.1.length := by rw [← hX, List.length_append, zer_len]
    have hP4 : oC (4 :: P) := .inr ⟨P, rfl⟩
    have hgo : mB J Q S0 s2 := hgo
    intro p S hp hpn hf hM
    have hT17 : S.2.1 17 = S0.2.1 17 := hf.2.1 17 (by decide)
    refine rd_step K d (by omega) S J Q n c p (hf.ok hok) hpn 6 k2 s2 e2 r1 (by rw [hT17]; exact hp) (fun _ q => absurd q (by decide)) (fun q S1 hs => hgo S1 (hf.sc hs)) (fun _ _ S1 hs hT => ?_)
    have haf := m_M_afterOne K (d - 1 - 1) (by omega) S1 J n k2 s2 e2 hT (C ++ X) (pd ++ 4 :: P) (hs.ms hM) (by simp only [List.length_append, List.length_cons]; omega) (fun x' P' q => hpd.h4 hP4 q)
    unfold afQ at haf
    rw [if_neg (d1 k2 s2 e2 r1 rfl), if_neg (d2 k2 s2 e2 r1 rfl), (hpd.tw hP4).2, if_neg (fun q => by cases q), if_neg h41] at haf
    exact nx_bad (m_M_next_6 K (d - 1) (by omega) S1 J _ (isInt_st _ _ _ _) haf) hT (fun S4 f4 => hgo S4 ((hf.sc hs).m f4))
  · intro o s e r p ho8 ⟨l1, d1, d2, h1⟩
    refine ⟨trivial, fun C P ho hn hl hgo => ?_⟩
    simp only [List.length_cons] at hl
    refine mR_open (by omega) hok (by omega) (.inr rfl) (fun q => absurd q (n8 ho8 hn)) (fun _ => ?_)
    exact h1 C (4 :: P) (.inr ⟨P, rfl⟩) (by omega) (by rw [nst, if_pos (.inr rfl), hn, Nat.add_comm]) (by simp only [List.length_cons]; omega) hgo
