/-! the chains of a condition, read by the model -/
def hdNot (z : Int32) (r : List Tok) : Prop := ∀ k s e r', r = (k, s, e) :: r' → ¬ k = z
def oC (P : List Int32) : Prop := P = [] ∨ ∃ P', P = 4 :: P'
def oL (P : List Int32) : Prop := oC P ∨ ∃ P', P = 1 :: P' ∧ oC P'
def pdL (pd : List Int32) : Prop := pd = [] ∨ pd = [2]
def lenX (m : Nat) (y : Rs Cnd) : Prop := match y with
  | .inl (x, r1) => x.1.length + r1.length ≤ m
  | .inr _ => True
theorem lenX.le {m m' : Nat} {y : Rs Cnd} (h : lenX m y) (hm : m ≤ m') : lenX m' y := by
  cases y with
  | inl q => exact Nat.le_trans h hm
  | inr q => trivial
def hdY (z : Int32) (y : Rs Cnd) : Prop := match y with
  | .inl (_, r1) => hdNot z r1
  | .inr _ => True
def kont (K : jK) (d : Nat) (J : jH) (Q : jO → jH → Prop) (S0 : jS) (n : Nat) (pp : List Int32 → Prop) (C : List (Int32 × Int32)) (P0 : List Int32) (y : Rs Cnd) : Prop := match y with
  | .inl (x, r1) => ∀ X pd, pp pd → X ++ zer pd = x.1 → mR K d J Q S0 n 6 r1 (C ++ X) (pd ++ P0)
  | .inr q => mB J Q S0 q
/-- a clause, and its chain -/
def Q2 (K : jK) (d : Nat) (J : jH) (Q : jO → jH → Prop) (S0 : jS) (n : Nat) : PR := fun o r y => lenX r.length y ∧ hdY 38 y ∧ ∀ C P0, oL P0 → o ≤ 8 → nst P0 = o → C.length + P0.length + r.length ≤ 110 → kont K d J Q S0 n pdL C P0 y → mR K d J Q S0 n 1 r C P0
def Q3 (K : jK) (d : Nat) (J : jH) (Q : jO → jH → Prop) (S0 : jS) (n : Nat) : PL := fun o x r y => lenX (x.1.length + r.length) y ∧ hdY 38 y ∧ ∀ C P0 X pd, oL P0 → o ≤ 8 → nst P0 = o → C.length + x.1.length + P0.length + r.length ≤ 110 → pdL pd → X ++ zer pd = x.1 → kont K d J Q S0 n pdL C P0 y → mR K d J Q S0 n 6 r (C ++ X) (pd ++ P0)
theorem oC.dw {P : List Int32} (h : oC P) : P.dropWhile (two 2 1) = P ∧ P.takeWhile (two 2 1) = [] := by
  rcases h with rfl | ⟨P', rfl⟩
  · exact ⟨rfl, rfl⟩
  · exact ⟨rfl, rfl⟩
theorem oL.t3 {P : List Int32} (h : oL P) : twN P = [] ∧ dwN P = P := by
  rcases h with (rfl | ⟨P', rfl⟩) | ⟨P', rfl, -⟩ <;> exact ⟨rfl, rfl⟩
theorem oL.t2 {P : List Int32} (h : oL P) : P.takeWhile (two 2 2) = [] ∧ P.dropWhile (two 2 2) = P := by
  rcases h with (rfl | ⟨P', rfl⟩) | ⟨P', rfl, -⟩ <;> exact ⟨rfl, rfl⟩
theorem oL.h4 {P : List Int32} (h : oL P) {x : Int32} {P' : List Int32} (q : P.dropWhile (two 2 1) = x :: P') : x = 4 := by
  rcases h with h | ⟨P1, rfl, h⟩
  · rw [h.dw.1] at q
    rcases h with rfl | ⟨P2, rfl⟩
    · cases q
    · cases q; rfl
  · have q : P1.dropWhile (two 2 1) = x :: P' := q
    rw [h.dw.1] at q
    rcases h with rfl | ⟨P2, rfl⟩
    · cases q
    · cases q; rfl
theorem pdL.h4 {pd P : List Int32} (hp : pdL pd) (h : oL P) {x : Int32} {P' : List Int32} (q : (pd ++ P).dropWhile (two 2 1) = x :: P') : x = 4 := by
  rcases hp with rfl | rfl
  · exact h.h4 q
  · exact h.h4 (show P.dropWhile (two 2 1) = x :: P' from q)
theorem pdL.len {pd : List Int32} (hp : pdL pd) : (zer pd).length = pd.length := by unfold zer; rw [List.length_map]
theorem and_step {K : jK} {d : Nat} {J : jH} {Q : jO → jH → Prop} {S0 : jS} {n c : Nat} (hd : 8 ≤ d) (hok : RdOk S0 n c) {x : Cnd} {s e : Nat} {r : List Tok} {C : List (Int32 × Int32)} {P0 pd : List Int32} {X : List (Int32 × Int32)} (hP : oL P0) (hl : C.length + x.1.length + P0.length ≤ 112) (hpd : pdL pd) (hX : X ++ zer pd = x.1) (go : mR K d J Q S0 n 1 r (C ++ x.1) (2 :: P0)) : mR K d J Q S0 n 6 ((38, s, e) :: r) (C ++ X) (pd ++ P0) := by
  have hlx : X.length + pd.length = x.1.length := by rw [← hX, List.length_append, hpd.len]
  refine mR_and (by omega) hok (by simp only [List.length_append]; omega) (fun x' P' q => hpd.h4 hP q) (by decide) (by decide) 1 (by decide) (C ++ x.1) (2 :: P0) (fun S1 => ?_) go
  unfold afQ
  rw [if_pos rfl]
  rcases hpd with rfl | rfl
  · rw [List.nil_append, hP.t2.1, hP.t2.2, List.append_assoc, hX]
  · rw [show (([2] : List Int32) ++ P0).takeWhile (two 2 2) = 2 :: P0.takeWhile (two 2 2) from rfl, show (([2] : List Int32) ++ P0).dropWhile (two 2 2) = P0.dropWhile (two 2 2) from rfl, hP.t2.1, hP.t2.2, List.append_assoc, hX]
/-- the rules of a clause -/
theorem clo_and {K : jK} {d : Nat} {J : jH} {Q : jO → jH → Prop} {S0 : jS} {n c : Nat} (hd : 8 ≤ d) (hok : RdOk S0 n c) : CloL 38 2 (fun a b => a &&& b) (Q1 K d J Q S0 n) (Q2 K d J Q S0 n) (Q3 K d J Q S0 n) := by
  refine ⟨?_, ?_, ?_, ?_, ?_⟩
  · intro o r x r1 y ⟨l1, h1⟩ ⟨l3, d3, h3⟩
    refine ⟨l3.le l1, d3, ?_⟩
    intro C P0 hP ho hn hl hk
    refine h1 C P0 ho hn hl ?_
    show mR K d J Q S0 n 6 r1 (C ++ x.1 ++ twN P0) (dwN P0)
    rw [hP.t3.1, hP.t3.2, List.append_nil]
    have l1 : x.1.length + r1.length ≤ r.length := l1
    exact h3 C P0 x.1 [] hP ho hn (by omega) (.inl rfl) (by unfold zer; simp) hk
  · intro o r p ⟨l1, h1⟩
    exact ⟨trivial, trivial, fun C P0 hP ho hn hl hk => h1 C P0 ho hn hl hk⟩
  · intro o x k s e r hk
    refine ⟨Nat.le_refl _, ?_, fun C P0 X pd hP ho hn hl hpd hX hkn => hkn X pd hpd hX⟩
    intro k' s' e' r' q
    cases q
    exact hk
  · intro o x s e r y r1 q ⟨l1, h1⟩ ⟨l3, d3, h3⟩
    have l1 : y.1.length + r1.length ≤ r.length := l1
    simp only [List.length_append, List.length_cons, List.length_nil] at l3
    refine ⟨l3.le (by simp only [List.length_cons]; omega), d3, ?_⟩
    intro C P0 X pd hP ho hn hl hpd hX hk
    simp only [List.length_cons] at hl
    refine and_step hd hok hP (by omega) hpd hX ?_
    refine h1 (C ++ x.1) (2 :: P0) ho (by rw [nst, if_neg (by decide), Nat.zero_add]; exact hn) (by simp only [List.length_append, List.length_cons]; omega) ?_
    show mR K d J Q S0 n 6 r1 (C ++ x.1 ++ y.1 ++ twN (2 :: P0)) (dwN (2 :: P0))
    rw [show twN (2 :: P0) = [] from rfl, show dwN (2 :: P0) = 2 :: P0 from rfl, List.append_nil, List.append_assoc]
    exact h3 C P0 (x.1 ++ y.1) [2] hP ho hn (by simp only [List.length_append, List.length_cons, List.length_nil]; omega) (.inr rfl) rfl hk
  · intro o x s e r p ⟨l1, h1⟩
    refine ⟨trivial, trivial, ?_⟩
    intro C P0 X pd hP ho hn hl hpd hX hk
    simp only [List.length_cons] at hl
    refine and_step hd hok hP (by omega) hpd hX ?_
    exact h1 (C ++ x.1) (2 :: P0) ho (by rw [nst, if_neg (by decide), Nat.zero_add]; exact hn) (by simp only [List.length_append, List.length_cons]; omega) hk
