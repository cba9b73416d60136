/-! the condition, read by the model: what part 31 asks for -/
/-- the same but for what the model's reader of a condition holds -/
def frB (S0 S : jS) : Prop := (∀ i, ¬ i ∈ [36, 37, 38, 39, 40, 41, 42, 43, 44] → S.1 i = S0.1 i) ∧ (∀ i, ¬ i ∈ [19, 20, 21] → S.2.1 i = S0.2.1 i) ∧ S.2.2.2 = S0.2.2.2
theorem frB.sc {S0 S S1 : jS} (h : frB S0 S) (g : scnd S S1) : frB S0 S1 := by
  obtain ⟨kd, b, e, am, lt, rfl⟩ := g
  refine ⟨fun i hi => ?_, h.2.1, h.2.2⟩
  simp only [List.mem_cons, not_or] at hi
  show va_up (va_up (va_up (va_up S.1 36 kd) 37 b) 38 e) 39 am i = S0.1 i
  rw [j_une (by omega), j_une (by omega), j_une (by omega), j_une (by omega)]
  exact h.1 i (by simp only [List.mem_cons, not_or]; exact hi)
theorem frB.m {S0 S S1 : jS} (h : frB S0 S) (g : frM [40, 41, 42, 43, 44] [19, 20, 21] S S1) : frB S0 S1 := by
  refine ⟨fun i hi => (g.1 i (fun q => hi ((by decide : ∀ i, i ∈ [40, 41, 42, 43, 44] → i ∈ [36, 37, 38, 39, 40, 41, 42, 43, 44]) i q))).trans (h.1 i hi), fun i hi => (g.2.1 i hi).trans (h.2.1 i hi), ?_⟩
  rw [g.2.2]; exact h.2.2
theorem frB.ok {S0 S : jS} {n c : Nat} (h : frB S0 S) (g : RdOk S0 n c) : RdOk S n c := by
  unfold RdOk
  rw [h.1 32 (by decide), h.1 31 (by decide), h.2.1 17 (by decide)]
  exact g
theorem scnd.ms {S S1 : jS} {C : List (Int32 × Int32)} {P : List Int32} (g : scnd S S1) (h : Ms S C P) : Ms S1 C P := by
  obtain ⟨kd, b, e, am, lt, rfl⟩ := g
  exact h
theorem scnd.rel {S S1 : jS} (g : scnd S S1) : S1.1 43 = S.1 43 := by
  obtain ⟨kd, b, e, am, lt, rfl⟩ := g
  rfl
section NX
variable {K : jK} {d : Nat} {J : jH} {Q : jO → jH → Prop} {n : Nat} {k st v : Int32} {b e : Nat} {S1 : jS} {R : jS → Prop}
theorem nx_of (hM : jM K M_M_next (d - 1) [.ref 59, .int st] (lay S1 ++ J) (stQ S1 J v R) 0 0) (hT : Tk S1 n k b e) (hv : ¬ v = 17) (hk : ¬ k = 46) (cont : ∀ S2, frM [40, 41, 42, 43, 44] [19, 20, 21] S1 S2 → R S2 → Rd K d J Q v e S2) : jM K M_M_next (d - 1) [.ref 59, .int st] (lay S1 ++ J) (nxQ K d J n k b e Q) 0 0 := by
  refine hM.mono (fun o h hq => ?_)
  obtain ⟨h0, S2, rfl, f, hR⟩ := hq
  exact ⟨v, S2, h0, rfl, hT.keep f (by decide), fun q => absurd q hv, fun _ q => absurd q hk, fun _ _ => cont S2 f hR⟩
theorem nx_bad (hM : jM K M_M_next (d - 1) [.ref 59, .int st] (lay S1 ++ J) (stQ S1 J 17 R) 0 0) (hT : Tk S1 n k b e) (cont : ∀ S2, frM [40, 41, 42, 43, 44] [19, 20, 21] S1 S2 → Q (.inl (some (.int (nI b)))) (lay S2 ++ J)) : jM K M_M_next (d - 1) [.ref 59, .int st] (lay S1 ++ J) (nxQ K d J n k b e Q) 0 0 := by
  refine hM.mono (fun o h hq => ?_)
  obtain ⟨h0, S2, rfl, f, hR⟩ := hq
  exact ⟨17, S2, h0, rfl, hT.keep f (by decide), fun _ => cont S2 f, fun q => absurd rfl q, fun q => absurd rfl q⟩
end NX
/-- what every piece of the model's reading is told in: from state st0 at r with these orders and this pile -/
def mR (K : jK) (d : Nat) (J : jH) (Q : jO → jH → Prop) (S0 : jS) (n : Nat) (st : Int32) (r : List Tok) (C : List (Int32 × Int32)) (P : List Int32) : Prop := ∀ (p : Nat) (S : jS), tokL (S0.2.1 17) n p = r → p ≤ n → frB S0 S → Ms S C P → Rd K d J Q st p S
def mB (J : jH) (Q : jO → jH → Prop) (S0 : jS) (q : Nat) : Prop := ∀ S', frB S0 S' → Q (.inl (some (.int (nI q)))) (lay S' ++ J)
def lenOk (r : List Tok) (y : Rs Cnd) : Prop := match y with
  | .inl (x, r1) => x.1.length + r1.length ≤ r.length
  | .inr _ => True
/-- one of a condition -/
def Q1 (K : jK) (d : Nat) (J : jH) (Q : jO → jH → Prop) (S0 : jS) (n : Nat) : PR := fun o r y => lenOk r y ∧ ∀ (C : List (Int32 × Int32)) (P : List Int32), o ≤ 8 → nst P = o → C.length + P.length + r.length ≤ 110 → (match y with
  | .inl (x, r1) => mR K d J Q S0 n 6 r1 (C ++ x.1 ++ twN P) (dwN P)
  | .inr q => mB J Q S0 q) → mR K d J Q S0 n 1 r C P
theorem nst_dw (P : List Int32) : (twN P).length + (dwN P).length = P.length := by
  show (zer (P.takeWhile (two 3 3))).length + _ = _
  unfold zer
  rw [List.length_map]
  exact tw_len _ _
theorem tokL_nx (T : Nat → Int32) (n : Nat) : ∀ (m p : Nat), n - p ≤ m → p ≤ n → ∀ {k : Int32} {s e : Nat} {r : List Tok}, tokL T n p = (k, s, e) :: r → ¬ k = 46 → e ≤ n ∧ tokL T n e = r
  | 0, p, hm, hp, k, s, e, r, h, hk => by
    rw [tokL_end T (by omega)] at h
    cases h
    exact absurd rfl hk
  | m + 1, p, hm, hp, k, s, e, r, h, hk => by
    by_cases h0 : p < n
    · by_cases hb : T p = 32
      · rw [tokL_blank T h0 hb] at h
        exact tokL_nx T n m (p + 1) (by omega) (by omega) h hk
      · rw [tokL_tok T h0 hb] at h
        cases h
        exact ⟨tokE_le T h0, rfl⟩
    · rw [tokL_end T (by omega)] at h
      cases h
      exact absurd rfl hk
/-- '!' or '(' -/
theorem mR_open {K : jK} {d : Nat} (hd : 6 ≤ d) {J : jH} {Q : jO → jH → Prop} {S0 : jS} {n c : Nat} (hok : RdOk S0 n c) {k : Int32} {s e : Nat} {r : List Tok} {C : List (Int32 × Int32)} {P : List Int32} (hl : C.length + P.length ≤ 117) (hk : k = 33 ∨ k = 40)
    (h8 : nst P = 8 → mB J Q S0 s) (hgo : ¬ nst P = 8 → mR K d J Q S0 n 1 r C ((if k = 33 then 3 else 4) :: P)) : mR K d J Q S0 n 1 ((k, s, e) :: r) C P := by
  intro p S hp hpn hf hM
  have hT17 : S.2.1 17 = S0.2.1 17 := hf.2.1 17 (by decide)
  refine rd_step K d (by omega) S J Q n c p (hf.ok hok) hpn 1 k s e r (by rw [hT17]; exact hp) (fun _ q => absurd q (by decide)) (fun q => by rcases hk with z | z <;> rw [z] at q <;> exact absurd q (by decide)) (fun _ h63 S1 hs hT => ?_)
  have hM1 := hs.ms hM
  have h46 : ¬ k = 46 := by rcases hk with z | z <;> rw [z] <;> decide
  obtain ⟨he, hr⟩ := tokL_nx (S0.2.1 17) n (n - p) p (Nat.le_refl _) hpn hp h46
  have hone := m_M_one_p K (d - 1 - 1) (by omega) S1 J n k s e hT C P hM1 hl hk
  by_cases hn8 : nst P = 8
  · rw [if_pos hn8] at hone
    exact nx_bad (m_M_next_1 K (d - 1) (by omega) S1 J _ (isInt_st _ _ _ _) hone) hT (fun S2 f2 => h8 hn8 S2 ((hf.sc hs).m f2))
  · rw [if_neg hn8] at hone
    exact nx_of (m_M_next_1 K (d - 1) (by omega) S1 J _ (isInt_st _ _ _ _) hone) hT (by decide) h46 (fun S2 f2 hM2 => hgo hn8 e S2 hr he ((hf.sc hs).m f2) hM2)
/-- behind a whole one: the '&' -/
theorem mR_and {K : jK} {d : Nat} (hd : 6 ≤ d) {J : jH} {Q : jO → jH → Prop} {S0 : jS} {n c : Nat} (hok : RdOk S0 n c) {k : Int32} {s e : Nat} {r : List Tok} {C : List (Int32 × Int32)} {P : List Int32} (hl : C.length + P.length ≤ 117) (h4 : ∀ x P', P.dropWhile (two 2 1) = x :: P' → x = 4) (h46 : ¬ k = 46) (h63 : ¬ k = 63) (v : Int32) (hv : ¬ v = 17) (C' : List (Int32 × Int32)) (P' : List Int32)
    (hq : ∀ S1 : jS, afQ S1 J k s e C P = stQ S1 J v (fun S' => Ms S' C' P')) (hgo : mR K d J Q S0 n v r C' P') : mR K d J Q S0 n 6 ((k, s, e) :: r) C P := by
  intro p S hp hpn hf hM
  have hT17 : S.2.1 17 = S0.2.1 17 := hf.2.1 17 (by decide)
  refine rd_step K d (by omega) S J Q n c p (hf.ok hok) hpn 6 k s e r (by rw [hT17]; exact hp) (fun _ q => absurd q (by decide)) (fun q => absurd q h63) (fun _ _ S1 hs hT => ?_)
  obtain ⟨he, hr⟩ := tokL_nx (S0.2.1 17) n (n - p) p (Nat.le_refl _) hpn hp h46
  have haf := m_M_afterOne K (d - 1 - 1) (by omega) S1 J n k s e hT C P (hs.ms hM) hl h4
  rw [hq] at haf
  exact nx_of (m_M_next_6 K (d - 1) (by omega) S1 J _ (isInt_st _ _ _ _) haf) hT hv h46 (fun S2 f2 hM2 => hgo e S2 hr he ((hf.sc hs).m f2) hM2)
