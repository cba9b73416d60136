/-! the action, read by the model: a change -/
/-- the same but for what the model's reader holds -/
def frC (S0 S : jS) : Prop := (∀ i, ¬ i ∈ [36, 37, 38, 39, 40, 41, 42, 43, 44, 45, 46] → S.1 i = S0.1 i) ∧ (∀ i, ¬ i ∈ [19, 20, 21, 22, 23, 24, 25, 26, 27] → S.2.1 i = S0.2.1 i) ∧ S.2.2.2 = S0.2.2.2
theorem frB.c {S0 S : jS} (h : frB S0 S) : frC S0 S := ⟨fun i hi => h.1 i (fun q => hi ((by decide : ∀ i, i ∈ [36, 37, 38, 39, 40, 41, 42, 43, 44] → i ∈ [36, 37, 38, 39, 40, 41, 42, 43, 44, 45, 46]) i q)), fun i hi => h.2.1 i (fun q => hi ((by decide : ∀ i, i ∈ [19, 20, 21] → i ∈ [19, 20, 21, 22, 23, 24, 25, 26, 27]) i q)), h.2.2⟩
theorem frC.ok {S0 S : jS} {n c : Nat} (h : frC S0 S) (g : RdOk S0 n c) : RdOk S n c := by
  unfold RdOk
  rw [h.1 32 (by decide), h.1 31 (by decide), h.2.1 17 (by decide)]
  exact g
theorem frC.sc {S0 S S1 : jS} (h : frC S0 S) (g : scnd S S1) : frC S0 S1 := by
  obtain ⟨kd, b, e, am, lt, rfl⟩ := g
  refine ⟨fun i hi => ?_, h.2.1, h.2.2⟩
  have hi' := hi
  simp only [List.mem_cons, not_or] at hi
  show va_up (va_up (va_up (va_up S.1 36 kd) 37 b) 38 e) 39 am i = S0.1 i
  rw [j_une (by omega), j_une (by omega), j_une (by omega), j_une (by omega)]
  exact h.1 i hi'
theorem frC.s1 {A B : jS} (h : frC A B) {i : Nat} (hi : i ∈ [36, 37, 38, 39, 40, 41, 42, 43, 44, 45, 46]) (v : Int32) : frC A (s1 B i v) := ⟨fun j hj => (j_une (i := i) (j := j) (fun e => hj (by rw [e]; exact hi))).trans (h.1 j hj), h.2.1, h.2.2⟩
/-- the same but for what the change number g is told by -/
def frG (g : Nat) (S S' : jS) : Prop := (∀ i, ¬ i ∈ [36, 37, 38, 39] → S'.1 i = S.1 i) ∧ (∀ i, ¬ i ∈ [22, 23, 24, 25, 26, 27] → S'.2.1 i = S.2.1 i) ∧ (∀ i j, ¬ j = g → S'.2.1 i j = S.2.1 i j) ∧ S'.2.2.2 = S.2.2.2
theorem frG.rf (g : Nat) (S : jS) : frG g S S := ⟨fun _ _ => rfl, fun _ _ => rfl, fun _ _ _ => rfl, rfl⟩
theorem frG.sc {g : Nat} {S0 S S1 : jS} (h : frG g S0 S) (q : scnd S S1) : frG g S0 S1 := by
  obtain ⟨kd, b, e, am, lt, rfl⟩ := q
  refine ⟨fun i hi => ?_, h.2.1, h.2.2.1, h.2.2.2⟩
  have hi' := hi
  simp only [List.mem_cons, not_or] at hi
  show va_up (va_up (va_up (va_up S.1 36 kd) 37 b) 38 e) 39 am i = S0.1 i
  rw [j_une (by omega), j_une (by omega), j_une (by omega), j_une (by omega)]
  exact h.1 i hi'
theorem frG.up {g : Nat} {A B : jS} (h : frG g A B) {i : Nat} (hi : i ∈ [22, 23, 24, 25, 26, 27]) (v : Int32) : frG g A (s2 B i (upd (B.2.1 i) g v)) := by
  refine ⟨h.1, fun j hj => (j_une (i := i) (j := j) (fun e => hj (by rw [e]; exact hi))).trans (h.2.1 j hj), fun k j hj => ?_, h.2.2.2⟩
  show va_up B.2.1 i (upd (B.2.1 i) g v) k j = A.2.1 k j
  by_cases e : k = i
  · rw [e, j_ueq]
    exact (if_neg hj).trans (h.2.2.1 i j hj)
  · rw [j_une e]
    exact h.2.2.1 k j hj
theorem frG.c {g : Nat} {S0 A B : jS} (h : frC S0 A) (f : frG g A B) : frC S0 B := ⟨fun i hi => (f.1 i (fun q => hi ((by decide : ∀ i, i ∈ [36, 37, 38, 39] → i ∈ [36, 37, 38, 39, 40, 41, 42, 43, 44, 45, 46]) i q))).trans (h.1 i hi), fun i hi => (f.2.1 i (fun q => hi ((by decide : ∀ i, i ∈ [22, 23, 24, 25, 26, 27] → i ∈ [19, 20, 21, 22, 23, 24, 25, 26, 27]) i q))).trans (h.2.1 i hi), f.2.2.2.trans h.2.2⟩
/-- the same but for these arrays and the token -/
def frY (Y : List Nat) (S S' : jS) : Prop := (∀ i, ¬ i ∈ [36, 37, 38, 39] → S'.1 i = S.1 i) ∧ (∀ i, ¬ i ∈ Y → S'.2.1 i = S.2.1 i)
theorem frY.rf (Y : List Nat) (S : jS) : frY Y S S := ⟨fun _ _ => rfl, fun _ _ => rfl⟩
theorem frY.sc {Y : List Nat} {S0 S S1 : jS} (h : frY Y S0 S) (q : scnd S S1) : frY Y S0 S1 := by
  obtain ⟨kd, b, e, am, lt, rfl⟩ := q
  refine ⟨fun i hi => ?_, h.2⟩
  have hi' := hi
  simp only [List.mem_cons, not_or] at hi
  show va_up (va_up (va_up (va_up S.1 36 kd) 37 b) 38 e) 39 am i = S0.1 i
  rw [j_une (by omega), j_une (by omega), j_une (by omega), j_une (by omega)]
  exact h.1 i hi'
theorem frY.s2 {Y : List Nat} {A B : jS} (h : frY Y A B) {i : Nat} (hi : i ∈ Y) (v : Nat → Int32) : frY Y A (s2 B i v) := ⟨h.1, fun j hj => (j_une (i := i) (j := j) (fun e => hj (by rw [e]; exact hi))).trans (h.2 j hj)⟩
/-- what the change's arrays tell -/
def mO (a b g : Nat) (x : Opd) (S : jS) : Prop := match x with
  | .inl f => S.2.1 a g = nI f
  | .inr v => S.2.1 a g = -1 ∧ S.2.1 b g = v
def isMC (g : Nat) (q : Chg) (S : jS) : Prop := S.2.1 22 g = nI q.1 ∧ mO 23 24 g q.2.1 S ∧ S.2.1 25 g = hwc q.2.2.1 ∧ (q.2.2.1 = 32 ∨ mO 26 27 g q.2.2.2 S)
theorem mO.keep {a b g : Nat} {x : Opd} {S S' : jS} (h : mO a b g x S) (h1 : S'.2.1 a g = S.2.1 a g) (h2 : S'.2.1 b g = S.2.1 b g) : mO a b g x S' := by
  cases x with
  | inl f => exact h1.trans h
  | inr v => exact ⟨h1.trans h.1, h2.trans h.2⟩
theorem isMC.keep {g : Nat} {q : Chg} {S S' : jS} (h : isMC g q S) (f : ∀ i, S'.2.1 i g = S.2.1 i g) : isMC g q S' := ⟨(f 22).trans h.1, h.2.1.keep (f 23) (f 24), (f 25).trans h.2.2.1, h.2.2.2.imp id (fun z => z.keep (f 26) (f 27))⟩
theorem scnd.ar {S S1 : jS} (g : scnd S S1) : S1.2.1 = S.2.1 := by
  obtain ⟨kd, b, e, am, lt, rfl⟩ := g
  rfl
def gR (K : jK) (d : Nat) (J : jH) (Q : jO → jH → Prop) (S0 : jS) (n g : Nat) (S1 : jS) (st : Int32) (r : List Tok) (E : jS → Prop) : Prop := ∀ (p : Nat) (S : jS), tokL (S0.2.1 17) n p = r → p ≤ n → frG g S1 S → E S → Rd K d J Q st p S
def gB (J : jH) (Q : jO → jH → Prop) (g : Nat) (S1 : jS) (q : Nat) : Prop := ∀ S', frG g S1 S' → Q (.inl (some (.int (nI q)))) (lay S' ++ J)
theorem nx_rI {K : jK} {d : Nat} {J : jH} {Q : jO → jH → Prop} {n : Nat} {k st v : Int32} {b e : Nat} {S1 S2 : jS} (hM : jM K M_M_next (d - 1) [.ref 59, .int st] (lay S1 ++ J) (rI v (lay S2 ++ J)) 0 0) (hT : Tk S2 n k b e) (h17 : v = 17 → Q (.inl (some (.int (nI b)))) (lay S2 ++ J)) (h46 : ¬ v = 17 → k = 46 → Q (.inl (some (.int (-1)))) (lay S2 ++ J)) (hgo : ¬ v = 17 → ¬ k = 46 → Rd K d J Q v e S2) : jM K M_M_next (d - 1) [.ref 59, .int st] (lay S1 ++ J) (nxQ K d J n k b e Q) 0 0 :=
  hM.mono (fun _ _ hq => ⟨v, S2, hq.1, hq.2, hT, h17, h46, hgo⟩)
theorem pFld_46 {T N : Nat → Int32} {c : Nat} {k : Int32} {s e f : Nat} {r r1 : List Tok} (h : pFld T N c ((k, s, e) :: r) = .inl (f, r1)) : ¬ k = 46 ∧ r1 = r := by
  rw [pFld] at h
  split at h
  · rename_i zz
    split at h
    · cases h
    · cases h
      exact ⟨by rw [isLt_97 zz]; decide, rfl⟩
  · cases h
theorem pFld_63 {T N : Nat → Int32} {c : Nat} {k : Int32} {s e : Nat} {r : List Tok} (q : k = 63) : pFld T N c ((k, s, e) :: r) = .inr s := by
  rw [pFld, if_neg (fun z => by rw [isLt_97 z] at q; exact absurd q (by decide))]
def cF {α : Type} (A : α → List Tok → Prop) (B : Nat → Prop) (y : Rs α) : Prop := match y with
  | .inl (x, r) => A x r
  | .inr q => B q
theorem mG_tgt {K : jK} {d : Nat} {J : jH} {Q : jO → jH → Prop} {S0 : jS} {n c : Nat} (hd : 8 ≤ d) (hok : RdOk S0 n c) {g : Nat} (hg : g < 2) {S1 : jS} (hf1 : frC S0 S1) (h46 : S1.1 46 = nI g) {N : Nat → Int32} (hN : ∀ ch, fdL (S0.2.1 13) ch c 0 (-1) = ixOf N ch c 0) {r0 : List Tok} (hgo : cF (fun f r1 => gR K d J Q S0 n g S1 8 r1 (fun S => S.2.1 22 g = nI f)) (gB J Q g S1) (pFld (S0.2.1 17) N c r0)) : gR K d J Q S0 n g S1 7 r0 (fun _ => True) := by
  intro p S hp hpn hf hE
  cases r0 with
  | nil => exact absurd hp (tokL_ne _ n (n - p) p (Nat.le_refl _) hpn)
  | cons q0 r =>
  obtain ⟨k, s, e⟩ := q0
  have hfC := frG.c hf1 hf
  have hT17 : S.2.1 17 = S0.2.1 17 := hfC.2.1 17 (by decide)
  have h6 := hok.2.2.2.2.2
  refine rd_step K d (by omega) S J Q n c p (hfC.ok hok) hpn 7 k s e r (by rw [hT17]; exact hp) (fun _ q => absurd q (by decide)) (fun q S2 hs => ?_) (fun _ h63 S2 hs hT => ?_)
  · rw [pFld_63 q] at hgo
    exact hgo S2 (hf.sc hs)
  have hf2 := hf.sc hs
  have hf2C := frG.c hf1 hf2
  have h172 : S2.2.1 17 = S0.2.1 17 := hf2C.2.1 17 (by decide)
  have h132 : S2.2.1 13 = S0.2.1 13 := hf2C.2.1 13 (by decide)
  have hok2 := hf2C.ok hok
  have h462 : S2.1 46 = nI g := (hf2.1 46 (by decide)).trans h46
  have hpk := m_M_pick8 K (d - 1 - 1) (by omega) S2 J n k s e hT c hok2.2.2.2.2.1 h6 g hg h462
  rcases nmd_neg (S := S2) (N := N) (c := c) (by rw [h132]; exact hN) h6 (k := k) (s := s) (e := e) r with ⟨hz, hpf⟩ | ⟨hz, f, hnf, hpf⟩
  · rw [if_pos hz] at hpk
    rw [h172] at hpf
    rw [hpf] at hgo
    exact nx_rI (m_M_next_7 K (d - 1) (by omega) S2 J _ (isInt_rI _ _) hpk) hT (fun _ => hgo S2 hf2) (fun q => absurd rfl q) (fun q => absurd rfl q)
  · rw [if_neg hz, hnf] at hpk
    rw [h172] at hpf
    rw [hpf] at hgo
    have h46k := (pFld_46 hpf).1
    obtain ⟨he, hr⟩ := tokL_nx (S0.2.1 17) n (n - p) p (Nat.le_refl _) hpn hp h46k
    refine nx_rI (m_M_next_7 K (d - 1) (by omega) S2 J _ (isInt_rI _ _) hpk) (hT.keep ((frM.rf [] [22] S2).s2 (by decide) _) (by decide)) (fun q => absurd q (by decide)) (fun _ q => absurd q h46k) (fun _ _ => hgo e _ hr he (hf2.up (by decide) _) ?_)
    show va_up S2.2.1 22 (upd (S2.2.1 22) g (nI f)) 22 g = nI f
    rw [j_ueq]
    exact if_pos rfl
theorem mG_bec {K : jK} {d : Nat} {J : jH} {Q : jO → jH → Prop} {S0 : jS} {n c : Nat} (hd : 8 ≤ d) (hok : RdOk S0 n c) {g : Nat} (hg : g < 2) {S1 : jS} (hf1 : frC S0 S1) (h46 : S1.1 46 = nI g) {r0 : List Tok} {E : jS → Prop} (hE0 : ∀ S S', S'.2.1 = S.2.1 → E S → E S') (hgo : cF (fun _ r1 => gR K d J Q S0 n g S1 9 r1 E) (gB J Q g S1) (pPass 61 r0)) : gR K d J Q S0 n g S1 8 r0 E := by
  intro p S hp hpn hf hE
  cases r0 with
  | nil => exact absurd hp (tokL_ne _ n (n - p) p (Nat.le_refl _) hpn)
  | cons q0 r =>
  obtain ⟨k, s, e⟩ := q0
  have hfC := frG.c hf1 hf
  have hT17 : S.2.1 17 = S0.2.1 17 := hfC.2.1 17 (by decide)
  have h6 := hok.2.2.2.2.2
  refine rd_step K d (by omega) S J Q n c p (hfC.ok hok) hpn 8 k s e r (by rw [hT17]; exact hp) (fun _ q => absurd q (by decide)) (fun q S2 hs => ?_) (fun _ h63 S2 hs hT => ?_)
  · rw [pPass, if_neg (by rw [q]; decide)] at hgo
    exact hgo S2 (hf.sc hs)
  have hf2 := hf.sc hs
  have hf2C := frG.c hf1 hf2
  have h172 : S2.2.1 17 = S0.2.1 17 := hf2C.2.1 17 (by decide)
  have h132 : S2.2.1 13 = S0.2.1 13 := hf2C.2.1 13 (by decide)
  have hok2 := hf2C.ok hok
  have h462 : S2.1 46 = nI g := (hf2.1 46 (by decide)).trans h46
  have hn8 := m_M_next_8 K (d - 1) (by omega) S2 J n k s e hT
  by_cases h61 : k = 61
  · rw [if_pos h61] at hn8
    rw [pPass, if_pos h61] at hgo
    have h46k : ¬ k = 46 := by rw [h61]; decide
    obtain ⟨he, hr⟩ := tokL_nx (S0.2.1 17) n (n - p) p (Nat.le_refl _) hpn hp h46k
    exact nx_rI hn8 hT (fun q => absurd q (by decide)) (fun _ q => absurd q h46k) (fun _ _ => hgo e _ hr he hf2 (hE0 S S2 hs.ar hE))
  · rw [if_neg h61] at hn8
    rw [pPass, if_neg h61] at hgo
    exact nx_rI hn8 hT (fun _ => hgo S2 hf2) (fun q => absurd rfl q) (fun q => absurd rfl q)
theorem pt0_a (S : jS) (g : Nat) (f v : Int32) : (pt0 S g f v).2.1 23 g = f := if_pos rfl
theorem pt0_b (S : jS) (g : Nat) (f v : Int32) : (pt0 S g f v).2.1 24 g = v := if_pos rfl
theorem frG.pt0 {g : Nat} {A B : jS} (h : frG g A B) (f v : Int32) : frG g A (pt0 B g f v) := (((h).up (i := 23) (by decide) f).up (i := 24) (by decide) v).up (i := 25) (by decide) 0
theorem mG_opd_9 {K : jK} {d : Nat} {J : jH} {Q : jO → jH → Prop} {S0 : jS} {n c : Nat} (hd : 8 ≤ d) (hok : RdOk S0 n c) {g : Nat} (hg : g < 2) {S1 : jS} (hf1 : frC S0 S1) (h46 : S1.1 46 = nI g) {N : Nat → Int32} (hN : ∀ ch, fdL (S0.2.1 13) ch c 0 (-1) = ixOf N ch c 0) {r0 : List Tok} {E : jS → Prop} (hE0 : ∀ S S', frY [23, 24, 25] S S' → E S → E S') (hgo : cF (fun x r1 => gR K d J Q S0 n g S1 11 r1 (fun S => E S ∧ mO 23 24 g x S)) (gB J Q g S1) (pOpd (S0.2.1 17) N c r0)) : gR K d J Q S0 n g S1 9 r0 E := by
  intro p S hp hpn hf hE
  cases r0 with
  | nil => exact absurd hp (tokL_ne _ n (n - p) p (Nat.le_refl _) hpn)
  | cons q0 r =>
  obtain ⟨k, s, e⟩ := q0
  have hfC := frG.c hf1 hf
  have hT17 : S.2.1 17 = S0.2.1 17 := hfC.2.1 17 (by decide)
  have h6 := hok.2.2.2.2.2
  refine rd_step K d (by omega) S J Q n c p (hfC.ok hok) hpn 9 k s e r (by rw [hT17]; exact hp) (fun _ q => absurd q (by decide)) (fun q S2 hs => ?_) (fun _ h63 S2 hs hT => ?_)
  · have hy0 : pOpd (S0.2.1 17) N c ((k, s, e) :: r) = .inr s := by
      refine (if_neg (by rw [q]; decide)).trans ((if_neg (by rw [q]; decide)).trans ?_)
      rw [pFld_63 q]
    rw [hy0] at hgo
    exact hgo S2 (hf.sc hs)
  have hf2 := hf.sc hs
  have hf2C := frG.c hf1 hf2
  have h172 : S2.2.1 17 = S0.2.1 17 := hf2C.2.1 17 (by decide)
  have h132 : S2.2.1 13 = S0.2.1 13 := hf2C.2.1 13 (by decide)
  have hok2 := hf2C.ok hok
  have h462 : S2.1 46 = nI g := (hf2.1 46 (by decide)).trans h46
  have hE2 : E S2 := hE0 S S2 ((frY.rf _ S).sc hs) hE
  have hop := m_M_part_00 K (d - 1 - 1) (by omega) S2 J n k s e hT c hok2.2.2.2.2.1 h6 g hg h462 10 11
  by_cases h45 : k = 45
  · rw [if_pos h45] at hop
    have h46k : ¬ k = 46 := by rw [h45]; decide
    obtain ⟨he, hr⟩ := tokL_nx (S0.2.1 17) n (n - p) p (Nat.le_refl _) hpn hp h46k
    refine nx_rI (m_M_next_9 K (d - 1) (by omega) S2 J _ (isInt_rI _ _) hop) hT (fun q => absurd q (by decide)) (fun _ q => absurd q h46k) (fun _ _ => ?_)
    cases r with
    | nil => exact absurd hr (tokL_ne _ n (n - e) e (Nat.le_refl _) he)
    | cons q2 r2 =>
    obtain ⟨k2, s2, e2⟩ := q2
    have hy1 : pOpd (S0.2.1 17) N c ((k, s, e) :: (k2, s2, e2) :: r2) = if k2 = 48 then .inl (.inr (-(numV (S0.2.1 17) (e2 - s2) s2 0)), r2) else .inr s2 := if_pos h45
    refine rd_step K d (by omega) S2 J Q n c e hok2 he 10 k2 s2 e2 r2 (by rw [h172]; exact hr) (fun _ q => absurd q (by decide)) (fun q S3 hs3 => ?_) (fun _ h63' S3 hs3 hT3 => ?_)
    · rw [hy1, if_neg (by rw [q]; decide)] at hgo
      exact hgo S3 (hf2.sc hs3)
    · have hf3 := hf2.sc hs3
      have hf3C := frG.c hf1 hf3
      have h173 : S3.2.1 17 = S0.2.1 17 := hf3C.2.1 17 (by decide)
      have hok3 := hf3C.ok hok
      have h463 : S3.1 46 = nI g := (hf3.1 46 (by decide)).trans h46
      have hng := m_M_part_01 K (d - 1 - 1) (by omega) S3 J n k2 s2 e2 hT3 c hok3.2.2.2.2.1 h6 g hg h463 10 11
      by_cases h48 : k2 = 48
      · rw [if_neg (fun q => q h48)] at hng
        rw [hy1, if_pos h48] at hgo
        have h46' : ¬ k2 = 46 := by rw [h48]; decide
        obtain ⟨he2, hr2⟩ := tokL_nx (S0.2.1 17) n (n - e) e (Nat.le_refl _) he hr h46'
        have ham : S3.1 39 = numV (S0.2.1 17) (e2 - s2) s2 0 := by
          rcases hT3.num with ⟨-, -, z⟩ | ⟨-, z⟩
          · rw [z, h173]
          · exact absurd h48 z
        refine nx_rI (m_M_next_10 K (d - 1) (by omega) S3 J _ (isInt_rI _ _) hng) (hT3.keep ((((frM.rf [] [23, 24, 25] S3).s2 (by decide) _).s2 (by decide) _).s2 (by decide) _) (by decide)) (fun q => absurd q (by decide)) (fun _ q => absurd q h46') (fun _ _ => hgo e2 _ hr2 he2 (hf3.pt0 _ _) ⟨hE0 S3 _ ((((frY.rf [23, 24, 25] S3).s2 (by decide) _).s2 (by decide) _).s2 (by decide) _) (hE0 S2 S3 ((frY.rf _ S2).sc hs3) hE2), pt0_a S3 g _ _, ?_⟩)
        rw [← ham]
        exact pt0_b S3 g _ _
      · rw [if_pos h48] at hng
        rw [hy1, if_neg h48] at hgo
        exact nx_rI (m_M_next_10 K (d - 1) (by omega) S3 J _ (isInt_rI _ _) hng) hT3 (fun _ => hgo S3 hf3) (fun q => absurd rfl q) (fun q => absurd rfl q)
  · rw [if_neg h45] at hop
    by_cases h48 : k = 48
    · rw [if_neg (fun q => q.1 h48)] at hop
      have h46k : ¬ k = 46 := by rw [h48]; decide
      obtain ⟨he, hr⟩ := tokL_nx (S0.2.1 17) n (n - p) p (Nat.le_refl _) hpn hp h46k
      rw [show pOpd (S0.2.1 17) N c ((k, s, e) :: r) = .inl (.inr (numV (S0.2.1 17) (e - s) s 0), r) from (if_neg h45).trans (if_pos h48)] at hgo
      have ham : S2.1 39 = numV (S0.2.1 17) (e - s) s 0 := by
        rcases hT.num with ⟨-, -, z⟩ | ⟨-, z⟩
        · rw [z, h172]
        · exact absurd h48 z
      have hnm : nmd S2 c k s e = -1 := by
        unfold nmd
        rw [if_neg (fun z => by rw [isLt_97 z] at h48; exact absurd h48 (by decide))]
      refine nx_rI (m_M_next_9 K (d - 1) (by omega) S2 J _ (isInt_rI _ _) hop) (hT.keep ((((frM.rf [] [23, 24, 25] S2).s2 (by decide) _).s2 (by decide) _).s2 (by decide) _) (by decide)) (fun q => absurd q (by decide)) (fun _ q => absurd q h46k) (fun _ _ => hgo e _ hr he (hf2.pt0 _ _) ⟨hE0 S2 _ ((((frY.rf [23, 24, 25] S2).s2 (by decide) _).s2 (by decide) _).s2 (by decide) _) hE2, (pt0_a S2 g _ _).trans hnm, ?_⟩)
      rw [← ham]
      exact pt0_b S2 g _ _
    · have hy2 : pOpd (S0.2.1 17) N c ((k, s, e) :: r) = (match pFld (S0.2.1 17) N c ((k, s, e) :: r) with | .inl (f, r1) => .inl (.inl f, r1) | .inr p => .inr p) := (if_neg h45).trans (if_neg h48)
      rcases nmd_neg (S := S2) (N := N) (c := c) (by rw [h132]; exact hN) h6 (k := k) (s := s) (e := e) r with ⟨hz, hpf⟩ | ⟨hz, f, hnf, hpf⟩
      · rw [if_pos ⟨h48, hz⟩] at hop
        rw [h172] at hpf
        rw [hy2, hpf] at hgo
        exact nx_rI (m_M_next_9 K (d - 1) (by omega) S2 J _ (isInt_rI _ _) hop) hT (fun _ => hgo S2 hf2) (fun q => absurd rfl q) (fun q => absurd rfl q)
      · rw [if_neg (fun q => hz q.2)] at hop
        rw [h172] at hpf
        rw [hy2, hpf] at hgo
        have h46k := (pFld_46 hpf).1
        obtain ⟨he, hr⟩ := tokL_nx (S0.2.1 17) n (n - p) p (Nat.le_refl _) hpn hp h46k
        exact nx_rI (m_M_next_9 K (d - 1) (by omega) S2 J _ (isInt_rI _ _) hop) (hT.keep ((((frM.rf [] [23, 24, 25] S2).s2 (by decide) _).s2 (by decide) _).s2 (by decide) _) (by decide)) (fun q => absurd q (by decide)) (fun _ q => absurd q h46k) (fun _ _ => hgo e _ hr he (hf2.pt0 _ _) ⟨hE0 S2 _ ((((frY.rf [23, 24, 25] S2).s2 (by decide) _).s2 (by decide) _).s2 (by decide) _) hE2, (pt0_a S2 g _ _).trans hnf⟩)
theorem pt1_a (S : jS) (g : Nat) (f v : Int32) : (pt1 S g f v).2.1 26 g = f := if_pos rfl
theorem pt1_b (S : jS) (g : Nat) (f v : Int32) : (pt1 S g f v).2.1 27 g = v := if_pos rfl
theorem frG.pt1 {g : Nat} {A B : jS} (h : frG g A B) (f v : Int32) : frG g A (pt1 B g f v) := ((h).up (i := 26) (by decide) f).up (i := 27) (by decide) v
theorem mG_opd_12 {K : jK} {d : Nat} {J : jH} {Q : jO → jH → Prop} {S0 : jS} {n c : Nat} (hd : 8 ≤ d) (hok : RdOk S0 n c) {g : Nat} (hg : g < 2) {S1 : jS} (hf1 : frC S0 S1) (h46 : S1.1 46 = nI g) {N : Nat → Int32} (hN : ∀ ch, fdL (S0.2.1 13) ch c 0 (-1) = ixOf N ch c 0) {r0 : List Tok} {E : jS → Prop} (hE0 : ∀ S S', frY [26, 27] S S' → E S → E S') (hgo : cF (fun x r1 => gR K d J Q S0 n g S1 14 r1 (fun S => E S ∧ mO 26 27 g x S)) (gB J Q g S1) (pOpd (S0.2.1 17) N c r0)) : gR K d J Q S0 n g S1 12 r0 E := by
  intro p S hp hpn hf hE
  cases r0 with
  | nil => exact absurd hp (tokL_ne _ n (n - p) p (Nat.le_refl _) hpn)
  | cons q0 r =>
  obtain ⟨k, s, e⟩ := q0
  have hfC := frG.c hf1 hf
  have hT17 : S.2.1 17 = S0.2.1 17 := hfC.2.1 17 (by decide)
  have h6 := hok.2.2.2.2.2
  refine rd_step K d (by omega) S J Q n c p (hfC.ok hok) hpn 12 k s e r (by rw [hT17]; exact hp) (fun _ q => absurd q (by decide)) (fun q S2 hs => ?_) (fun _ h63 S2 hs hT => ?_)
  · have hy0 : pOpd (S0.2.1 17) N c ((k, s, e) :: r) = .inr s := by
      refine (if_neg (by rw [q]; decide)).trans ((if_neg (by rw [q]; decide)).trans ?_)
      rw [pFld_63 q]
    rw [hy0] at hgo
    exact hgo S2 (hf.sc hs)
  have hf2 := hf.sc hs
  have hf2C := frG.c hf1 hf2
  have h172 : S2.2.1 17 = S0.2.1 17 := hf2C.2.1 17 (by decide)
  have h132 : S2.2.1 13 = S0.2.1 13 := hf2C.2.1 13 (by decide)
  have hok2 := hf2C.ok hok
  have h462 : S2.1 46 = nI g := (hf2.1 46 (by decide)).trans h46
  have hE2 : E S2 := hE0 S S2 ((frY.rf _ S).sc hs) hE
  have hop := m_M_part_10 K (d - 1 - 1) (by omega) S2 J n k s e hT c hok2.2.2.2.2.1 h6 g hg h462 13 14
  by_cases h45 : k = 45
  · rw [if_pos h45] at hop
    have h46k : ¬ k = 46 := by rw [h45]; decide
    obtain ⟨he, hr⟩ := tokL_nx (S0.2.1 17) n (n - p) p (Nat.le_refl _) hpn hp h46k
    refine nx_rI (m_M_next_12 K (d - 1) (by omega) S2 J _ (isInt_rI _ _) hop) hT (fun q => absurd q (by decide)) (fun _ q => absurd q h46k) (fun _ _ => ?_)
    cases r with
    | nil => exact absurd hr (tokL_ne _ n (n - e) e (Nat.le_refl _) he)
    | cons q2 r2 =>
    obtain ⟨k2, s2, e2⟩ := q2
    have hy1 : pOpd (S0.2.1 17) N c ((k, s, e) :: (k2, s2, e2) :: r2) = if k2 = 48 then .inl (.inr (-(numV (S0.2.1 17) (e2 - s2) s2 0)), r2) else .inr s2 := if_pos h45
    refine rd_step K d (by omega) S2 J Q n c e hok2 he 13 k2 s2 e2 r2 (by rw [h172]; exact hr) (fun _ q => absurd q (by decide)) (fun q S3 hs3 => ?_) (fun _ h63' S3 hs3 hT3 => ?_)
    · rw [hy1, if_neg (by rw [q]; decide)] at hgo
      exact hgo S3 (hf2.sc hs3)
    · have hf3 := hf2.sc hs3
      have hf3C := frG.c hf1 hf3
      have h173 : S3.2.1 17 = S0.2.1 17 := hf3C.2.1 17 (by decide)
      have hok3 := hf3C.ok hok
      have h463 : S3.1 46 = nI g := (hf3.1 46 (by decide)).trans h46
      have hng := m_M_part_11 K (d - 1 - 1) (by omega) S3 J n k2 s2 e2 hT3 c hok3.2.2.2.2.1 h6 g hg h463 13 14
      by_cases h48 : k2 = 48
      · rw [if_neg (fun q => q h48)] at hng
        rw [hy1, if_pos h48] at hgo
        have h46' : ¬ k2 = 46 := by rw [h48]; decide
        obtain ⟨he2, hr2⟩ := tokL_nx (S0.2.1 17) n (n - e) e (Nat.le_refl _) he hr h46'
        have ham : S3.1 39 = numV (S0.2.1 17) (e2 - s2) s2 0 := by
          rcases hT3.num with ⟨-, -, z⟩ | ⟨-, z⟩
          · rw [z, h173]
          · exact absurd h48 z
        refine nx_rI (m_M_next_13 K (d - 1) (by omega) S3 J _ (isInt_rI _ _) hng) (hT3.keep (((frM.rf [] [26, 27] S3).s2 (by decide) _).s2 (by decide) _) (by decide)) (fun q => absurd q (by decide)) (fun _ q => absurd q h46') (fun _ _ => hgo e2 _ hr2 he2 (hf3.pt1 _ _) ⟨hE0 S3 _ (((frY.rf [26, 27] S3).s2 (by decide) _).s2 (by decide) _) (hE0 S2 S3 ((frY.rf _ S2).sc hs3) hE2), pt1_a S3 g _ _, ?_⟩)
        rw [← ham]
        exact pt1_b S3 g _ _
      · rw [if_pos h48] at hng
        rw [hy1, if_neg h48] at hgo
        exact nx_rI (m_M_next_13 K (d - 1) (by omega) S3 J _ (isInt_rI _ _) hng) hT3 (fun _ => hgo S3 hf3) (fun q => absurd rfl q) (fun q => absurd rfl q)
  · rw [if_neg h45] at hop
    by_cases h48 : k = 48
    · rw [if_neg (fun q => q.1 h48)] at hop
      have h46k : ¬ k = 46 := by rw [h48]; decide
      obtain ⟨he, hr⟩ := tokL_nx (S0.2.1 17) n (n - p) p (Nat.le_refl _) hpn hp h46k
      rw [show pOpd (S0.2.1 17) N c ((k, s, e) :: r) = .inl (.inr (numV (S0.2.1 17) (e - s) s 0), r) from (if_neg h45).trans (if_pos h48)] at hgo
      have ham : S2.1 39 = numV (S0.2.1 17) (e - s) s 0 := by
        rcases hT.num with ⟨-, -, z⟩ | ⟨-, z⟩
        · rw [z, h172]
        · exact absurd h48 z
      have hnm : nmd S2 c k s e = -1 := by
        unfold nmd
        rw [if_neg (fun z => by rw [isLt_97 z] at h48; exact absurd h48 (by decide))]
      refine nx_rI (m_M_next_12 K (d - 1) (by omega) S2 J _ (isInt_rI _ _) hop) (hT.keep (((frM.rf [] [26, 27] S2).s2 (by decide) _).s2 (by decide) _) (by decide)) (fun q => absurd q (by decide)) (fun _ q => absurd q h46k) (fun _ _ => hgo e _ hr he (hf2.pt1 _ _) ⟨hE0 S2 _ (((frY.rf [26, 27] S2).s2 (by decide) _).s2 (by decide) _) hE2, (pt1_a S2 g _ _).trans hnm, ?_⟩)
      rw [← ham]
      exact pt1_b S2 g _ _
    · have hy2 : pOpd (S0.2.1 17) N c ((k, s, e) :: r) = (match pFld (S0.2.1 17) N c ((k, s, e) :: r) with | .inl (f, r1) => .inl (.inl f, r1) | .inr p => .inr p) := (if_neg h45).trans (if_neg h48)
      rcases nmd_neg (S := S2) (N := N) (c := c) (by rw [h132]; exact hN) h6 (k := k) (s := s) (e := e) r with ⟨hz, hpf⟩ | ⟨hz, f, hnf, hpf⟩
      · rw [if_pos ⟨h48, hz⟩] at hop
        rw [h172] at hpf
        rw [hy2, hpf] at hgo
        exact nx_rI (m_M_next_12 K (d - 1) (by omega) S2 J _ (isInt_rI _ _) hop) hT (fun _ => hgo S2 hf2) (fun q => absurd rfl q) (fun q => absurd rfl q)
      · rw [if_neg (fun q => hz q.2)] at hop
        rw [h172] at hpf
        rw [hy2, hpf] at hgo
        have h46k := (pFld_46 hpf).1
        obtain ⟨he, hr⟩ := tokL_nx (S0.2.1 17) n (n - p) p (Nat.le_refl _) hpn hp h46k
        exact nx_rI (m_M_next_12 K (d - 1) (by omega) S2 J _ (isInt_rI _ _) hop) (hT.keep (((frM.rf [] [26, 27] S2).s2 (by decide) _).s2 (by decide) _) (by decide)) (fun q => absurd q (by decide)) (fun _ q => absurd q h46k) (fun _ _ => hgo e _ hr he (hf2.pt1 _ _) ⟨hE0 S2 _ (((frY.rf [26, 27] S2).s2 (by decide) _).s2 (by decide) _) hE2, (pt1_a S2 g _ _).trans hnf⟩)
/-- what comes behind a whole change -/
def aft (K : jK) (d : Nat) (J : jH) (Q : jO → jH → Prop) (S0 : jS) (n g : Nat) (S1 : jS) (G : jS → Prop) (r : List Tok) : Prop := match r with
  | [] => True
  | (k, s, e) :: r6 => (g = 0 ∧ k = 44 → ∀ (p : Nat) (S : jS), tokL (S0.2.1 17) n p = r6 → p ≤ n → frG g S1 S → G S → Rd K d J Q 7 p (s1 S 46 1)) ∧ (k = 46 → ∀ S, frG g S1 S → G S → Q (.inl (some (.int (-1)))) (lay S ++ J)) ∧ (¬ (g = 0 ∧ k = 44) → ¬ k = 46 → gB J Q g S1 s)
theorem ac_go {K : jK} {d : Nat} {J : jH} {Q : jO → jH → Prop} {S0 : jS} {n : Nat} {g : Nat} {S1 S2 S3 : jS} {G : jS → Prop} {k st : Int32} {s e : Nat} {r : List Tok} (hM : jM K M_M_next (d - 1) [.ref 59, .int st] (lay S3 ++ J) (acQ S2 J k g) 0 0) (hT : Tk S2 n k s e) (hf : frG g S1 S2) (hG : G S2) (htl : ¬ k = 46 → e ≤ n ∧ tokL (S0.2.1 17) n e = r) (ha : aft K d J Q S0 n g S1 G ((k, s, e) :: r)) : jM K M_M_next (d - 1) [.ref 59, .int st] (lay S3 ++ J) (nxQ K d J n k s e Q) 0 0 := by
  unfold acQ at hM
  obtain ⟨a1, a2, a3⟩ := ha
  by_cases h1 : g = 0 ∧ k = 44
  · rw [if_pos h1] at hM
    have h46 : ¬ k = 46 := by rw [h1.2]; decide
    exact nx_rI hM (hT.keep ((frM.rf [46] [] S2).s1 (by decide) _) (by decide)) (fun q => absurd q (by decide)) (fun _ q => absurd q h46) (fun _ _ => a1 h1 e S2 (htl h46).2 (htl h46).1 hf hG)
  · rw [if_neg h1] at hM
    by_cases h2 : k = 46
    · rw [if_pos h2] at hM
      exact nx_rI hM hT (fun q => absurd q (by decide)) (fun _ _ => a2 h2 S2 hf hG) (fun _ q => absurd h2 q)
    · rw [if_neg h2] at hM
      exact nx_rI hM hT (fun _ => a3 h1 h2 S2 hf) (fun q => absurd rfl q) (fun q => absurd rfl q)
theorem mG_end {K : jK} {d : Nat} {J : jH} {Q : jO → jH → Prop} {S0 : jS} {n c : Nat} (hd : 8 ≤ d) (hok : RdOk S0 n c) {g : Nat} (hg : g < 2) {S1 : jS} (hf1 : frC S0 S1) (h46 : S1.1 46 = nI g) {r0 : List Tok} {E : jS → Prop} (hE0 : ∀ S S', S'.2.1 = S.2.1 → E S → E S') (hgo : aft K d J Q S0 n g S1 E r0) : gR K d J Q S0 n g S1 14 r0 E := by
  intro p S hp hpn hf hE
  cases r0 with
  | nil => exact absurd hp (tokL_ne _ n (n - p) p (Nat.le_refl _) hpn)
  | cons q0 r =>
  obtain ⟨k, s, e⟩ := q0
  have hfC := frG.c hf1 hf
  have hT17 : S.2.1 17 = S0.2.1 17 := hfC.2.1 17 (by decide)
  have h6 := hok.2.2.2.2.2
  refine rd_step K d (by omega) S J Q n c p (hfC.ok hok) hpn 14 k s e r (by rw [hT17]; exact hp) (fun _ q => absurd q (by decide)) (fun q S2 hs => hgo.2.2 (fun z => by rw [q] at z; exact absurd z.2 (by decide)) (by rw [q]; decide) S2 (hf.sc hs)) (fun _ h63 S2 hs hT => ?_)
  have hf2 := hf.sc hs
  have hf2C := frG.c hf1 hf2
  have h172 : S2.2.1 17 = S0.2.1 17 := hf2C.2.1 17 (by decide)
  have h132 : S2.2.1 13 = S0.2.1 13 := hf2C.2.1 13 (by decide)
  have hok2 := hf2C.ok hok
  have h462 : S2.1 46 = nI g := (hf2.1 46 (by decide)).trans h46
  exact ac_go (m_M_next_14 K (d - 1) (by omega) S2 J _ (isInt_ac _ _ _ _) (m_M_afterChange K (d - 1 - 1) (by omega) S2 J n k s e hT c hok2.2.2.2.2.1 h6 g hg h462)) hT hf2 (hE0 S S2 hs.ar hE) (fun q => tokL_nx (S0.2.1 17) n (n - p) p (Nat.le_refl _) hpn hp q) hgo
/-- behind the first operand -/
theorem mG_fst {K : jK} {d : Nat} {J : jH} {Q : jO → jH → Prop} {S0 : jS} {n c : Nat} (hd : 8 ≤ d) (hok : RdOk S0 n c) {g : Nat} (hg : g < 2) {S1 : jS} (hf1 : frC S0 S1) (h46 : S1.1 46 = nI g) {N : Nat → Int32} (hN : ∀ ch, fdL (S0.2.1 13) ch c 0 (-1) = ixOf N ch c 0) {r0 : List Tok} {f : Nat} {x : Opd} (hgo : cF (fun k r4 => if k = 32 then aft K d J Q S0 n g S1 (isMC g (f, x, 32, .inr 0)) r4 else cF (fun y r5 => aft K d J Q S0 n g S1 (isMC g (f, x, k, y)) r5) (gB J Q g S1) (pOpd (S0.2.1 17) N c r4)) (gB J Q g S1) (pSgn 43 45 42 r0)) : gR K d J Q S0 n g S1 11 r0 (fun S => S.2.1 22 g = nI f ∧ mO 23 24 g x S) := by
  intro p S hp hpn hf hE
  cases r0 with
  | nil => exact absurd hp (tokL_ne _ n (n - p) p (Nat.le_refl _) hpn)
  | cons q0 r =>
  obtain ⟨k, s, e⟩ := q0
  have hfC := frG.c hf1 hf
  have hT17 : S.2.1 17 = S0.2.1 17 := hfC.2.1 17 (by decide)
  have h6 := hok.2.2.2.2.2
  refine rd_step K d (by omega) S J Q n c p (hfC.ok hok) hpn 11 k s e r (by rw [hT17]; exact hp) (fun _ q => absurd q (by decide)) (fun q S2 hs => ?_) (fun _ h63 S2 hs hT => ?_)
  · rw [pSgn, if_neg (by rw [q]; decide)] at hgo
    have hgo : aft K d J Q S0 n g S1 (isMC g (f, x, 32, .inr 0)) ((k, s, e) :: r) := hgo
    exact hgo.2.2 (fun z => by rw [q] at z; exact absurd z.2 (by decide)) (by rw [q]; decide) S2 (hf.sc hs)
  have hf2 := hf.sc hs
  have hf2C := frG.c hf1 hf2
  have h172 : S2.2.1 17 = S0.2.1 17 := hf2C.2.1 17 (by decide)
  have h132 : S2.2.1 13 = S0.2.1 13 := hf2C.2.1 13 (by decide)
  have hok2 := hf2C.ok hok
  have h462 : S2.1 46 = nI g := (hf2.1 46 (by decide)).trans h46
  have hfi := m_M_afterFirst K (d - 1 - 1) (by omega) S2 J n k s e hT c hok2.2.2.2.2.1 h6 g hg h462
  unfold fiQ at hfi
  have hE2 : S2.2.1 22 g = nI f ∧ mO 23 24 g x S2 := by
    rw [hs.ar]
    exact ⟨hE.1, hE.2.keep (by rw [hs.ar]) (by rw [hs.ar])⟩
  have w22 : ∀ v, (s2 S2 25 (upd (S2.2.1 25) g v)).2.1 22 g = nI f := fun v => hE2.1
  have w23 : ∀ v, mO 23 24 g x (s2 S2 25 (upd (S2.2.1 25) g v)) := fun v => hE2.2.keep rfl rfl
  have w25 : ∀ v, (s2 S2 25 (upd (S2.2.1 25) g v)).2.1 25 g = v := fun v => if_pos rfl
  by_cases hor : k = 43 ∨ k = 45 ∨ k = 42
  · rw [if_pos hor] at hfi
    rw [pSgn, if_pos hor] at hgo
    have k32 : ¬ k = 32 := by rcases hor with q | q | q <;> rw [q] <;> decide
    have hgo : (if k = 32 then aft K d J Q S0 n g S1 (isMC g (f, x, 32, .inr 0)) r else cF (fun y r5 => aft K d J Q S0 n g S1 (isMC g (f, x, k, y)) r5) (gB J Q g S1) (pOpd (S0.2.1 17) N c r)) := hgo
    rw [if_neg k32] at hgo
    have h46k : ¬ k = 46 := by rcases hor with q | q | q <;> rw [q] <;> decide
    obtain ⟨he, hr⟩ := tokL_nx (S0.2.1 17) n (n - p) p (Nat.le_refl _) hpn hp h46k
    refine nx_rI (m_M_next_11 K (d - 1) (by omega) S2 J _ (isInt_rI _ _) hfi) (hT.keep ((frM.rf [] [25] S2).s2 (by decide) _) (by decide)) (fun q => absurd q (by decide)) (fun _ q => absurd q h46k) (fun _ _ => ?_)
    refine mG_opd_12 hd hok hg hf1 h46 hN (E := fun S => S.2.1 22 g = nI f ∧ mO 23 24 g x S ∧ S.2.1 25 g = hwc k) (fun A B hAB hA => ?_) ?_ e _ hr he (hf2.up (by decide) _) ⟨w22 _, w23 _, w25 _⟩
    · exact ⟨(congrFun (hAB.2 22 (by decide)) g).trans hA.1, hA.2.1.keep (congrFun (hAB.2 23 (by decide)) g) (congrFun (hAB.2 24 (by decide)) g), (congrFun (hAB.2 25 (by decide)) g).trans hA.2.2⟩
    · cases hy : pOpd (S0.2.1 17) N c r with
      | inr q => rw [hy] at hgo; exact hgo
      | inl yr =>
        obtain ⟨y, r5⟩ := yr
        rw [hy] at hgo
        have hgo : aft K d J Q S0 n g S1 (isMC g (f, x, k, y)) r5 := hgo
        have := mG_end hd hok hg hf1 h46 (E := isMC g (f, x, k, y)) (fun A B hAB hA => hA.keep (fun i => by rw [hAB])) hgo
        intro p' S' h1 h2 h3 h4
        exact this p' S' h1 h2 h3 ⟨h4.1.1, h4.1.2.1, h4.1.2.2, .inr h4.2⟩
  · rw [if_neg hor] at hfi
    rw [pSgn, if_neg hor] at hgo
    have hgo : aft K d J Q S0 n g S1 (isMC g (f, x, 32, .inr 0)) ((k, s, e) :: r) := hgo
    exact ac_go (m_M_next_11 K (d - 1) (by omega) S2 J _ (isInt_ac _ _ _ _) hfi) (hT.keep ((frM.rf [] [25] S2).s2 (by decide) _) (by decide)) (hf2.up (by decide) _) ⟨w22 _, w23 _, w25 _, .inl rfl⟩ (fun q => tokL_nx (S0.2.1 17) n (n - p) p (Nat.le_refl _) hpn hp q) hgo
/-- a whole change -/
theorem mG_chg {K : jK} {d : Nat} {J : jH} {Q : jO → jH → Prop} {S0 : jS} {n c : Nat} (hd : 8 ≤ d) (hok : RdOk S0 n c) {g : Nat} (hg : g < 2) {S1 : jS} (hf1 : frC S0 S1) (h46 : S1.1 46 = nI g) {N : Nat → Int32} (hN : ∀ ch, fdL (S0.2.1 13) ch c 0 (-1) = ixOf N ch c 0) {r0 : List Tok} (hgo : cF (fun z r5 => aft K d J Q S0 n g S1 (isMC g z) r5) (gB J Q g S1) (pChg (S0.2.1 17) N c r0)) : gR K d J Q S0 n g S1 7 r0 (fun _ => True) := by
  refine mG_tgt hd hok hg hf1 h46 hN ?_
  cases h1 : pFld (S0.2.1 17) N c r0 with
  | inr q =>
    rw [show pChg (S0.2.1 17) N c r0 = .inr q by unfold pChg; rw [h1]] at hgo
    exact hgo
  | inl fr =>
    obtain ⟨f, r1⟩ := fr
    refine mG_bec hd hok hg hf1 h46 (E := fun S => S.2.1 22 g = nI f) (fun A B hAB hA => by rw [hAB]; exact hA) ?_
    cases h2 : pPass 61 r1 with
    | inr q =>
      rw [show pChg (S0.2.1 17) N c r0 = .inr q by unfold pChg; rw [h1]; simp only; rw [h2]] at hgo
      exact hgo
    | inl ur =>
      obtain ⟨u, r2⟩ := ur
      refine mG_opd_9 hd hok hg hf1 h46 hN (E := fun S => S.2.1 22 g = nI f) (fun A B hAB hA => (congrFun (hAB.2 22 (by decide)) g).trans hA) ?_
      cases h3 : pOpd (S0.2.1 17) N c r2 with
      | inr q =>
        rw [show pChg (S0.2.1 17) N c r0 = .inr q by unfold pChg; rw [h1]; simp only; rw [h2]; simp only; rw [h3]] at hgo
        exact hgo
      | inl xr =>
        obtain ⟨x, r3⟩ := xr
        refine mG_fst hd hok hg hf1 h46 hN ?_
        cases h4 : pSgn 43 45 42 r3 with
        | inr q =>
          rw [show pChg (S0.2.1 17) N c r0 = .inr q by unfold pChg; rw [h1]; simp only; rw [h2]; simp only; rw [h3]; simp only; rw [h4]] at hgo
          exact hgo
        | inl kr =>
          obtain ⟨k, r4⟩ := kr
          show (if k = 32 then aft K d J Q S0 n g S1 (isMC g (f, x, 32, .inr 0)) r4 else cF (fun y r5 => aft K d J Q S0 n g S1 (isMC g (f, x, k, y)) r5) (gB J Q g S1) (pOpd (S0.2.1 17) N c r4))
          by_cases h32 : k = 32
          · rw [if_pos h32]
            rw [show pChg (S0.2.1 17) N c r0 = .inl ((f, x, 32, .inr 0), r4) by unfold pChg; rw [h1]; simp only; rw [h2]; simp only; rw [h3]; simp only; rw [h4]; simp only; rw [if_pos h32]] at hgo
            exact hgo
          · rw [if_neg h32]
            cases h5 : pOpd (S0.2.1 17) N c r4 with
            | inr q =>
              rw [show pChg (S0.2.1 17) N c r0 = .inr q by unfold pChg; rw [h1]; simp only; rw [h2]; simp only; rw [h3]; simp only; rw [h4]; simp only; rw [if_neg h32, h5]] at hgo
              exact hgo
            | inl yr =>
              obtain ⟨y, r5⟩ := yr
              rw [show pChg (S0.2.1 17) N c r0 = .inl ((f, x, k, y), r5) by unfold pChg; rw [h1]; simp only; rw [h2]; simp only; rw [h3]; simp only; rw [h4]; simp only; rw [if_neg h32, h5]] at hgo
              exact hgo
