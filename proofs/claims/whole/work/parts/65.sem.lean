/-! what the orders of a condition mean, word by word -/
def rkn (o x y : Int32) : Int32 := if o = 1 then x ||| y else if o = 2 then x &&& y else if o = 7 then (if x < y then 1 else 0) else if o = 8 then (if x = y then 1 else 0) else (if y < x then 1 else 0)
/-- one order: what is on the stack behind it, its top first -/
def stO (V : Nat → Int32) (q : Int32 × Int32) (st : List Int32) : Option (List Int32) := if q.1 = 5 then some (V q.2.toNatClampNeg :: st) else if q.1 = 6 then some (q.2 :: st) else if q.1 = 3 then (match st with | x :: r => some ((1 - x) :: r) | [] => none) else match st with | y :: x :: r => some (rkn q.1 x y :: r) | _ => none
def evO (V : Nat → Int32) : List (Int32 × Int32) → List Int32 → Option (List Int32)
  | [], st => some st
  | q :: C, st => match stO V q st with | some st' => evO V C st' | none => none
theorem evO_app (V : Nat → Int32) : ∀ (C D : List (Int32 × Int32)) (st st' : List Int32), evO V C st = some st' → evO V (C ++ D) st = evO V D st'
  | [], D, st, st', h => by cases h; rfl
  | q :: C, D, st, st', h => by
    show (match stO V q st with | some st' => evO V (C ++ D) st' | none => none) = _
    unfold evO at h
    split at h
    · rename_i s1 hs
      exact evO_app V C D s1 st' h
    · cases h
/-- the fields that the orders name -/
def ord1 (c : Nat) (q : Int32 × Int32) : Prop := (q.1 = 5 ∧ ∃ f : Nat, f < c ∧ q.2 = nI f) ∨ q.1 = 6 ∨ q.1 = 3 ∨ (q.1 = 1 ∨ q.1 = 2 ∨ q.1 = 7 ∨ q.1 = 8 ∨ q.1 = 9)
def ordOk (c : Nat) (C : List (Int32 × Int32)) : Prop := ∀ q ∈ C, ord1 c q
/-- the condition's orders tell, for each word, if it is taken -/
def Sem (V : Nat → Nat → Int32) (c : Nat) (x : Cnd) : Prop := ordOk c x.1 ∧ ∀ w, w < 32 → ∀ st, evO (V w) x.1 st = some (b2i (bt x.2 w) :: st)
theorem b_msk (f : Nat → Int32) : ∀ (k i : Nat) (v : Int32), i + k ≤ 32 → ∀ w, w < 32 → bt (mskL f k i v) w = (bt v w || (decide (i ≤ w ∧ w < i + k) && !decide (f w = 0)))
  | 0, i, v, _, w, _ => by
    rw [mskL, decide_eq_false (by omega), Bool.false_and, Bool.or_false]
  | k + 1, i, v, h, w, hw => by
    rw [mskL, b_msk f k (i + 1) _ (by omega) w hw]
    by_cases hf : f i = 0
    · rw [if_pos hf]
      by_cases e : w = i
      · subst e
        simp [hf]
      · rw [show decide (i + 1 ≤ w ∧ w < i + 1 + k) = decide (i ≤ w ∧ w < i + (k + 1)) by rw [decide_eq_decide]; omega]
    · rw [if_neg hf, b_or, b_one (by omega) hw]
      by_cases e : w = i
      · subst e
        simp [hf]
      · rw [decide_eq_false e, Bool.or_false, show decide (i + 1 ≤ w ∧ w < i + 1 + k) = decide (i ≤ w ∧ w < i + (k + 1)) by rw [decide_eq_decide]; omega]
theorem pFld_ltc {T N : Nat → Int32} {c : Nat} {r r1 : List Tok} {f : Nat} (h : pFld T N c r = .inl (f, r1)) (h6 : c ≤ 6) : f < c := by
  unfold pFld at h
  split at h
  · cases h
  · rename_i k s e r2
    split at h
    · split at h
      · cases h
      · rename_i h2 h3
        rcases ixOf_two N (T s) c 0 with hi | ⟨j, -, hj, hi⟩
        · exact absurd hi h3
        · have := congrArg (fun x : Rs Nat => match x with | .inl (f, _) => f | .inr _ => 0) h
          simp only at this
          rw [hi, nI_clamp (by omega)] at this
          omega
    · cases h
def opOk (c : Nat) (x : Opd) : Prop := match x with
  | .inl f => f < c
  | .inr _ => True
theorem pOpd_ok {T N : Nat → Int32} {c : Nat} {r r1 : List Tok} {x : Opd} (h : pOpd T N c r = .inl (x, r1)) (h6 : c ≤ 6) : opOk c x := by
  unfold pOpd at h
  split at h
  · cases h
  · split at h
    · split at h
      · cases h
      · split at h
        · cases h; trivial
        · cases h
    · split at h
      · cases h; trivial
      · split at h
        · rename_i hf
          cases h
          exact pFld_ltc hf h6
        · cases h
theorem pCmp_ok {T N : Nat → Int32} {c : Nat} {r r1 : List Tok} {q : Int32 × Opd × Opd} (h : pCmp T N c r = .inl (q, r1)) (h6 : c ≤ 6) : (q.1 = 60 ∨ q.1 = 61 ∨ q.1 = 62) ∧ opOk c q.2.1 ∧ opOk c q.2.2 := by
  unfold pCmp at h
  split at h
  · cases h
  · cases h
  · rename_i h1
    split at h
    · rename_i hk
      split at h
      · rename_i h2
        cases h
        exact ⟨hk, pOpd_ok h1 h6, pOpd_ok h2 h6⟩
      · cases h
    · cases h
section SEM
variable {V : Nat → Nat → Int32} {A : Nat → Nat → Int32} {c : Nat}
theorem st_opc (hV : ∀ w, w < 32 → ∀ f, f < c → V w f = vval (A 1 f) (A 2 f) (A 3 f) (A 4 w)) (h6 : c ≤ 6) {x : Opd} (hx : opOk c x) {w : Nat} (hw : w < 32) (st : List Int32) : stO (V w) (opc x) st = some (ovl A x (A 4 w) :: st) := by
  cases x with
  | inl f =>
    have hx : f < c := hx
    show (if (5 : Int32) = 5 then some (V w (nI f).toNatClampNeg :: st) else _) = _
    rw [if_pos rfl, nI_clamp (by omega), hV w hw f hx]
    rfl
  | inr v => rfl
theorem tru_rkn {k : Int32} (h : k = 60 ∨ k = 61 ∨ k = 62) (x y : Int32) : rkn (relc k) x y = b2i (!decide (tru k x y = 0)) := by
  rcases h with rfl | rfl | rfl
  · show (if x < y then (1 : Int32) else 0) = b2i (!decide ((if x < y then (1 : Int32) else 0) = 0))
    split <;> rfl
  · show (if x = y then (1 : Int32) else 0) = b2i (!decide ((if x = y then (1 : Int32) else 0) = 0))
    split <;> rfl
  · show (if y < x then (1 : Int32) else 0) = b2i (!decide ((if y < x then (1 : Int32) else 0) = 0))
    split <;> rfl
theorem sem_cmp (hV : ∀ w, w < 32 → ∀ f, f < c → V w f = vval (A 1 f) (A 2 f) (A 3 f) (A 4 w)) (h6 : c ≤ 6) {q : Int32 × Opd × Opd} (hq : (q.1 = 60 ∨ q.1 = 61 ∨ q.1 = 62) ∧ opOk c q.2.1 ∧ opOk c q.2.2) : Sem V c (cmpC A q) := by
  obtain ⟨hk, h1, h2⟩ := hq
  refine ⟨?_, ?_⟩
  · have ok : ∀ x : Opd, opOk c x → ord1 c (opc x) := by
      intro x hx
      cases x with
      | inl f => exact .inl ⟨rfl, f, hx, rfl⟩
      | inr v => exact .inr (.inl rfl)
    intro p hp
    rcases List.mem_cons.mp hp with rfl | hp
    · exact ok _ h1
    · rcases List.mem_cons.mp hp with rfl | hp
      · exact ok _ h2
      · rcases List.mem_cons.mp hp with rfl | hp
        · refine .inr (.inr (.inr (.inr (.inr ?_))))
          rcases hk with e | e | e <;> rw [e]
          · exact .inl rfl
          · exact .inr (.inl rfl)
          · exact .inr (.inr rfl)
        · cases hp
  · intro w hw st
    show (match stO (V w) (opc q.2.1) st with | some st' => evO (V w) [opc q.2.2, (relc q.1, 0)] st' | none => none) = _
    rw [st_opc hV h6 h1 hw]
    show (match stO (V w) (opc q.2.2) (ovl A q.2.1 (A 4 w) :: st) with | some st' => evO (V w) [(relc q.1, 0)] st' | none => none) = _
    rw [st_opc hV h6 h2 hw]
    have e3 : stO (V w) (relc q.1, 0) (ovl A q.2.2 (A 4 w) :: ovl A q.2.1 (A 4 w) :: st) = some (rkn (relc q.1) (ovl A q.2.1 (A 4 w)) (ovl A q.2.2 (A 4 w)) :: st) := by
      rcases hk with e | e | e <;> rw [e] <;> rfl
    show (match stO (V w) (relc q.1, 0) (ovl A q.2.2 (A 4 w) :: ovl A q.2.1 (A 4 w) :: st) with | some st' => some st' | none => none) = _
    rw [e3, tru_rkn hk]
    show some (_ :: st) = some (b2i (bt (cmpV A q) w) :: st)
    unfold cmpV
    rw [b_msk _ 32 0 0 (by omega) w hw, b_0, Bool.false_or, decide_eq_true (p := 0 ≤ w ∧ w < 0 + 32) (by omega), Bool.true_and]
theorem sem_not {x : Cnd} (h : Sem V c x) : Sem V c (x.1 ++ [(3, 0)], x.2 ^^^ (-1)) := by
  refine ⟨?_, ?_⟩
  · intro p hp
    rcases List.mem_append.mp hp with hp | hp
    · exact h.1 p hp
    · rw [List.mem_singleton.mp hp]
      exact .inr (.inr (.inl rfl))
  · intro w hw st
    show evO (V w) (x.1 ++ [(3, 0)]) st = some (b2i (bt (x.2 ^^^ (-1)) w) :: st)
    rw [evO_app (V w) _ _ _ _ (h.2 w hw st), b_not _ hw]
    cases bt x.2 w <;> rfl
theorem sem_two {x y : Cnd} (hx : Sem V c x) (hy : Sem V c y) (o : Int32) (f : Int32 → Int32 → Int32) (g : Bool → Bool → Bool) (h5 : o = 1 ∨ o = 2) (hst : ∀ (W : Nat → Int32) (a b : Int32) (st : List Int32), stO W (o, 0) (b :: a :: st) = some (rkn o a b :: st)) (hf : ∀ w, w < 32 → bt (f x.2 y.2) w = g (bt x.2 w) (bt y.2 w)) (hg : ∀ a b : Bool, rkn o (b2i a) (b2i b) = b2i (g a b)) : Sem V c (x.1 ++ y.1 ++ [(o, 0)], f x.2 y.2) := by
  refine ⟨?_, ?_⟩
  · intro p hp
    rcases List.mem_append.mp hp with hp | hp
    · rcases List.mem_append.mp hp with hp | hp
      · exact hx.1 p hp
      · exact hy.1 p hp
    · rw [List.mem_singleton.mp hp]
      exact .inr (.inr (.inr (h5.imp id .inl)))
  · intro w hw st
    show evO (V w) (x.1 ++ y.1 ++ [(o, 0)]) st = some (b2i (bt (f x.2 y.2) w) :: st)
    rw [List.append_assoc, evO_app (V w) _ _ _ _ (hx.2 w hw st), evO_app (V w) _ _ _ _ (hy.2 w hw _)]
    show (match stO (V w) (o, 0) (b2i (bt y.2 w) :: b2i (bt x.2 w) :: st) with | some st' => some st' | none => none) = _
    rw [hst, hg, hf w hw]
def RS (V : Nat → Nat → Int32) (c : Nat) : PR := fun _ _ y => ∀ x r1, y = .inl (x, r1) → Sem V c x
def RL (V : Nat → Nat → Int32) (c : Nat) : PL := fun _ x _ y => Sem V c x → ∀ x' r1, y = .inl (x', r1) → Sem V c x'
theorem sem_one (hV : ∀ w, w < 32 → ∀ f, f < c → V w f = vval (A 1 f) (A 2 f) (A 3 f) (A 4 w)) (h6 : c ≤ 6) : Clo1 A c (RS V c) (RS V c) := by
  refine ⟨?_, ?_, ?_, ?_, ?_, ?_, ?_⟩
  · intro o k s e r _ _ x r1 h
    cases hp : pCmp (A 5) (A 0) c ((k, s, e) :: r) with
    | inl q =>
      rw [hp] at h
      cases h
      exact sem_cmp hV h6 (pCmp_ok hp h6)
    | inr q => rw [hp] at h; cases h
  · intro o k s e r _ _ x r1 h; cases h
  · intro o s e r x r1 _ h x' r' hx
    cases hx
    exact sem_not (h x r1 rfl)
  · intro o s e r p _ _ x r1 h; cases h
  · intro o s e r x s2 e2 r1 _ h x' r' hx
    cases hx
    exact h x _ rfl
  · intro o s e r x k2 s2 e2 r1 _ _ _ x' r' h; cases h
  · intro o s e r p _ _ x r1 h; cases h
theorem sem_chain (z o : Int32) (f : Int32 → Int32 → Int32) (hs : ∀ x y, Sem V c x → Sem V c y → Sem V c (x.1 ++ y.1 ++ [(o, 0)], f x.2 y.2)) : CloL z o f (RS V c) (RS V c) (RL V c) := by
  refine ⟨?_, ?_, ?_, ?_, ?_⟩
  · intro o r x r1 y h1 h3
    exact h3 (h1 x r1 rfl)
  · intro o r p _ x r1 h; cases h
  · intro o x k s e r _ hx x' r' h
    cases h
    exact hx
  · intro o x s e r y r1 q h1 h3 hx
    exact h3 (hs x y hx (h1 y r1 rfl))
  · intro o x s e r p _ _ x' r' h; cases h
theorem sem_and : CloL 38 2 (fun a b => a &&& b) (RS V c) (RS V c) (RL V c) :=
  sem_chain 38 2 _ (fun _ _ hx hy => sem_two hx hy 2 (fun a b => a &&& b) (fun a b => a && b) (.inr rfl) (fun _ _ _ _ => rfl) (fun w _ => b_and _ _ w) (by decide))
theorem sem_or : CloL 124 1 (fun a b => a ||| b) (RS V c) (RS V c) (RL V c) :=
  sem_chain 124 1 _ (fun _ _ hx hy => sem_two hx hy 1 (fun a b => a ||| b) (fun a b => a || b) (.inl rfl) (fun _ _ _ _ => rfl) (fun w _ => b_or _ _ w) (by decide))
theorem sem_all : Sem V c ([(6, 1)], -1) := ⟨fun p hp => by rw [List.mem_singleton.mp hp]; exact .inr (.inl rfl), fun w hw st => by rw [show bt (-1) w = true from b_m1 w hw]; rfl⟩
end SEM
