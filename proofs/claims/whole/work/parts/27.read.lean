/-! the reader's stand before the tokens that are left; what it reads -/
theorem j_une {α : Type} {f : Nat → α} {i j : Nat} {v : α} (h : ¬ j = i) : va_up f i v j = f j := by unfold va_up; exact if_neg h
theorem j_ueq {α : Type} (f : Nat → α) (i : Nat) (v : α) : va_up f i v i = v := by unfold va_up; exact if_pos rfl
theorem isSg_46 {x : Int32} (h : isSg x = true) : ¬ x = 46 := by
  intro e; subst e
  exact absurd h (by decide)
theorem tokK_46 (T : Nat → Int32) (n i : Nat) : ¬ tokK T n i = 46 := by
  unfold tokK
  split
  · decide
  · split
    · split <;> decide
    · split
      · rename_i h; exact isSg_46 h
      · decide
/-- what a token of the text is -/
theorem tokL_all (T : Nat → Int32) (n : Nat) : ∀ (k i : Nat), n - i ≤ k → i ≤ n → ∀ q ∈ tokL T n i, q.2.1 ≤ q.2.2 ∧ q.2.2 ≤ n ∧ (¬ q.1 = 46 → q.2.1 < n)
  | 0, i, hk, hi => by
    rw [tokL_end T (by omega)]
    intro q hq
    rw [List.mem_singleton.mp hq]
    exact ⟨Nat.le_refl _, Nat.le_refl _, fun h => absurd rfl h⟩
  | k + 1, i, hk, hi => by
    by_cases h : i < n
    · by_cases hb : T i = 32
      · rw [tokL_blank T h hb]; exact tokL_all T n k (i + 1) (by omega) (by omega)
      · rw [tokL_tok T h hb]
        have h1 := tokE_gt T h
        have h2 := tokE_le T h
        intro q hq
        rcases List.mem_cons.mp hq with e | e
        · subst e; exact ⟨Nat.le_of_lt h1, h2, fun _ => h⟩
        · exact tokL_all T n k (tokE T n i) (by omega) h2 q e
    · rw [tokL_end T (by omega)]
      intro q hq
      rw [List.mem_singleton.mp hq]
      exact ⟨Nat.le_refl _, Nat.le_refl _, fun h => absurd rfl h⟩
theorem tokL_ne (T : Nat → Int32) (n : Nat) : ∀ (k i : Nat), n - i ≤ k → i ≤ n → ¬ tokL T n i = []
  | 0, i, hk, hi => by rw [tokL_end T (by omega)]; exact fun e => by cases e
  | k + 1, i, hk, hi => by
    by_cases h0 : i < n
    · by_cases hb : T i = 32
      · rw [tokL_blank T h0 hb]; exact tokL_ne T n k (i + 1) (by omega) (by omega)
      · rw [tokL_tok T h0 hb]; exact fun e => by cases e
    · rw [tokL_end T (by omega)]; exact fun e => by cases e
/-- only the last token is the end -/
theorem tokL_last (T : Nat → Int32) (n : Nat) : ∀ (k i : Nat), n - i ≤ k → i ≤ n → ∀ (a : Nat) (q : Tok) (r : List Tok), (tokL T n i).drop a = q :: r → (q.1 = 46 ↔ r = [])
  | 0, i, hk, hi, a, q, r, h => by
    rw [tokL_end T (by omega)] at h
    cases a with
    | zero => cases h; exact ⟨fun _ => rfl, fun _ => rfl⟩
    | succ a => simp at h
  | k + 1, i, hk, hi, a, q, r, h => by
    by_cases h0 : i < n
    · by_cases hb : T i = 32
      · rw [tokL_blank T h0 hb] at h; exact tokL_last T n k (i + 1) (by omega) (by omega) a q r h
      · rw [tokL_tok T h0 hb] at h
        have h1 := tokE_gt T h0
        have h2 := tokE_le T h0
        cases a with
        | zero =>
          simp only [List.drop_zero, List.cons.injEq] at h
          obtain ⟨rfl, rfl⟩ := h
          refine ⟨fun e => absurd e (tokK_46 T n i), fun e => ?_⟩
          exact absurd e (tokL_ne T n (n - tokE T n i) (tokE T n i) (Nat.le_refl _) h2)
        | succ a => exact tokL_last T n k (tokE T n i) (by omega) h2 a q r (by simpa using h)
    · rw [tokL_end T (by omega)] at h
      cases a with
      | zero => cases h; exact ⟨fun _ => rfl, fun _ => rfl⟩
      | succ a => simp at h
/-- the same but for these numbers -/
def frm (X : List Nat) (S S' : jS) : Prop := (∀ i, ¬ i ∈ X → S'.1 i = S.1 i) ∧ S'.2 = S.2
theorem frm.rf (X : List Nat) (S : jS) : frm X S S := ⟨fun _ _ => rfl, rfl⟩
theorem frm.tr {X : List Nat} {A B C : jS} (h : frm X A B) (g : frm X B C) : frm X A C := ⟨fun i hi => (g.1 i hi).trans (h.1 i hi), g.2.trans h.2⟩
theorem frm.up {X Y : List Nat} {A B : jS} (hs : ∀ i, i ∈ X → i ∈ Y) (h : frm X A B) : frm Y A B := ⟨fun i hi => h.1 i (fun q => hi (hs i q)), h.2⟩
theorem frm.s1 {X : List Nat} {A B : jS} (h : frm X A B) {i : Nat} (hi : i ∈ X) (v : Int32) : frm X A (s1 B i v) := ⟨fun j hj => (j_une (i := i) (j := j) (fun e => hj (by rw [e]; exact hi))).trans (h.1 j hj), h.2⟩
/-- the reader stands before r -/
def Rdr (S : jS) (n c : Nat) (r : List Tok) : Prop :=
  S.1 6 = nI n ∧ n ≤ 100 ∧ chOk (S.2.1 5) ∧ txOk (S.2.1 5) n ∧ S.1 2 = nI c ∧ c ≤ 6 ∧ S.1 11 = nI (tokL (S.2.1 5) n 0).length ∧ TokA (tokL (S.2.1 5) n 0) (S.2.1 6) (S.2.1 7) (S.2.1 8) ∧
  ∃ a, S.1 12 = nI a ∧ (tokL (S.2.1 5) n 0).drop a = r ∧ a < (tokL (S.2.1 5) n 0).length
theorem Rdr.keep {S S' : jS} {n c : Nat} {r : List Tok} {X : List Nat} (h : Rdr S n c r) (f : frm X S S') (hX : (X.contains 6 || X.contains 2 || X.contains 11 || X.contains 12) = false) : Rdr S' n c r := by
  obtain ⟨h1, h2, h3, h4, h5, h6, h7, h8, a, h9, h10, h11⟩ := h
  obtain ⟨f1, f2⟩ := f
  simp only [Bool.or_eq_false_iff, List.contains_eq_mem, decide_eq_false_iff_not] at hX
  obtain ⟨⟨⟨x6, x2⟩, x11⟩, x12⟩ := hX
  unfold Rdr
  rw [f2, f1 6 x6, f1 2 x2, f1 11 x11, f1 12 x12]
  exact ⟨h1, h2, h3, h4, h5, h6, h7, h8, a, h9, h10, h11⟩
/-- what the reader sees -/
theorem Rdr.cur {S : jS} {n c : Nat} {r : List Tok} (h : Rdr S n c r) : ∃ (a : Nat) (k : Int32) (s e : Nat) (r1 : List Tok), r = (k, s, e) :: r1 ∧ S.1 12 = nI a ∧ a < 101 ∧ S.2.1 6 a = k ∧ S.2.1 7 a = nI s ∧ S.2.1 8 a = nI e ∧ s ≤ e ∧ e ≤ n ∧ (¬ k = 46 → s < n ∧ a + 1 < (tokL (S.2.1 5) n 0).length ∧ Rdr (s1 S 12 (nI (a + 1))) n c r1) := by
  obtain ⟨h1, h2, h3, h4, h5, h6, h7, h8, a, h9, h10, h11⟩ := h
  have hl := tokL_len (S.2.1 5) n (n - 0) 0 (Nat.le_refl _) (Nat.zero_le _)
  obtain ⟨q, hq⟩ : ∃ q, (tokL (S.2.1 5) n 0)[a]? = some q := ⟨_, List.getElem?_eq_getElem h11⟩
  have hd : (tokL (S.2.1 5) n 0).drop a = q :: (tokL (S.2.1 5) n 0).drop (a + 1) := by
    rw [List.drop_eq_getElem_cons h11]
    rw [List.getElem?_eq_getElem h11] at hq
    rw [Option.some.inj hq]
  obtain ⟨k, s, e⟩ := q
  obtain ⟨g1, g2, g3⟩ := h8 a _ hq
  obtain ⟨t1, t2, t3⟩ := tokL_all (S.2.1 5) n (n - 0) 0 (Nat.le_refl _) (Nat.zero_le _) _ (List.mem_of_getElem? hq)
  refine ⟨a, k, s, e, (tokL (S.2.1 5) n 0).drop (a + 1), by rw [← h10, hd], h9, by omega, g1, g2, g3, t1, t2, fun hk => ⟨t3 hk, ?_, ?_⟩⟩
  · have hn : ¬ (tokL (S.2.1 5) n 0).drop (a + 1) = [] := fun e => hk ((tokL_last (S.2.1 5) n (n - 0) 0 (Nat.le_refl _) (Nat.zero_le _) a _ _ hd).mpr e)
    have := List.length_pos_iff.mpr hn
    rw [List.length_drop] at this
    omega
  · have hn : ¬ (tokL (S.2.1 5) n 0).drop (a + 1) = [] := fun e => hk ((tokL_last (S.2.1 5) n (n - 0) 0 (Nat.le_refl _) (Nat.zero_le _) a _ _ hd).mpr e)
    have := List.length_pos_iff.mpr hn
    rw [List.length_drop] at this
    exact ⟨h1, h2, h3, h4, h5, h6, h7, h8, a + 1, rfl, rfl, show a + 1 < (tokL (S.2.1 5) n 0).length by omega⟩
theorem ixOf_two (f : Nat → Int32) (c : Int32) : ∀ (k i : Nat), ixOf f c k i = -1 ∨ ∃ j : Nat, i ≤ j ∧ j < i + k ∧ ixOf f c k i = nI j
  | 0, i => .inl rfl
  | k + 1, i => by
    unfold ixOf
    split
    · exact .inr ⟨i, Nat.le_refl _, by omega, rfl⟩
    · rcases ixOf_two f c k (i + 1) with h | ⟨j, h1, h2, h3⟩
      · exact .inl h
      · exact .inr ⟨j, by omega, by omega, h3⟩
abbrev Rs (α : Type) : Type := (α × List Tok) ⊕ Nat
abbrev Opd : Type := Nat ⊕ Int32
/-- a field: its number -/
def pFld (T N : Nat → Int32) (c : Nat) : List Tok → Rs Nat
  | [] => .inr 0
  | (k, s, e) :: r => if isLt k s e = true then (if ixOf N (T s) c 0 = -1 then .inr s else .inl ((ixOf N (T s) c 0).toNatClampNeg, r)) else .inr s
def pOpd (T N : Nat → Int32) (c : Nat) : List Tok → Rs Opd
  | [] => .inr 0
  | (k, s, e) :: r =>
    if k = 45 then (match r with
      | [] => .inr 0
      | (k2, s2, e2) :: r2 => if k2 = 48 then .inl (.inr (-(numV T (e2 - s2) s2 0)), r2) else .inr s2)
    else if k = 48 then .inl (.inr (numV T (e - s) s 0), r)
    else (match pFld T N c ((k, s, e) :: r) with | .inl (f, r1) => .inl (.inl f, r1) | .inr p => .inr p)
/-- how a piece of reading ends: what is read and what is left, or where it is wrong -/
def pst {α : Type} (n c : Nat) (X : List Nat) (S : jS) (J : jH) (Y : α → jO → jS → Prop) (x : Rs α) (o : jO) (h : jH) : Prop :=
  match x with
  | .inl (a, r) => ∃ S', h = lay S' ++ J ∧ frm X S S' ∧ Rdr S' n c r ∧ Y a o S'
  | .inr p => o = .inr 10 ∧ ∃ S', h = lay S' ++ J ++ [.inr (10, [])] ∧ frm (10 :: X) S S' ∧ S'.1 10 = nI p
section PST
variable {K : jK} {M : jR} {d pc : Nat} {ls : List (Nat × Value)} {st st0 : List Value} {h : jH} {Q : jO → jH → Prop} {mc ms : Nat}
theorem j_pst {α : Type} {n c : Nat} {X : List Nat} {S : jS} {J : jH} {Y : α → jO → jS → Prop} {x : Rs α} (hcall : jCall K M d pc ls st0 st h (pst n c X S J Y x) 0 0) (hh : M.2.2.2.2 = [])
    (hY : ∀ a k S', ¬ Y a (.inr k) S') (kr : ∀ a r v S', x = .inl (a, r) → frm X S S' → Rdr S' n c r → Y a (.inl v) S' → jE K M d (pc + 3) ls (v.toList ++ st) (lay S' ++ J) Q mc ms)
    (kt : ∀ p S', x = .inr p → frm (10 :: X) S S' → S'.1 10 = nI p → Q (.inr 10) (lay S' ++ J ++ [.inr (10, [])])) : jE K M d pc ls st0 h Q mc ms := by
  refine j_ret0 hcall hh (fun v g hq => ?_) (fun k g hq => ?_)
  · unfold pst at hq
    split at hq
    · obtain ⟨S', rfl, h1, h2, h3⟩ := hq
      exact kr _ _ v S' rfl h1 h2 h3
    · cases hq.1
  · unfold pst at hq
    split at hq
    · obtain ⟨S', rfl, h1, h2, h3⟩ := hq
      exact absurd h3 (hY _ _ _)
    · obtain ⟨h0, S', rfl, h1, h2⟩ := hq
      cases h0
      exact kt _ S' rfl h1 h2
end PST
