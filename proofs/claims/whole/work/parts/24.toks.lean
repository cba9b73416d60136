/-! tokens: kind, begin, end -/
abbrev Tok : Type := Int32 × Nat × Nat
def btw (lo c hi : Int32) : Bool := decide (lo ≤ c) && decide (c ≤ hi)
abbrev isL (c : Int32) : Bool := btw 97 c 122
abbrev isD (c : Int32) : Bool := btw 48 c 57
def isSg (c : Int32) : Bool := decide (0 ≤ ixOf (txc 7) c.toInt8.toInt32 12 0)
def tEnd (P : Int32 → Bool) (T : Nat → Int32) : Nat → Nat → Nat
  | 0, i => i
  | k + 1, i => if P (T i) then tEnd P T k (i + 1) else i
theorem tEnd_ge (P : Int32 → Bool) (T : Nat → Int32) : ∀ k i, i ≤ tEnd P T k i
  | 0, i => Nat.le_refl i
  | k + 1, i => by
    unfold tEnd
    split
    · exact Nat.le_trans (Nat.le_succ i) (tEnd_ge P T k (i + 1))
    · exact Nat.le_refl i
theorem tEnd_le (P : Int32 → Bool) (T : Nat → Int32) : ∀ k i, tEnd P T k i ≤ i + k
  | 0, i => Nat.le_refl i
  | k + 1, i => by
    unfold tEnd
    split
    · have := tEnd_le P T k (i + 1); omega
    · omega
def tokE (T : Nat → Int32) (n i : Nat) : Nat := if isL (T i) then tEnd isL T (n - i) i else if isD (T i) then tEnd isD T (n - i) i else i + 1
def tokK (T : Nat → Int32) (n i : Nat) : Int32 := if isL (T i) then 97 else if isD (T i) then (if tokE T n i - i ≤ 3 then 48 else 63) else if isSg (T i) then T i else 63
theorem tEnd_gt (P : Int32 → Bool) (T : Nat → Int32) {k i : Nat} (hk : 0 < k) (h : P (T i) = true) : i < tEnd P T k i := by
  cases k with
  | zero => omega
  | succ k =>
    unfold tEnd
    rw [if_pos h]
    exact tEnd_ge P T k (i + 1)
theorem tokE_gt (T : Nat → Int32) {n i : Nat} (h : i < n) : i < tokE T n i := by
  unfold tokE
  split
  · rename_i hl; exact tEnd_gt _ _ (by omega) hl
  · split
    · rename_i hd; exact tEnd_gt _ _ (by omega) hd
    · omega
theorem tokE_le (T : Nat → Int32) {n i : Nat} (h : i < n) : tokE T n i ≤ n := by
  unfold tokE
  split
  · have := tEnd_le isL T (n - i) i; omega
  · split
    · have := tEnd_le isD T (n - i) i; omega
    · omega
/-- the tokens from i on; the last is the end -/
def tokL (T : Nat → Int32) (n i : Nat) : List Tok :=
  if h : n ≤ i then [(46, n, n)] else if T i = 32 then tokL T n (i + 1) else
    have : i < tokE T n i := tokE_gt T (Nat.lt_of_not_le h)
    (tokK T n i, i, tokE T n i) :: tokL T n (tokE T n i)
termination_by n - i
theorem tokL_end (T : Nat → Int32) {n i : Nat} (h : n ≤ i) : tokL T n i = [(46, n, n)] := by rw [tokL, dif_pos h]
theorem tokL_blank (T : Nat → Int32) {n i : Nat} (h : i < n) (hb : T i = 32) : tokL T n i = tokL T n (i + 1) := by rw [tokL, dif_neg (by omega), if_pos hb]
theorem tokL_tok (T : Nat → Int32) {n i : Nat} (h : i < n) (hb : ¬ T i = 32) : tokL T n i = (tokK T n i, i, tokE T n i) :: tokL T n (tokE T n i) := by rw [tokL, dif_neg (by omega), if_neg hb]
theorem tokL_len (T : Nat → Int32) (n : Nat) : ∀ (k i : Nat), n - i ≤ k → i ≤ n → (tokL T n i).length ≤ n - i + 1
  | 0, i, hk, hi => by rw [tokL_end T (by omega)]; simp
  | k + 1, i, hk, hi => by
    by_cases h : i < n
    · by_cases hb : T i = 32
      · rw [tokL_blank T h hb]
        have := tokL_len T n k (i + 1) (by omega) (by omega)
        omega
      · rw [tokL_tok T h hb]
        have h1 := tokE_gt T h
        have h2 := tokE_le T h
        have := tokL_len T n k (tokE T n i) (by omega) h2
        simp only [List.length_cons]
        omega
    · rw [tokL_end T (by omega)]; simp
/-- the arrays hold these tokens -/
def TokA (L : List Tok) (f6 f7 f8 : Nat → Int32) : Prop := ∀ j q, L[j]? = some q → f6 j = q.1 ∧ f7 j = nI q.2.1 ∧ f8 j = nI q.2.2
theorem TokA.app {P : List Tok} {f6 f7 f8 : Nat → Int32} (h : TokA P f6 f7 f8) (q : Tok) : TokA (P ++ [q]) (upd f6 P.length q.1) (upd f7 P.length (nI q.2.1)) (upd f8 P.length (nI q.2.2)) := by
  intro j r hr
  by_cases hj : j < P.length
  · rw [List.getElem?_append_left hj] at hr
    have hne : j ≠ P.length := by omega
    simpa [upd, hne] using h j r hr
  · rw [List.getElem?_append_right (by omega)] at hr
    have hlt := (List.getElem?_eq_some_iff.mp hr).1
    simp at hlt
    have e : j = P.length := by omega
    subst e
    simp at hr
    subst hr
    simp [upd]
/-- the text's characters -/
def txOk (T : Nat → Int32) (n : Nat) : Prop := ∀ j, j < n → ∃ m : Nat, 32 ≤ m ∧ m ≤ 126 ∧ T j = nI m
