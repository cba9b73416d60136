/-! sets of words as an int -/
theorem b_1 (i : Nat) : bt 1 i = decide (i = 0) := by
  rcases Nat.lt_or_ge i 32 with h | h
  · exact (by decide +kernel : ∀ i, i < 32 → bt 1 i = decide (i = 0)) i h
  · rw [b_big h, decide_eq_false (by omega)]
theorem b_one {n i : Nat} (hn : n < 32) (hi : i < 32) : bt ((1 : Int32) <<< (nI n &&& 31)) i = decide (i = n) := by
  rw [b_shl n hn 1 hi, b_1]
  by_cases h : i = n
  · subst h; simp
  · by_cases h2 : n ≤ i
    · have : ¬ i - n = 0 := by omega
      simp [h, this]
    · simp [h, h2]
theorem b_not (x : Int32) {i : Nat} (hi : i < 32) : bt (x ^^^ (-1)) i = !bt x i := by
  rw [b_xor, b_m1 i hi]
  cases bt x i <;> rfl
theorem hb_iff (x : Int32) {i : Nat} (hi : i < 32) : ((x.toUInt32 >>> ((nI i).toUInt32 &&& Int32.toUInt32 31)).toInt32 &&& 1) = 1 ↔ bt x i = true := by
  constructor
  · intro h
    have h1 := congrArg (fun z => bt z 0) h
    simp only [b_and, b_ushr i hi, b_1] at h1
    simpa using h1
  · intro h
    apply b_ext
    intro j hj
    rw [b_and, b_ushr i hi, b_1]
    by_cases h0 : j = 0
    · subst h0; simp [h]
    · simp [h0]
theorem hs_iff (x : Int32) {i : Nat} (hi : i < 32) : ((x >>> (nI i &&& 31)) &&& 1) = 1 ↔ bt x i = true := by
  constructor
  · intro h
    have h1 := congrArg (fun z => bt z 0) h
    simp only [b_and, b_sshr i hi x (by omega : 0 < 32), b_1] at h1
    simpa [hi] using h1
  · intro h
    apply b_ext
    intro j hj
    rw [b_and, b_sshr i hi x hj, b_1]
    by_cases h0 : j = 0
    · subst h0; simp [h, hi]
    · simp [h0]
/-- the set of the numbers below n of which p says yes -/
def mkS (p : Nat → Bool) : Nat → Int32
  | 0 => 0
  | i + 1 => if p i then mkS p i ||| ((1 : Int32) <<< (nI i &&& 31)) else mkS p i
theorem b_mkS (p : Nat → Bool) : ∀ (n : Nat), n ≤ 32 → ∀ i, i < 32 → bt (mkS p n) i = (decide (i < n) && p i)
  | 0, _, i, _ => by simp [mkS, b_0]
  | n + 1, hn, i, hi => by
    have ih := b_mkS p n (by omega) i hi
    unfold mkS
    split
    · rename_i hp
      rw [b_or, ih, b_one (by omega) hi]
      by_cases h : i = n
      · subst h; simp [hp]
      · have : (i < n + 1) ↔ (i < n) := by omega
        simp [h, this]
    · rename_i hp
      rw [ih]
      by_cases h : i = n
      · subst h; simp [hp]
      · have : (i < n + 1) ↔ (i < n) := by omega
        simp [this]
theorem mkS_all (p : Nat → Bool) {i : Nat} (hi : i < 32) : bt (mkS p 32) i = p i := by rw [b_mkS p 32 (by omega) i hi]; simp [hi]
/-- the first number from i on, of k, that is in the set, or -1 -/
def lowF (x : Int32) : Nat → Nat → Int32
  | 0, _ => -1
  | k + 1, i => if bt x i then nI i else lowF x k (i + 1)
/-- what a set's words get -/
def ovF (f : Nat → Int32) (x m p : Int32) (n : Nat) : Nat → Int32 := fun j => if j < n ∧ bt x j = true then (f j &&& (m ^^^ (-1))) ||| (p &&& m) else f j
theorem ovF_0 (f : Nat → Int32) (x m p : Int32) : ovF f x m p 0 = f := by funext j; simp [ovF]
theorem ovF_s (f : Nat → Int32) (x m p : Int32) (n : Nat) : ovF f x m p (n + 1) = if bt x n then upd (ovF f x m p n) n ((f n &&& (m ^^^ (-1))) ||| (p &&& m)) else ovF f x m p n := by
  funext j
  by_cases hb : bt x n = true
  · rw [if_pos hb]
    by_cases hj : j = n
    · subst hj
      simp [ovF, upd, hb]
    · have : (j < n + 1) ↔ (j < n) := by omega
      simp [ovF, upd, hj, this]
  · rw [if_neg hb]
    by_cases hj : j = n
    · subst hj
      simp [ovF, hb]
    · have : (j < n + 1) ↔ (j < n) := by omega
      simp [ovF, this]
