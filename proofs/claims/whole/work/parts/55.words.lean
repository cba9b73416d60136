/-! words: the class's letters and the model's number -/
theorem lt_step {v a : Nat} (hv : v < 2 ^ 48) (ha : a < 256) : (lN v <<< ((8 : Int32).toInt64 &&& 63)) ||| (nI a).toInt64 = lN (v * 256 + a) := by
  rw [nI_l (by omega)]
  apply Int64.toBitVec_inj.mp
  rw [Int64.toBitVec_or, Int64.toBitVec_shiftLeft]
  show (BitVec.ofNat 64 v <<< (((8 : Int32).toInt64 &&& 63).toBitVec.smod 64).toNat) ||| BitVec.ofNat 64 a = BitVec.ofNat 64 (v * 256 + a)
  rw [show (((8 : Int32).toInt64 &&& 63).toBitVec.smod 64).toNat = 8 by decide +kernel]
  apply BitVec.eq_of_toNat_eq
  rw [BitVec.toNat_or, BitVec.toNat_shiftLeft, BitVec.toNat_ofNat, BitVec.toNat_ofNat, BitVec.toNat_ofNat, Nat.mod_eq_of_lt (a := v) (by omega), Nat.mod_eq_of_lt (a := a) (by omega), Nat.mod_eq_of_lt (a := v * 256 + a) (by omega), Nat.shiftLeft_eq, Nat.mod_eq_of_lt (a := v * 2 ^ 8) (by omega), ← Nat.shiftLeft_eq, ← Nat.shiftLeft_add_eq_or_of_lt (by omega), Nat.shiftLeft_eq]
def pkN (a : Nat → Nat) : Nat → Nat → Nat → Nat
  | 0, _, v => v
  | k + 1, j, v => pkN a k (j + 1) (v * 256 + a j)
theorem ltL_N {T : Nat → Int32} {s : Nat} {a : Nat → Nat} : ∀ (k j v : Nat), (∀ i, i < j + k → T (s + i) = nI (a i) ∧ a i < 256) → j + k ≤ 7 → v < 256 ^ j → ltL T s k j (lN v) = lN (pkN a k j v)
  | 0, j, v, _, _, _ => rfl
  | k + 1, j, v, h, hj, hv => by
    have h48 : v < 2 ^ 48 := Nat.lt_of_lt_of_le hv (by rw [show (256 : Nat) = 2 ^ 8 from rfl, ← Nat.pow_mul]; exact Nat.pow_le_pow_right (by omega) (by omega))
    rw [ltL, pkN, if_pos (by omega), (h j (by omega)).1, lt_step h48 (h j (by omega)).2]
    refine ltL_N k (j + 1) _ (fun i hi => h i (by omega)) (by omega) ?_
    have := (h j (by omega)).2
    rw [Nat.pow_succ]
    omega
theorem ltL_big {T : Nat → Int32} {s : Nat} : ∀ (k j : Nat) (v : Int64), 8 ≤ j + k → 1 ≤ k → ltL T s k j v = -1
  | 0, j, v, _, h => by omega
  | 1, j, v, h, _ => by rw [ltL, ltL, if_neg (by omega)]
  | k + 2, j, v, h, _ => by rw [ltL]; exact ltL_big (k + 1) (j + 1) _ (by omega) (by omega)
theorem lN_lit {a b : Nat} (ha : a < 2 ^ 63) (hb : b < 2 ^ 63) (x : Int64) (hx : lN b = x) : lN a = x ↔ a = b := by rw [← hx]; exact pk_lEQ ha hb
theorem nI_lit {a b : Nat} (ha : a < 256) (hb : b < 256) (x : Int32) (hx : nI b = x) : nI a = x ↔ a = b := by rw [← hx]; exact nI_eq (by omega) (by omega)
/-- the number of the word that the letters spell -/
def wdN (a : Nat → Nat) (m : Nat) : Nat := if m = 3 then (if a 0 = 115 ∧ a 1 = 101 ∧ a 2 = 116 then 1 else if a 0 = 109 ∧ a 1 = 97 ∧ a 2 = 120 then 2 else if a 0 = 109 ∧ a 1 = 105 ∧ a 2 = 110 then 3 else if a 0 = 115 ∧ a 1 = 117 ∧ a 2 = 109 then 4 else 0)
  else if m = 4 then (if a 0 = 108 ∧ a 1 = 105 ∧ a 2 = 115 ∧ a 3 = 116 then 5 else 0)
  else if m = 5 then (if a 0 = 99 ∧ a 1 = 111 ∧ a 2 = 117 ∧ a 3 = 110 ∧ a 4 = 116 then 6 else if a 0 = 119 ∧ a 1 = 104 ∧ a 2 = 101 ∧ a 3 = 114 ∧ a 4 = 101 then 7 else 0) else 0
theorem pk_wd (a : Nat → Nat) (m : Nat) (h1 : 1 ≤ m) (h7 : m ≤ 7) (ha : ∀ i, i < m → 97 ≤ a i ∧ a i ≤ 122) :
    (pkN a m 0 0 = 7562612 ↔ wdN a m = 1) ∧ (pkN a m 0 0 = 7168376 ↔ wdN a m = 2) ∧ (pkN a m 0 0 = 7170414 ↔ wdN a m = 3) ∧ (pkN a m 0 0 = 7566701 ↔ wdN a m = 4) ∧ (pkN a m 0 0 = 1818850164 ↔ wdN a m = 5) ∧ (pkN a m 0 0 = 427071729268 ↔ wdN a m = 6) ∧ (pkN a m 0 0 = 512852587109 ↔ wdN a m = 7) ∧ pkN a m 0 0 < 2 ^ 63 := by
  rcases (by omega : m = 1 ∨ m = 2 ∨ m = 3 ∨ m = 4 ∨ m = 5 ∨ m = 6 ∨ m = 7) with rfl | rfl | rfl | rfl | rfl | rfl | rfl
  · have h0 := ha 0 (by omega)
    simp only [pkN, wdN, Nat.reduceEqDiff, Nat.reduceAdd, reduceIte, Nat.zero_mul, Nat.zero_add]
    refine ⟨?_, ?_, ?_, ?_, ?_, ?_, ?_, ?_⟩ <;> first | omega | (rw [iff_false]; omega)
  · have h0 := ha 0 (by omega)
    have h1 := ha 1 (by omega)
    simp only [pkN, wdN, Nat.reduceEqDiff, Nat.reduceAdd, reduceIte, Nat.zero_mul, Nat.zero_add]
    refine ⟨?_, ?_, ?_, ?_, ?_, ?_, ?_, ?_⟩ <;> first | omega | (rw [iff_false]; omega)
  · have h0 := ha 0 (by omega)
    have h1 := ha 1 (by omega)
    have h2 := ha 2 (by omega)
    simp only [pkN, wdN, Nat.reduceEqDiff, Nat.reduceAdd, reduceIte, Nat.zero_mul, Nat.zero_add]
    refine ⟨?_, ?_, ?_, ?_, ?_, ?_, ?_, ?_⟩ <;> (repeat' split) <;> first | omega | (rw [iff_false]; omega)
  · have h0 := ha 0 (by omega)
    have h1 := ha 1 (by omega)
    have h2 := ha 2 (by omega)
    have h3 := ha 3 (by omega)
    simp only [pkN, wdN, Nat.reduceEqDiff, Nat.reduceAdd, reduceIte, Nat.zero_mul, Nat.zero_add]
    refine ⟨?_, ?_, ?_, ?_, ?_, ?_, ?_, ?_⟩ <;> (repeat' split) <;> first | omega | (rw [iff_false]; omega)
  · have h0 := ha 0 (by omega)
    have h1 := ha 1 (by omega)
    have h2 := ha 2 (by omega)
    have h3 := ha 3 (by omega)
    have h4 := ha 4 (by omega)
    simp only [pkN, wdN, Nat.reduceEqDiff, Nat.reduceAdd, reduceIte, Nat.zero_mul, Nat.zero_add]
    refine ⟨?_, ?_, ?_, ?_, ?_, ?_, ?_, ?_⟩ <;> (repeat' split) <;> first | omega | (rw [iff_false]; omega)
  · have h0 := ha 0 (by omega)
    have h1 := ha 1 (by omega)
    have h2 := ha 2 (by omega)
    have h3 := ha 3 (by omega)
    have h4 := ha 4 (by omega)
    have h5 := ha 5 (by omega)
    simp only [pkN, wdN, Nat.reduceEqDiff, Nat.reduceAdd, reduceIte, Nat.zero_mul, Nat.zero_add]
    refine ⟨?_, ?_, ?_, ?_, ?_, ?_, ?_, ?_⟩ <;> first | omega | (rw [iff_false]; omega)
  · have h0 := ha 0 (by omega)
    have h1 := ha 1 (by omega)
    have h2 := ha 2 (by omega)
    have h3 := ha 3 (by omega)
    have h4 := ha 4 (by omega)
    have h5 := ha 5 (by omega)
    have h6 := ha 6 (by omega)
    simp only [pkN, wdN, Nat.reduceEqDiff, Nat.reduceAdd, reduceIte, Nat.zero_mul, Nat.zero_add]
    refine ⟨?_, ?_, ?_, ?_, ?_, ?_, ?_, ?_⟩ <;> first | omega | (rw [iff_false]; omega)
theorem isL_N {x : Int32} (h : isL x = true) : ∃ a : Nat, 97 ≤ a ∧ a ≤ 122 ∧ x = nI a := by
  unfold isL btw at h
  rw [Bool.and_eq_true, decide_eq_true_eq, decide_eq_true_eq, Int32.le_iff_toInt_le, Int32.le_iff_toInt_le] at h
  have h97 : (97 : Int32).toInt = 97 := by decide +kernel
  have h122 : (122 : Int32).toInt = 122 := by decide +kernel
  rw [h97, h122] at h
  refine ⟨x.toInt.toNat, by omega, by omega, ?_⟩
  rw [← Int32.toInt_inj, nI_toInt (by omega)]
  omega
theorem tEnd_all (P : Int32 → Bool) (T : Nat → Int32) : ∀ (k i j : Nat), i ≤ j → j < tEnd P T k i → P (T j) = true
  | 0, i, j, h1, h2 => by unfold tEnd at h2; omega
  | k + 1, i, j, h1, h2 => by
    unfold tEnd at h2
    split at h2
    · rename_i hp
      by_cases e : i = j
      · rw [← e]; exact hp
      · exact tEnd_all P T k (i + 1) j (by omega) h2
    · omega
/-- a word's letters -/
theorem tokL_lt (T : Nat → Int32) (n : Nat) : ∀ (m p : Nat), n - p ≤ m → p ≤ n → ∀ {s e : Nat} {r : List Tok}, tokL T n p = (97, s, e) :: r → s < e ∧ ∀ j, s ≤ j → j < e → isL (T j) = true
  | 0, p, hm, hp, s, e, r, h => by
    rw [tokL_end T (by omega)] at h
    injection h with q
    injection q with q
    exact absurd q (by decide)
  | m + 1, p, hm, hp, s, e, r, h => by
    by_cases h0 : p < n
    · by_cases hb : T p = 32
      · rw [tokL_blank T h0 hb] at h
        exact tokL_lt T n m (p + 1) (by omega) (by omega) h
      · rw [tokL_tok T h0 hb] at h
        have h1 : tokK T n p = 97 := by injection h with q; injection q
        have h2 : p = s := by injection h with q; injection q with _ q; injection q
        have h3 : tokE T n p = e := by injection h with q; injection q with _ q; injection q
        subst h2
        subst h3
        refine ⟨tokE_gt T h0, fun j hj hj2 => ?_⟩
        by_cases hl : isL (T p) = true
        · unfold tokE at hj2
          rw [if_pos hl] at hj2
          exact tEnd_all isL T (n - p) p j hj hj2
        · exfalso
          unfold tokK at h1
          rw [if_neg hl] at h1
          split at h1
          · split at h1 <;> exact absurd h1 (by decide)
          · split at h1
            · rw [h1] at hl; exact hl (by decide)
            · exact absurd h1 (by decide)
    · rw [tokL_end T (by omega)] at h
      injection h with q
      injection q with q
      exact absurd q (by decide)
theorem wd_0 {T : Nat → Int32} {s e : Nat} {a : Nat → Nat} (ha : ∀ i, i < e - s → T (s + i) = nI (a i) ∧ a i < 256) : isWd T 0 97 s e = true ↔ wdN a (e - s) = 1 := by
  have h0 : isWd T 0 97 s e = true ↔ e - s = 3 ∧ T (s + 0) = 115 ∧ T (s + 1) = 101 ∧ T (s + 2) = 116 := by
    show (decide ((97 : Int32) = 97) && (decide (e - s = 3) && (decide (T (s + 0) = 115) && (decide (T (s + 1) = 101) && (decide (T (s + 2) = 116) && true))))) = true ↔ _
    simp only [decide_true, Bool.true_and, Bool.and_true, Bool.and_eq_true, decide_eq_true_eq]
  rw [h0]
  by_cases hm : e - s = 3
  · rw [hm] at ha ⊢
    rw [(ha 0 (by omega)).1, nI_lit (ha 0 (by omega)).2 (by omega : 115 < 256) 115 rfl]
    rw [(ha 1 (by omega)).1, nI_lit (ha 1 (by omega)).2 (by omega : 101 < 256) 101 rfl]
    rw [(ha 2 (by omega)).1, nI_lit (ha 2 (by omega)).2 (by omega : 116 < 256) 116 rfl]
    simp only [wdN, Nat.reduceEqDiff, reduceIte, true_and]
    (repeat' split) <;> omega
  · constructor
    · intro q; exact absurd q.1 hm
    · intro q
      exfalso
      unfold wdN at q
      (repeat' split at q) <;> omega
theorem wd_1 {T : Nat → Int32} {s e : Nat} {a : Nat → Nat} (ha : ∀ i, i < e - s → T (s + i) = nI (a i) ∧ a i < 256) : isWd T 1 97 s e = true ↔ wdN a (e - s) = 2 := by
  have h0 : isWd T 1 97 s e = true ↔ e - s = 3 ∧ T (s + 0) = 109 ∧ T (s + 1) = 97 ∧ T (s + 2) = 120 := by
    show (decide ((97 : Int32) = 97) && (decide (e - s = 3) && (decide (T (s + 0) = 109) && (decide (T (s + 1) = 97) && (decide (T (s + 2) = 120) && true))))) = true ↔ _
    simp only [decide_true, Bool.true_and, Bool.and_true, Bool.and_eq_true, decide_eq_true_eq]
  rw [h0]
  by_cases hm : e - s = 3
  · rw [hm] at ha ⊢
    rw [(ha 0 (by omega)).1, nI_lit (ha 0 (by omega)).2 (by omega : 109 < 256) 109 rfl]
    rw [(ha 1 (by omega)).1, nI_lit (ha 1 (by omega)).2 (by omega : 97 < 256) 97 rfl]
    rw [(ha 2 (by omega)).1, nI_lit (ha 2 (by omega)).2 (by omega : 120 < 256) 120 rfl]
    simp only [wdN, Nat.reduceEqDiff, reduceIte, true_and]
    (repeat' split) <;> omega
  · constructor
    · intro q; exact absurd q.1 hm
    · intro q
      exfalso
      unfold wdN at q
      (repeat' split at q) <;> omega
theorem wd_2 {T : Nat → Int32} {s e : Nat} {a : Nat → Nat} (ha : ∀ i, i < e - s → T (s + i) = nI (a i) ∧ a i < 256) : isWd T 2 97 s e = true ↔ wdN a (e - s) = 3 := by
  have h0 : isWd T 2 97 s e = true ↔ e - s = 3 ∧ T (s + 0) = 109 ∧ T (s + 1) = 105 ∧ T (s + 2) = 110 := by
    show (decide ((97 : Int32) = 97) && (decide (e - s = 3) && (decide (T (s + 0) = 109) && (decide (T (s + 1) = 105) && (decide (T (s + 2) = 110) && true))))) = true ↔ _
    simp only [decide_true, Bool.true_and, Bool.and_true, Bool.and_eq_true, decide_eq_true_eq]
  rw [h0]
  by_cases hm : e - s = 3
  · rw [hm] at ha ⊢
    rw [(ha 0 (by omega)).1, nI_lit (ha 0 (by omega)).2 (by omega : 109 < 256) 109 rfl]
    rw [(ha 1 (by omega)).1, nI_lit (ha 1 (by omega)).2 (by omega : 105 < 256) 105 rfl]
    rw [(ha 2 (by omega)).1, nI_lit (ha 2 (by omega)).2 (by omega : 110 < 256) 110 rfl]
    simp only [wdN, Nat.reduceEqDiff, reduceIte, true_and]
    (repeat' split) <;> omega
  · constructor
    · intro q; exact absurd q.1 hm
    · intro q
      exfalso
      unfold wdN at q
      (repeat' split at q) <;> omega
theorem wd_3 {T : Nat → Int32} {s e : Nat} {a : Nat → Nat} (ha : ∀ i, i < e - s → T (s + i) = nI (a i) ∧ a i < 256) : isWd T 3 97 s e = true ↔ wdN a (e - s) = 4 := by
  have h0 : isWd T 3 97 s e = true ↔ e - s = 3 ∧ T (s + 0) = 115 ∧ T (s + 1) = 117 ∧ T (s + 2) = 109 := by
    show (decide ((97 : Int32) = 97) && (decide (e - s = 3) && (decide (T (s + 0) = 115) && (decide (T (s + 1) = 117) && (decide (T (s + 2) = 109) && true))))) = true ↔ _
    simp only [decide_true, Bool.true_and, Bool.and_true, Bool.and_eq_true, decide_eq_true_eq]
  rw [h0]
  by_cases hm : e - s = 3
  · rw [hm] at ha ⊢
    rw [(ha 0 (by omega)).1, nI_lit (ha 0 (by omega)).2 (by omega : 115 < 256) 115 rfl]
    rw [(ha 1 (by omega)).1, nI_lit (ha 1 (by omega)).2 (by omega : 117 < 256) 117 rfl]
    rw [(ha 2 (by omega)).1, nI_lit (ha 2 (by omega)).2 (by omega : 109 < 256) 109 rfl]
    simp only [wdN, Nat.reduceEqDiff, reduceIte, true_and]
    (repeat' split) <;> omega
  · constructor
    · intro q; exact absurd q.1 hm
    · intro q
      exfalso
      unfold wdN at q
      (repeat' split at q) <;> omega
theorem wd_4 {T : Nat → Int32} {s e : Nat} {a : Nat → Nat} (ha : ∀ i, i < e - s → T (s + i) = nI (a i) ∧ a i < 256) : isWd T 4 97 s e = true ↔ wdN a (e - s) = 5 := by
  have h0 : isWd T 4 97 s e = true ↔ e - s = 4 ∧ T (s + 0) = 108 ∧ T (s + 1) = 105 ∧ T (s + 2) = 115 ∧ T (s + 3) = 116 := by
    show (decide ((97 : Int32) = 97) && (decide (e - s = 4) && (decide (T (s + 0) = 108) && (decide (T (s + 1) = 105) && (decide (T (s + 2) = 115) && (decide (T (s + 3) = 116) && true)))))) = true ↔ _
    simp only [decide_true, Bool.true_and, Bool.and_true, Bool.and_eq_true, decide_eq_true_eq]
  rw [h0]
  by_cases hm : e - s = 4
  · rw [hm] at ha ⊢
    rw [(ha 0 (by omega)).1, nI_lit (ha 0 (by omega)).2 (by omega : 108 < 256) 108 rfl]
    rw [(ha 1 (by omega)).1, nI_lit (ha 1 (by omega)).2 (by omega : 105 < 256) 105 rfl]
    rw [(ha 2 (by omega)).1, nI_lit (ha 2 (by omega)).2 (by omega : 115 < 256) 115 rfl]
    rw [(ha 3 (by omega)).1, nI_lit (ha 3 (by omega)).2 (by omega : 116 < 256) 116 rfl]
    simp only [wdN, Nat.reduceEqDiff, reduceIte, true_and]
    (repeat' split) <;> omega
  · constructor
    · intro q; exact absurd q.1 hm
    · intro q
      exfalso
      unfold wdN at q
      (repeat' split at q) <;> omega
theorem wd_5 {T : Nat → Int32} {s e : Nat} {a : Nat → Nat} (ha : ∀ i, i < e - s → T (s + i) = nI (a i) ∧ a i < 256) : isWd T 5 97 s e = true ↔ wdN a (e - s) = 6 := by
  have h0 : isWd T 5 97 s e = true ↔ e - s = 5 ∧ T (s + 0) = 99 ∧ T (s + 1) = 111 ∧ T (s + 2) = 117 ∧ T (s + 3) = 110 ∧ T (s + 4) = 116 := by
    show (decide ((97 : Int32) = 97) && (decide (e - s = 5) && (decide (T (s + 0) = 99) && (decide (T (s + 1) = 111) && (decide (T (s + 2) = 117) && (decide (T (s + 3) = 110) && (decide (T (s + 4) = 116) && true))))))) = true ↔ _
    simp only [decide_true, Bool.true_and, Bool.and_true, Bool.and_eq_true, decide_eq_true_eq]
  rw [h0]
  by_cases hm : e - s = 5
  · rw [hm] at ha ⊢
    rw [(ha 0 (by omega)).1, nI_lit (ha 0 (by omega)).2 (by omega : 99 < 256) 99 rfl]
    rw [(ha 1 (by omega)).1, nI_lit (ha 1 (by omega)).2 (by omega : 111 < 256) 111 rfl]
    rw [(ha 2 (by omega)).1, nI_lit (ha 2 (by omega)).2 (by omega : 117 < 256) 117 rfl]
    rw [(ha 3 (by omega)).1, nI_lit (ha 3 (by omega)).2 (by omega : 110 < 256) 110 rfl]
    rw [(ha 4 (by omega)).1, nI_lit (ha 4 (by omega)).2 (by omega : 116 < 256) 116 rfl]
    simp only [wdN, Nat.reduceEqDiff, reduceIte, true_and]
    (repeat' split) <;> omega
  · constructor
    · intro q; exact absurd q.1 hm
    · intro q
      exfalso
      unfold wdN at q
      (repeat' split at q) <;> omega
theorem wd_6 {T : Nat → Int32} {s e : Nat} {a : Nat → Nat} (ha : ∀ i, i < e - s → T (s + i) = nI (a i) ∧ a i < 256) : isWd T 6 97 s e = true ↔ wdN a (e - s) = 7 := by
  have h0 : isWd T 6 97 s e = true ↔ e - s = 5 ∧ T (s + 0) = 119 ∧ T (s + 1) = 104 ∧ T (s + 2) = 101 ∧ T (s + 3) = 114 ∧ T (s + 4) = 101 := by
    show (decide ((97 : Int32) = 97) && (decide (e - s = 5) && (decide (T (s + 0) = 119) && (decide (T (s + 1) = 104) && (decide (T (s + 2) = 101) && (decide (T (s + 3) = 114) && (decide (T (s + 4) = 101) && true))))))) = true ↔ _
    simp only [decide_true, Bool.true_and, Bool.and_true, Bool.and_eq_true, decide_eq_true_eq]
  rw [h0]
  by_cases hm : e - s = 5
  · rw [hm] at ha ⊢
    rw [(ha 0 (by omega)).1, nI_lit (ha 0 (by omega)).2 (by omega : 119 < 256) 119 rfl]
    rw [(ha 1 (by omega)).1, nI_lit (ha 1 (by omega)).2 (by omega : 104 < 256) 104 rfl]
    rw [(ha 2 (by omega)).1, nI_lit (ha 2 (by omega)).2 (by omega : 101 < 256) 101 rfl]
    rw [(ha 3 (by omega)).1, nI_lit (ha 3 (by omega)).2 (by omega : 114 < 256) 114 rfl]
    rw [(ha 4 (by omega)).1, nI_lit (ha 4 (by omega)).2 (by omega : 101 < 256) 101 rfl]
    simp only [wdN, Nat.reduceEqDiff, reduceIte, true_and]
    (repeat' split) <;> omega
  · constructor
    · intro q; exact absurd q.1 hm
    · intro q
      exfalso
      unfold wdN at q
      (repeat' split at q) <;> omega
theorem vb_ex (f : Nat → Bool) (m : Nat) (h : ∀ i, i < 6 → (f i = true ↔ m = i + 1)) (hm : m ≤ 7) : (m = 0 ∨ m = 7) ∧ vbL f 6 0 (-1) = -1 ∨ ∃ v : Nat, v < 6 ∧ m = v + 1 ∧ vbL f 6 0 (-1) = nI v := by
  have q : ∀ i, i < 6 → f i = decide (m = i + 1) := fun i hi => by
    cases hb : f i with
    | true => rw [decide_eq_true ((h i hi).mp hb)]
    | false => rw [decide_eq_false (fun z => by rw [(h i hi).mpr z] at hb; cases hb)]
  simp only [vbL, q 0 (by omega), q 1 (by omega), q 2 (by omega), q 3 (by omega), q 4 (by omega), q 5 (by omega), Nat.zero_add, Nat.reduceAdd]
  rcases (by omega : m = 0 ∨ m = 1 ∨ m = 2 ∨ m = 3 ∨ m = 4 ∨ m = 5 ∨ m = 6 ∨ m = 7) with rfl | rfl | rfl | rfl | rfl | rfl | rfl | rfl
  · exact .inl ⟨.inl rfl, rfl⟩
  · exact .inr ⟨0, by omega, rfl, rfl⟩
  · exact .inr ⟨1, by omega, rfl, rfl⟩
  · exact .inr ⟨2, by omega, rfl, rfl⟩
  · exact .inr ⟨3, by omega, rfl, rfl⟩
  · exact .inr ⟨4, by omega, rfl, rfl⟩
  · exact .inr ⟨5, by omega, rfl, rfl⟩
  · exact .inl ⟨.inr rfl, rfl⟩
theorem wdN_le (a : Nat → Nat) (m : Nat) : wdN a m ≤ 7 := by unfold wdN; (repeat' split) <;> omega
theorem wdN_big (a : Nat → Nat) {m : Nat} (h : 8 ≤ m) : wdN a m = 0 := by unfold wdN; rw [if_neg (by omega), if_neg (by omega), if_neg (by omega)]
/-- the action's word, and 'where': class and model find the same -/
theorem word_eq {T : Nat → Int32} {n p : Nat} {k : Int32} {s e : Nat} {r : List Tok} (hp : p ≤ n) (h : tokL T n p = (k, s, e) :: r) :
    ((vbL (fun i => isWd T i k s e) 6 0 (-1) = -1 ∧ actK T k s e = 0) ∨ ∃ v : Nat, v < 6 ∧ vbL (fun i => isWd T i k s e) 6 0 (-1) = nI v ∧ actK T k s e = nI (v + 1) ∧ k = 97) ∧ (isWh T k s e ↔ isWd T 6 k s e = true) := by
  by_cases hk : k = 97
  · subst hk
    obtain ⟨hse, hL⟩ := tokL_lt T n (n - p) p (Nat.le_refl _) hp h
    have hex : ∀ i, ∃ b : Nat, i < e - s → 97 ≤ b ∧ b ≤ 122 ∧ T (s + i) = nI b := fun i => by
      by_cases hi : i < e - s
      · obtain ⟨b, h1, h2, h3⟩ := isL_N (hL (s + i) (by omega) (by omega))
        exact ⟨b, fun _ => ⟨h1, h2, h3⟩⟩
      · exact ⟨0, fun q => absurd q hi⟩
    obtain ⟨a, ha⟩ := Classical.axiomOfChoice hex
    have ha2 : ∀ i, i < e - s → T (s + i) = nI (a i) ∧ a i < 256 := fun i hi => ⟨(ha i hi).2.2, by have := (ha i hi).2.1; omega⟩
    have hle := wdN_le a (e - s)
    have hf : ∀ i, i < 6 → (isWd T i 97 s e = true ↔ wdN a (e - s) = i + 1) := by
      intro i hi
      rcases (by omega : i = 0 ∨ i = 1 ∨ i = 2 ∨ i = 3 ∨ i = 4 ∨ i = 5) with rfl | rfl | rfl | rfl | rfl | rfl
      · exact wd_0 ha2
      · exact wd_1 ha2
      · exact wd_2 ha2
      · exact wd_3 ha2
      · exact wd_4 ha2
      · exact wd_5 ha2
    have hv := vb_ex (fun i => isWd T i 97 s e) (wdN a (e - s)) hf hle
    have key : actK T 97 s e = (if wdN a (e - s) = 7 then 0 else nI (wdN a (e - s))) ∧ (ltL T s (e - s) 0 0 = 512852587109 ↔ wdN a (e - s) = 7) := by
      unfold actK
      rw [if_pos rfl]
      by_cases h8 : 8 ≤ e - s
      · rw [ltL_big (e - s) 0 0 (by omega) (by omega), wdN_big a h8]
        exact ⟨by decide, by decide⟩
      · have hb := pk_wd a (e - s) (by omega) (by omega) (fun i hi => ⟨(ha i hi).1, (ha i hi).2.1⟩)
        have hN := ltL_N (T := T) (s := s) (a := a) (e - s) 0 0 (fun i hi => ha2 i (by omega)) (by omega) (by omega)
        rw [show (0 : Int64) = lN 0 from rfl, hN]
        obtain ⟨b1, b2, b3, b4, b5, b6, b7, b8⟩ := hb
        unfold actN
        refine ⟨?_, (lN_lit b8 (by omega : 512852587109 < 2 ^ 63) 512852587109 rfl).trans b7⟩
        simp only [lN_lit b8 (by omega : 7562612 < 2 ^ 63) 7562612 rfl, lN_lit b8 (by omega : 7168376 < 2 ^ 63) 7168376 rfl, lN_lit b8 (by omega : 7170414 < 2 ^ 63) 7170414 rfl, lN_lit b8 (by omega : 7566701 < 2 ^ 63) 7566701 rfl, lN_lit b8 (by omega : 1818850164 < 2 ^ 63) 1818850164 rfl, lN_lit b8 (by omega : 427071729268 < 2 ^ 63) 427071729268 rfl, b1, b2, b3, b4, b5, b6]
        rcases (by omega : wdN a (e - s) = 0 ∨ wdN a (e - s) = 1 ∨ wdN a (e - s) = 2 ∨ wdN a (e - s) = 3 ∨ wdN a (e - s) = 4 ∨ wdN a (e - s) = 5 ∨ wdN a (e - s) = 6 ∨ wdN a (e - s) = 7) with q | q | q | q | q | q | q | q <;> rw [q] <;> rfl
    refine ⟨?_, ?_⟩
    · rw [key.1]
      rcases hv with ⟨h1, h2⟩ | ⟨v, h1, h2, h3⟩
      · refine .inl ⟨h2, ?_⟩
        rcases h1 with q | q <;> rw [q] <;> rfl
      · exact .inr ⟨v, h1, h3, by rw [h2, if_neg (by omega)], rfl⟩
    · rw [wd_6 ha2]
      exact ⟨fun q => key.2.mp q.2, fun q => ⟨rfl, key.2.mpr q⟩⟩
  · refine ⟨.inl ⟨?_, by rw [actK, if_neg hk]⟩, fun q => absurd q.1 hk, fun q => ?_⟩
    · have hf : (fun i => isWd T i k s e) = fun _ => false := by
        funext i
        unfold isWd
        rw [decide_eq_false hk]
        rfl
      rw [hf]
      rfl
    · unfold isWd at q
      rw [decide_eq_false hk] at q
      cases q
