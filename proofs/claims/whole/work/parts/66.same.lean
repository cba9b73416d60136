/-! class and model: greatest, least, sum; names; grounds; the lowest word -/
/-- the model's gathering -/
def gaL (a x : Int32) (f : Nat → Int32) : Nat → Nat → Int32 → Bool → Int32
  | 0, _, v, _ => v
  | k + 1, i, v, n => if bt x i = true then gaL a x f k (i + 1) (if a = 4 then v + f i else if n = true ∨ (a = 2 ∧ v < f i) ∨ (¬ a = 2 ∧ f i < v) then f i else v) false else gaL a x f k (i + 1) v n
theorem ga_sum (x : Int32) (f : Nat → Int32) : ∀ (k i : Nat) (v : Int32) (n : Bool), gaL 4 x f k i v n = fldL (fun a b => a + b) x f k i v
  | 0, i, v, n => rfl
  | k + 1, i, v, n => by
    unfold gaL fldL
    rw [if_pos rfl]
    split <;> exact ga_sum x f k (i + 1) _ _
theorem ga_max0 (x : Int32) (f : Nat → Int32) : ∀ (k i : Nat) (v : Int32), gaL 2 x f k i v false = fldL maxJ x f k i v
  | 0, i, v => rfl
  | k + 1, i, v => by
    unfold gaL fldL
    rw [if_neg (show ¬ (2 : Int32) = 4 by decide)]
    split
    · rw [ga_max0 x f k (i + 1)]
      congr 1
      unfold maxJ
      by_cases h : v < f i
      · rw [if_pos (.inr (.inl ⟨rfl, h⟩)), if_pos h]
      · rw [if_neg (fun q => by rcases q with q | q | q; cases q; exact h q.2; exact q.1 rfl), if_neg h]
    · exact ga_max0 x f k (i + 1) v
theorem ga_min0 (x : Int32) (f : Nat → Int32) : ∀ (k i : Nat) (v : Int32), gaL 3 x f k i v false = fldL minJ x f k i v
  | 0, i, v => rfl
  | k + 1, i, v => by
    unfold gaL fldL
    rw [if_neg (show ¬ (3 : Int32) = 4 by decide)]
    split
    · rw [ga_min0 x f k (i + 1)]
      congr 1
      unfold minJ
      by_cases h : f i < v
      · rw [if_pos (.inr (.inr ⟨by decide, h⟩)), if_pos h]
      · rw [if_neg (fun q => by rcases q with q | q | q; cases q; exact absurd q.1 (by decide); exact h q.2), if_neg h]
    · exact ga_min0 x f k (i + 1) v
theorem ga_max (x : Int32) (f : Nat → Int32) (lo : Int32) : ∀ (k i : Nat) (v : Int32), (∀ j, i ≤ j → j < i + k → lo ≤ f j) → (∃ j, i ≤ j ∧ j < i + k ∧ bt x j = true) → gaL 2 x f k i v true = fldL maxJ x f k i lo
  | 0, i, v, _, ⟨j, h1, h2, _⟩ => by omega
  | k + 1, i, v, hf, ⟨j, h1, h2, h3⟩ => by
    unfold gaL fldL
    by_cases hb : bt x i = true
    · rw [if_pos hb, if_pos hb, if_neg (by decide), if_pos (.inl rfl), ga_max0]
      congr 1
      unfold maxJ
      have := hf i (by omega) (by omega)
      by_cases e : lo < f i
      · rw [if_pos e]
      · rw [if_neg e]
        exact Int32.le_antisymm (Int32.not_lt.mp e) this
    · rw [if_neg hb, if_neg hb]
      refine ga_max x f lo k (i + 1) v (fun j q1 q2 => hf j (by omega) (by omega)) ⟨j, ?_, by omega, h3⟩
      rcases Nat.lt_or_ge i j with q | q
      · exact q
      · exact absurd ((show i = j by omega) ▸ h3) hb
theorem ga_min (x : Int32) (f : Nat → Int32) (hi : Int32) : ∀ (k i : Nat) (v : Int32), (∀ j, i ≤ j → j < i + k → f j ≤ hi) → (∃ j, i ≤ j ∧ j < i + k ∧ bt x j = true) → gaL 3 x f k i v true = fldL minJ x f k i hi
  | 0, i, v, _, ⟨j, h1, h2, _⟩ => by omega
  | k + 1, i, v, hf, ⟨j, h1, h2, h3⟩ => by
    unfold gaL fldL
    by_cases hb : bt x i = true
    · rw [if_pos hb, if_pos hb, if_neg (by decide), if_pos (.inl rfl), ga_min0]
      congr 1
      unfold minJ
      have := hf i (by omega) (by omega)
      by_cases e : f i < hi
      · rw [if_pos e]
      · rw [if_neg e]
        exact Int32.le_antisymm this (Int32.not_lt.mp e)
    · rw [if_neg hb, if_neg hb]
      refine ga_min x f hi k (i + 1) v (fun j q1 q2 => hf j (by omega) (by omega)) ⟨j, ?_, by omega, h3⟩
      rcases Nat.lt_or_ge i j with q | q
      · exact q
      · exact absurd ((show i = j by omega) ▸ h3) hb
/-- a value is between -512 and 1023 -/
theorem val_in {a w : Nat} (z b : Int32) (h1 : 1 ≤ w) (h10 : w ≤ 10) (haw : a + w ≤ 24) : -512 ≤ vval (nI a) (nI w) z b ∧ vval (nI a) (nI w) z b ≤ 1023 := by
  obtain ⟨X, hX, rfl⟩ := nI_all b
  unfold vval
  rw [vraw_N (by omega) (by omega) hX, w_half w (by omega) h1, w_shl w (by omega)]
  have hp : 2 ^ (w - 1) ≤ 2 ^ 9 := Nat.pow_le_pow_right (by omega) (by omega)
  have hp2 : 2 ^ w = 2 ^ (w - 1) * 2 := by rw [← Nat.pow_succ]; congr 1; omega
  have hlt : X / 2 ^ a % 2 ^ w < 2 ^ w := Nat.mod_lt _ (Nat.two_pow_pos _)
  have up : ∀ m : Nat, m < 2 ^ w → -512 ≤ nI m ∧ nI m ≤ 1023 := fun m hm => by
    rw [Int32.le_iff_toInt_le, Int32.le_iff_toInt_le, nI_toInt (by omega), show (-512 : Int32).toInt = -512 by decide +kernel, show (1023 : Int32).toInt = 1023 by decide +kernel]
    omega
  split
  · exact up _ hlt
  · split
    · exact up _ hlt
    · rename_i h
      have hge : 2 ^ (w - 1) ≤ X / 2 ^ a % 2 ^ w := by
        rcases Nat.lt_or_ge (X / 2 ^ a % 2 ^ w) (2 ^ (w - 1)) with q | q
        · exact absurd (nI_lt q (by omega)) h
        · exact q
      have e : nI (X / 2 ^ a % 2 ^ w) - nI (2 ^ w) = -(nI (2 ^ w - X / 2 ^ a % 2 ^ w)) := by
        rw [← pk_sub (Nat.le_of_lt hlt), Int32.neg_sub]
      have ng : ∀ m : Nat, m ≤ 512 → -512 ≤ -(nI m) ∧ -(nI m) ≤ 1023 := by decide +kernel
      rw [e]
      exact ng _ (by omega)
/-- the names are distinct: the first is the last -/
def dst (f : Nat → Int32) (c : Nat) : Prop := ∀ i j, i < c → j < c → f i = f j → i = j
theorem fdL_no (f : Nat → Int32) (ch : Int32) : ∀ (k i : Nat) (v : Int32), (∀ j, i ≤ j → j < i + k → ¬ f j = ch) → fdL f ch k i v = v
  | 0, i, v, _ => rfl
  | k + 1, i, v, h => by
    rw [fdL, if_neg (h i (by omega) (by omega))]
    exact fdL_no f ch k (i + 1) v (fun j h1 h2 => h j (by omega) (by omega))
theorem fd_ix (f : Nat → Int32) (ch : Int32) (c : Nat) (hd : dst f c) : ∀ (k i : Nat), i + k = c → fdL f ch k i (-1) = ixOf f ch k i
  | 0, i, _ => rfl
  | k + 1, i, h => by
    unfold fdL ixOf
    by_cases hc : f i = ch
    · rw [if_pos hc, if_pos hc]
      refine fdL_no f ch k (i + 1) _ (fun j h1 h2 q => ?_)
      have := hd i j (by omega) (by omega) (hc.trans q.symm)
      omega
    · rw [if_neg hc, if_neg hc]
      exact fd_ix f ch c hd k (i + 1) (by omega)
theorem ix_no (f : Nat → Int32) (ch : Int32) : ∀ (k i : Nat), i + k < 2 ^ 31 → ixOf f ch k i = -1 → ∀ j, i ≤ j → j < i + k → ¬ f j = ch
  | 0, i, _, _, j, h1, h2 => by omega
  | k + 1, i, h31, h, j, h1, h2 => by
    unfold ixOf at h
    by_cases hc : f i = ch
    · rw [if_pos hc] at h
      exfalso
      have := congrArg Int32.toInt h
      rw [nI_toInt (by omega), show (-1 : Int32).toInt = -1 by decide +kernel] at this
      omega
    · rw [if_neg hc] at h
      by_cases e : i = j
      · rw [← e]; exact hc
      · exact ix_no f ch k (i + 1) (by omega) h j (by omega) (by omega)
theorem dst_app {f : Nat → Int32} {c : Nat} {ch : Int32} (h : dst f c) (hn : ixOf f ch c 0 = -1) (h6 : c ≤ 6) : dst (upd f c ch) (c + 1) := by
  have no := ix_no f ch c 0 (by omega) hn
  intro i j hi hj q
  unfold upd at q
  by_cases e1 : i = c
  · by_cases e2 : j = c
    · omega
    · rw [if_pos e1, if_neg e2] at q
      exact absurd q.symm (no j (by omega) (by omega))
  · by_cases e2 : j = c
    · rw [if_neg e1, if_pos e2] at q
      exact absurd q (no i (by omega) (by omega))
    · rw [if_neg e1, if_neg e2] at q
      exact h i j (by omega) (by omega) q
/-- a ground's bits -/
theorem grd_bt {a w : Nat} (haw : a + w ≤ 24) (h10 : w ≤ 10) {j : Nat} (hj : j < 32) : bt (grd (nI a) (nI w)) j = decide (a ≤ j ∧ j < a + w) := by
  unfold grd
  rw [b_shl a (by omega) _ hj, w_shl w (by omega), show nI (2 ^ w) - 1 = nI (2 ^ w - 1) from pk_sub (a := 2 ^ w) (b := 1) (Nat.one_le_two_pow)]
  have hp : 2 ^ w ≤ 2 ^ 10 := Nat.pow_le_pow_right (by omega) h10
  rw [bt_N (by omega), Nat.testBit_two_pow_sub_one]
  by_cases h : a ≤ j
  · rw [decide_eq_true h, Bool.true_and, decide_eq_decide]; omega
  · rw [decide_eq_false h, Bool.false_and, decide_eq_false (by omega)]
/-- what is covered: the fields' grounds -/
def cov (x : Int32) (lo wd : Nat → Nat) (c : Nat) : Prop := ∀ j, j < 32 → (bt x j = true ↔ ∃ k, k < c ∧ lo k ≤ j ∧ j < lo k + wd k)
theorem cov_free {x : Int32} {lo wd : Nat → Nat} {c a w : Nat} (h : cov x lo wd c) (hw : ∀ k, k < c → 1 ≤ wd k ∧ lo k + wd k ≤ 24) (haw : a + w ≤ 24) (h1 : 1 ≤ w) (h10 : w ≤ 10) : x &&& grd (nI a) (nI w) = 0 ↔ ∀ k, k < c → a + w ≤ lo k ∨ lo k + wd k ≤ a := by
  constructor
  · intro h0 k hk
    have h2 := hw k hk
    rcases Nat.lt_or_ge (lo k) (a + w) with q1 | q1
    · rcases Nat.lt_or_ge a (lo k + wd k) with q2 | q2
      · exfalso
        have hj : ∃ j, a ≤ j ∧ j < a + w ∧ lo k ≤ j ∧ j < lo k + wd k := by
          rcases Nat.lt_or_ge a (lo k) with q | q
          · exact ⟨lo k, by omega, by omega, by omega, by omega⟩
          · exact ⟨a, by omega, by omega, by omega, by omega⟩
        obtain ⟨j, j1, j2, j3, j4⟩ := hj
        have hb := congrArg (fun z => bt z j) h0
        simp only [b_and, b_0] at hb
        rw [(h j (by omega)).mpr ⟨k, hk, j3, j4⟩, grd_bt haw h10 (by omega), decide_eq_true ⟨j1, j2⟩] at hb
        cases hb
      · exact .inr q2
    · exact .inl q1
  · intro h0
    apply b_ext
    intro j hj
    rw [b_and, grd_bt haw h10 hj, b_0]
    by_cases q : a ≤ j ∧ j < a + w
    · rw [decide_eq_true q, Bool.and_true]
      cases hb : bt x j with
      | false => rfl
      | true =>
        exfalso
        obtain ⟨k, hk, k1, k2⟩ := (h j hj).mp hb
        rcases h0 k hk with z | z <;> omega
    · rw [decide_eq_false q, Bool.and_false]
theorem cov_app {x : Int32} {lo wd : Nat → Nat} {c a w : Nat} (h : cov x lo wd c) (haw : a + w ≤ 24) (h10 : w ≤ 10) : cov (x ||| grd (nI a) (nI w)) (fun k => if k = c then a else lo k) (fun k => if k = c then w else wd k) (c + 1) := by
  intro j hj
  rw [b_or, grd_bt haw h10 hj, Bool.or_eq_true, decide_eq_true_eq, h j hj]
  simp only
  constructor
  · rintro (⟨k, hk, k1, k2⟩ | q)
    · exact ⟨k, by omega, by rw [if_neg (by omega)]; exact k1, by rw [if_neg (by omega), if_neg (by omega)]; exact k2⟩
    · exact ⟨c, by omega, by rw [if_pos rfl]; exact q.1, by rw [if_pos rfl, if_pos rfl]; exact q.2⟩
  · rintro ⟨k, hk, k1, k2⟩
    by_cases e : k = c
    · rw [if_pos e] at k1
      rw [if_pos e, if_pos e] at k2
      exact .inr ⟨k1, k2⟩
    · rw [if_neg e] at k1
      rw [if_neg e, if_neg e] at k2
      exact .inl ⟨k, by omega, k1, k2⟩
/-- the model's lowest free word: it looks from above -/
def frL (u : Nat → Bool) : Nat → Int32 → Int32
  | 0, v => v
  | k + 1, v => frL u k (if u k = true then v else nI k)
theorem fr_low (x : Int32) (u : Nat → Bool) : ∀ (k n : Nat) (v : Int32), (∀ j, j < n + k → u j = !bt x j) → v = lowF x k n → frL u n v = lowF x (n + k) 0
  | k, 0, v, _, hv => by rw [frL, hv, Nat.zero_add]
  | k, n + 1, v, hu, hv => by
    rw [frL]
    have := fr_low x u (k + 1) n (if u n = true then v else nI n) (fun j hj => hu j (by omega)) (by
      rw [lowF, hu n (by omega), hv]
      cases bt x n <;> rfl)
    rw [this]
    congr 1
    omega
