/-! a new field: class and model judge alike -/
theorem gdL_iff (a w : Int32) (lo wd : Nat → Int32) : ∀ (k i : Nat) (g : Bool), gdL a w lo wd k i g = true ↔ g = true ∧ ∀ j, i ≤ j → j < i + k → a + w ≤ lo j ∨ lo j + wd j ≤ a
  | 0, i, g => ⟨fun h => ⟨h, fun j h1 h2 => by omega⟩, fun h => h.1⟩
  | k + 1, i, g => by
    unfold gdL
    by_cases hg : g = true
    · rw [if_pos hg, gdL_iff a w lo wd k (i + 1), Bool.or_eq_true, decide_eq_true_eq, decide_eq_true_eq]
      constructor
      · rintro ⟨h1, h2⟩
        refine ⟨hg, fun j h3 h4 => ?_⟩
        by_cases e : j = i
        · rw [e]; exact h1
        · exact h2 j (by omega) (by omega)
      · rintro ⟨-, h⟩
        exact ⟨h i (by omega) (by omega), fun j h1 h2 => h j (by omega) (by omega)⟩
    · rw [if_neg hg]
      exact ⟨fun h => (by cases h), fun h => absurd h.1 hg⟩
theorem nI_rng {x : Int32} {k : Nat} (hk : k < 2 ^ 31) (h0 : ¬ x < 0) (h1 : x ≤ nI k) : ∃ j : Nat, j ≤ k ∧ x = nI j := by
  rw [Int32.lt_iff_toInt_lt, Int32.toInt_zero] at h0
  rw [Int32.le_iff_toInt_le, nI_toInt hk] at h1
  refine ⟨x.toInt.toNat, by omega, ?_⟩
  rw [← Int32.toInt_inj, nI_toInt (by omega)]
  omega
/-- both say yes, and then the numbers are small -/
theorem fld_iff {S3 ch a w : Int32} {N L D : Nat → Int32} {lo wd : Nat → Nat} {c : Nat} (h6 : c ≤ 6) (hd : dst N c) (hc : cov S3 lo wd c) (hf : ∀ f, f < c → L f = nI (lo f) ∧ D f = nI (wd f) ∧ 1 ≤ wd f ∧ wd f ≤ 10 ∧ lo f + wd f ≤ 24) :
    (gd ch a w N L D c = true ↔ ¬ newNm N c ch = 0 ∧ ¬ opnG S3 a w = 0) ∧ (¬ newNm N c ch = 0 → ixOf N ch c 0 = -1) ∧ (¬ opnG S3 a w = 0 → ∃ a' w' : Nat, a = nI a' ∧ w = nI w' ∧ 1 ≤ w' ∧ w' ≤ 10 ∧ a' + w' ≤ 24) := by
  have hn : (¬ newNm N c ch = 0) ↔ (97 ≤ ch ∧ ch ≤ 122 ∧ ixOf N ch c 0 = -1) := by
    unfold newNm
    by_cases h1 : ch < 97
    · rw [if_pos h1]
      exact ⟨fun h => absurd rfl h, fun h => absurd h.1 (Int32.not_le.mpr h1)⟩
    · rw [if_neg h1]
      by_cases h2 : 122 < ch
      · rw [if_pos h2]
        exact ⟨fun h => absurd rfl h, fun h => absurd h.2.1 (Int32.not_le.mpr h2)⟩
      · rw [if_neg h2]
        by_cases h3 : ixOf N ch c 0 = -1
        · rw [if_pos h3]
          exact ⟨fun _ => ⟨Int32.not_lt.mp h1, Int32.not_lt.mp h2, h3⟩, fun _ => by decide⟩
        · rw [if_neg h3]
          exact ⟨fun h => absurd rfl h, fun h => absurd h.2.2 h3⟩
  have ho : (¬ opnG S3 a w = 0) ↔ (0 ≤ a ∧ a ≤ 23 ∧ 1 ≤ w ∧ w ≤ 10 ∧ a + w ≤ 24 ∧ S3 &&& grd a w = 0) := by
    have e23 : (24 ≤ a) ↔ ¬ a ≤ 23 := by
      rw [Int32.le_iff_toInt_le, Int32.le_iff_toInt_le, show (24 : Int32).toInt = 24 by decide +kernel, show (23 : Int32).toInt = 23 by decide +kernel]
      omega
    unfold opnG
    by_cases h1 : a < 0
    · rw [if_pos h1]
      exact ⟨fun h => absurd rfl h, fun h => absurd h.1 (Int32.not_le.mpr h1)⟩
    · rw [if_neg h1]
      by_cases h2 : 24 ≤ a
      · rw [if_pos h2]
        exact ⟨fun h => absurd rfl h, fun h => absurd h.2.1 (e23.mp h2)⟩
      · rw [if_neg h2]
        by_cases h3 : w < 1
        · rw [if_pos h3]
          exact ⟨fun h => absurd rfl h, fun h => absurd h.2.2.1 (Int32.not_le.mpr h3)⟩
        · rw [if_neg h3]
          by_cases h4 : w ≤ 10
          · rw [if_pos h4]
            by_cases h5 : 24 < a + w
            · rw [if_pos h5]
              exact ⟨fun h => absurd rfl h, fun h => absurd h.2.2.2.2.1 (Int32.not_le.mpr h5)⟩
            · rw [if_neg h5]
              by_cases h7 : S3 &&& grd a w = 0
              · rw [if_pos h7]
                exact ⟨fun _ => ⟨Int32.not_lt.mp h1, Classical.not_not.mp (fun q => h2 (e23.mpr q)), Int32.not_lt.mp h3, h4, Int32.not_lt.mp h5, h7⟩, fun _ => by decide⟩
              · rw [if_neg h7]
                exact ⟨fun h => absurd rfl h, fun h => absurd h.2.2.2.2.2 h7⟩
          · rw [if_neg h4]
            exact ⟨fun h => absurd rfl h, fun h => absurd h.2.2.2.1 h4⟩
  have hsm : 0 ≤ a → a ≤ 23 → 1 ≤ w → w ≤ 10 → a + w ≤ 24 → ∃ a' w' : Nat, a = nI a' ∧ w = nI w' ∧ 1 ≤ w' ∧ w' ≤ 10 ∧ a' + w' ≤ 24 := by
    intro h1 h2 h3 h4 h5
    obtain ⟨a', ha, rfl⟩ := nI_rng (k := 23) (by omega) (Int32.not_lt.mpr h1) h2
    obtain ⟨w', hw, rfl⟩ := nI_rng (k := 10) (by omega) (by
      intro q
      rw [Int32.lt_iff_toInt_lt, Int32.toInt_zero] at q
      rw [Int32.le_iff_toInt_le, show (1 : Int32).toInt = 1 by decide +kernel] at h3
      omega) h4
    rw [nI_add] at h5
    have h5 := (nI_leI (b := 24) (by omega) (by omega)).mp h5
    have h3 := (nI_leI (a := 1) (by omega) (by omega)).mp h3
    exact ⟨a', w', rfl, rfl, h3, hw, h5⟩
  have hneg : fdL N ch c 0 (-1) < 0 ↔ ixOf N ch c 0 = -1 := by
    rw [fd_ix N ch c hd c 0 (by omega)]
    rcases ixOf_two N ch c 0 with h | ⟨j, h1, h2, h3⟩
    · rw [h]
      exact ⟨fun _ => rfl, fun _ => by decide⟩
    · rw [h3]
      refine ⟨fun h => ?_, fun h => ?_⟩
      · rw [Int32.lt_iff_toInt_lt, nI_toInt (by omega), Int32.toInt_zero] at h
        omega
      · have := congrArg Int32.toInt h
        rw [nI_toInt (by omega), show (-1 : Int32).toInt = -1 by decide +kernel] at this
        omega
  refine ⟨?_, fun h => (hn.mp h).2.2, fun h => ?_⟩
  · rw [hn, ho]
    unfold gd
    rw [gdL_iff]
    unfold gd0
    simp only [Bool.and_eq_true, decide_eq_true_eq]
    rw [hneg]
    constructor
    · rintro ⟨⟨g1, g2, g3, g4, g5, g6, g7, g8⟩, g9⟩
      refine ⟨⟨g1, g2, g3⟩, g4, g5, g6, g7, g8, ?_⟩
      obtain ⟨a', w', rfl, rfl, k1, k2, k3⟩ := hsm g4 g5 g6 g7 g8
      refine (cov_free hc (fun k hk => ⟨(hf k hk).2.2.1, (hf k hk).2.2.2.2⟩) k3 k1 k2).mpr (fun k hk => ?_)
      have := g9 k (by omega) (by omega)
      have hk' := hf k hk
      rw [hk'.1, hk'.2.1, nI_add, nI_add, nI_leI (by omega) (by omega), nI_leI (by omega) (by omega)] at this
      exact this
    · rintro ⟨⟨g1, g2, g3⟩, g4, g5, g6, g7, g8, g9⟩
      refine ⟨⟨g1, g2, g3, g4, g5, g6, g7, g8⟩, fun k _ hk => ?_⟩
      have hk : k < c := by omega
      obtain ⟨a', w', rfl, rfl, k1, k2, k3⟩ := hsm g4 g5 g6 g7 g8
      have := (cov_free hc (fun k hk => ⟨(hf k hk).2.2.1, (hf k hk).2.2.2.2⟩) k3 k1 k2).mp g9 k hk
      have hk' := hf k hk
      rw [hk'.1, hk'.2.1, nI_add, nI_add, nI_leI (by omega) (by omega), nI_leI (by omega) (by omega)]
      exact this
  · obtain ⟨g4, g5, g6, g7, g8, -⟩ := ho.mp h
    exact hsm g4 g5 g6 g7 g8
