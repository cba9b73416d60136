/-! Integer.bitCount counts the bits -/
theorem nI_allB (x : Int32) : ∃ X : Nat, X < 2 ^ 32 ∧ x = nI X := by
  refine ⟨x.toBitVec.toNat, x.toBitVec.isLt, ?_⟩
  apply Int32.toBitVec_inj.mp
  apply BitVec.eq_of_toNat_eq
  rw [pk_tn x.toBitVec.isLt]
theorem nI_and {X Y : Nat} (hX : X < 2 ^ 32) (hY : Y < 2 ^ 32) : nI X &&& nI Y = nI (X &&& Y) := by
  apply Int32.toBitVec_inj.mp
  apply BitVec.eq_of_toNat_eq
  rw [Int32.toBitVec_and, BitVec.toNat_and, pk_tn hX, pk_tn hY, pk_tn (Nat.and_lt_two_pow X hY)]
theorem us_N {X : Nat} (hX : X < 2 ^ 32) (k : Nat) (x : Int32) (hk : ((x.toUInt32 &&& Int32.toUInt32 31).toBitVec % 32).toNat = k) : us (nI X) x = nI (X / 2 ^ k) := pk_ushrN hX x k hk
def L4 (a b c d : Nat) : Nat := a + 256 * (b + 256 * (c + 256 * d))
theorem and_b2 {y z y' z' : Nat} (hy : y < 256) (hy' : y' < 256) : (y + 256 * z) &&& (y' + 256 * z') = (y &&& y') + 256 * (z &&& z') := by
  have h : ∀ {y z : Nat}, y < 256 → ∀ j, (y + 256 * z).testBit j = if j < 8 then y.testBit j else z.testBit (j - 8) := by
    intro y z hy j
    rw [Nat.add_comm]
    exact Nat.testBit_two_pow_mul_add z (i := 8) hy j
  apply Nat.eq_of_testBit_eq
  intro j
  rw [Nat.testBit_and, h hy, h hy', h (Nat.lt_of_le_of_lt Nat.and_le_left hy)]
  split <;> rw [Nat.testBit_and]
theorem and_b4 {a b c d m : Nat} (ha : a < 256) (hb : b < 256) (hc : c < 256) (hm : m < 256) : L4 a b c d &&& L4 m m m m = L4 (a &&& m) (b &&& m) (c &&& m) (d &&& m) := by
  unfold L4
  rw [and_b2 ha hm, and_b2 hb hm, and_b2 hc hm]
theorem bcq1 : ∀ a, a < 256 → ∀ t, t < 2 → (a / 2 + 128 * t) &&& 85 = (a / 2) &&& 85 := by decide +kernel
theorem bcq2 : ∀ a, a < 256 → ∀ t, t < 4 → (a / 4 + 64 * t) &&& 51 = (a / 4) &&& 51 := by decide +kernel
def bcp1 (a : Nat) : Nat := a - ((a / 2) &&& 85)
def bcp2 (a : Nat) : Nat := (a &&& 51) + ((a / 4) &&& 51)
def bcp3 (a : Nat) : Nat := (a + a / 16) &&& 15
theorem bcp1_le : ∀ a, a < 256 → (a / 2) &&& 85 ≤ a := by decide +kernel
theorem bcp2_le : ∀ a, a < 256 → bcp2 (bcp1 a) ≤ 68 ∧ bcp2 (bcp1 a) % 16 ≤ 4 ∧ bcp1 a < 256 := by decide +kernel
theorem bcq3 : ∀ a, a < 69 → ∀ t, t < 5 → (a + a / 16 + 16 * t) &&& 15 = bcp3 a := by decide +kernel
def cntB (p : Nat → Bool) : Nat → Nat
  | 0 => 0
  | n + 1 => cntB p n + (if p n = true then 1 else 0)
theorem bcp3_ct : ∀ a, a < 256 → bcp3 (bcp2 (bcp1 a)) = cntB (fun i => a.testBit i) 8 := by decide +kernel
theorem bcp3_le : ∀ a, a < 256 → bcp3 (bcp2 (bcp1 a)) ≤ 8 := by decide +kernel
theorem bc1_N {a b c d : Nat} (ha : a < 256) (hb : b < 256) (hc : c < 256) (hd : d < 256) : bc1 (nI (L4 a b c d)) = nI (L4 (bcp1 a) (bcp1 b) (bcp1 c) (bcp1 d)) := by
  have hX : L4 a b c d < 2 ^ 32 := by unfold L4; omega
  unfold bc1
  rw [us_N hX 1 1 (by decide +kernel), show (1431655765 : Int32) = nI (L4 85 85 85 85) from rfl, nI_and (by omega) (by decide)]
  have e : L4 a b c d / 2 ^ 1 = L4 (a / 2 + 128 * (b % 2)) (b / 2 + 128 * (c % 2)) (c / 2 + 128 * (d % 2)) (d / 2) := by unfold L4; omega
  have ka := bcp1_le a ha
  have kb := bcp1_le b hb
  have kc := bcp1_le c hc
  have kd := bcp1_le d hd
  rw [e, and_b4 (by omega) (by omega) (by omega) (by omega), bcq1 a ha _ (by omega), bcq1 b hb _ (by omega), bcq1 c hc _ (by omega), pk_sub (by unfold L4; omega)]
  congr 1
  unfold L4 bcp1
  omega
theorem bc2_N {a b c d : Nat} (ha : a < 256) (hb : b < 256) (hc : c < 256) (hd : d < 256) : bc2 (nI (L4 a b c d)) = nI (L4 (bcp2 a) (bcp2 b) (bcp2 c) (bcp2 d)) := by
  have hX : L4 a b c d < 2 ^ 32 := by unfold L4; omega
  unfold bc2
  rw [us_N hX 2 2 (by decide +kernel), show (858993459 : Int32) = nI (L4 51 51 51 51) from rfl, nI_and (by omega) (by decide), nI_and (by omega) (by decide)]
  have e : L4 a b c d / 2 ^ 2 = L4 (a / 4 + 64 * (b % 4)) (b / 4 + 64 * (c % 4)) (c / 4 + 64 * (d % 4)) (d / 4) := by unfold L4; omega
  rw [e, and_b4 (by omega) (by omega) (by omega) (by omega), and_b4 (by omega) (by omega) (by omega) (by omega), bcq2 a ha _ (by omega), bcq2 b hb _ (by omega), bcq2 c hc _ (by omega), nI_add]
  congr 1
  unfold L4 bcp2
  omega
theorem bc3_N {a b c d : Nat} (ha : a ≤ 68 ∧ a % 16 ≤ 4) (hb : b ≤ 68 ∧ b % 16 ≤ 4) (hc : c ≤ 68 ∧ c % 16 ≤ 4) (hd : d ≤ 68 ∧ d % 16 ≤ 4) : bc3 (nI (L4 a b c d)) = nI (L4 (bcp3 a) (bcp3 b) (bcp3 c) (bcp3 d)) := by
  have hX : L4 a b c d < 2 ^ 32 := by unfold L4; omega
  unfold bc3
  have e : L4 a b c d + L4 a b c d / 2 ^ 4 = L4 (a + a / 16 + 16 * (b % 16)) (b + b / 16 + 16 * (c % 16)) (c + c / 16 + 16 * (d % 16)) (d + d / 16) := by unfold L4; omega
  rw [us_N hX 4 4 (by decide +kernel), nI_add, e, show (252645135 : Int32) = nI (L4 15 15 15 15) from rfl, nI_and (by unfold L4; omega) (by decide)]
  rw [and_b4 (by omega) (by omega) (by omega) (by omega), bcq3 a (by omega) _ (by omega), bcq3 b (by omega) _ (by omega), bcq3 c (by omega) _ (by omega)]
  rfl
theorem bc4_N {a b c d : Nat} (ha : a ≤ 8) (hb : b ≤ 8) (hc : c ≤ 8) (hd : d ≤ 8) : bc5 (bc4 (nI (L4 a b c d))) &&& 63 = nI (a + b + c + d) := by
  have hX : L4 a b c d < 2 ^ 32 := by unfold L4; omega
  unfold bc4 bc5
  have e : L4 a b c d + L4 a b c d / 2 ^ 8 = L4 (a + b) (b + c) (c + d) d := by unfold L4; omega
  have e2 : L4 (a + b) (b + c) (c + d) d / 2 ^ 16 = c + d + 256 * d := by unfold L4; omega
  rw [us_N hX 8 8 (by decide +kernel), nI_add, e, us_N (by unfold L4; omega) 16 16 (by decide +kernel), e2, nI_add]
  rw [pk_andN (by unfold L4; omega) 6 (by decide)]
  congr 1
  unfold L4
  omega
theorem cntB_app (p : Nat → Bool) (m : Nat) : ∀ k, cntB p (m + k) = cntB p m + cntB (fun i => p (m + i)) k
  | 0 => rfl
  | k + 1 => by
    show cntB p (m + k) + _ = cntB p m + (cntB (fun i => p (m + i)) k + _)
    rw [cntB_app p m k, Nat.add_assoc]
    rfl
theorem cntB_ext {p q : Nat → Bool} : ∀ n, (∀ i, i < n → p i = q i) → cntB p n = cntB q n
  | 0, _ => rfl
  | n + 1, h => by
    show cntB p n + _ = cntB q n + _
    rw [cntB_ext n (fun i hi => h i (by omega)), h n (by omega)]
theorem cntB_le (p : Nat → Bool) : ∀ n, cntB p n ≤ n
  | 0 => Nat.le_refl _
  | n + 1 => by
    have := cntB_le p n
    unfold cntB
    split <;> omega
theorem bcJ_eq (x : Int32) : bcJ x = nI (cntB (bt x) 32) := by
  obtain ⟨X, hX, rfl⟩ := nI_allB x
  have h4 : X = L4 (X % 256) (X / 256 % 256) (X / 65536 % 256) (X / 16777216) := by unfold L4; omega
  have ha : X % 256 < 256 := by omega
  have hb : X / 256 % 256 < 256 := by omega
  have hc : X / 65536 % 256 < 256 := by omega
  have hd : X / 16777216 < 256 := by omega
  unfold bcJ
  rw [show nI X = nI (L4 (X % 256) (X / 256 % 256) (X / 65536 % 256) (X / 16777216)) by rw [← h4]]
  have a2 := bcp2_le _ ha
  have b2 := bcp2_le _ hb
  have c2 := bcp2_le _ hc
  have d2 := bcp2_le _ hd
  rw [bc1_N ha hb hc hd, bc2_N a2.2.2 b2.2.2 c2.2.2 d2.2.2, bc3_N ⟨a2.1, a2.2.1⟩ ⟨b2.1, b2.2.1⟩ ⟨c2.1, c2.2.1⟩ ⟨d2.1, d2.2.1⟩, bc4_N (bcp3_le _ ha) (bcp3_le _ hb) (bcp3_le _ hc) (bcp3_le _ hd), ← h4]
  congr 1
  rw [bcp3_ct _ ha, bcp3_ct _ hb, bcp3_ct _ hc, bcp3_ct _ hd]
  have T : ∀ i, bt (nI X) i = X.testBit i := fun i => by unfold bt; rw [BitVec.getLsbD, pk_tn hX]
  rw [show (32 : Nat) = 24 + 8 from rfl, cntB_app, show (24 : Nat) = 16 + 8 from rfl, cntB_app, show (16 : Nat) = 8 + 8 from rfl, cntB_app]
  congr 1
  · congr 1
    · congr 1
      · refine cntB_ext 8 (fun i hi => ?_)
        rw [T, show (256 : Nat) = 2 ^ 8 from rfl, Nat.testBit_mod_two_pow, decide_eq_true hi, Bool.true_and]
      · refine cntB_ext 8 (fun i hi => ?_)
        rw [T, show (256 : Nat) = 2 ^ 8 from rfl, Nat.testBit_mod_two_pow, decide_eq_true hi, Bool.true_and, Nat.testBit_div_two_pow, Nat.add_comm]
    · refine cntB_ext 8 (fun i hi => ?_)
      rw [T, show (65536 : Nat) = 2 ^ 16 from rfl, show (256 : Nat) = 2 ^ 8 from rfl, Nat.testBit_mod_two_pow, decide_eq_true hi, Bool.true_and, Nat.testBit_div_two_pow, Nat.add_comm]
  · refine cntB_ext 8 (fun i hi => ?_)
    rw [T, show (16777216 : Nat) = 2 ^ 24 from rfl, Nat.testBit_div_two_pow, Nat.add_comm]
