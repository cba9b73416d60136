/-! a field's value, told twice -/
theorem nI_all (x : Int32) : ∃ X : Nat, X < 2 ^ 32 ∧ x = nI X := by
  refine ⟨x.toBitVec.toNat, x.toBitVec.isLt, ?_⟩
  apply Int32.toBitVec_inj.mp
  apply BitVec.eq_of_toNat_eq
  rw [pk_tn x.toBitVec.isLt]
theorem w_shl : ∀ w, w < 11 → (1 : Int32) <<< (nI w &&& 31) = nI (2 ^ w) := by decide +kernel
theorem w_half : ∀ w, w < 11 → 1 ≤ w → ((1 : Int32) <<< (nI w &&& 31)) >>> ((1 : Int32) &&& 31) = nI (2 ^ (w - 1)) := by decide +kernel
theorem w_msk : ∀ w, w < 11 → (nI (2 ^ w) - 1).toBitVec.toNat = 2 ^ w - 1 := by decide +kernel
theorem a_31 : ∀ a, a < 32 → (((nI a).toUInt32 &&& Int32.toUInt32 31).toBitVec % 32).toNat = a := by decide +kernel
theorem vraw_N {a w X : Nat} (ha : a < 32) (hw : w < 11) (hX : X < 2 ^ 32) : vraw (nI a) (nI w) (nI X) = nI (X / 2 ^ a % 2 ^ w) := by
  unfold vraw
  rw [pk_ushrN hX (nI a) a (a_31 a ha), w_shl w hw]
  exact pk_andN (Nat.lt_of_le_of_lt (Nat.div_le_self _ _) hX) w (w_msk w hw)
theorem bt_N {X i : Nat} (hX : X < 2 ^ 32) : bt (nI X) i = X.testBit i := by
  unfold bt
  rw [BitVec.getLsbD, pk_tn hX]
theorem bit_N {a i X : Nat} (hi : a + i < 32) (hX : X < 2 ^ 32) : ((nI X >>> ((nI a + nI i) &&& 31)) &&& 1) = nI ((X / 2 ^ a).testBit i).toNat := by
  rw [nI_add]
  have hb : bt (nI X) (a + i) = (X / 2 ^ a).testBit i := by rw [bt_N hX, Nat.testBit_div_two_pow, Nat.add_comm]
  rw [← hb]
  cases h : bt (nI X) (a + i) with
  | true => exact (hs_iff (nI X) hi).mpr h
  | false =>
    apply b_ext
    intro j hj
    rw [b_and, b_1, b_sshr (a + i) hi (nI X) hj]
    by_cases h0 : j = 0
    · subst h0
      rw [if_pos (by omega), Nat.add_zero, h]
      rfl
    · rw [decide_eq_false h0, Bool.and_false]
      exact (b_0 j).symm
theorem md_succ (Y i : Nat) : Y % 2 ^ (i + 1) = Y % 2 ^ i + (Y.testBit i).toNat * 2 ^ i := by rw [Nat.mod_pow_succ, Nat.toNat_testBit, Nat.mul_comm]
theorem mvL_N {a w X : Nat} {z : Int32} (haw : a + w ≤ 24) (hX : X < 2 ^ 32) : ∀ (k i : Nat), i + k + 1 = w → mvL (nI a) w z (nI X) (k + 1) i (nI (X / 2 ^ a % 2 ^ i)) (nI (2 ^ i)) = if z = 0 then nI (X / 2 ^ a % 2 ^ w) else nI (X / 2 ^ a % 2 ^ (w - 1)) - nI ((X / 2 ^ a).testBit (w - 1)).toNat * nI (2 ^ (w - 1))
  | 0, i, h => by
    have hi : i = w - 1 := by omega
    rw [mvL, mvL, bit_N (by omega) hX]
    by_cases hz : z = 0
    · rw [if_pos hz, if_neg (fun q => q.1 hz), pk_mul, nI_add, show w = i + 1 by omega, md_succ]
    · rw [if_neg hz, if_pos ⟨hz, hi⟩, hi, Int32.mul_neg, Int32.sub_eq_add_neg]
  | k + 1, i, h => by
    rw [mvL, bit_N (by omega) hX, if_neg (fun q => by omega), pk_mul, nI_add]
    have e : X / 2 ^ a % 2 ^ i + ((X / 2 ^ a).testBit i).toNat * 2 ^ i = X / 2 ^ a % 2 ^ (i + 1) := by rw [md_succ]
    have e2 : (2 : Int32) * nI (2 ^ i) = nI (2 ^ (i + 1)) := by
      rw [show (2 : Int32) = nI 2 from rfl, pk_mul, Nat.pow_succ, Nat.mul_comm]
    rw [e, e2]
    exact mvL_N haw hX k (i + 1) (by omega)
/-- the class's value is the model's -/
theorem val_eq {a w : Nat} (z b : Int32) (h1 : 1 ≤ w) (h10 : w ≤ 10) (haw : a + w ≤ 24) : vval (nI a) (nI w) z b = mvL (nI a) w z b w 0 0 1 := by
  obtain ⟨X, hX, rfl⟩ := nI_all b
  have hm := mvL_N (z := z) haw hX (w - 1) 0 (by omega)
  rw [show w - 1 + 1 = w by omega, Nat.pow_zero, Nat.mod_one] at hm
  refine Eq.trans ?_ hm.symm
  unfold vval
  rw [vraw_N (by omega) (by omega) hX, w_half w (by omega) h1, w_shl w (by omega)]
  by_cases hz : z = 0
  · rw [if_pos hz, if_pos hz]
  · rw [if_neg hz, if_neg hz]
    have hp : 2 ^ (w - 1) ≤ 2 ^ 10 := Nat.pow_le_pow_right (by omega) (by omega)
    have hp2 : 2 ^ w = 2 ^ (w - 1) * 2 := by rw [← Nat.pow_succ]; congr 1; omega
    have hlt : X / 2 ^ a % 2 ^ (w - 1) < 2 ^ (w - 1) := Nat.mod_lt _ (Nat.two_pow_pos _)
    have e := md_succ (X / 2 ^ a) (w - 1)
    rw [show w - 1 + 1 = w by omega] at e
    rw [e]
    cases hb : (X / 2 ^ a).testBit (w - 1) with
    | false =>
      simp only [Bool.toNat_false, Nat.zero_mul, Nat.add_zero]
      rw [if_pos (nI_lt hlt (by omega)), pk_mul, Nat.zero_mul, show nI 0 = 0 from rfl, Int32.sub_zero]
    | true =>
      simp only [Bool.toNat_true, Nat.one_mul]
      rw [if_neg (fun q => absurd ((nI_ltI (by omega) (by omega)).mp q) (by omega)), pk_mul, Nat.one_mul, hp2, Nat.mul_two, ← nI_add, ← nI_add]
      rw [← Int32.sub_sub, Int32.add_sub_cancel]
theorem fit_z : ∀ w, w < 11 → 1 ≤ w → -((1 : Int32) <<< (nI w &&& 31)) / 2 = -(((1 : Int32) <<< (nI w &&& 31)) >>> ((1 : Int32) &&& 31)) ∧ ((1 : Int32) <<< (nI w &&& 31)) / 2 = -(((1 : Int32) <<< (nI w &&& 31)) >>> ((1 : Int32) &&& 31)) + ((1 : Int32) <<< (nI w &&& 31)) := by decide +kernel
theorem fit_eq {w : Nat} (z v : Int32) (h1 : 1 ≤ w) (h10 : w ≤ 10) : vfit (nI w) z v = mfit (nI w) z v := by
  unfold vfit mfit vlow
  by_cases hz : z = 0
  · rw [if_pos hz, if_pos hz, Int32.zero_add]
  · rw [if_neg hz, if_neg hz, (fit_z w (by omega) h1).1, (fit_z w (by omega) h1).2]
theorem put_eq {a : Nat} (w b v : Int32) (ha : a < 32) : vput (nI a) w b v = mput (nI a) w b v := by
  unfold vput mput grd
  congr 1
  apply b_ext
  intro i hi
  rw [b_and, b_shl a ha _ hi, b_shl a ha _ hi, b_shl a ha _ hi, b_and]
  cases decide (a ≤ i) <;> simp
theorem l_sr : ∀ i, i < 8 → ((((8 : Int32) * nI i).toInt64 &&& 63).toBitVec.smod 64).toNat = 8 * i := by decide +kernel
theorem l_ur : ∀ i, i < 8 → ((((8 : Int32) * nI i).toInt64.toUInt64 &&& Int64.toUInt64 63).toBitVec % 64).toNat = 8 * i := by decide +kernel
theorem l_255 : ∀ i, i < 64 → (255 : Int64).toBitVec.getLsbD i = decide (i < 8) := by decide +kernel
theorem cd_eq (x : Int64) (i : Nat) (hi : i < 8) : ((x >>> (((8 : Int32) * nI i).toInt64 &&& 63)) &&& 255).toInt32 = cd x i := by
  unfold cd
  congr 1
  apply Int64.toBitVec_inj.mp
  apply BitVec.eq_of_getLsbD_eq
  intro j hj
  rw [Int64.toBitVec_and, BitVec.getLsbD_and, Int64.toBitVec_and, BitVec.getLsbD_and, l_255 j hj]
  by_cases h : j < 8
  · congr 1
    rw [Int64.toBitVec_shiftRight]
    show (x.toBitVec.sshiftRight ((((8 : Int32) * nI i).toInt64 &&& 63).toBitVec.smod 64).toNat).getLsbD j = (x.toUInt64 >>> (((8 : Int32) * nI i).toInt64.toUInt64 &&& Int64.toUInt64 63)).toBitVec.getLsbD j
    rw [UInt64.toBitVec_shiftRight]
    show _ = (x.toBitVec >>> ((((8 : Int32) * nI i).toInt64.toUInt64 &&& Int64.toUInt64 63).toBitVec % 64).toNat).getLsbD j
    rw [l_sr i hi, l_ur i hi, BitVec.getLsbD_ushiftRight, BitVec.getLsbD_sshiftRight]
    simp [hj, show 8 * i + j < 64 by omega]
  · rw [decide_eq_false h, Bool.and_false, Bool.and_false]
