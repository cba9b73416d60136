/-! the bytes of a long, and what they do to the text -/
def cd (x : Int64) (i : Nat) : Int32 := ((x.toUInt64 >>> (((8 : Int32) * nI i).toInt64.toUInt64 &&& Int64.toUInt64 63)).toInt64 &&& 255).toInt32
theorem and255 (y : Int64) : ∃ c : Nat, c < 256 ∧ (y &&& 255).toInt32 = nI c := by
  refine ⟨(y &&& 255).toBitVec.toNat, ?_, ?_⟩
  · rw [Int64.toBitVec_and, BitVec.toNat_and]
    exact Nat.lt_of_le_of_lt Nat.and_le_right (by decide)
  · have e : (y &&& 255) = lN (y &&& 255).toBitVec.toNat := by
      apply Int64.toBitVec_inj.mp
      show _ = BitVec.ofNat 64 (y &&& 255).toBitVec.toNat
      apply BitVec.eq_of_toNat_eq
      simp
    rw [e, lN_i, ← e]
theorem cd_nI (x : Int64) (i : Nat) : ∃ c : Nat, c < 256 ∧ cd x i = nI c := and255 _
theorem nI_i2c {c : Nat} (h : c < 65536) : ((nI c).toUInt32 % 65536).toInt32 = nI c := by
  rw [pk_char, pk_tn (by omega), Nat.mod_eq_of_lt h]
/-- how many characters more, if all may stand -/
def ctk (x : Int64) : Nat → Nat → Nat → Option Nat
  | 0, _, m => some m
  | k + 1, i, m => if cd x i = 0 then ctk x k (i + 1) m else if cd x i < 32 then none else if cd x i ≤ 126 then ctk x k (i + 1) (m + 1) else none
def apT (x : Int64) : Nat → Nat → Nat × (Nat → Int32) → Nat × (Nat → Int32)
  | 0, _, q => q
  | k + 1, i, q => if cd x i = 0 then apT x k (i + 1) q else if 100 ≤ q.1 then apT x k (i + 1) q else apT x k (i + 1) (q.1 + 1, upd q.2 q.1 (cd x i))
def canT (x : Int64) (n : Nat) : Int32 := match ctk x 8 0 0 with
  | none => 0
  | some m => if n + m ≤ 100 then 1 else 0
theorem ctk_le (x : Int64) : ∀ (k i m r : Nat), ctk x k i m = some r → r ≤ m + k
  | 0, i, m, r, h => by cases h; omega
  | k + 1, i, m, r, h => by
    unfold ctk at h
    split at h
    · have := ctk_le x k (i + 1) m r h; omega
    · split at h
      · cases h
      · split at h
        · have := ctk_le x k (i + 1) (m + 1) r h; omega
        · cases h
