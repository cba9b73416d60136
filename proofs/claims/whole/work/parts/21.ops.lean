/-! the JDK: Integer.compare, Integer.bitCount, Math.max, Math.min; BitLoom$Operand, Pair, Change -/
def cmpJ (x y : Int32) : Int32 := if y ≤ x then (if x = y then 0 else 1) else -1
theorem m_JInteger_compare (K : jK) (d : Nat) (h : jH) (x y : Int32) : jM K M_JInteger_compare d [.int x, .int y] (h) (rI (cmpJ x y) h) 0 0 := by
  refine jM.of (by decide) (Nat.le_of_ble_eq_true rfl) ?_
  refine j_iload_n d_JInteger_compare_0 rfl ?_
  refine j_iload_n d_JInteger_compare_1 rfl ?_
  refine j_icmp_ge (tgt := 9) d_JInteger_compare_2 rfl (fun h2 => ?_) (fun h2 => ?_)
  · refine j_iload_n d_JInteger_compare_9 rfl ?_
    refine j_iload_n d_JInteger_compare_10 rfl ?_
    refine j_icmp_ne (tgt := 18) d_JInteger_compare_11 rfl (fun h11 => ?_) (fun h11 => ?_)
    · refine j_iconst (v := 1) d_JInteger_compare_18 rfl ?_
      exact j_iret rfl d_JInteger_compare_19 ⟨by first | (simp only [cmpJ, h2, h11, ↓reduceIte]; done) | (simp [cmpJ, h2, h11]; done), rfl⟩
    · refine j_iconst (v := 0) d_JInteger_compare_14 rfl ?_
      refine j_goto (tgt := 19) d_JInteger_compare_15 rfl ?_
      exact j_iret rfl d_JInteger_compare_19 ⟨by first | (simp only [cmpJ, h2, h11, ↓reduceIte]; done) | (simp [cmpJ, h2, h11]; done), rfl⟩
  · refine j_iconst (v := -1) d_JInteger_compare_5 rfl ?_
    refine j_goto (tgt := 19) d_JInteger_compare_6 rfl ?_
    exact j_iret rfl d_JInteger_compare_19 ⟨by first | (simp only [cmpJ, h2, ↓reduceIte]; done) | (simp [cmpJ, h2]; done), rfl⟩
def us (x : Int32) (k : Int32) : Int32 := (x.toUInt32 >>> (k.toUInt32 &&& Int32.toUInt32 31)).toInt32
def bc1 (x : Int32) : Int32 := x - (us x 1 &&& 1431655765)
def bc2 (x : Int32) : Int32 := (x &&& 858993459) + (us x 2 &&& 858993459)
def bc3 (x : Int32) : Int32 := (x + us x 4) &&& 252645135
def bc4 (x : Int32) : Int32 := x + us x 8
def bc5 (x : Int32) : Int32 := x + us x 16
def bcJ (x : Int32) : Int32 := bc5 (bc4 (bc3 (bc2 (bc1 x)))) &&& 63
theorem m_JInteger_bitCount (K : jK) (d : Nat) (h : jH) (x : Int32) : jM K M_JInteger_bitCount d [.int x] (h) (rI (bcJ x) h) 0 0 := by
  refine jM.of (by decide) (Nat.le_of_ble_eq_true rfl) ?_
  refine j_iload_n d_JInteger_bitCount_0 rfl ?_
  refine j_iload_n d_JInteger_bitCount_1 rfl ?_
  refine j_iconst (v := 1) d_JInteger_bitCount_2 rfl ?_
  refine j_iushr d_JInteger_bitCount_3 ?_
  refine j_ldcw d_JInteger_bitCount_4 c_JInteger_265 ?_
  refine j_iand d_JInteger_bitCount_7 ?_
  refine j_isub d_JInteger_bitCount_8 ?_
  refine j_istore_n d_JInteger_bitCount_9 (by decide) ?_
  refine j_iload_n d_JInteger_bitCount_10 rfl ?_
  refine j_ldcw d_JInteger_bitCount_11 c_JInteger_266 ?_
  refine j_iand d_JInteger_bitCount_14 ?_
  refine j_iload_n d_JInteger_bitCount_15 rfl ?_
  refine j_iconst (v := 2) d_JInteger_bitCount_16 rfl ?_
  refine j_iushr d_JInteger_bitCount_17 ?_
  refine j_ldcw d_JInteger_bitCount_18 c_JInteger_266 ?_
  refine j_iand d_JInteger_bitCount_21 ?_
  refine j_iadd d_JInteger_bitCount_22 ?_
  refine j_istore_n d_JInteger_bitCount_23 (by decide) ?_
  refine j_iload_n d_JInteger_bitCount_24 rfl ?_
  refine j_iload_n d_JInteger_bitCount_25 rfl ?_
  refine j_iconst (v := 4) d_JInteger_bitCount_26 rfl ?_
  refine j_iushr d_JInteger_bitCount_27 ?_
  refine j_iadd d_JInteger_bitCount_28 ?_
  refine j_ldcw d_JInteger_bitCount_29 c_JInteger_267 ?_
  refine j_iand d_JInteger_bitCount_32 ?_
  refine j_istore_n d_JInteger_bitCount_33 (by decide) ?_
  refine j_iload_n d_JInteger_bitCount_34 rfl ?_
  refine j_iload_n d_JInteger_bitCount_35 rfl ?_
  refine j_bipush (v := 8) d_JInteger_bitCount_36 (by decide) ?_
  refine j_iushr d_JInteger_bitCount_38 ?_
  refine j_iadd d_JInteger_bitCount_39 ?_
  refine j_istore_n d_JInteger_bitCount_40 (by decide) ?_
  refine j_iload_n d_JInteger_bitCount_41 rfl ?_
  refine j_iload_n d_JInteger_bitCount_42 rfl ?_
  refine j_bipush (v := 16) d_JInteger_bitCount_43 (by decide) ?_
  refine j_iushr d_JInteger_bitCount_45 ?_
  refine j_iadd d_JInteger_bitCount_46 ?_
  refine j_istore_n d_JInteger_bitCount_47 (by decide) ?_
  refine j_iload_n d_JInteger_bitCount_48 rfl ?_
  refine j_bipush (v := 63) d_JInteger_bitCount_49 (by decide) ?_
  refine j_iand d_JInteger_bitCount_51 ?_
  exact j_iret rfl d_JInteger_bitCount_52 ⟨rfl, rfl⟩
def maxJ (x y : Int32) : Int32 := if x < y then y else x
def minJ (x y : Int32) : Int32 := if y < x then y else x
theorem m_JMath_max (K : jK) (d : Nat) (h : jH) (x y : Int32) : jM K M_JMath_max d [.int x, .int y] (h) (rI (maxJ x y) h) 0 0 := by
  refine jM.of (by decide +kernel) (Nat.le_of_ble_eq_true rfl) ?_
  refine j_iload_n d_JMath_max_0 rfl ?_
  refine j_iload_n d_JMath_max_1 rfl ?_
  refine j_icmp_lt (tgt := 9) d_JMath_max_2 rfl (fun h2 => ?_) (fun h2 => ?_)
  · refine j_iload_n d_JMath_max_9 rfl ?_
    exact j_iret rfl d_JMath_max_10 ⟨by first | (rw [maxJ, if_pos h2]; done) | (rw [maxJ, if_neg h2]; done) | (rw [maxJ, if_neg (Int32.not_lt.mpr h2)]; done) | (rw [maxJ, if_pos (Int32.not_le.mp h2)]; done), rfl⟩
  · refine j_iload_n d_JMath_max_5 rfl ?_
    refine j_goto (tgt := 10) d_JMath_max_6 rfl ?_
    exact j_iret rfl d_JMath_max_10 ⟨by first | (rw [maxJ, if_pos h2]; done) | (rw [maxJ, if_neg h2]; done) | (rw [maxJ, if_neg (Int32.not_lt.mpr h2)]; done) | (rw [maxJ, if_pos (Int32.not_le.mp h2)]; done), rfl⟩
theorem m_JMath_min (K : jK) (d : Nat) (h : jH) (x y : Int32) : jM K M_JMath_min d [.int x, .int y] (h) (rI (minJ x y) h) 0 0 := by
  refine jM.of (by decide +kernel) (Nat.le_of_ble_eq_true rfl) ?_
  refine j_iload_n d_JMath_min_0 rfl ?_
  refine j_iload_n d_JMath_min_1 rfl ?_
  refine j_icmp_gt (tgt := 9) d_JMath_min_2 rfl (fun h2 => ?_) (fun h2 => ?_)
  · refine j_iload_n d_JMath_min_9 rfl ?_
    exact j_iret rfl d_JMath_min_10 ⟨by first | (rw [minJ, if_pos h2]; done) | (rw [minJ, if_neg h2]; done) | (rw [minJ, if_neg (Int32.not_lt.mpr h2)]; done) | (rw [minJ, if_pos (Int32.not_le.mp h2)]; done), rfl⟩
  · refine j_iload_n d_JMath_min_5 rfl ?_
    refine j_goto (tgt := 10) d_JMath_min_6 rfl ?_
    exact j_iret rfl d_JMath_min_10 ⟨by first | (rw [minJ, if_pos h2]; done) | (rw [minJ, if_neg h2]; done) | (rw [minJ, if_neg (Int32.not_lt.mpr h2)]; done) | (rw [minJ, if_pos (Int32.not_le.mp h2)]; done), rfl⟩
theorem vfit_nar (w z v : Int32) : narrow .boolean (.int (vfit w z v)) = .int (vfit w z v) := by
  unfold vfit
  split
  · rfl
  · split <;> rfl
/-- an operand: a field by its number, or a number -/
def okO (S : jS) (f : Nat) : Prop := S.1 f = -1 ∨ ∃ j : Nat, j < 6 ∧ S.1 f = nI j
def fval (S : jS) (j : Nat) (b : Int32) : Int32 := vval (S.2.1 1 j) (S.2.1 2 j) (S.2.1 3 j) b
def opv (S : jS) (f n : Nat) (b : Int32) : Int32 := if S.1 f = -1 then S.1 n else fval S (S.1 f).toNatClampNeg b
def tru (s x y : Int32) : Int32 := if s = 60 then (if x < y then 1 else 0) else if s = 62 then (if y < x then 1 else 0) else if x = y then 1 else 0
def res (s x y : Int32) : Int32 := if s = 43 then x + y else if s = 45 then x - y else if s = 42 then x * y else x
theorem cmp_lt (x y : Int32) : 0 ≤ cmpJ x y ↔ ¬ x < y := by
  unfold cmpJ
  by_cases h : y ≤ x
  · rw [if_pos h]
    by_cases h2 : x = y
    · rw [if_pos h2]; exact ⟨fun _ => Int32.not_lt.mpr h, fun _ => by decide⟩
    · rw [if_neg h2]; exact ⟨fun _ => Int32.not_lt.mpr h, fun _ => by decide⟩
  · rw [if_neg h]; exact ⟨fun q => absurd q (by decide), fun q => absurd (Int32.not_lt.mp q) h⟩
theorem cmp_gt (x y : Int32) : cmpJ x y ≤ 0 ↔ ¬ y < x := by
  unfold cmpJ
  by_cases h : y ≤ x
  · rw [if_pos h]
    by_cases h2 : x = y
    · rw [if_pos h2, h2]; exact ⟨fun _ => Int32.lt_irrefl, fun _ => by decide⟩
    · rw [if_neg h2]
      exact ⟨fun q => absurd q (by decide), fun q => absurd (Int32.le_antisymm (Int32.not_lt.mp q) h) h2⟩
  · rw [if_neg h]; exact ⟨fun _ q => h (Int32.le_of_lt q), fun _ => by decide⟩
theorem cmp_eq (x y : Int32) : cmpJ x y = 0 ↔ x = y := by
  unfold cmpJ
  by_cases h : y ≤ x
  · rw [if_pos h]
    by_cases h2 : x = y
    · rw [if_pos h2]; exact ⟨fun _ => h2, fun _ => rfl⟩
    · rw [if_neg h2]; exact ⟨fun q => absurd q (by decide), fun q => absurd q h2⟩
  · rw [if_neg h]; exact ⟨fun q => absurd q (by decide), fun q => absurd (by rw [q]; exact Int32.le_refl y) h⟩
theorem m_O_becomeField_48 (K : jK) (d : Nat) (S : jS) (J : jH) (v : Int32) : jM K M_O_becomeField d [.ref 48, .int v] (lay S ++ J) (rV (lay (s1 S 14 v) ++ J)) 0 0 := by
  refine jM.of (by decide) (Nat.le_of_ble_eq_true rfl) ?_
  refine j_aload_n d_O_becomeField_0 rfl ?_
  refine j_iload_n d_O_becomeField_1 rfl ?_
  refine j_putf d_O_becomeField_2 f_O_15 rfl (Nat.le_of_ble_eq_true rfl) rfl rfl rfl ?_
  exact j_vret rfl d_O_becomeField_5 ⟨rfl, rfl⟩
theorem m_O_becomeNumber_48 (K : jK) (d : Nat) (S : jS) (J : jH) (v : Int32) : jM K M_O_becomeNumber d [.ref 48, .int v] (lay S ++ J) (rV (lay (s1 (s1 S 14 (-1)) 15 v) ++ J)) 0 0 := by
  refine jM.of (by decide) (Nat.le_of_ble_eq_true rfl) ?_
  refine j_aload_n d_O_becomeNumber_0 rfl ?_
  refine j_iconst (v := -1) d_O_becomeNumber_1 rfl ?_
  refine j_putf d_O_becomeNumber_2 f_O_15 rfl (Nat.le_of_ble_eq_true rfl) rfl rfl rfl ?_
  refine j_aload_n d_O_becomeNumber_5 rfl ?_
  refine j_iload_n d_O_becomeNumber_6 rfl ?_
  refine j_putf d_O_becomeNumber_7 f_O_19 rfl (Nat.le_of_ble_eq_true rfl) rfl rfl rfl ?_
  exact j_vret rfl d_O_becomeNumber_10 ⟨rfl, rfl⟩
theorem m_O_valueIn_48 (K : jK) (d : Nat) (hd : 1 ≤ d) (S : jS) (J : jH) (b : Int32) (ho : okO S 14) : jM K M_O_valueIn d [.ref 48, .int b] (lay S ++ J) (rI (opv S 14 15 b) (lay S ++ J)) 0 0 := by
  refine jM.of (by decide) (Nat.le_of_ble_eq_true rfl) ?_
  refine j_aload_n d_O_valueIn_0 rfl ?_
  refine j_getf d_O_valueIn_1 f_O_15 rfl rfl ?_
  refine j_iconst (v := -1) d_O_valueIn_4 rfl ?_
  refine j_icmp_ne (tgt := 15) d_O_valueIn_5 rfl (fun h5 => ?_) (fun h5 => ?_)
  · refine j_aload_n d_O_valueIn_15 rfl ?_
    refine j_getf d_O_valueIn_16 f_O_9 rfl rfl ?_
    refine j_aload_n d_O_valueIn_19 rfl ?_
    refine j_getf d_O_valueIn_20 f_O_15 rfl rfl ?_
    obtain ⟨j, hj6, hj⟩ := ho.resolve_left h5
    refine j_top (w := .int (nI j)) (congrArg Value.int hj) ?_
    refine j_iload_n d_O_valueIn_23 rfl ?_
    refine j_retI (j_callV d_O_valueIn_24 v_F_valueIn l_O_22 rfl rfl (m_F_valueIn K (d - 1) S J j b hj6) (by omega) (by decide) (Nat.le_of_ble_eq_true rfl) rfl) rfl ?_
    exact j_iret rfl d_O_valueIn_27 ⟨by first | (rw [opv, if_pos h5]; done) | (rw [opv, if_neg h5, hj, nI_clamp (by omega)]; rfl), rfl⟩
  · refine j_aload_n d_O_valueIn_8 rfl ?_
    refine j_getf d_O_valueIn_9 f_O_19 rfl rfl ?_
    refine j_goto (tgt := 27) d_O_valueIn_12 rfl ?_
    exact j_iret rfl d_O_valueIn_27 ⟨by first | (rw [opv, if_pos h5]; done) | (rw [opv, if_neg h5, hj, nI_clamp (by omega)]; rfl), rfl⟩
theorem m_O_becomeField_49 (K : jK) (d : Nat) (S : jS) (J : jH) (v : Int32) : jM K M_O_becomeField d [.ref 49, .int v] (lay S ++ J) (rV (lay (s1 S 16 v) ++ J)) 0 0 := by
  refine jM.of (by decide) (Nat.le_of_ble_eq_true rfl) ?_
  refine j_aload_n d_O_becomeField_0 rfl ?_
  refine j_iload_n d_O_becomeField_1 rfl ?_
  refine j_putf d_O_becomeField_2 f_O_15 rfl (Nat.le_of_ble_eq_true rfl) rfl rfl rfl ?_
  exact j_vret rfl d_O_becomeField_5 ⟨rfl, rfl⟩
theorem m_O_becomeNumber_49 (K : jK) (d : Nat) (S : jS) (J : jH) (v : Int32) : jM K M_O_becomeNumber d [.ref 49, .int v] (lay S ++ J) (rV (lay (s1 (s1 S 16 (-1)) 17 v) ++ J)) 0 0 := by
  refine jM.of (by decide) (Nat.le_of_ble_eq_true rfl) ?_
  refine j_aload_n d_O_becomeNumber_0 rfl ?_
  refine j_iconst (v := -1) d_O_becomeNumber_1 rfl ?_
  refine j_putf d_O_becomeNumber_2 f_O_15 rfl (Nat.le_of_ble_eq_true rfl) rfl rfl rfl ?_
  refine j_aload_n d_O_becomeNumber_5 rfl ?_
  refine j_iload_n d_O_becomeNumber_6 rfl ?_
  refine j_putf d_O_becomeNumber_7 f_O_19 rfl (Nat.le_of_ble_eq_true rfl) rfl rfl rfl ?_
  exact j_vret rfl d_O_becomeNumber_10 ⟨rfl, rfl⟩
theorem m_O_valueIn_49 (K : jK) (d : Nat) (hd : 1 ≤ d) (S : jS) (J : jH) (b : Int32) (ho : okO S 16) : jM K M_O_valueIn d [.ref 49, .int b] (lay S ++ J) (rI (opv S 16 17 b) (lay S ++ J)) 0 0 := by
  refine jM.of (by decide) (Nat.le_of_ble_eq_true rfl) ?_
  refine j_aload_n d_O_valueIn_0 rfl ?_
  refine j_getf d_O_valueIn_1 f_O_15 rfl rfl ?_
  refine j_iconst (v := -1) d_O_valueIn_4 rfl ?_
  refine j_icmp_ne (tgt := 15) d_O_valueIn_5 rfl (fun h5 => ?_) (fun h5 => ?_)
  · refine j_aload_n d_O_valueIn_15 rfl ?_
    refine j_getf d_O_valueIn_16 f_O_9 rfl rfl ?_
    refine j_aload_n d_O_valueIn_19 rfl ?_
    refine j_getf d_O_valueIn_20 f_O_15 rfl rfl ?_
    obtain ⟨j, hj6, hj⟩ := ho.resolve_left h5
    refine j_top (w := .int (nI j)) (congrArg Value.int hj) ?_
    refine j_iload_n d_O_valueIn_23 rfl ?_
    refine j_retI (j_callV d_O_valueIn_24 v_F_valueIn l_O_22 rfl rfl (m_F_valueIn K (d - 1) S J j b hj6) (by omega) (by decide) (Nat.le_of_ble_eq_true rfl) rfl) rfl ?_
    exact j_iret rfl d_O_valueIn_27 ⟨by first | (rw [opv, if_pos h5]; done) | (rw [opv, if_neg h5, hj, nI_clamp (by omega)]; rfl), rfl⟩
  · refine j_aload_n d_O_valueIn_8 rfl ?_
    refine j_getf d_O_valueIn_9 f_O_19 rfl rfl ?_
    refine j_goto (tgt := 27) d_O_valueIn_12 rfl ?_
    exact j_iret rfl d_O_valueIn_27 ⟨by first | (rw [opv, if_pos h5]; done) | (rw [opv, if_neg h5, hj, nI_clamp (by omega)]; rfl), rfl⟩
theorem m_O_becomeField_52 (K : jK) (d : Nat) (S : jS) (J : jH) (v : Int32) : jM K M_O_becomeField d [.ref 52, .int v] (lay S ++ J) (rV (lay (s1 S 20 v) ++ J)) 0 0 := by
  refine jM.of (by decide) (Nat.le_of_ble_eq_true rfl) ?_
  refine j_aload_n d_O_becomeField_0 rfl ?_
  refine j_iload_n d_O_becomeField_1 rfl ?_
  refine j_putf d_O_becomeField_2 f_O_15 rfl (Nat.le_of_ble_eq_true rfl) rfl rfl rfl ?_
  exact j_vret rfl d_O_becomeField_5 ⟨rfl, rfl⟩
theorem m_O_becomeNumber_52 (K : jK) (d : Nat) (S : jS) (J : jH) (v : Int32) : jM K M_O_becomeNumber d [.ref 52, .int v] (lay S ++ J) (rV (lay (s1 (s1 S 20 (-1)) 21 v) ++ J)) 0 0 := by
  refine jM.of (by decide) (Nat.le_of_ble_eq_true rfl) ?_
  refine j_aload_n d_O_becomeNumber_0 rfl ?_
  refine j_iconst (v := -1) d_O_becomeNumber_1 rfl ?_
  refine j_putf d_O_becomeNumber_2 f_O_15 rfl (Nat.le_of_ble_eq_true rfl) rfl rfl rfl ?_
  refine j_aload_n d_O_becomeNumber_5 rfl ?_
  refine j_iload_n d_O_becomeNumber_6 rfl ?_
  refine j_putf d_O_becomeNumber_7 f_O_19 rfl (Nat.le_of_ble_eq_true rfl) rfl rfl rfl ?_
  exact j_vret rfl d_O_becomeNumber_10 ⟨rfl, rfl⟩
theorem m_O_valueIn_52 (K : jK) (d : Nat) (hd : 1 ≤ d) (S : jS) (J : jH) (b : Int32) (ho : okO S 20) : jM K M_O_valueIn d [.ref 52, .int b] (lay S ++ J) (rI (opv S 20 21 b) (lay S ++ J)) 0 0 := by
  refine jM.of (by decide) (Nat.le_of_ble_eq_true rfl) ?_
  refine j_aload_n d_O_valueIn_0 rfl ?_
  refine j_getf d_O_valueIn_1 f_O_15 rfl rfl ?_
  refine j_iconst (v := -1) d_O_valueIn_4 rfl ?_
  refine j_icmp_ne (tgt := 15) d_O_valueIn_5 rfl (fun h5 => ?_) (fun h5 => ?_)
  · refine j_aload_n d_O_valueIn_15 rfl ?_
    refine j_getf d_O_valueIn_16 f_O_9 rfl rfl ?_
    refine j_aload_n d_O_valueIn_19 rfl ?_
    refine j_getf d_O_valueIn_20 f_O_15 rfl rfl ?_
    obtain ⟨j, hj6, hj⟩ := ho.resolve_left h5
    refine j_top (w := .int (nI j)) (congrArg Value.int hj) ?_
    refine j_iload_n d_O_valueIn_23 rfl ?_
    refine j_retI (j_callV d_O_valueIn_24 v_F_valueIn l_O_22 rfl rfl (m_F_valueIn K (d - 1) S J j b hj6) (by omega) (by decide) (Nat.le_of_ble_eq_true rfl) rfl) rfl ?_
    exact j_iret rfl d_O_valueIn_27 ⟨by first | (rw [opv, if_pos h5]; done) | (rw [opv, if_neg h5, hj, nI_clamp (by omega)]; rfl), rfl⟩
  · refine j_aload_n d_O_valueIn_8 rfl ?_
    refine j_getf d_O_valueIn_9 f_O_19 rfl rfl ?_
    refine j_goto (tgt := 27) d_O_valueIn_12 rfl ?_
    exact j_iret rfl d_O_valueIn_27 ⟨by first | (rw [opv, if_pos h5]; done) | (rw [opv, if_neg h5, hj, nI_clamp (by omega)]; rfl), rfl⟩
theorem m_O_becomeField_53 (K : jK) (d : Nat) (S : jS) (J : jH) (v : Int32) : jM K M_O_becomeField d [.ref 53, .int v] (lay S ++ J) (rV (lay (s1 S 22 v) ++ J)) 0 0 := by
  refine jM.of (by decide) (Nat.le_of_ble_eq_true rfl) ?_
  refine j_aload_n d_O_becomeField_0 rfl ?_
  refine j_iload_n d_O_becomeField_1 rfl ?_
  refine j_putf d_O_becomeField_2 f_O_15 rfl (Nat.le_of_ble_eq_true rfl) rfl rfl rfl ?_
  exact j_vret rfl d_O_becomeField_5 ⟨rfl, rfl⟩
theorem m_O_becomeNumber_53 (K : jK) (d : Nat) (S : jS) (J : jH) (v : Int32) : jM K M_O_becomeNumber d [.ref 53, .int v] (lay S ++ J) (rV (lay (s1 (s1 S 22 (-1)) 23 v) ++ J)) 0 0 := by
  refine jM.of (by decide) (Nat.le_of_ble_eq_true rfl) ?_
  refine j_aload_n d_O_becomeNumber_0 rfl ?_
  refine j_iconst (v := -1) d_O_becomeNumber_1 rfl ?_
  refine j_putf d_O_becomeNumber_2 f_O_15 rfl (Nat.le_of_ble_eq_true rfl) rfl rfl rfl ?_
  refine j_aload_n d_O_becomeNumber_5 rfl ?_
  refine j_iload_n d_O_becomeNumber_6 rfl ?_
  refine j_putf d_O_becomeNumber_7 f_O_19 rfl (Nat.le_of_ble_eq_true rfl) rfl rfl rfl ?_
  exact j_vret rfl d_O_becomeNumber_10 ⟨rfl, rfl⟩
theorem m_O_valueIn_53 (K : jK) (d : Nat) (hd : 1 ≤ d) (S : jS) (J : jH) (b : Int32) (ho : okO S 22) : jM K M_O_valueIn d [.ref 53, .int b] (lay S ++ J) (rI (opv S 22 23 b) (lay S ++ J)) 0 0 := by
  refine jM.of (by decide) (Nat.le_of_ble_eq_true rfl) ?_
  refine j_aload_n d_O_valueIn_0 rfl ?_
  refine j_getf d_O_valueIn_1 f_O_15 rfl rfl ?_
  refine j_iconst (v := -1) d_O_valueIn_4 rfl ?_
  refine j_icmp_ne (tgt := 15) d_O_valueIn_5 rfl (fun h5 => ?_) (fun h5 => ?_)
  · refine j_aload_n d_O_valueIn_15 rfl ?_
    refine j_getf d_O_valueIn_16 f_O_9 rfl rfl ?_
    refine j_aload_n d_O_valueIn_19 rfl ?_
    refine j_getf d_O_valueIn_20 f_O_15 rfl rfl ?_
    obtain ⟨j, hj6, hj⟩ := ho.resolve_left h5
    refine j_top (w := .int (nI j)) (congrArg Value.int hj) ?_
    refine j_iload_n d_O_valueIn_23 rfl ?_
    refine j_retI (j_callV d_O_valueIn_24 v_F_valueIn l_O_22 rfl rfl (m_F_valueIn K (d - 1) S J j b hj6) (by omega) (by decide) (Nat.le_of_ble_eq_true rfl) rfl) rfl ?_
    exact j_iret rfl d_O_valueIn_27 ⟨by first | (rw [opv, if_pos h5]; done) | (rw [opv, if_neg h5, hj, nI_clamp (by omega)]; rfl), rfl⟩
  · refine j_aload_n d_O_valueIn_8 rfl ?_
    refine j_getf d_O_valueIn_9 f_O_19 rfl rfl ?_
    refine j_goto (tgt := 27) d_O_valueIn_12 rfl ?_
    exact j_iret rfl d_O_valueIn_27 ⟨by first | (rw [opv, if_pos h5]; done) | (rw [opv, if_neg h5, hj, nI_clamp (by omega)]; rfl), rfl⟩
theorem m_O_becomeField_56 (K : jK) (d : Nat) (S : jS) (J : jH) (v : Int32) : jM K M_O_becomeField d [.ref 56, .int v] (lay S ++ J) (rV (lay (s1 S 26 v) ++ J)) 0 0 := by
  refine jM.of (by decide) (Nat.le_of_ble_eq_true rfl) ?_
  refine j_aload_n d_O_becomeField_0 rfl ?_
  refine j_iload_n d_O_becomeField_1 rfl ?_
  refine j_putf d_O_becomeField_2 f_O_15 rfl (Nat.le_of_ble_eq_true rfl) rfl rfl rfl ?_
  exact j_vret rfl d_O_becomeField_5 ⟨rfl, rfl⟩
theorem m_O_becomeNumber_56 (K : jK) (d : Nat) (S : jS) (J : jH) (v : Int32) : jM K M_O_becomeNumber d [.ref 56, .int v] (lay S ++ J) (rV (lay (s1 (s1 S 26 (-1)) 27 v) ++ J)) 0 0 := by
  refine jM.of (by decide) (Nat.le_of_ble_eq_true rfl) ?_
  refine j_aload_n d_O_becomeNumber_0 rfl ?_
  refine j_iconst (v := -1) d_O_becomeNumber_1 rfl ?_
  refine j_putf d_O_becomeNumber_2 f_O_15 rfl (Nat.le_of_ble_eq_true rfl) rfl rfl rfl ?_
  refine j_aload_n d_O_becomeNumber_5 rfl ?_
  refine j_iload_n d_O_becomeNumber_6 rfl ?_
  refine j_putf d_O_becomeNumber_7 f_O_19 rfl (Nat.le_of_ble_eq_true rfl) rfl rfl rfl ?_
  exact j_vret rfl d_O_becomeNumber_10 ⟨rfl, rfl⟩
theorem m_O_valueIn_56 (K : jK) (d : Nat) (hd : 1 ≤ d) (S : jS) (J : jH) (b : Int32) (ho : okO S 26) : jM K M_O_valueIn d [.ref 56, .int b] (lay S ++ J) (rI (opv S 26 27 b) (lay S ++ J)) 0 0 := by
  refine jM.of (by decide) (Nat.le_of_ble_eq_true rfl) ?_
  refine j_aload_n d_O_valueIn_0 rfl ?_
  refine j_getf d_O_valueIn_1 f_O_15 rfl rfl ?_
  refine j_iconst (v := -1) d_O_valueIn_4 rfl ?_
  refine j_icmp_ne (tgt := 15) d_O_valueIn_5 rfl (fun h5 => ?_) (fun h5 => ?_)
  · refine j_aload_n d_O_valueIn_15 rfl ?_
    refine j_getf d_O_valueIn_16 f_O_9 rfl rfl ?_
    refine j_aload_n d_O_valueIn_19 rfl ?_
    refine j_getf d_O_valueIn_20 f_O_15 rfl rfl ?_
    obtain ⟨j, hj6, hj⟩ := ho.resolve_left h5
    refine j_top (w := .int (nI j)) (congrArg Value.int hj) ?_
    refine j_iload_n d_O_valueIn_23 rfl ?_
    refine j_retI (j_callV d_O_valueIn_24 v_F_valueIn l_O_22 rfl rfl (m_F_valueIn K (d - 1) S J j b hj6) (by omega) (by decide) (Nat.le_of_ble_eq_true rfl) rfl) rfl ?_
    exact j_iret rfl d_O_valueIn_27 ⟨by first | (rw [opv, if_pos h5]; done) | (rw [opv, if_neg h5, hj, nI_clamp (by omega)]; rfl), rfl⟩
  · refine j_aload_n d_O_valueIn_8 rfl ?_
    refine j_getf d_O_valueIn_9 f_O_19 rfl rfl ?_
    refine j_goto (tgt := 27) d_O_valueIn_12 rfl ?_
    exact j_iret rfl d_O_valueIn_27 ⟨by first | (rw [opv, if_pos h5]; done) | (rw [opv, if_neg h5, hj, nI_clamp (by omega)]; rfl), rfl⟩
theorem m_O_becomeField_57 (K : jK) (d : Nat) (S : jS) (J : jH) (v : Int32) : jM K M_O_becomeField d [.ref 57, .int v] (lay S ++ J) (rV (lay (s1 S 28 v) ++ J)) 0 0 := by
  refine jM.of (by decide) (Nat.le_of_ble_eq_true rfl) ?_
  refine j_aload_n d_O_becomeField_0 rfl ?_
  refine j_iload_n d_O_becomeField_1 rfl ?_
  refine j_putf d_O_becomeField_2 f_O_15 rfl (Nat.le_of_ble_eq_true rfl) rfl rfl rfl ?_
  exact j_vret rfl d_O_becomeField_5 ⟨rfl, rfl⟩
theorem m_O_becomeNumber_57 (K : jK) (d : Nat) (S : jS) (J : jH) (v : Int32) : jM K M_O_becomeNumber d [.ref 57, .int v] (lay S ++ J) (rV (lay (s1 (s1 S 28 (-1)) 29 v) ++ J)) 0 0 := by
  refine jM.of (by decide) (Nat.le_of_ble_eq_true rfl) ?_
  refine j_aload_n d_O_becomeNumber_0 rfl ?_
  refine j_iconst (v := -1) d_O_becomeNumber_1 rfl ?_
  refine j_putf d_O_becomeNumber_2 f_O_15 rfl (Nat.le_of_ble_eq_true rfl) rfl rfl rfl ?_
  refine j_aload_n d_O_becomeNumber_5 rfl ?_
  refine j_iload_n d_O_becomeNumber_6 rfl ?_
  refine j_putf d_O_becomeNumber_7 f_O_19 rfl (Nat.le_of_ble_eq_true rfl) rfl rfl rfl ?_
  exact j_vret rfl d_O_becomeNumber_10 ⟨rfl, rfl⟩
theorem m_O_valueIn_57 (K : jK) (d : Nat) (hd : 1 ≤ d) (S : jS) (J : jH) (b : Int32) (ho : okO S 28) : jM K M_O_valueIn d [.ref 57, .int b] (lay S ++ J) (rI (opv S 28 29 b) (lay S ++ J)) 0 0 := by
  refine jM.of (by decide) (Nat.le_of_ble_eq_true rfl) ?_
  refine j_aload_n d_O_valueIn_0 rfl ?_
  refine j_getf d_O_valueIn_1 f_O_15 rfl rfl ?_
  refine j_iconst (v := -1) d_O_valueIn_4 rfl ?_
  refine j_icmp_ne (tgt := 15) d_O_valueIn_5 rfl (fun h5 => ?_) (fun h5 => ?_)
  · refine j_aload_n d_O_valueIn_15 rfl ?_
    refine j_getf d_O_valueIn_16 f_O_9 rfl rfl ?_
    refine j_aload_n d_O_valueIn_19 rfl ?_
    refine j_getf d_O_valueIn_20 f_O_15 rfl rfl ?_
    obtain ⟨j, hj6, hj⟩ := ho.resolve_left h5
    refine j_top (w := .int (nI j)) (congrArg Value.int hj) ?_
    refine j_iload_n d_O_valueIn_23 rfl ?_
    refine j_retI (j_callV d_O_valueIn_24 v_F_valueIn l_O_22 rfl rfl (m_F_valueIn K (d - 1) S J j b hj6) (by omega) (by decide) (Nat.le_of_ble_eq_true rfl) rfl) rfl ?_
    exact j_iret rfl d_O_valueIn_27 ⟨by first | (rw [opv, if_pos h5]; done) | (rw [opv, if_neg h5, hj, nI_clamp (by omega)]; rfl), rfl⟩
  · refine j_aload_n d_O_valueIn_8 rfl ?_
    refine j_getf d_O_valueIn_9 f_O_19 rfl rfl ?_
    refine j_goto (tgt := 27) d_O_valueIn_12 rfl ?_
    exact j_iret rfl d_O_valueIn_27 ⟨by first | (rw [opv, if_pos h5]; done) | (rw [opv, if_neg h5, hj, nI_clamp (by omega)]; rfl), rfl⟩
theorem m_P_isTrueIn (K : jK) (d : Nat) (hd : 2 ≤ d) (S : jS) (J : jH) (b : Int32) (hl : okO S 14) (hr : okO S 16) : jM K M_P_isTrueIn d [.ref 47, .int b] (lay S ++ J) (rI (tru (S.1 13) (opv S 14 15 b) (opv S 16 17 b)) (lay S ++ J)) 0 0 := by
  refine jM.of (by decide) (Nat.le_of_ble_eq_true rfl) ?_
  refine j_aload_n d_P_isTrueIn_0 rfl ?_
  refine j_getf d_P_isTrueIn_1 f_P_12 rfl rfl ?_
  refine j_iload_n d_P_isTrueIn_4 rfl ?_
  refine j_retI (j_callV d_P_isTrueIn_5 v_O_valueIn l_P_25 rfl rfl (m_O_valueIn_48 K (d - 1) (by omega) S J b hl) (by omega) (by decide) (Nat.le_of_ble_eq_true rfl) rfl) rfl ?_
  refine j_aload_n d_P_isTrueIn_8 rfl ?_
  refine j_getf d_P_isTrueIn_9 f_P_18 rfl rfl ?_
  refine j_iload_n d_P_isTrueIn_12 rfl ?_
  refine j_retI (j_callV d_P_isTrueIn_13 v_O_valueIn l_P_25 rfl rfl (m_O_valueIn_49 K (d - 1) (by omega) S J b hr) (by omega) (by decide) (Nat.le_of_ble_eq_true rfl) rfl) rfl ?_
  refine j_retI (j_callS d_P_isTrueIn_16 s_JInteger_compare l_P_29 rfl (m_JInteger_compare K (d - 1) _ _ _) (by omega) (by decide) (Nat.le_of_ble_eq_true rfl) rfl) rfl ?_
  refine j_istore_n d_P_isTrueIn_19 (by decide) ?_
  refine j_aload_n d_P_isTrueIn_20 rfl ?_
  refine j_getf d_P_isTrueIn_21 f_P_21 rfl rfl ?_
  refine j_bipush (v := 60) d_P_isTrueIn_24 (by decide) ?_
  refine j_icmp_ne (tgt := 39) d_P_isTrueIn_26 rfl (fun h26 => ?_) (fun h26 => ?_)
  · refine j_aload_n d_P_isTrueIn_39 rfl ?_
    refine j_getf d_P_isTrueIn_40 f_P_21 rfl rfl ?_
    refine j_bipush (v := 62) d_P_isTrueIn_43 (by decide) ?_
    refine j_icmp_ne (tgt := 60) d_P_isTrueIn_45 rfl (fun h45 => ?_) (fun h45 => ?_)
    · refine j_iload_n d_P_isTrueIn_60 rfl ?_
      refine j_if_ne (tgt := 68) d_P_isTrueIn_61 rfl (fun h61 => ?_) (fun h61 => ?_)
      · refine j_iconst (v := 0) d_P_isTrueIn_68 rfl ?_
        exact j_zret rfl rfl d_P_isTrueIn_69 ⟨by rw [tru, if_neg h26, if_neg h45]; first | (rw [if_pos ((cmp_eq _ _).mp h61)]; done) | (rw [if_neg (fun q => h61 ((cmp_eq _ _).mpr q))]; done), rfl⟩
      · refine j_iconst (v := 1) d_P_isTrueIn_64 rfl ?_
        refine j_goto (tgt := 69) d_P_isTrueIn_65 rfl ?_
        exact j_zret rfl rfl d_P_isTrueIn_69 ⟨by rw [tru, if_neg h26, if_neg h45]; first | (rw [if_pos ((cmp_eq _ _).mp h61)]; done) | (rw [if_neg (fun q => h61 ((cmp_eq _ _).mpr q))]; done), rfl⟩
    · refine j_iload_n d_P_isTrueIn_48 rfl ?_
      refine j_if_le (tgt := 56) d_P_isTrueIn_49 rfl (fun h49 => ?_) (fun h49 => ?_)
      · refine j_iconst (v := 0) d_P_isTrueIn_56 rfl ?_
        refine j_goto (tgt := 69) d_P_isTrueIn_57 rfl ?_
        exact j_zret rfl rfl d_P_isTrueIn_69 ⟨by rw [tru, if_neg h26, if_pos h45]; first | (rw [if_neg ((cmp_gt _ _).mp h49)]; done) | (rw [if_pos (Decidable.not_not.mp (fun q => h49 ((cmp_gt _ _).mpr q)))]; done), rfl⟩
      · refine j_iconst (v := 1) d_P_isTrueIn_52 rfl ?_
        refine j_goto (tgt := 69) d_P_isTrueIn_53 rfl ?_
        exact j_zret rfl rfl d_P_isTrueIn_69 ⟨by rw [tru, if_neg h26, if_pos h45]; first | (rw [if_neg ((cmp_gt _ _).mp h49)]; done) | (rw [if_pos (Decidable.not_not.mp (fun q => h49 ((cmp_gt _ _).mpr q)))]; done), rfl⟩
  · refine j_iload_n d_P_isTrueIn_29 rfl ?_
    refine j_if_ge (tgt := 37) d_P_isTrueIn_30 rfl (fun h30 => ?_) (fun h30 => ?_)
    · refine j_iconst (v := 0) d_P_isTrueIn_37 rfl ?_
      exact j_zret rfl rfl d_P_isTrueIn_38 ⟨by rw [tru, if_pos h26]; first | (rw [if_neg ((cmp_lt _ _).mp h30)]; done) | (rw [if_pos (Decidable.not_not.mp (fun q => h30 ((cmp_lt _ _).mpr q)))]; done), rfl⟩
    · refine j_iconst (v := 1) d_P_isTrueIn_33 rfl ?_
      refine j_goto (tgt := 38) d_P_isTrueIn_34 rfl ?_
      exact j_zret rfl rfl d_P_isTrueIn_38 ⟨by rw [tru, if_pos h26]; first | (rw [if_neg ((cmp_lt _ _).mp h30)]; done) | (rw [if_pos (Decidable.not_not.mp (fun q => h30 ((cmp_lt _ _).mpr q)))]; done), rfl⟩
theorem m_P_resultIn_51 (K : jK) (d : Nat) (hd : 2 ≤ d) (S : jS) (J : jH) (b : Int32) (hl : okO S 20) (hr : okO S 22 ∨ (¬ S.1 19 = 43 ∧ ¬ S.1 19 = 45 ∧ ¬ S.1 19 = 42)) : jM K M_P_resultIn d [.ref 51, .int b] (lay S ++ J) (rI (res (S.1 19) (opv S 20 21 b) (opv S 22 23 b)) (lay S ++ J)) 0 0 := by
  refine jM.of (by decide) (Nat.le_of_ble_eq_true rfl) ?_
  refine j_aload_n d_P_resultIn_0 rfl ?_
  refine j_getf d_P_resultIn_1 f_P_12 rfl rfl ?_
  refine j_iload_n d_P_resultIn_4 rfl ?_
  refine j_retI (j_callV d_P_resultIn_5 v_O_valueIn l_P_25 rfl rfl (m_O_valueIn_52 K (d - 1) (by omega) S J b hl) (by omega) (by decide) (Nat.le_of_ble_eq_true rfl) rfl) rfl ?_
  refine j_istore_n d_P_resultIn_8 (by decide) ?_
  refine j_aload_n d_P_resultIn_9 rfl ?_
  refine j_getf d_P_resultIn_10 f_P_21 rfl rfl ?_
  refine j_bipush (v := 43) d_P_resultIn_13 (by decide) ?_
  refine j_icmp_ne (tgt := 29) d_P_resultIn_15 rfl (fun h15 => ?_) (fun h15 => ?_)
  · refine j_aload_n d_P_resultIn_29 rfl ?_
    refine j_getf d_P_resultIn_30 f_P_21 rfl rfl ?_
    refine j_bipush (v := 45) d_P_resultIn_33 (by decide) ?_
    refine j_icmp_ne (tgt := 49) d_P_resultIn_35 rfl (fun h35 => ?_) (fun h35 => ?_)
    · refine j_aload_n d_P_resultIn_49 rfl ?_
      refine j_getf d_P_resultIn_50 f_P_21 rfl rfl ?_
      refine j_bipush (v := 42) d_P_resultIn_53 (by decide) ?_
      refine j_icmp_ne (tgt := 71) d_P_resultIn_55 rfl (fun h55 => ?_) (fun h55 => ?_)
      · refine j_iload_n d_P_resultIn_71 rfl ?_
        exact j_iret rfl d_P_resultIn_72 ⟨by first | (simp only [res, h15, h35, h55, ↓reduceIte]; done) | (simp [res, h15, h35, h55]; done), rfl⟩
      · refine j_iload_n d_P_resultIn_58 rfl ?_
        refine j_aload_n d_P_resultIn_59 rfl ?_
        refine j_getf d_P_resultIn_60 f_P_18 rfl rfl ?_
        refine j_iload_n d_P_resultIn_63 rfl ?_
        refine j_retI (j_callV d_P_resultIn_64 v_O_valueIn l_P_25 rfl rfl (m_O_valueIn_53 K (d - 1) (by omega) S J b (hr.resolve_right (fun q => q.2.2 h55))) (by omega) (by decide) (Nat.le_of_ble_eq_true rfl) rfl) rfl ?_
        refine j_imul d_P_resultIn_67 ?_
        refine j_goto (tgt := 72) d_P_resultIn_68 rfl ?_
        exact j_iret rfl d_P_resultIn_72 ⟨by first | (simp only [res, h15, h35, h55, ↓reduceIte]; done) | (simp [res, h15, h35, h55]; done), rfl⟩
    · refine j_iload_n d_P_resultIn_38 rfl ?_
      refine j_aload_n d_P_resultIn_39 rfl ?_
      refine j_getf d_P_resultIn_40 f_P_18 rfl rfl ?_
      refine j_iload_n d_P_resultIn_43 rfl ?_
      refine j_retI (j_callV d_P_resultIn_44 v_O_valueIn l_P_25 rfl rfl (m_O_valueIn_53 K (d - 1) (by omega) S J b (hr.resolve_right (fun q => q.2.1 h35))) (by omega) (by decide) (Nat.le_of_ble_eq_true rfl) rfl) rfl ?_
      refine j_isub d_P_resultIn_47 ?_
      exact j_iret rfl d_P_resultIn_48 ⟨by first | (simp only [res, h15, h35, ↓reduceIte]; done) | (simp [res, h15, h35]; done), rfl⟩
  · refine j_iload_n d_P_resultIn_18 rfl ?_
    refine j_aload_n d_P_resultIn_19 rfl ?_
    refine j_getf d_P_resultIn_20 f_P_18 rfl rfl ?_
    refine j_iload_n d_P_resultIn_23 rfl ?_
    refine j_retI (j_callV d_P_resultIn_24 v_O_valueIn l_P_25 rfl rfl (m_O_valueIn_53 K (d - 1) (by omega) S J b (hr.resolve_right (fun q => q.1 h15))) (by omega) (by decide) (Nat.le_of_ble_eq_true rfl) rfl) rfl ?_
    refine j_iadd d_P_resultIn_27 ?_
    exact j_iret rfl d_P_resultIn_28 ⟨by first | (simp only [res, h15, ↓reduceIte]; done) | (simp [res, h15]; done), rfl⟩
theorem m_P_resultIn_55 (K : jK) (d : Nat) (hd : 2 ≤ d) (S : jS) (J : jH) (b : Int32) (hl : okO S 26) (hr : okO S 28 ∨ (¬ S.1 25 = 43 ∧ ¬ S.1 25 = 45 ∧ ¬ S.1 25 = 42)) : jM K M_P_resultIn d [.ref 55, .int b] (lay S ++ J) (rI (res (S.1 25) (opv S 26 27 b) (opv S 28 29 b)) (lay S ++ J)) 0 0 := by
  refine jM.of (by decide) (Nat.le_of_ble_eq_true rfl) ?_
  refine j_aload_n d_P_resultIn_0 rfl ?_
  refine j_getf d_P_resultIn_1 f_P_12 rfl rfl ?_
  refine j_iload_n d_P_resultIn_4 rfl ?_
  refine j_retI (j_callV d_P_resultIn_5 v_O_valueIn l_P_25 rfl rfl (m_O_valueIn_56 K (d - 1) (by omega) S J b hl) (by omega) (by decide) (Nat.le_of_ble_eq_true rfl) rfl) rfl ?_
  refine j_istore_n d_P_resultIn_8 (by decide) ?_
  refine j_aload_n d_P_resultIn_9 rfl ?_
  refine j_getf d_P_resultIn_10 f_P_21 rfl rfl ?_
  refine j_bipush (v := 43) d_P_resultIn_13 (by decide) ?_
  refine j_icmp_ne (tgt := 29) d_P_resultIn_15 rfl (fun h15 => ?_) (fun h15 => ?_)
  · refine j_aload_n d_P_resultIn_29 rfl ?_
    refine j_getf d_P_resultIn_30 f_P_21 rfl rfl ?_
    refine j_bipush (v := 45) d_P_resultIn_33 (by decide) ?_
    refine j_icmp_ne (tgt := 49) d_P_resultIn_35 rfl (fun h35 => ?_) (fun h35 => ?_)
    · refine j_aload_n d_P_resultIn_49 rfl ?_
      refine j_getf d_P_resultIn_50 f_P_21 rfl rfl ?_
      refine j_bipush (v := 42) d_P_resultIn_53 (by decide) ?_
      refine j_icmp_ne (tgt := 71) d_P_resultIn_55 rfl (fun h55 => ?_) (fun h55 => ?_)
      · refine j_iload_n d_P_resultIn_71 rfl ?_
        exact j_iret rfl d_P_resultIn_72 ⟨by first | (simp only [res, h15, h35, h55, ↓reduceIte]; done) | (simp [res, h15, h35, h55]; done), rfl⟩
      · refine j_iload_n d_P_resultIn_58 rfl ?_
        refine j_aload_n d_P_resultIn_59 rfl ?_
        refine j_getf d_P_resultIn_60 f_P_18 rfl rfl ?_
        refine j_iload_n d_P_resultIn_63 rfl ?_
        refine j_retI (j_callV d_P_resultIn_64 v_O_valueIn l_P_25 rfl rfl (m_O_valueIn_57 K (d - 1) (by omega) S J b (hr.resolve_right (fun q => q.2.2 h55))) (by omega) (by decide) (Nat.le_of_ble_eq_true rfl) rfl) rfl ?_
        refine j_imul d_P_resultIn_67 ?_
        refine j_goto (tgt := 72) d_P_resultIn_68 rfl ?_
        exact j_iret rfl d_P_resultIn_72 ⟨by first | (simp only [res, h15, h35, h55, ↓reduceIte]; done) | (simp [res, h15, h35, h55]; done), rfl⟩
    · refine j_iload_n d_P_resultIn_38 rfl ?_
      refine j_aload_n d_P_resultIn_39 rfl ?_
      refine j_getf d_P_resultIn_40 f_P_18 rfl rfl ?_
      refine j_iload_n d_P_resultIn_43 rfl ?_
      refine j_retI (j_callV d_P_resultIn_44 v_O_valueIn l_P_25 rfl rfl (m_O_valueIn_57 K (d - 1) (by omega) S J b (hr.resolve_right (fun q => q.2.1 h35))) (by omega) (by decide) (Nat.le_of_ble_eq_true rfl) rfl) rfl ?_
      refine j_isub d_P_resultIn_47 ?_
      exact j_iret rfl d_P_resultIn_48 ⟨by first | (simp only [res, h15, h35, ↓reduceIte]; done) | (simp [res, h15, h35]; done), rfl⟩
  · refine j_iload_n d_P_resultIn_18 rfl ?_
    refine j_aload_n d_P_resultIn_19 rfl ?_
    refine j_getf d_P_resultIn_20 f_P_18 rfl rfl ?_
    refine j_iload_n d_P_resultIn_23 rfl ?_
    refine j_retI (j_callV d_P_resultIn_24 v_O_valueIn l_P_25 rfl rfl (m_O_valueIn_57 K (d - 1) (by omega) S J b (hr.resolve_right (fun q => q.1 h15))) (by omega) (by decide) (Nat.le_of_ble_eq_true rfl) rfl) rfl ?_
    refine j_iadd d_P_resultIn_27 ?_
    exact j_iret rfl d_P_resultIn_28 ⟨by first | (simp only [res, h15, ↓reduceIte]; done) | (simp [res, h15]; done), rfl⟩
theorem m_C_fitsIn_50 (K : jK) (d : Nat) (hd : 3 ≤ d) (S : jS) (J : jH) (b : Int32) (hl : okO S 20) (hr : okO S 22 ∨ (¬ S.1 19 = 43 ∧ ¬ S.1 19 = 45 ∧ ¬ S.1 19 = 42)) (j : Nat) (hj6 : j < 6) (hj : S.1 18 = nI j) : jM K M_C_fitsIn d [.ref 50, .int b] (lay S ++ J) (rI (vfit (S.2.1 2 j) (S.2.1 3 j) (res (S.1 19) (opv S 20 21 b) (opv S 22 23 b))) (lay S ++ J)) 0 0 := by
  refine jM.of (by decide) (Nat.le_of_ble_eq_true rfl) ?_
  refine j_aload_n d_C_fitsIn_0 rfl ?_
  refine j_getf d_C_fitsIn_1 f_C_7 rfl rfl ?_
  refine j_aload_n d_C_fitsIn_4 rfl ?_
  refine j_getf d_C_fitsIn_5 f_C_22 rfl rfl ?_
  refine j_top (w := .int (nI j)) (congrArg Value.int hj) ?_
  refine j_aload_n d_C_fitsIn_8 rfl ?_
  refine j_getf d_C_fitsIn_9 f_C_18 rfl rfl ?_
  refine j_iload_n d_C_fitsIn_12 rfl ?_
  refine j_retI (j_callV d_C_fitsIn_13 v_P_resultIn l_C_26 rfl rfl (m_P_resultIn_51 K (d - 1) (by omega) S J b hl hr) (by omega) (by decide) (Nat.le_of_ble_eq_true rfl) rfl) rfl ?_
  refine j_retI (j_callV d_C_fitsIn_16 v_F_fits l_C_30 rfl rfl (m_F_fits K (d - 1) S J j _ hj6) (by omega) (by decide) (Nat.le_of_ble_eq_true rfl) rfl) rfl ?_
  exact j_zret rfl (vfit_nar _ _ _) d_C_fitsIn_19 ⟨rfl, rfl⟩
theorem m_C_appliedTo_50 (K : jK) (d : Nat) (hd : 3 ≤ d) (S : jS) (J : jH) (b0 b : Int32) (hl : okO S 20) (hr : okO S 22 ∨ (¬ S.1 19 = 43 ∧ ¬ S.1 19 = 45 ∧ ¬ S.1 19 = 42)) (j : Nat) (hj6 : j < 6) (hj : S.1 18 = nI j) : jM K M_C_appliedTo d [.ref 50, .int b0, .int b] (lay S ++ J) (rI (vput (S.2.1 1 j) (S.2.1 2 j) b0 (res (S.1 19) (opv S 20 21 b) (opv S 22 23 b))) (lay S ++ J)) 0 0 := by
  refine jM.of (by decide) (Nat.le_of_ble_eq_true rfl) ?_
  refine j_aload_n d_C_appliedTo_0 rfl ?_
  refine j_getf d_C_appliedTo_1 f_C_7 rfl rfl ?_
  refine j_aload_n d_C_appliedTo_4 rfl ?_
  refine j_getf d_C_appliedTo_5 f_C_22 rfl rfl ?_
  refine j_top (w := .int (nI j)) (congrArg Value.int hj) ?_
  refine j_iload_n d_C_appliedTo_8 rfl ?_
  refine j_aload_n d_C_appliedTo_9 rfl ?_
  refine j_getf d_C_appliedTo_10 f_C_18 rfl rfl ?_
  refine j_iload_n d_C_appliedTo_13 rfl ?_
  refine j_retI (j_callV d_C_appliedTo_14 v_P_resultIn l_C_26 rfl rfl (m_P_resultIn_51 K (d - 1) (by omega) S J b hl hr) (by omega) (by decide) (Nat.le_of_ble_eq_true rfl) rfl) rfl ?_
  refine j_retI (j_callV d_C_appliedTo_17 v_F_withValue l_C_36 rfl rfl (m_F_withValue K (d - 1) (by omega) S J j _ _ hj6) (by omega) (by decide) (Nat.le_of_ble_eq_true rfl) rfl) rfl ?_
  exact j_iret rfl d_C_appliedTo_20 ⟨rfl, rfl⟩
theorem m_C_fitsIn_54 (K : jK) (d : Nat) (hd : 3 ≤ d) (S : jS) (J : jH) (b : Int32) (hl : okO S 26) (hr : okO S 28 ∨ (¬ S.1 25 = 43 ∧ ¬ S.1 25 = 45 ∧ ¬ S.1 25 = 42)) (j : Nat) (hj6 : j < 6) (hj : S.1 24 = nI j) : jM K M_C_fitsIn d [.ref 54, .int b] (lay S ++ J) (rI (vfit (S.2.1 2 j) (S.2.1 3 j) (res (S.1 25) (opv S 26 27 b) (opv S 28 29 b))) (lay S ++ J)) 0 0 := by
  refine jM.of (by decide) (Nat.le_of_ble_eq_true rfl) ?_
  refine j_aload_n d_C_fitsIn_0 rfl ?_
  refine j_getf d_C_fitsIn_1 f_C_7 rfl rfl ?_
  refine j_aload_n d_C_fitsIn_4 rfl ?_
  refine j_getf d_C_fitsIn_5 f_C_22 rfl rfl ?_
  refine j_top (w := .int (nI j)) (congrArg Value.int hj) ?_
  refine j_aload_n d_C_fitsIn_8 rfl ?_
  refine j_getf d_C_fitsIn_9 f_C_18 rfl rfl ?_
  refine j_iload_n d_C_fitsIn_12 rfl ?_
  refine j_retI (j_callV d_C_fitsIn_13 v_P_resultIn l_C_26 rfl rfl (m_P_resultIn_55 K (d - 1) (by omega) S J b hl hr) (by omega) (by decide) (Nat.le_of_ble_eq_true rfl) rfl) rfl ?_
  refine j_retI (j_callV d_C_fitsIn_16 v_F_fits l_C_30 rfl rfl (m_F_fits K (d - 1) S J j _ hj6) (by omega) (by decide) (Nat.le_of_ble_eq_true rfl) rfl) rfl ?_
  exact j_zret rfl (vfit_nar _ _ _) d_C_fitsIn_19 ⟨rfl, rfl⟩
theorem m_C_appliedTo_54 (K : jK) (d : Nat) (hd : 3 ≤ d) (S : jS) (J : jH) (b0 b : Int32) (hl : okO S 26) (hr : okO S 28 ∨ (¬ S.1 25 = 43 ∧ ¬ S.1 25 = 45 ∧ ¬ S.1 25 = 42)) (j : Nat) (hj6 : j < 6) (hj : S.1 24 = nI j) : jM K M_C_appliedTo d [.ref 54, .int b0, .int b] (lay S ++ J) (rI (vput (S.2.1 1 j) (S.2.1 2 j) b0 (res (S.1 25) (opv S 26 27 b) (opv S 28 29 b))) (lay S ++ J)) 0 0 := by
  refine jM.of (by decide) (Nat.le_of_ble_eq_true rfl) ?_
  refine j_aload_n d_C_appliedTo_0 rfl ?_
  refine j_getf d_C_appliedTo_1 f_C_7 rfl rfl ?_
  refine j_aload_n d_C_appliedTo_4 rfl ?_
  refine j_getf d_C_appliedTo_5 f_C_22 rfl rfl ?_
  refine j_top (w := .int (nI j)) (congrArg Value.int hj) ?_
  refine j_iload_n d_C_appliedTo_8 rfl ?_
  refine j_aload_n d_C_appliedTo_9 rfl ?_
  refine j_getf d_C_appliedTo_10 f_C_18 rfl rfl ?_
  refine j_iload_n d_C_appliedTo_13 rfl ?_
  refine j_retI (j_callV d_C_appliedTo_14 v_P_resultIn l_C_26 rfl rfl (m_P_resultIn_55 K (d - 1) (by omega) S J b hl hr) (by omega) (by decide) (Nat.le_of_ble_eq_true rfl) rfl) rfl ?_
  refine j_retI (j_callV d_C_appliedTo_17 v_F_withValue l_C_36 rfl rfl (m_F_withValue K (d - 1) (by omega) S J j _ _ hj6) (by omega) (by decide) (Nat.le_of_ble_eq_true rfl) rfl) rfl ?_
  exact j_iret rfl d_C_appliedTo_20 ⟨rfl, rfl⟩
