/-! BitLoomModel: fieldOf, isWord, valueOf, fits, setValue, see, isLetter, isDigit, isSign -/
/-- the last of the names that is c -/
def fdL (f : Nat → Int32) (c : Int32) : Nat → Nat → Int32 → Int32
  | 0, _, v => v
  | k + 1, i, v => fdL f c k (i + 1) (if f i = c then nI i else v)
theorem m_M_fieldOf (K : jK) (d : Nat) (S : jS) (J : jH) (c : Int32) (n : Nat) (hn : S.1 31 = nI n) (h6 : n ≤ 6) : jM K M_M_fieldOf d [.ref 59, .int c] (lay S ++ J) (rI (fdL (S.2.1 13) c n 0 (-1)) (lay S ++ J)) 0 0 := by
  refine jM.of (by decide) (Nat.le_of_ble_eq_true rfl) ?_
  have loop : ∀ k i v, i + k = n → jE K M_M_fieldOf d 4 [(0, .ref 59), (1, .int c), (2, .int v), (3, .int (nI i))] [] (lay S ++ J) (rI (fdL (S.2.1 13) c k i v) (lay S ++ J)) 0 0 := by
    intro k
    induction k with
    | zero =>
      intro i v hi
      refine j_iload_n d_M_fieldOf_4 rfl ?_
      refine j_aload_n d_M_fieldOf_5 rfl ?_
      refine j_getf d_M_fieldOf_6 f_M_76 rfl rfl ?_
      refine j_top (w := .int (nI n)) (congrArg Value.int hn) ?_
      refine j_icmp_geT (tgt := 34) d_M_fieldOf_9 rfl (nI_le (by omega) (by omega)) ?_
      refine j_iload_n d_M_fieldOf_34 rfl ?_
      exact j_iret rfl d_M_fieldOf_35 ⟨rfl, rfl⟩
    | succ k ih =>
      intro i v hi
      refine j_iload_n d_M_fieldOf_4 rfl ?_
      refine j_aload_n d_M_fieldOf_5 rfl ?_
      refine j_getf d_M_fieldOf_6 f_M_76 rfl rfl ?_
      refine j_top (w := .int (nI n)) (congrArg Value.int hn) ?_
      refine j_icmp_geF (tgt := 34) d_M_fieldOf_9 rfl (nI_ge (by omega) (by omega)) ?_
      refine j_aload_n d_M_fieldOf_12 rfl ?_
      refine j_getf d_M_fieldOf_13 f_M_20 rfl rfl ?_
      refine j_iload_n d_M_fieldOf_16 rfl ?_
      refine j_cald d_M_fieldOf_17 rfl (show i < 6 by omega) (by decide) ?_
      refine j_iload_n d_M_fieldOf_18 rfl ?_
      rw [fdL]
      refine j_icmp_ne (tgt := 26) d_M_fieldOf_19 rfl (fun h => ?_) (fun h => ?_)
      · rw [if_neg h]
        refine j_iload_n d_M_fieldOf_26 rfl ?_
        refine j_istore_n d_M_fieldOf_27 (by decide) ?_
        refine j_iincN d_M_fieldOf_28 rfl (by decide) ?_
        refine j_goto (tgt := 4) d_M_fieldOf_31 rfl ?_
        exact j_loc' [(0, .ref 59), (1, .int c), (2, .int v), (3, .int (nI (i + 1)))] ⟨rfl, rfl, rfl, rfl, trivial⟩ (ih (i + 1) v (by omega))
      · rw [if_pos (by first | exact h | exact Classical.not_not.mp h)]
        refine j_iload_n d_M_fieldOf_22 rfl ?_
        refine j_goto (tgt := 27) d_M_fieldOf_23 rfl ?_
        refine j_istore_n d_M_fieldOf_27 (by decide) ?_
        refine j_iincN d_M_fieldOf_28 rfl (by decide) ?_
        refine j_goto (tgt := 4) d_M_fieldOf_31 rfl ?_
        exact j_loc' [(0, .ref 59), (1, .int c), (2, .int (nI i)), (3, .int (nI (i + 1)))] ⟨rfl, rfl, rfl, rfl, trivial⟩ (ih (i + 1) (nI i) (by omega))
  refine j_iconst (v := -1) d_M_fieldOf_0 rfl ?_
  refine j_istore_n d_M_fieldOf_1 (by decide) ?_
  refine j_iconst (v := 0) d_M_fieldOf_2 rfl ?_
  refine j_istore_n d_M_fieldOf_3 (by decide) ?_
  exact j_loc' [(0, .ref 59), (1, .int c), (2, .int (-1)), (3, .int (nI 0))] ⟨rfl, rfl, rfl, rfl, trivial⟩ (loop n 0 (-1) (by omega))
/-- a field's value, bit by bit -/
def mvL (lo : Int32) (w : Nat) (z b : Int32) : Nat → Nat → Int32 → Int32 → Int32
  | 0, _, v, _ => v
  | k + 1, i, v, u => mvL lo w z b k (i + 1) (v + ((b >>> ((lo + nI i) &&& 31)) &&& 1) * (if ¬ z = 0 ∧ i = w - 1 then -u else u)) (2 * u)
theorem m_M_valueOf (K : jK) (d : Nat) (S : jS) (J : jH) (i f : Nat) (hi32 : i < 32) (hf : f < 6) (w : Nat) (hw : S.2.1 15 f = nI w) (hw10 : w ≤ 10) : jM K M_M_valueOf d [.ref 59, .int (nI i), .int (nI f)] (lay S ++ J) (rI (mvL (S.2.1 14 f) w (S.2.1 16 f) (S.2.1 11 i) w 0 0 1) (lay S ++ J)) 0 0 := by
  refine jM.of (by decide) (Nat.le_of_ble_eq_true rfl) ?_
  have loop : ∀ k j v u, j + k = w → ∀ x6 : List (Nat × Value), jE K M_M_valueOf d 8 ((0, .ref 59) :: (1, .int (nI i)) :: (2, .int (nI f)) :: (3, .int v) :: (4, .int u) :: (5, .int (nI j)) :: x6) [] (lay S ++ J) (rI (mvL (S.2.1 14 f) w (S.2.1 16 f) (S.2.1 11 i) k j v u) (lay S ++ J)) 0 0 := by
    intro k
    induction k with
    | zero =>
      intro j v u hj x6
      refine j_loc' [(0, .ref 59), (1, .int (nI i)), (2, .int (nI f)), (3, .int v), (4, .int u), (5, .int (nI j))] ⟨rfl, rfl, rfl, rfl, rfl, rfl, trivial⟩ ?_
      refine j_iload d_M_valueOf_8 rfl ?_
      refine j_aload_n d_M_valueOf_10 rfl ?_
      refine j_getf d_M_valueOf_11 f_M_27 rfl rfl ?_
      refine j_iload_n d_M_valueOf_14 rfl ?_
      refine j_iald d_M_valueOf_15 rfl hf (by decide) ?_
      refine j_top (w := .int (nI w)) (congrArg Value.int hw) ?_
      refine j_icmp_geT (tgt := 95) d_M_valueOf_16 rfl (nI_le (by omega) (by omega)) ?_
      refine j_iload_n d_M_valueOf_95 rfl ?_
      exact j_iret rfl d_M_valueOf_96 ⟨rfl, rfl⟩
    | succ k ih =>
      intro j v u hj x6
      have fin : ∀ (la : Int32) (y : Int32), y = (if ¬ S.2.1 16 f = 0 ∧ j = w - 1 then -u else u) → (la = 0 ∨ la = 1) → (la = 0 → y = u) → (la = 1 → y = -u) → jE K M_M_valueOf d 46 [(0, .ref 59), (1, .int (nI i)), (2, .int (nI f)), (3, .int v), (4, .int u), (5, .int (nI j))] [.int la] (lay S ++ J) (rI (mvL (S.2.1 14 f) w (S.2.1 16 f) (S.2.1 11 i) (k + 1) j v u) (lay S ++ J)) 0 0 := by
        intro la y hy hla h0 h1
        rw [mvL, ← hy]
        refine j_istore d_M_valueOf_46 (by decide) ?_
        refine j_iload_n d_M_valueOf_48 rfl ?_
        refine j_aload_n d_M_valueOf_49 rfl ?_
        refine j_getf d_M_valueOf_50 f_M_13 rfl rfl ?_
        refine j_iload_n d_M_valueOf_53 rfl ?_
        refine j_iald d_M_valueOf_54 rfl hi32 (by decide) ?_
        refine j_aload_n d_M_valueOf_55 rfl ?_
        refine j_getf d_M_valueOf_56 f_M_24 rfl rfl ?_
        refine j_iload_n d_M_valueOf_59 rfl ?_
        refine j_iald d_M_valueOf_60 rfl hf (by decide) ?_
        refine j_iload d_M_valueOf_61 rfl ?_
        refine j_iadd d_M_valueOf_63 ?_
        refine j_ishr d_M_valueOf_64 ?_
        refine j_iconst (v := 1) d_M_valueOf_65 rfl ?_
        refine j_iand d_M_valueOf_66 ?_
        refine j_iload d_M_valueOf_67 rfl ?_
        rcases hla with hla | hla
        · refine j_if_eqT (tgt := 78) d_M_valueOf_69 rfl hla ?_
          refine j_iload d_M_valueOf_78 rfl ?_
          refine j_imul d_M_valueOf_80 ?_
          refine j_iadd d_M_valueOf_81 ?_
          refine j_istore_n d_M_valueOf_82 (by decide) ?_
          refine j_iconst (v := 2) d_M_valueOf_83 rfl ?_
          refine j_iload d_M_valueOf_84 rfl ?_
          refine j_imul d_M_valueOf_86 ?_
          refine j_istore d_M_valueOf_87 (by decide) ?_
          refine j_iincN d_M_valueOf_89 rfl (by decide) ?_
          refine j_goto (tgt := 8) d_M_valueOf_92 rfl ?_
          refine j_loc' ((0, .ref 59) :: (1, .int (nI i)) :: (2, .int (nI f)) :: (3, .int (v + ((S.2.1 11 i >>> ((S.2.1 14 f + nI j) &&& 31)) &&& 1) * u)) :: (4, .int (2 * u)) :: (5, .int (nI (j + 1))) :: []) ⟨rfl, rfl, rfl, rfl, rfl, rfl, trivial⟩ ?_
          rw [h0 hla]
          exact ih (j + 1) _ _ (by omega) []
        · refine j_if_eqF (tgt := 78) d_M_valueOf_69 rfl (by rw [hla]; decide) ?_
          refine j_iload d_M_valueOf_72 rfl ?_
          refine j_ineg d_M_valueOf_74 ?_
          refine j_goto (tgt := 80) d_M_valueOf_75 rfl ?_
          refine j_imul d_M_valueOf_80 ?_
          refine j_iadd d_M_valueOf_81 ?_
          refine j_istore_n d_M_valueOf_82 (by decide) ?_
          refine j_iconst (v := 2) d_M_valueOf_83 rfl ?_
          refine j_iload d_M_valueOf_84 rfl ?_
          refine j_imul d_M_valueOf_86 ?_
          refine j_istore d_M_valueOf_87 (by decide) ?_
          refine j_iincN d_M_valueOf_89 rfl (by decide) ?_
          refine j_goto (tgt := 8) d_M_valueOf_92 rfl ?_
          refine j_loc' ((0, .ref 59) :: (1, .int (nI i)) :: (2, .int (nI f)) :: (3, .int (v + ((S.2.1 11 i >>> ((S.2.1 14 f + nI j) &&& 31)) &&& 1) * (-u))) :: (4, .int (2 * u)) :: (5, .int (nI (j + 1))) :: []) ⟨rfl, rfl, rfl, rfl, rfl, rfl, trivial⟩ ?_
          rw [h1 hla]
          exact ih (j + 1) _ _ (by omega) []
      refine j_loc' [(0, .ref 59), (1, .int (nI i)), (2, .int (nI f)), (3, .int v), (4, .int u), (5, .int (nI j))] ⟨rfl, rfl, rfl, rfl, rfl, rfl, trivial⟩ ?_
      refine j_iload d_M_valueOf_8 rfl ?_
      refine j_aload_n d_M_valueOf_10 rfl ?_
      refine j_getf d_M_valueOf_11 f_M_27 rfl rfl ?_
      refine j_iload_n d_M_valueOf_14 rfl ?_
      refine j_iald d_M_valueOf_15 rfl hf (by decide) ?_
      refine j_top (w := .int (nI w)) (congrArg Value.int hw) ?_
      refine j_icmp_geF (tgt := 95) d_M_valueOf_16 rfl (nI_ge (by omega) (by omega)) ?_
      refine j_aload_n d_M_valueOf_19 rfl ?_
      refine j_getf d_M_valueOf_20 f_M_30 rfl rfl ?_
      refine j_iload_n d_M_valueOf_23 rfl ?_
      refine j_zald d_M_valueOf_24 rfl hf (by decide) ?_
      refine j_if_eq (tgt := 45) d_M_valueOf_25 rfl (fun hz => ?_) (fun hz => ?_)
      · refine j_iconst (v := 0) d_M_valueOf_45 rfl ?_
        exact fin 0 u (by rw [if_neg (fun q => q.1 hz)]) (.inl rfl) (fun _ => rfl) (fun q => absurd q (by decide))
      · refine j_iload d_M_valueOf_28 rfl ?_
        refine j_aload_n d_M_valueOf_30 rfl ?_
        refine j_getf d_M_valueOf_31 f_M_27 rfl rfl ?_
        refine j_iload_n d_M_valueOf_34 rfl ?_
        refine j_iald d_M_valueOf_35 rfl hf (by decide) ?_
        refine j_top (w := .int (nI w)) (congrArg Value.int hw) ?_
        refine j_iconst (v := 1) d_M_valueOf_36 rfl ?_
        refine j_isub d_M_valueOf_37 ?_
        refine j_top (w := .int (nI (w - 1))) (by show Value.int (nI w - nI 1) = _; rw [pk_sub (by omega)]) ?_
        by_cases hj1 : j = w - 1
        · refine j_icmp_neF (tgt := 45) d_M_valueOf_38 rfl (by rw [hj1]) ?_
          refine j_iconst (v := 1) d_M_valueOf_41 rfl ?_
          refine j_goto (tgt := 46) d_M_valueOf_42 rfl ?_
          exact fin 1 (-u) (by rw [if_pos ⟨hz, hj1⟩]) (.inr rfl) (fun q => absurd q (by decide)) (fun _ => rfl)
        · refine j_icmp_neT (tgt := 45) d_M_valueOf_38 rfl (fun q => hj1 ((nI_eq (by omega) (by omega)).mp q)) ?_
          refine j_iconst (v := 0) d_M_valueOf_45 rfl ?_
          exact fin 0 u (by rw [if_neg (fun q => hj1 q.2)]) (.inl rfl) (fun _ => rfl) (fun q => absurd q (by decide))
  refine j_iconst (v := 0) d_M_valueOf_0 rfl ?_
  refine j_istore_n d_M_valueOf_1 (by decide) ?_
  refine j_iconst (v := 1) d_M_valueOf_2 rfl ?_
  refine j_istore d_M_valueOf_3 (by decide) ?_
  refine j_iconst (v := 0) d_M_valueOf_5 rfl ?_
  refine j_istore d_M_valueOf_6 (by decide) ?_
  exact j_loc' ((0, .ref 59) :: (1, .int (nI i)) :: (2, .int (nI f)) :: (3, .int 0) :: (4, .int 1) :: (5, .int (nI 0)) :: []) ⟨rfl, rfl, rfl, rfl, rfl, rfl, trivial⟩ (loop w 0 0 1 (by omega) [])
def mfit (w z v : Int32) : Int32 := if z = 0 then (if v < 0 then 0 else if (1 : Int32) <<< (w &&& 31) ≤ v then 0 else 1) else if v < -((1 : Int32) <<< (w &&& 31)) / 2 then 0 else if ((1 : Int32) <<< (w &&& 31)) / 2 ≤ v then 0 else 1
theorem m_M_fits (K : jK) (d : Nat) (S : jS) (J : jH) (f : Nat) (v : Int32) (hf : f < 6) : jM K M_M_fits d [.ref 59, .int (nI f), .int v] (lay S ++ J) (rI (mfit (S.2.1 15 f) (S.2.1 16 f) v) (lay S ++ J)) 0 0 := by
  refine jM.of (by decide) (Nat.le_of_ble_eq_true rfl) ?_
  refine j_iconst (v := 1) d_M_fits_0 rfl ?_
  refine j_aload_n d_M_fits_1 rfl ?_
  refine j_getf d_M_fits_2 f_M_27 rfl rfl ?_
  refine j_iload_n d_M_fits_5 rfl ?_
  refine j_iald d_M_fits_6 rfl hf (by decide) ?_
  refine j_ishl d_M_fits_7 ?_
  refine j_istore_n d_M_fits_8 (by decide) ?_
  refine j_aload_n d_M_fits_9 rfl ?_
  refine j_getf d_M_fits_10 f_M_30 rfl rfl ?_
  refine j_iload_n d_M_fits_13 rfl ?_
  refine j_zald d_M_fits_14 rfl hf (by decide) ?_
  refine j_if_eq (tgt := 41) d_M_fits_15 rfl (fun h15 => ?_) (fun h15 => ?_)
  · refine j_iload_n d_M_fits_41 rfl ?_
    refine j_if_lt (tgt := 54) d_M_fits_42 rfl (fun h42 => ?_) (fun h42 => ?_)
    · refine j_iconst (v := 0) d_M_fits_54 rfl ?_
      exact j_zret rfl rfl d_M_fits_55 ⟨by first | (simp only [mfit, h15, h42, ↓reduceIte]; done) | (simp [mfit, h15, h42]; done), rfl⟩
    · refine j_iload_n d_M_fits_45 rfl ?_
      refine j_iload_n d_M_fits_46 rfl ?_
      refine j_icmp_ge (tgt := 54) d_M_fits_47 rfl (fun h47 => ?_) (fun h47 => ?_)
      · refine j_iconst (v := 0) d_M_fits_54 rfl ?_
        exact j_zret rfl rfl d_M_fits_55 ⟨by first | (simp only [mfit, h15, h42, h47, ↓reduceIte]; done) | (simp [mfit, h15, h42, h47]; done), rfl⟩
      · refine j_iconst (v := 1) d_M_fits_50 rfl ?_
        refine j_goto (tgt := 55) d_M_fits_51 rfl ?_
        exact j_zret rfl rfl d_M_fits_55 ⟨by first | (simp only [mfit, h15, h42, h47, ↓reduceIte]; done) | (simp [mfit, h15, h42, h47]; done), rfl⟩
  · refine j_iload_n d_M_fits_18 rfl ?_
    refine j_iload_n d_M_fits_19 rfl ?_
    refine j_ineg d_M_fits_20 ?_
    refine j_iconst (v := 2) d_M_fits_21 rfl ?_
    refine j_idiv d_M_fits_22 (by decide) ?_
    refine j_icmp_lt (tgt := 37) d_M_fits_23 rfl (fun h23 => ?_) (fun h23 => ?_)
    · refine j_iconst (v := 0) d_M_fits_37 rfl ?_
      refine j_goto (tgt := 55) d_M_fits_38 rfl ?_
      exact j_zret rfl rfl d_M_fits_55 ⟨by first | (simp only [mfit, h15, h23, ↓reduceIte]; done) | (simp [mfit, h15, h23]; done), rfl⟩
    · refine j_iload_n d_M_fits_26 rfl ?_
      refine j_iload_n d_M_fits_27 rfl ?_
      refine j_iconst (v := 2) d_M_fits_28 rfl ?_
      refine j_idiv d_M_fits_29 (by decide) ?_
      refine j_icmp_ge (tgt := 37) d_M_fits_30 rfl (fun h30 => ?_) (fun h30 => ?_)
      · refine j_iconst (v := 0) d_M_fits_37 rfl ?_
        refine j_goto (tgt := 55) d_M_fits_38 rfl ?_
        exact j_zret rfl rfl d_M_fits_55 ⟨by first | (simp only [mfit, h15, h23, h30, ↓reduceIte]; done) | (simp [mfit, h15, h23, h30]; done), rfl⟩
      · refine j_iconst (v := 1) d_M_fits_33 rfl ?_
        refine j_goto (tgt := 55) d_M_fits_34 rfl ?_
        exact j_zret rfl rfl d_M_fits_55 ⟨by first | (simp only [mfit, h15, h23, h30, ↓reduceIte]; done) | (simp [mfit, h15, h23, h30]; done), rfl⟩
def mput (lo w b v : Int32) : Int32 := (b &&& (((((1 : Int32) <<< (w &&& 31)) - 1) <<< (lo &&& 31)) ^^^ (-1))) ||| ((v &&& (((1 : Int32) <<< (w &&& 31)) - 1)) <<< (lo &&& 31))
theorem m_M_setValue (K : jK) (d : Nat) (S : jS) (J : jH) (i f : Nat) (v : Int32) (hi : i < 32) (hf : f < 6) : jM K M_M_setValue d [.ref 59, .int (nI i), .int (nI f), .int v] (lay S ++ J) (rV (lay (s2 S 11 (upd (S.2.1 11) i (mput (S.2.1 14 f) (S.2.1 15 f) (S.2.1 11 i) v))) ++ J)) 0 0 := by
  refine jM.of (by decide) (Nat.le_of_ble_eq_true rfl) ?_
  refine j_iconst (v := 1) d_M_setValue_0 rfl ?_
  refine j_aload_n d_M_setValue_1 rfl ?_
  refine j_getf d_M_setValue_2 f_M_27 rfl rfl ?_
  refine j_iload_n d_M_setValue_5 rfl ?_
  refine j_iald d_M_setValue_6 rfl hf (by decide) ?_
  refine j_ishl d_M_setValue_7 ?_
  refine j_iconst (v := 1) d_M_setValue_8 rfl ?_
  refine j_isub d_M_setValue_9 ?_
  refine j_istore d_M_setValue_10 (by decide) ?_
  refine j_aload_n d_M_setValue_12 rfl ?_
  refine j_getf d_M_setValue_13 f_M_13 rfl rfl ?_
  refine j_iload_n d_M_setValue_16 rfl ?_
  refine j_aload_n d_M_setValue_17 rfl ?_
  refine j_getf d_M_setValue_18 f_M_13 rfl rfl ?_
  refine j_iload_n d_M_setValue_21 rfl ?_
  refine j_iald d_M_setValue_22 rfl hi (by decide) ?_
  refine j_iload d_M_setValue_23 rfl ?_
  refine j_aload_n d_M_setValue_25 rfl ?_
  refine j_getf d_M_setValue_26 f_M_24 rfl rfl ?_
  refine j_iload_n d_M_setValue_29 rfl ?_
  refine j_iald d_M_setValue_30 rfl hf (by decide) ?_
  refine j_ishl d_M_setValue_31 ?_
  refine j_iconst (v := -1) d_M_setValue_32 rfl ?_
  refine j_ixor d_M_setValue_33 ?_
  refine j_iand d_M_setValue_34 ?_
  refine j_iload_n d_M_setValue_35 rfl ?_
  refine j_iload d_M_setValue_36 rfl ?_
  refine j_iand d_M_setValue_38 ?_
  refine j_aload_n d_M_setValue_39 rfl ?_
  refine j_getf d_M_setValue_40 f_M_24 rfl rfl ?_
  refine j_iload_n d_M_setValue_43 rfl ?_
  refine j_iald d_M_setValue_44 rfl hf (by decide) ?_
  refine j_ishl d_M_setValue_45 ?_
  refine j_ior d_M_setValue_46 ?_
  refine j_iast d_M_setValue_47 rfl hi (by decide) rfl ?_
  exact j_vret rfl d_M_setValue_48 ⟨rfl, rfl⟩
def isWB (w : Int32) : Bool := decide (0 ≤ w) && decide (w ≤ 31)
theorem btw_a {lo c hi : Int32} (h : c < lo) : b2i (btw lo c hi) = 0 := by rw [btw, decide_eq_false (Int32.not_le.mpr h)]; rfl
theorem btw_b {lo c hi : Int32} (h : hi < c) : b2i (btw lo c hi) = 0 := by rw [btw, decide_eq_false (Int32.not_le.mpr h), Bool.and_false]; rfl
theorem btw_c {lo c hi : Int32} (h : ¬ c < lo) (g : ¬ hi < c) : b2i (btw lo c hi) = 1 := by rw [btw, decide_eq_true (Int32.not_lt.mp h), decide_eq_true (Int32.not_lt.mp g)]; rfl
theorem m_M_isLetter (K : jK) (d : Nat) (h : jH) (c : Int32) : jM K M_M_isLetter d [.int c] (h) (rI (b2i (btw 97 c 122)) h) 0 0 := by
  refine jM.of (by decide) (Nat.le_of_ble_eq_true rfl) ?_
  refine j_iload_n d_M_isLetter_0 rfl ?_
  refine j_bipush (v := 97) d_M_isLetter_1 (by decide) ?_
  refine j_icmp_lt (tgt := 16) d_M_isLetter_3 rfl (fun h3 => ?_) (fun h3 => ?_)
  · refine j_iconst (v := 0) d_M_isLetter_16 rfl ?_
    exact j_zret rfl rfl d_M_isLetter_17 ⟨by first | (rw [btw_a h3]; done) | (rw [btw_b h9]; done) | (rw [btw_c h3 h9]; done), rfl⟩
  · refine j_iload_n d_M_isLetter_6 rfl ?_
    refine j_bipush (v := 122) d_M_isLetter_7 (by decide) ?_
    refine j_icmp_gt (tgt := 16) d_M_isLetter_9 rfl (fun h9 => ?_) (fun h9 => ?_)
    · refine j_iconst (v := 0) d_M_isLetter_16 rfl ?_
      exact j_zret rfl rfl d_M_isLetter_17 ⟨by first | (rw [btw_a h3]; done) | (rw [btw_b h9]; done) | (rw [btw_c h3 h9]; done), rfl⟩
    · refine j_iconst (v := 1) d_M_isLetter_12 rfl ?_
      refine j_goto (tgt := 17) d_M_isLetter_13 rfl ?_
      exact j_zret rfl rfl d_M_isLetter_17 ⟨by first | (rw [btw_a h3]; done) | (rw [btw_b h9]; done) | (rw [btw_c h3 h9]; done), rfl⟩
theorem m_M_isDigit (K : jK) (d : Nat) (h : jH) (c : Int32) : jM K M_M_isDigit d [.int c] (h) (rI (b2i (btw 48 c 57)) h) 0 0 := by
  refine jM.of (by decide) (Nat.le_of_ble_eq_true rfl) ?_
  refine j_iload_n d_M_isDigit_0 rfl ?_
  refine j_bipush (v := 48) d_M_isDigit_1 (by decide) ?_
  refine j_icmp_lt (tgt := 16) d_M_isDigit_3 rfl (fun h3 => ?_) (fun h3 => ?_)
  · refine j_iconst (v := 0) d_M_isDigit_16 rfl ?_
    exact j_zret rfl rfl d_M_isDigit_17 ⟨by first | (rw [btw_a h3]; done) | (rw [btw_b h9]; done) | (rw [btw_c h3 h9]; done), rfl⟩
  · refine j_iload_n d_M_isDigit_6 rfl ?_
    refine j_bipush (v := 57) d_M_isDigit_7 (by decide) ?_
    refine j_icmp_gt (tgt := 16) d_M_isDigit_9 rfl (fun h9 => ?_) (fun h9 => ?_)
    · refine j_iconst (v := 0) d_M_isDigit_16 rfl ?_
      exact j_zret rfl rfl d_M_isDigit_17 ⟨by first | (rw [btw_a h3]; done) | (rw [btw_b h9]; done) | (rw [btw_c h3 h9]; done), rfl⟩
    · refine j_iconst (v := 1) d_M_isDigit_12 rfl ?_
      refine j_goto (tgt := 17) d_M_isDigit_13 rfl ?_
      exact j_zret rfl rfl d_M_isDigit_17 ⟨by first | (rw [btw_a h3]; done) | (rw [btw_b h9]; done) | (rw [btw_c h3 h9]; done), rfl⟩
theorem m_M_isWord (K : jK) (d : Nat) (h : jH) (c : Int32) : jM K M_M_isWord d [.int c] (h) (rI (b2i (btw 0 c 31)) h) 0 0 := by
  refine jM.of (by decide) (Nat.le_of_ble_eq_true rfl) ?_
  refine j_iload_n d_M_isWord_0 rfl ?_
  refine j_if_lt (tgt := 14) d_M_isWord_1 rfl (fun h1 => ?_) (fun h1 => ?_)
  · refine j_iconst (v := 0) d_M_isWord_14 rfl ?_
    exact j_zret rfl rfl d_M_isWord_15 ⟨by first | (rw [btw_a h1]; done) | (rw [btw_b h7]; done) | (rw [btw_c h1 h7]; done), rfl⟩
  · refine j_iload_n d_M_isWord_4 rfl ?_
    refine j_bipush (v := 31) d_M_isWord_5 (by decide) ?_
    refine j_icmp_gt (tgt := 14) d_M_isWord_7 rfl (fun h7 => ?_) (fun h7 => ?_)
    · refine j_iconst (v := 0) d_M_isWord_14 rfl ?_
      exact j_zret rfl rfl d_M_isWord_15 ⟨by first | (rw [btw_a h1]; done) | (rw [btw_b h7]; done) | (rw [btw_c h1 h7]; done), rfl⟩
    · refine j_iconst (v := 1) d_M_isWord_10 rfl ?_
      refine j_goto (tgt := 15) d_M_isWord_11 rfl ?_
      exact j_zret rfl rfl d_M_isWord_15 ⟨by first | (rw [btw_a h1]; done) | (rw [btw_b h7]; done) | (rw [btw_c h1 h7]; done), rfl⟩
def sgM (c : Int32) : Bool := decide (c = 60) || decide (c = 61) || decide (c = 62) || decide (c = 38) || decide (c = 124) || decide (c = 33) || decide (c = 40) || decide (c = 41) || decide (c = 44) || decide (c = 43) || decide (c = 45) || decide (c = 42)
theorem m_M_isSign (K : jK) (d : Nat) (h : jH) (c : Int32) : jM K M_M_isSign d [.int c] (h) (rI (b2i (sgM c)) h) 0 0 := by
  refine jM.of (by decide) (Nat.le_of_ble_eq_true rfl) ?_
  refine j_iload_n d_M_isSign_0 rfl ?_
  refine j_bipush (v := 60) d_M_isSign_1 (by decide) ?_
  refine j_icmp_eq (tgt := 72) d_M_isSign_3 rfl (fun h3 => ?_) (fun h3 => ?_)
  · refine j_iconst (v := 1) d_M_isSign_72 rfl ?_
    refine j_goto (tgt := 77) d_M_isSign_73 rfl ?_
    exact j_zret rfl rfl d_M_isSign_77 ⟨by first | (simp [sgM, b2i, h3]; done), rfl⟩
  · refine j_iload_n d_M_isSign_6 rfl ?_
    refine j_bipush (v := 61) d_M_isSign_7 (by decide) ?_
    refine j_icmp_eq (tgt := 72) d_M_isSign_9 rfl (fun h9 => ?_) (fun h9 => ?_)
    · refine j_iconst (v := 1) d_M_isSign_72 rfl ?_
      refine j_goto (tgt := 77) d_M_isSign_73 rfl ?_
      exact j_zret rfl rfl d_M_isSign_77 ⟨by first | (simp [sgM, b2i, h3, h9]; done), rfl⟩
    · refine j_iload_n d_M_isSign_12 rfl ?_
      refine j_bipush (v := 62) d_M_isSign_13 (by decide) ?_
      refine j_icmp_eq (tgt := 72) d_M_isSign_15 rfl (fun h15 => ?_) (fun h15 => ?_)
      · refine j_iconst (v := 1) d_M_isSign_72 rfl ?_
        refine j_goto (tgt := 77) d_M_isSign_73 rfl ?_
        exact j_zret rfl rfl d_M_isSign_77 ⟨by first | (simp [sgM, b2i, h3, h9, h15]; done), rfl⟩
      · refine j_iload_n d_M_isSign_18 rfl ?_
        refine j_bipush (v := 38) d_M_isSign_19 (by decide) ?_
        refine j_icmp_eq (tgt := 72) d_M_isSign_21 rfl (fun h21 => ?_) (fun h21 => ?_)
        · refine j_iconst (v := 1) d_M_isSign_72 rfl ?_
          refine j_goto (tgt := 77) d_M_isSign_73 rfl ?_
          exact j_zret rfl rfl d_M_isSign_77 ⟨by first | (simp [sgM, b2i, h3, h9, h15, h21]; done), rfl⟩
        · refine j_iload_n d_M_isSign_24 rfl ?_
          refine j_bipush (v := 124) d_M_isSign_25 (by decide) ?_
          refine j_icmp_eq (tgt := 72) d_M_isSign_27 rfl (fun h27 => ?_) (fun h27 => ?_)
          · refine j_iconst (v := 1) d_M_isSign_72 rfl ?_
            refine j_goto (tgt := 77) d_M_isSign_73 rfl ?_
            exact j_zret rfl rfl d_M_isSign_77 ⟨by first | (simp [sgM, b2i, h3, h9, h15, h21, h27]; done), rfl⟩
          · refine j_iload_n d_M_isSign_30 rfl ?_
            refine j_bipush (v := 33) d_M_isSign_31 (by decide) ?_
            refine j_icmp_eq (tgt := 72) d_M_isSign_33 rfl (fun h33 => ?_) (fun h33 => ?_)
            · refine j_iconst (v := 1) d_M_isSign_72 rfl ?_
              refine j_goto (tgt := 77) d_M_isSign_73 rfl ?_
              exact j_zret rfl rfl d_M_isSign_77 ⟨by first | (simp [sgM, b2i, h3, h9, h15, h21, h27, h33]; done), rfl⟩
            · refine j_iload_n d_M_isSign_36 rfl ?_
              refine j_bipush (v := 40) d_M_isSign_37 (by decide) ?_
              refine j_icmp_eq (tgt := 72) d_M_isSign_39 rfl (fun h39 => ?_) (fun h39 => ?_)
              · refine j_iconst (v := 1) d_M_isSign_72 rfl ?_
                refine j_goto (tgt := 77) d_M_isSign_73 rfl ?_
                exact j_zret rfl rfl d_M_isSign_77 ⟨by first | (simp [sgM, b2i, h3, h9, h15, h21, h27, h33, h39]; done), rfl⟩
              · refine j_iload_n d_M_isSign_42 rfl ?_
                refine j_bipush (v := 41) d_M_isSign_43 (by decide) ?_
                refine j_icmp_eq (tgt := 72) d_M_isSign_45 rfl (fun h45 => ?_) (fun h45 => ?_)
                · refine j_iconst (v := 1) d_M_isSign_72 rfl ?_
                  refine j_goto (tgt := 77) d_M_isSign_73 rfl ?_
                  exact j_zret rfl rfl d_M_isSign_77 ⟨by first | (simp [sgM, b2i, h3, h9, h15, h21, h27, h33, h39, h45]; done), rfl⟩
                · refine j_iload_n d_M_isSign_48 rfl ?_
                  refine j_bipush (v := 44) d_M_isSign_49 (by decide) ?_
                  refine j_icmp_eq (tgt := 72) d_M_isSign_51 rfl (fun h51 => ?_) (fun h51 => ?_)
                  · refine j_iconst (v := 1) d_M_isSign_72 rfl ?_
                    refine j_goto (tgt := 77) d_M_isSign_73 rfl ?_
                    exact j_zret rfl rfl d_M_isSign_77 ⟨by first | (simp [sgM, b2i, h3, h9, h15, h21, h27, h33, h39, h45, h51]; done), rfl⟩
                  · refine j_iload_n d_M_isSign_54 rfl ?_
                    refine j_bipush (v := 43) d_M_isSign_55 (by decide) ?_
                    refine j_icmp_eq (tgt := 72) d_M_isSign_57 rfl (fun h57 => ?_) (fun h57 => ?_)
                    · refine j_iconst (v := 1) d_M_isSign_72 rfl ?_
                      refine j_goto (tgt := 77) d_M_isSign_73 rfl ?_
                      exact j_zret rfl rfl d_M_isSign_77 ⟨by first | (simp [sgM, b2i, h3, h9, h15, h21, h27, h33, h39, h45, h51, h57]; done), rfl⟩
                    · refine j_iload_n d_M_isSign_60 rfl ?_
                      refine j_bipush (v := 45) d_M_isSign_61 (by decide) ?_
                      refine j_icmp_eq (tgt := 72) d_M_isSign_63 rfl (fun h63 => ?_) (fun h63 => ?_)
                      · refine j_iconst (v := 1) d_M_isSign_72 rfl ?_
                        refine j_goto (tgt := 77) d_M_isSign_73 rfl ?_
                        exact j_zret rfl rfl d_M_isSign_77 ⟨by first | (simp [sgM, b2i, h3, h9, h15, h21, h27, h33, h39, h45, h51, h57, h63]; done), rfl⟩
                      · refine j_iload_n d_M_isSign_66 rfl ?_
                        refine j_bipush (v := 42) d_M_isSign_67 (by decide) ?_
                        refine j_icmp_ne (tgt := 76) d_M_isSign_69 rfl (fun h69 => ?_) (fun h69 => ?_)
                        · refine j_iconst (v := 0) d_M_isSign_76 rfl ?_
                          exact j_zret rfl rfl d_M_isSign_77 ⟨by first | (simp [sgM, b2i, h3, h9, h15, h21, h27, h33, h39, h45, h51, h57, h63, h69]; done), rfl⟩
                        · refine j_iconst (v := 1) d_M_isSign_72 rfl ?_
                          refine j_goto (tgt := 77) d_M_isSign_73 rfl ?_
                          exact j_zret rfl rfl d_M_isSign_77 ⟨by first | (simp [sgM, b2i, h3, h9, h15, h21, h27, h33, h39, h45, h51, h57, h63, h69]; done), rfl⟩
theorem m_M_see (K : jK) (d : Nat) (S : jS) (J : jH) (n p : Nat) (hn : S.1 32 = nI n) (h100 : n ≤ 100) (hp : p ≤ 100) (hc : chOk (S.2.1 17)) : jM K M_M_see d [.ref 59, .int (nI p)] (lay S ++ J) (rI (if p < n then S.2.1 17 p else 0) (lay S ++ J)) 0 0 := by
  refine jM.of (by decide) (Nat.le_of_ble_eq_true rfl) ?_
  refine j_iload_n d_M_see_0 rfl ?_
  refine j_aload_n d_M_see_1 rfl ?_
  refine j_getf d_M_see_2 f_M_102 rfl rfl ?_
  refine j_top (w := .int (nI n)) (congrArg Value.int hn) ?_
  by_cases h : p < n
  · rw [if_pos h]
    refine j_icmp_geF (tgt := 17) d_M_see_5 rfl (nI_ge (by omega) (by omega)) ?_
    refine j_aload_n d_M_see_8 rfl ?_
    refine j_getf d_M_see_9 f_M_33 rfl rfl ?_
    refine j_iload_n d_M_see_12 rfl ?_
    refine j_cald d_M_see_13 rfl (show p < 100 by omega) (by decide) ?_
    refine j_goto (tgt := 18) d_M_see_14 rfl ?_
    exact j_zret rfl (hc p) d_M_see_18 ⟨rfl, rfl⟩
  · rw [if_neg h]
    refine j_icmp_geT (tgt := 17) d_M_see_5 rfl (nI_le (by omega) (by omega)) ?_
    refine j_iconst (v := 0) d_M_see_17 rfl ?_
    exact j_zret rfl rfl d_M_see_18 ⟨rfl, rfl⟩
