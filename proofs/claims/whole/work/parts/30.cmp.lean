/-! BitLoom$Statement.readComparison -/
def pCmp (T N : Nat → Int32) (c : Nat) (r : List Tok) : Rs (Int32 × Opd × Opd) := match pOpd T N c r with
  | .inr p => .inr p
  | .inl (_, []) => .inr 0
  | .inl (x, (k, s, e) :: r2) => if k = 60 ∨ k = 61 ∨ k = 62 then (match pOpd T N c r2 with | .inl (y, r3) => .inl ((k, x, y), r3) | .inr p => .inr p) else .inr s
theorem pFld_len {T N : Nat → Int32} {c : Nat} {r r1 : List Tok} {f : Nat} (h : pFld T N c r = .inl (f, r1)) : r1.length < r.length := by
  unfold pFld at h
  split at h
  · cases h
  · split at h
    · split at h
      · cases h
      · cases h; simp
    · cases h
theorem pOpd_len {T N : Nat → Int32} {c : Nat} {r r1 : List Tok} {x : Opd} (h : pOpd T N c r = .inl (x, r1)) : r1.length < r.length := by
  unfold pOpd at h
  split at h
  · cases h
  · split at h
    · split at h
      · cases h
      · split at h
        · cases h; simp; omega
        · cases h
    · split at h
      · cases h; simp
      · split at h
        · rename_i hf; cases h; exact pFld_len hf
        · cases h
theorem pCmp_len {T N : Nat → Int32} {c : Nat} {r r1 : List Tok} {x : Int32 × Opd × Opd} (h : pCmp T N c r = .inl (x, r1)) : r1.length < r.length := by
  unfold pCmp at h
  split at h
  · cases h
  · cases h
  · rename_i h1
    have := pOpd_len h1
    split at h
    · split at h
      · rename_i h2
        have h3 := pOpd_len h2
        cases h
        simp at this
        omega
      · cases h
    · cases h
/-- an operand's value in a word -/
def ovl (A : Nat → Nat → Int32) (x : Opd) (b : Int32) : Int32 := match x with
  | .inl j => vval (A 1 j) (A 2 j) (A 3 j) b
  | .inr v => v
def mskL (f : Nat → Int32) : Nat → Nat → Int32 → Int32
  | 0, _, v => v
  | k + 1, i, v => mskL f k (i + 1) (if f i = 0 then v else v ||| ((1 : Int32) <<< (nI i &&& 31)))
def cmpV (A : Nat → Nat → Int32) (q : Int32 × Opd × Opd) : Int32 := mskL (fun w => tru q.1 (ovl A q.2.1 (A 4 w)) (ovl A q.2.2 (A 4 w))) 32 0 0
theorem isO_val {f m : Nat} {x : Opd} {S : jS} (h : isO f m x S) (b : Int32) : opv S f m b = ovl S.2.1 x b := by
  unfold opv ovl
  cases x with
  | inl j =>
    obtain ⟨h1, h2⟩ := h
    rw [h2, if_neg (nI_ne1 (by omega)), nI_clamp (by omega)]
    rfl
  | inr v =>
    obtain ⟨h1, h2⟩ := h
    rw [h1, if_pos rfl, h2]
theorem isO_ok {f m : Nat} {x : Opd} {S : jS} (h : isO f m x S) : okO S f := by
  cases x with
  | inl j => exact .inr ⟨j, h.1, h.2⟩
  | inr v => exact .inl h.1
theorem isO_keep {f m : Nat} {x : Opd} {S S' : jS} {X : List Nat} (h : isO f m x S) (g : frm X S S') (hX : (X.contains f || X.contains m) = false) : isO f m x S' := by
  simp only [Bool.or_eq_false_iff, List.contains_eq_mem, decide_eq_false_iff_not] at hX
  cases x with
  | inl j => exact ⟨h.1, (g.1 f hX.1).trans h.2⟩
  | inr v => exact ⟨(g.1 f hX.1).trans h.1, (g.1 m hX.2).trans h.2⟩
theorem sgn_nar {k : Int32} (h : k = 60 ∨ k = 61 ∨ k = 62) : narrow .char (.int k) = .int k := by rcases h with q | q | q <;> rw [q] <;> rfl
theorem sgn_fit (K : jK) {k : Int32} (h : k = 60 ∨ k = 61 ∨ k = 62) : fits .char (j_v K (.int k)) = true := by rcases h with q | q | q <;> rw [q] <;> rfl
theorem frm.sy {X : List Nat} {A B : jS} (h : frm X A B) : B.2.1 = A.2.1 := congrArg (fun z => z.1) h.2
theorem m_S_readComparison (K : jK) (d : Nat) (hd : 9 ≤ d) (S : jS) (J : jH) (n c : Nat) (r : List Tok) (hR : Rdr S n c r) : jM K M_S_readComparison d [.ref 42] (lay S ++ J) (pst n c [12, 13, 14, 15, 16, 17] S J (yI fun q => cmpV S.2.1 q) (pCmp (S.2.1 5) (S.2.1 0) c r)) 0 0 := by
  refine jM.of (by decide) (Nat.le_of_ble_eq_true rfl) ?_
  refine j_aload_n d_S_readComparison_0 rfl ?_
  refine j_aload_n d_S_readComparison_1 rfl ?_
  refine j_getf d_S_readComparison_2 f_S_33 rfl rfl ?_
  refine j_getf d_S_readComparison_5 f_S_139 rfl rfl ?_
  refine j_pst (j_callV d_S_readComparison_8 v_S_readOperand l_S_143 rfl rfl (m_S_readOperand_48 K (d - 1) (by omega) S J n c r hR) (by omega) (by decide) (Nat.le_of_ble_eq_true rfl) rfl) rfl (fun _ _ _ q => by cases q.1) (fun x r1 v S1 hx f1 hR1 hv => ?_) (fun p S1 hp f1 hp1 => ?_)
  rotate_left
  · rw [show pCmp (S.2.1 5) (S.2.1 0) c r = .inr p by unfold pCmp; rw [hp]]
    exact ⟨rfl, _, rfl, f1.up (by decide), hp1⟩
  obtain ⟨hv, hx1⟩ := hv
  cases hv
  refine j_st (st' := []) rfl ?_
  obtain ⟨a, k, s, e, r2, rfl, ha, h101, hk, hs, he, hse, hen, hnx⟩ := hR1.cur
  refine j_aload_n d_S_readComparison_11 rfl ?_
  refine j_getf d_S_readComparison_12 f_S_33 rfl rfl ?_
  refine j_aload_n d_S_readComparison_15 rfl ?_
  refine j_bipush (v := 60) d_S_readComparison_16 (by decide) ?_
  refine j_bipush (v := 61) d_S_readComparison_18 (by decide) ?_
  refine j_bipush (v := 62) d_S_readComparison_20 (by decide) ?_
  by_cases hor : k = 60 ∨ k = 61 ∨ k = 62
  · refine j_pst (j_callV d_S_readComparison_22 v_S_readSign l_S_147 rfl rfl (m_S_readSign K (d - 1) (by omega) S1 J n c _ hR1 60 61 62 (by decide) (by decide) ⟨rfl, rfl, rfl⟩) (by omega) (by decide) (Nat.le_of_ble_eq_true rfl) rfl) rfl (fun _ _ _ q => by cases q) (fun x2 r3 v2 S2 hx2 f2 hR2 hv2 => ?_) (fun p S2 hp f2 hp1 => ?_)
    rotate_left
    · rw [pSgn, if_pos hor] at hp; cases hp
    rw [pSgn, if_pos hor] at hx2
    cases hx2
    cases hv2
    refine j_st (st' := [.int k, .ref 47]) rfl ?_
    refine j_putf d_S_readComparison_25 f_S_151 rfl (Nat.le_of_ble_eq_true rfl) (sgn_nar hor) (sgn_fit K hor) rfl ?_
    refine j_hp (h' := lay (s1 S2 13 k) ++ J) rfl ?_
    refine j_aload_n d_S_readComparison_28 rfl ?_
    refine j_getf d_S_readComparison_29 f_S_33 rfl rfl ?_
    refine j_getf d_S_readComparison_32 f_S_151 rfl rfl ?_
    refine j_bipush (v := 32) d_S_readComparison_35 (by decide) ?_
    refine j_icmp_neT (tgt := 44) d_S_readComparison_37 rfl (by rcases hor with q | q | q <;> rw [show (s1 S2 13 k).1 13 = k from rfl, q] <;> decide) ?_
    refine j_aload_n d_S_readComparison_44 rfl ?_
    refine j_aload_n d_S_readComparison_45 rfl ?_
    refine j_getf d_S_readComparison_46 f_S_33 rfl rfl ?_
    refine j_getf d_S_readComparison_49 f_S_155 rfl rfl ?_
    have f3 : frm [12, 13, 14, 15] S (s1 S2 13 k) := ((f1.up (by decide)).tr (f2.up (by decide))).s1 (by decide) _
    have e3 := f3.sy
    have hR3 : Rdr (s1 S2 13 k) n c r2 := hR2.keep ((frm.rf [13] S2).s1 (by decide) k) (by decide)
    have hO3 : isO 14 15 x (s1 S2 13 k) := isO_keep hx1 (((f2.up (Y := [12, 13]) (by decide))).s1 (by decide) k) (by decide)
    refine j_pst (j_callV d_S_readComparison_52 v_S_readOperand l_S_143 rfl rfl (m_S_readOperand_49 K (d - 1) (by omega) (s1 S2 13 k) J n c r2 hR3) (by omega) (by decide) (Nat.le_of_ble_eq_true rfl) rfl) rfl (fun _ _ _ q => by cases q.1) (fun y r4 v4 S4 hx4 f4 hR4 hv4 => ?_) (fun p S4 hp f4 hp1 => ?_)
    rotate_left
    · rw [e3] at hp
      rw [show pCmp (S.2.1 5) (S.2.1 0) c r = .inr p by unfold pCmp; rw [hx]; simp only; rw [if_pos hor, hp]]
      exact ⟨rfl, _, rfl, (f3.up (by decide)).tr (f4.up (by decide)), hp1⟩
    rw [e3] at hx4
    rw [show pCmp (S.2.1 5) (S.2.1 0) c r = .inl ((k, x, y), r4) by unfold pCmp; rw [hx]; simp only; rw [if_pos hor, hx4]]
    obtain ⟨hv, hO4⟩ := hv4
    cases hv
    refine j_st (st' := []) rfl ?_
    have f5 : frm [12, 13, 14, 15, 16, 17] S S4 := (f3.up (by decide)).tr (f4.up (by decide))
    have e5 := f5.sy
    have hO5 : isO 14 15 x S4 := isO_keep hO3 f4 (by decide)
    have hk5 : S4.1 13 = k := f4.1 13 (by decide)
    have loop : ∀ m i v, i + m = 32 → jE K M_S_readComparison d 59 [(0, .ref 42), (1, .int v), (2, .int (nI i))] [] (lay S4 ++ J) (rI (mskL (fun w => tru k (ovl S.2.1 x (S.2.1 4 w)) (ovl S.2.1 y (S.2.1 4 w))) m i v) (lay S4 ++ J)) 0 0 := by
      intro m
      induction m with
      | zero =>
        intro i v hi
        refine j_iload_n d_S_readComparison_59 rfl ?_
        refine j_bipush (v := 32) d_S_readComparison_60 (by decide) ?_
        refine j_icmp_geT (tgt := 95) d_S_readComparison_62 rfl (show nI 32 ≤ nI i from nI_le (by omega) (by omega)) ?_
        refine j_iload_n d_S_readComparison_95 rfl ?_
        exact j_iret rfl d_S_readComparison_96 ⟨rfl, rfl⟩
      | succ m ih =>
        intro i v hi
        refine j_iload_n d_S_readComparison_59 rfl ?_
        refine j_bipush (v := 32) d_S_readComparison_60 (by decide) ?_
        refine j_icmp_geF (tgt := 95) d_S_readComparison_62 rfl (show ¬ nI 32 ≤ nI i from nI_ge (by omega) (by omega)) ?_
        refine j_aload_n d_S_readComparison_65 rfl ?_
        refine j_getf d_S_readComparison_66 f_S_33 rfl rfl ?_
        refine j_aload_n d_S_readComparison_69 rfl ?_
        refine j_getf d_S_readComparison_70 f_S_15 rfl rfl ?_
        refine j_iload_n d_S_readComparison_73 rfl ?_
        refine j_retI (j_callV d_S_readComparison_74 v_W_bitsOf l_S_158 rfl rfl (m_W_bitsOf K (d - 1) S4 J i (by omega)) (by omega) (by decide) (Nat.le_of_ble_eq_true rfl) rfl) rfl ?_
        refine j_retI (j_callV d_S_readComparison_77 v_P_isTrueIn l_S_161 rfl rfl (m_P_isTrueIn K (d - 1) (by omega) S4 J (S4.2.1 4 i) (isO_ok hO5) (isO_ok hO4)) (by omega) (by decide) (Nat.le_of_ble_eq_true rfl) rfl) rfl ?_
        rw [hk5, isO_val hO5, isO_val hO4, e5]
        refine j_if_eq (tgt := 89) d_S_readComparison_80 rfl (fun h0 => ?_) (fun h0 => ?_)
        · refine j_iincN d_S_readComparison_89 rfl (by decide) ?_
          refine j_goto (tgt := 59) d_S_readComparison_92 rfl ?_
          refine j_loc' [(0, .ref 42), (1, .int v), (2, .int (nI (i + 1)))] ⟨rfl, rfl, rfl, trivial⟩ ?_
          have := ih (i + 1) v (by omega)
          rw [mskL, if_pos h0]
          exact this
        · refine j_iload_n d_S_readComparison_83 rfl ?_
          refine j_iconst (v := 1) d_S_readComparison_84 rfl ?_
          refine j_iload_n d_S_readComparison_85 rfl ?_
          refine j_ishl d_S_readComparison_86 ?_
          refine j_ior d_S_readComparison_87 ?_
          refine j_istore_n d_S_readComparison_88 (by decide) ?_
          refine j_iincN d_S_readComparison_89 rfl (by decide) ?_
          refine j_goto (tgt := 59) d_S_readComparison_92 rfl ?_
          refine j_loc' [(0, .ref 42), (1, .int (v ||| ((1 : Int32) <<< (nI i &&& 31)))), (2, .int (nI (i + 1)))] ⟨rfl, rfl, rfl, trivial⟩ ?_
          have := ih (i + 1) (v ||| ((1 : Int32) <<< (nI i &&& 31))) (by omega)
          rw [mskL, if_neg h0]
          exact this
    refine j_iconst (v := 0) d_S_readComparison_55 rfl ?_
    refine j_istore_n d_S_readComparison_56 (by decide) ?_
    refine j_iconst (v := 0) d_S_readComparison_57 rfl ?_
    refine j_istore_n d_S_readComparison_58 (by decide) ?_
    refine j_loc' [(0, .ref 42), (1, .int 0), (2, .int (nI 0))] ⟨rfl, rfl, rfl, trivial⟩ ?_
    refine j_wide (Nat.le_refl _) (Nat.le_refl _) (fun o g hq => ?_) (loop 32 0 0 rfl)
    exact ⟨S4, hq.2, f5, hR4, hq.1⟩
  · refine j_pst (j_callV d_S_readComparison_22 v_S_readSign l_S_147 rfl rfl (m_S_readSign K (d - 1) (by omega) S1 J n c _ hR1 60 61 62 (by decide) (by decide) ⟨rfl, rfl, rfl⟩) (by omega) (by decide) (Nat.le_of_ble_eq_true rfl) rfl) rfl (fun _ _ _ q => by cases q) (fun x2 r3 v2 S2 hx2 f2 hR2 hv2 => ?_) (fun p S2 hp f2 hp1 => ?_)
    rotate_left
    · rw [pSgn, if_neg hor] at hp; cases hp
    rw [pSgn, if_neg hor] at hx2
    cases hx2
    cases hv2
    refine j_st (st' := [.int 32, .ref 47]) rfl ?_
    refine j_putf d_S_readComparison_25 f_S_151 rfl (Nat.le_of_ble_eq_true rfl) rfl rfl rfl ?_
    refine j_hp (h' := lay (s1 S2 13 32) ++ J) rfl ?_
    have hR3 : Rdr (s1 S2 13 32) n c ((k, s, e) :: r2) := hR2.keep ((frm.rf [13] S2).s1 (by decide) 32) (by decide)
    obtain ⟨a, k0, s0, e0, r0, hr0, ha, h101, hk, hs, he, hse, hen, hnx⟩ := hR3.cur
    cases hr0
    refine j_aload_n d_S_readComparison_28 rfl ?_
    refine j_getf d_S_readComparison_29 f_S_33 rfl rfl ?_
    refine j_getf d_S_readComparison_32 f_S_151 rfl rfl ?_
    refine j_bipush (v := 32) d_S_readComparison_35 (by decide) ?_
    refine j_icmp_neF (tgt := 44) d_S_readComparison_37 rfl rfl ?_
    refine j_aload_n d_S_readComparison_40 rfl ?_
    refine j_retX (j_callV d_S_readComparison_41 v_S_refuse l_S_113 rfl rfl (m_S_refuse K (d - 1) (by omega) (s1 S2 13 32) J a ha h101 s hs) (by omega) (by decide) (Nat.le_of_ble_eq_true rfl) rfl) rfl ?_
    rw [show pCmp (S.2.1 5) (S.2.1 0) c r = .inr s by unfold pCmp; rw [hx]; simp only; rw [if_neg hor]]
    exact ⟨rfl, _, rfl, (((f1.up (by decide)).tr (f2.up (by decide))).s1 (by decide) _).s1 (by decide) _, rfl⟩
