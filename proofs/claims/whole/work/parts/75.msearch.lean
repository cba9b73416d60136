/-! BitLoomModel: search, multi, first, write -/
def rsF (X : Int32) (f : Nat → Int32) (n : Nat) : Nat → Int32 := fun j => if j < n then b2i (bt X j) else f j
theorem rsF_0 (X : Int32) (f : Nat → Int32) : rsF X f 0 = f := by funext j; exact if_neg (by omega)
theorem rsF_s (X : Int32) (f : Nat → Int32) (n : Nat) : upd (rsF X f n) n (b2i (bt X n)) = rsF X f (n + 1) := by
  funext j
  unfold upd rsF
  by_cases h : j = n
  · subst h; rw [if_pos rfl, if_pos (by omega)]
  · rw [if_neg h]
    by_cases h2 : j < n
    · rw [if_pos h2, if_pos (by omega)]
    · rw [if_neg h2, if_neg (by omega)]
theorem s2_self (S : jS) (i : Nat) : s2 S i (S.2.1 i) = S := by
  show ((S.1, va_up S.2.1 i (S.2.1 i), S.2.2) : jS) = S
  rw [va_self]
theorem s1_self (S : jS) (i : Nat) : s1 S i (S.1 i) = S := by
  show ((va_up S.1 i (S.1 i), S.2) : jS) = S
  rw [va_self]
theorem m_M_search (K : jK) (d : Nat) (S : jS) (J : jH) (m p am U R X : Int32) (hU : rsp (S.2.1 10) U) (hR : rsp (S.2.1 12) R) (hX : ∀ w, w < 32 → bt X w = (bt U w && ((decide (am = 0) || bt R w) && decide ((S.2.1 11 w ^^^ p) &&& m = 0)))) : jM K M_M_search d [.ref 59, .int m, .int p, .int am] (lay S ++ J) (rI (nI (cntB (bt X) 32)) (lay (s2 (s1 S 30 0) 12 (rsF X (S.2.1 12) 32)) ++ J)) 0 0 := by
  refine jM.of (by decide) (Nat.le_of_ble_eq_true rfl) ?_
  have loop : ∀ (k i : Nat) (ls : List (Nat × Value)), i + k = 32 → j_lg ls 0 = some (.ref 59) → j_lg ls 1 = some (.int m) → j_lg ls 2 = some (.int p) → j_lg ls 3 = some (.int am) → j_lg ls 4 = some (.int (nI (cntB (bt X) i))) → j_lg ls 5 = some (.int (nI i)) → jE K M_M_search d 11 ls [] (lay (s2 (s1 S 30 0) 12 (rsF X (S.2.1 12) i)) ++ J) (rI (nI (cntB (bt X) 32)) (lay (s2 (s1 S 30 0) 12 (rsF X (S.2.1 12) 32)) ++ J)) 0 0 := by
    intro k
    induction k with
    | zero =>
      intro i ls hi l0 l1 l2 l3 l4 l5
      have hi : i = 32 := by omega
      subst hi
      refine j_loc' [(0, .ref 59), (4, .int (nI (cntB (bt X) 32))), (5, .int (nI 32))] ⟨l0, l4, l5, trivial⟩ ?_
      refine j_iload d_M_search_11 rfl ?_
      refine j_bipush (v := 32) d_M_search_13 (by decide) ?_
      refine j_icmp_geT (tgt := 94) d_M_search_15 rfl (show nI 32 ≤ nI 32 from nI_le (by omega) (by omega)) ?_
      refine j_iload d_M_search_94 rfl ?_
      exact j_iret rfl d_M_search_96 ⟨rfl, rfl⟩
    | succ k ih =>
      intro i ls hi l0 l1 l2 l3 l4 l5
      have hUi : S.2.1 10 i = b2i (bt U i) := hU i (by omega)
      have hRi : rsF X (S.2.1 12) i i = b2i (bt R i) := (if_neg (by omega)).trans (hR i (by omega))
      have hXi := hX i (by omega)
      refine j_loc' [(0, .ref 59), (1, .int m), (2, .int p), (3, .int am), (4, .int (nI (cntB (bt X) i))), (5, .int (nI i))] ⟨l0, l1, l2, l3, l4, l5, trivial⟩ ?_
      refine j_iload d_M_search_11 rfl ?_
      refine j_bipush (v := 32) d_M_search_13 (by decide) ?_
      refine j_icmp_geF (tgt := 94) d_M_search_15 rfl (show ¬ nI 32 ≤ nI i from nI_ge (by omega) (by omega)) ?_
      refine j_aload_n d_M_search_18 rfl ?_
      refine j_getf d_M_search_19 f_M_17 rfl rfl ?_
      refine j_iload d_M_search_22 rfl ?_
      refine j_aload_n d_M_search_24 rfl ?_
      refine j_getf d_M_search_25 f_M_7 rfl rfl ?_
      refine j_iload d_M_search_28 rfl ?_
      refine j_zald d_M_search_30 rfl (show i < 32 by omega) (by decide) ?_
      refine j_top (w := .int (b2i (bt U i))) (congrArg Value.int hUi) ?_
      have wr : ∀ (b : Bool), bt X i = b → jE K M_M_search d 67 [(0, .ref 59), (1, .int m), (2, .int p), (3, .int am), (4, .int (nI (cntB (bt X) i))), (5, .int (nI i))] [.int (b2i b), .int (nI i), .ref 62] (lay (s2 (s1 S 30 0) 12 (rsF X (S.2.1 12) i)) ++ J) (rI (nI (cntB (bt X) 32)) (lay (s2 (s1 S 30 0) 12 (rsF X (S.2.1 12) 32)) ++ J)) 0 0 := by
        intro b hb
        refine j_zast d_M_search_67 rfl (show i < 32 by omega) (by decide) (b2i_nar _) rfl ?_
        refine j_hp (h' := lay (s2 (s1 S 30 0) 12 (upd (rsF X (S.2.1 12) i) i (b2i b))) ++ J) rfl ?_
        rw [← hb, rsF_s]
        refine j_iload d_M_search_68 rfl ?_
        refine j_aload_n d_M_search_70 rfl ?_
        refine j_getf d_M_search_71 f_M_17 rfl rfl ?_
        refine j_iload d_M_search_74 rfl ?_
        refine j_zald d_M_search_76 rfl (show i < 32 by omega) (by decide) ?_
        refine j_top (w := .int (b2i b)) (congrArg Value.int (by rw [← hb]; exact if_pos (by omega))) ?_
        cases b with
        | true =>
          refine j_if_eqF (tgt := 84) d_M_search_77 rfl (by decide) ?_
          refine j_iconst (v := 1) d_M_search_80 rfl ?_
          refine j_goto (tgt := 85) d_M_search_81 rfl ?_
          refine j_iadd d_M_search_85 ?_
          refine j_istore d_M_search_86 (by decide) ?_
          refine j_iincN d_M_search_88 rfl (by decide) ?_
          refine j_goto (tgt := 11) d_M_search_91 rfl ?_
          refine ih (i + 1) _ (by omega) rfl rfl rfl rfl ?_ rfl
          show some (Value.int (nI (cntB (bt X) i) + 1)) = some (Value.int (nI (cntB (bt X) i + (if bt X i = true then 1 else 0))))
          rw [hb, if_pos rfl, nI_succ]
        | false =>
          refine j_if_eqT (tgt := 84) d_M_search_77 rfl rfl ?_
          refine j_iconst (v := 0) d_M_search_84 rfl ?_
          refine j_iadd d_M_search_85 ?_
          refine j_istore d_M_search_86 (by decide) ?_
          refine j_iincN d_M_search_88 rfl (by decide) ?_
          refine j_goto (tgt := 11) d_M_search_91 rfl ?_
          refine ih (i + 1) _ (by omega) rfl rfl rfl rfl ?_ rfl
          show some (Value.int (nI (cntB (bt X) i) + 0)) = some (Value.int (nI (cntB (bt X) i + (if bt X i = true then 1 else 0))))
          rw [hb, if_neg (by decide), Int32.add_zero, Nat.add_zero]
      have no : bt X i = false → jE K M_M_search d 66 [(0, .ref 59), (1, .int m), (2, .int p), (3, .int am), (4, .int (nI (cntB (bt X) i))), (5, .int (nI i))] [.int (nI i), .ref 62] (lay (s2 (s1 S 30 0) 12 (rsF X (S.2.1 12) i)) ++ J) (rI (nI (cntB (bt X) 32)) (lay (s2 (s1 S 30 0) 12 (rsF X (S.2.1 12) 32)) ++ J)) 0 0 := by
        intro hb
        refine j_iconst (v := 0) d_M_search_66 rfl ?_
        exact wr false hb
      have bits : bt X i = decide ((S.2.1 11 i ^^^ p) &&& m = 0) → jE K M_M_search d 48 [(0, .ref 59), (1, .int m), (2, .int p), (3, .int am), (4, .int (nI (cntB (bt X) i))), (5, .int (nI i))] [.int (nI i), .ref 62] (lay (s2 (s1 S 30 0) 12 (rsF X (S.2.1 12) i)) ++ J) (rI (nI (cntB (bt X) 32)) (lay (s2 (s1 S 30 0) 12 (rsF X (S.2.1 12) 32)) ++ J)) 0 0 := by
        intro hb
        refine j_aload_n d_M_search_48 rfl ?_
        refine j_getf d_M_search_49 f_M_13 rfl rfl ?_
        refine j_iload d_M_search_52 rfl ?_
        refine j_iald d_M_search_54 rfl (show i < 32 by omega) (by decide) ?_
        refine j_iload_n d_M_search_55 rfl ?_
        refine j_ixor d_M_search_56 ?_
        refine j_iload_n d_M_search_57 rfl ?_
        refine j_iand d_M_search_58 ?_
        by_cases hm : (S.2.1 11 i ^^^ p) &&& m = 0
        · refine j_if_neF (tgt := 66) d_M_search_59 rfl hm ?_
          refine j_iconst (v := 1) d_M_search_62 rfl ?_
          refine j_goto (tgt := 67) d_M_search_63 rfl ?_
          exact wr true (by rw [hb, decide_eq_true hm])
        · refine j_if_neT (tgt := 66) d_M_search_59 rfl hm ?_
          exact no (by rw [hb, decide_eq_false hm])
      cases hu : bt U i with
      | false =>
        refine j_if_eqT (tgt := 66) d_M_search_31 rfl rfl ?_
        exact no (by rw [hXi, hu]; rfl)
      | true =>
        rw [hu, Bool.true_and] at hXi
        refine j_if_eqF (tgt := 66) d_M_search_31 rfl (by decide) ?_
        refine j_iload_n d_M_search_34 rfl ?_
        by_cases ha : am = 0
        · rw [decide_eq_true ha, Bool.true_or, Bool.true_and] at hXi
          refine j_if_eqT (tgt := 48) d_M_search_35 rfl ha ?_
          exact bits hXi
        · rw [decide_eq_false ha, Bool.false_or] at hXi
          refine j_if_eqF (tgt := 48) d_M_search_35 rfl ha ?_
          refine j_aload_n d_M_search_38 rfl ?_
          refine j_getf d_M_search_39 f_M_17 rfl rfl ?_
          refine j_iload d_M_search_42 rfl ?_
          refine j_zald d_M_search_44 rfl (show i < 32 by omega) (by decide) ?_
          refine j_top (w := .int (b2i (bt R i))) (congrArg Value.int hRi) ?_
          cases hr : bt R i with
          | false =>
            refine j_if_eqT (tgt := 66) d_M_search_45 rfl rfl ?_
            exact no (by rw [hXi, hr]; rfl)
          | true =>
            refine j_if_eqF (tgt := 66) d_M_search_45 rfl (by decide) ?_
            rw [hr, Bool.true_and] at hXi
            exact bits hXi
  refine j_aload_n d_M_search_0 rfl ?_
  refine j_iconst (v := 0) d_M_search_1 rfl ?_
  refine j_putf d_M_search_2 f_M_73 rfl (Nat.le_of_ble_eq_true rfl) rfl rfl rfl ?_
  refine j_hp (h' := lay (s2 (s1 S 30 0) 12 (rsF X (S.2.1 12) 0)) ++ J) (by rw [rsF_0]; exact congrArg (fun z => lay z ++ J) (s2_self (s1 S 30 0) 12).symm) ?_
  refine j_iconst (v := 0) d_M_search_5 rfl ?_
  refine j_istore d_M_search_6 (by decide) ?_
  refine j_iconst (v := 0) d_M_search_8 rfl ?_
  refine j_istore d_M_search_9 (by decide) ?_
  exact loop 32 0 _ rfl rfl rfl rfl rfl rfl rfl
theorem m_M_multi_x (K : jK) (d : Nat) (S : jS) (J : jH) (m p : Int32) (hm : ¬ m &&& 16777215 = 0) : jM K M_M_multi d [.ref 59, .int m, .int p] (lay S ++ J) (rV (lay (s1 S 30 1) ++ J)) 0 0 := by
  refine jM.of (by decide) (Nat.le_of_ble_eq_true rfl) ?_
  refine j_aload_n d_M_multi_0 rfl ?_
  refine j_iload_n d_M_multi_1 rfl ?_
  refine j_ldc d_M_multi_2 c_M_99 ?_
  refine j_iand d_M_multi_4 ?_
  refine j_if_eqF (tgt := 12) d_M_multi_5 rfl hm ?_
  refine j_iconst (v := 1) d_M_multi_8 rfl ?_
  refine j_goto (tgt := 13) d_M_multi_9 rfl ?_
  refine j_putf d_M_multi_13 f_M_73 rfl (Nat.le_of_ble_eq_true rfl) rfl rfl rfl ?_
  refine j_hp (h' := lay (s1 S 30 1) ++ J) rfl ?_
  refine j_iconst (v := 0) d_M_multi_16 rfl ?_
  refine j_istore_n d_M_multi_17 (by decide) ?_
  refine j_iload_n d_M_multi_18 rfl ?_
  refine j_bipush (v := 32) d_M_multi_19 (by decide) ?_
  refine j_icmp_geF (tgt := 75) d_M_multi_21 rfl (show ¬ nI 32 ≤ nI 0 from nI_ge (by omega) (by omega)) ?_
  refine j_aload_n d_M_multi_24 rfl ?_
  refine j_getf d_M_multi_25 f_M_73 rfl rfl ?_
  refine j_if_neT (tgt := 75) d_M_multi_28 rfl (show ¬ (1 : Int32) = 0 by decide) ?_
  exact j_vret rfl d_M_multi_75 ⟨rfl, rfl⟩
theorem upd_self (f : Nat → Int32) (i : Nat) : upd f i (f i) = f := by
  funext j
  unfold upd
  split
  · rename_i e
    rw [e]
  · rfl
theorem m_M_multi (K : jK) (d : Nat) (S : jS) (J : jH) (m p R : Int32) (hR : rsp (S.2.1 12) R) (hm : m &&& 16777215 = 0) : jM K M_M_multi d [.ref 59, .int m, .int p] (lay S ++ J) (rV (lay (s2 (s1 S 30 0) 11 (ovF (S.2.1 11) R m p 32)) ++ J)) 0 0 := by
  refine jM.of (by decide) (Nat.le_of_ble_eq_true rfl) ?_
  have loop : ∀ (k i : Nat) (ls : List (Nat × Value)), i + k = 32 → j_lg ls 0 = some (.ref 59) → j_lg ls 1 = some (.int m) → j_lg ls 2 = some (.int p) → j_lg ls 3 = some (.int (nI i)) → jE K M_M_multi d 18 ls [] (lay (s2 (s1 S 30 0) 11 (ovF (S.2.1 11) R m p i)) ++ J) (rV (lay (s2 (s1 S 30 0) 11 (ovF (S.2.1 11) R m p 32)) ++ J)) 0 0 := by
    intro k
    induction k with
    | zero =>
      intro i ls hi l0 l1 l2 l3
      have hi : i = 32 := by omega
      subst hi
      refine j_loc' [(0, .ref 59), (3, .int (nI 32))] ⟨l0, l3, trivial⟩ ?_
      refine j_iload_n d_M_multi_18 rfl ?_
      refine j_bipush (v := 32) d_M_multi_19 (by decide) ?_
      refine j_icmp_geT (tgt := 75) d_M_multi_21 rfl (show nI 32 ≤ nI 32 from nI_le (by omega) (by omega)) ?_
      exact j_vret rfl d_M_multi_75 ⟨rfl, rfl⟩
    | succ k ih =>
      intro i ls hi l0 l1 l2 l3
      have hRi : S.2.1 12 i = b2i (bt R i) := hR i (by omega)
      have hii : ovF (S.2.1 11) R m p i i = S.2.1 11 i := if_neg (by omega)
      refine j_loc' [(0, .ref 59), (1, .int m), (2, .int p), (3, .int (nI i))] ⟨l0, l1, l2, l3, trivial⟩ ?_
      refine j_iload_n d_M_multi_18 rfl ?_
      refine j_bipush (v := 32) d_M_multi_19 (by decide) ?_
      refine j_icmp_geF (tgt := 75) d_M_multi_21 rfl (show ¬ nI 32 ≤ nI i from nI_ge (by omega) (by omega)) ?_
      refine j_aload_n d_M_multi_24 rfl ?_
      refine j_getf d_M_multi_25 f_M_73 rfl rfl ?_
      refine j_if_neF (tgt := 75) d_M_multi_28 rfl rfl ?_
      refine j_aload_n d_M_multi_31 rfl ?_
      refine j_getf d_M_multi_32 f_M_13 rfl rfl ?_
      refine j_iload_n d_M_multi_35 rfl ?_
      refine j_aload_n d_M_multi_36 rfl ?_
      refine j_getf d_M_multi_37 f_M_17 rfl rfl ?_
      refine j_iload_n d_M_multi_40 rfl ?_
      refine j_zald d_M_multi_41 rfl (show i < 32 by omega) (by decide) ?_
      refine j_top (w := .int (b2i (bt R i))) (congrArg Value.int hRi) ?_
      have hs := ovF_s (S.2.1 11) R m p i
      cases hb : bt R i with
      | true =>
        rw [hb, if_pos rfl] at hs
        refine j_if_eqF (tgt := 62) d_M_multi_42 rfl (by decide) ?_
        refine j_aload_n d_M_multi_45 rfl ?_
        refine j_getf d_M_multi_46 f_M_13 rfl rfl ?_
        refine j_iload_n d_M_multi_49 rfl ?_
        refine j_iald d_M_multi_50 rfl (show i < 32 by omega) (by decide) ?_
        refine j_top (w := .int (S.2.1 11 i)) (congrArg Value.int hii) ?_
        refine j_iload_n d_M_multi_51 rfl ?_
        refine j_iconst (v := -1) d_M_multi_52 rfl ?_
        refine j_ixor d_M_multi_53 ?_
        refine j_iand d_M_multi_54 ?_
        refine j_iload_n d_M_multi_55 rfl ?_
        refine j_iload_n d_M_multi_56 rfl ?_
        refine j_iand d_M_multi_57 ?_
        refine j_ior d_M_multi_58 ?_
        refine j_goto (tgt := 68) d_M_multi_59 rfl ?_
        refine j_iast d_M_multi_68 rfl (show i < 32 by omega) (by decide) rfl ?_
        refine j_hp (h' := lay (s2 (s1 S 30 0) 11 (upd (ovF (S.2.1 11) R m p i) i ((S.2.1 11 i &&& (m ^^^ (-1))) ||| (p &&& m)))) ++ J) rfl ?_
        rw [← hs]
        refine j_iincN d_M_multi_69 rfl (by decide) ?_
        refine j_goto (tgt := 18) d_M_multi_72 rfl ?_
        exact ih (i + 1) _ (by omega) rfl rfl rfl rfl
      | false =>
        rw [hb, if_neg (by decide)] at hs
        refine j_if_eqT (tgt := 62) d_M_multi_42 rfl rfl ?_
        refine j_aload_n d_M_multi_62 rfl ?_
        refine j_getf d_M_multi_63 f_M_13 rfl rfl ?_
        refine j_iload_n d_M_multi_66 rfl ?_
        refine j_iald d_M_multi_67 rfl (show i < 32 by omega) (by decide) ?_
        refine j_iast d_M_multi_68 rfl (show i < 32 by omega) (by decide) rfl ?_
        refine j_hp (h' := lay (s2 (s1 S 30 0) 11 (upd (ovF (S.2.1 11) R m p i) i (ovF (S.2.1 11) R m p i i))) ++ J) rfl ?_
        rw [upd_self, ← hs]
        refine j_iincN d_M_multi_69 rfl (by decide) ?_
        refine j_goto (tgt := 18) d_M_multi_72 rfl ?_
        exact ih (i + 1) _ (by omega) rfl rfl rfl rfl
  refine j_aload_n d_M_multi_0 rfl ?_
  refine j_iload_n d_M_multi_1 rfl ?_
  refine j_ldc d_M_multi_2 c_M_99 ?_
  refine j_iand d_M_multi_4 ?_
  refine j_if_eqT (tgt := 12) d_M_multi_5 rfl hm ?_
  refine j_iconst (v := 0) d_M_multi_12 rfl ?_
  refine j_putf d_M_multi_13 f_M_73 rfl (Nat.le_of_ble_eq_true rfl) rfl rfl rfl ?_
  refine j_hp (h' := lay (s2 (s1 S 30 0) 11 (ovF (S.2.1 11) R m p 0)) ++ J) (by rw [ovF_0]; exact congrArg (fun z => lay z ++ J) (s2_self (s1 S 30 0) 11).symm) ?_
  refine j_iconst (v := 0) d_M_multi_16 rfl ?_
  refine j_istore_n d_M_multi_17 (by decide) ?_
  exact loop 32 0 _ rfl rfl rfl rfl rfl
def fiS (S : jS) (R : Int32) : jS := if lowF R 32 0 = -1 then s1 S 30 0 else s2 (s1 S 30 0) 12 (upd (S.2.1 12) (lowF R 32 0).toNatClampNeg 0)
theorem m_M_first (K : jK) (d : Nat) (S : jS) (J : jH) (R : Int32) (hR : rsp (S.2.1 12) R) : jM K M_M_first d [.ref 59] (lay S ++ J) (rI (lowF R 32 0) (lay (fiS S R) ++ J)) 0 0 := by
  refine jM.of (by decide) (Nat.le_of_ble_eq_true rfl) ?_
  have loop : ∀ (k i : Nat) (ls : List (Nat × Value)), i + k = 32 → j_lg ls 0 = some (.ref 59) → j_lg ls 1 = some (.int (nI i)) → lowF R 32 0 = lowF R k i → jE K M_M_first d 7 ls [] (lay (s1 S 30 0) ++ J) (rI (lowF R 32 0) (lay (fiS S R) ++ J)) 0 0 := by
    intro k
    induction k with
    | zero =>
      intro i ls hi l0 l1 he
      have he : lowF R 32 0 = -1 := he
      refine j_loc' [(0, .ref 59), (1, .int (nI i))] ⟨l0, l1, trivial⟩ ?_
      refine j_iload_n d_M_first_7 rfl ?_
      refine j_bipush (v := 32) d_M_first_8 (by decide) ?_
      refine j_icmp_geT (tgt := 37) d_M_first_10 rfl (show nI 32 ≤ nI i from nI_le (by omega) (by omega)) ?_
      refine j_iconst (v := -1) d_M_first_37 rfl ?_
      exact j_iret rfl d_M_first_38 ⟨by rw [he], by rw [fiS, if_pos he]⟩
    | succ k ih =>
      intro i ls hi l0 l1 he
      have hRi : S.2.1 12 i = b2i (bt R i) := hR i (by omega)
      refine j_loc' [(0, .ref 59), (1, .int (nI i))] ⟨l0, l1, trivial⟩ ?_
      have he : lowF R 32 0 = if bt R i = true then nI i else lowF R k (i + 1) := he
      refine j_iload_n d_M_first_7 rfl ?_
      refine j_bipush (v := 32) d_M_first_8 (by decide) ?_
      refine j_icmp_geF (tgt := 37) d_M_first_10 rfl (show ¬ nI 32 ≤ nI i from nI_ge (by omega) (by omega)) ?_
      refine j_aload_n d_M_first_13 rfl ?_
      refine j_getf d_M_first_14 f_M_17 rfl rfl ?_
      refine j_iload_n d_M_first_17 rfl ?_
      refine j_zald d_M_first_18 rfl (show i < 32 by omega) (by decide) ?_
      refine j_top (w := .int (b2i (bt R i))) (congrArg Value.int hRi) ?_
      cases hb : bt R i with
      | true =>
        rw [hb, if_pos rfl] at he
        refine j_if_eqF (tgt := 31) d_M_first_19 rfl (by decide) ?_
        refine j_aload_n d_M_first_22 rfl ?_
        refine j_getf d_M_first_23 f_M_17 rfl rfl ?_
        refine j_iload_n d_M_first_26 rfl ?_
        refine j_iconst (v := 0) d_M_first_27 rfl ?_
        refine j_zast d_M_first_28 rfl (show i < 32 by omega) (by decide) rfl rfl ?_
        refine j_iload_n d_M_first_29 rfl ?_
        refine j_iret rfl d_M_first_30 ⟨by rw [he], ?_⟩
        rw [fiS, he, if_neg (nI_ne1 (by omega)), nI_clamp (by omega)]
        rfl
      | false =>
        rw [hb, if_neg (by decide)] at he
        refine j_if_eqT (tgt := 31) d_M_first_19 rfl rfl ?_
        refine j_iincN d_M_first_31 rfl (by decide) ?_
        refine j_goto (tgt := 7) d_M_first_34 rfl ?_
        exact ih (i + 1) _ (by omega) rfl rfl he
  refine j_aload_n d_M_first_0 rfl ?_
  refine j_iconst (v := 0) d_M_first_1 rfl ?_
  refine j_putf d_M_first_2 f_M_73 rfl (Nat.le_of_ble_eq_true rfl) rfl rfl rfl ?_
  refine j_hp (h' := lay (s1 S 30 0) ++ J) rfl ?_
  refine j_iconst (v := 0) d_M_first_5 rfl ?_
  refine j_istore_n d_M_first_6 (by decide) ?_
  exact loop 32 0 _ rfl rfl rfl rfl
theorem ctk_ge (x : Int64) : ∀ (k i m r : Nat), ctk x k i m = some r → m ≤ r
  | 0, i, m, r, h => by cases h; exact Nat.le_refl _
  | k + 1, i, m, r, h => by
    unfold ctk at h
    split at h
    · exact ctk_ge x k (i + 1) m r h
    · split at h
      · cases h
      · split at h
        · have := ctk_ge x k (i + 1) (m + 1) r h; omega
        · cases h
def wrS (S : jS) (x : Int64) (n : Nat) : jS := if canT x n = 0 then s1 S 30 0 else s1 (s2 (s1 S 30 0) 17 (apT x 8 0 (n, S.2.1 17)).2) 32 (nI (apT x 8 0 (n, S.2.1 17)).1)
theorem m_M_write (K : jK) (d : Nat) (S : jS) (J : jH) (x : Int64) (n : Nat) (hn : S.1 32 = nI n) (h100 : n ≤ 100) : jM K M_M_write d [.ref 59, .long x] (lay S ++ J) (rI (canT x n) (lay (wrS S x n) ++ J)) 0 0 := by
  refine jM.of (by decide) (Nat.le_of_ble_eq_true rfl) ?_
  have loop2 : ∀ (k i m r : Nat) (q : Nat × (Nat → Int32)) (ls : List (Nat × Value)), i + k = 8 → j_lg ls 0 = some (.ref 59) → j_lg ls 1 = some (.long x) → j_lg ls 4 = some (.int (nI i)) → ctk x k i m = some r → q.1 = n + m → n + r ≤ 100 → apT x 8 0 (n, S.2.1 17) = apT x k i q → canT x n = 1 → jE K M_M_write d 87 ls [] (lay (s1 (s2 (s1 S 30 0) 17 q.2) 32 (nI q.1)) ++ J) (rI (canT x n) (lay (wrS S x n) ++ J)) 0 0 := by
    intro k
    induction k with
    | zero =>
      intro i m r q ls hi l0 l1 l4 hr hq hnr he hcan
      refine j_loc' [(0, .ref 59), (4, .int (nI i))] ⟨l0, l4, trivial⟩ ?_
      refine j_iload d_M_write_87 rfl ?_
      refine j_bipush (v := 8) d_M_write_89 (by decide) ?_
      refine j_icmp_geT (tgt := 141) d_M_write_91 rfl (show nI 8 ≤ nI i from nI_le (by omega) (by omega)) ?_
      refine j_iconst (v := 1) d_M_write_141 rfl ?_
      refine j_zret rfl rfl d_M_write_142 ⟨by rw [hcan], ?_⟩
      rw [wrS, hcan, if_neg (by decide), he]
      rfl
    | succ k ih =>
      intro i m r q ls hi l0 l1 l4 hr hq hnr he hcan
      refine j_loc' [(0, .ref 59), (1, .long x), (4, .int (nI i))] ⟨l0, l1, l4, trivial⟩ ?_
      refine j_iload d_M_write_87 rfl ?_
      refine j_bipush (v := 8) d_M_write_89 (by decide) ?_
      refine j_icmp_geF (tgt := 141) d_M_write_91 rfl (show ¬ nI 8 ≤ nI i from nI_ge (by omega) (by omega)) ?_
      refine j_lload_n d_M_write_94 rfl ?_
      refine j_bipush (v := 8) d_M_write_95 (by decide) ?_
      refine j_iload d_M_write_97 rfl ?_
      refine j_imul d_M_write_99 ?_
      refine j_lshr d_M_write_100 ?_
      refine j_ldc2 d_M_write_101 c_M_100 ?_
      refine j_land d_M_write_104 ?_
      refine j_l2i d_M_write_105 ?_
      refine j_top (w := .int (cd x i)) (congrArg Value.int (cd_eq x i (by omega))) ?_
      refine j_istore d_M_write_106 (by decide) ?_
      refine j_iload d_M_write_108 rfl ?_
      unfold ctk at hr
      by_cases hc : cd x i = 0
      · rw [if_pos hc] at hr
        refine j_if_eqT (tgt := 135) d_M_write_110 rfl hc ?_
        refine j_iincN d_M_write_135 rfl (by decide) ?_
        refine j_goto (tgt := 87) d_M_write_138 rfl ?_
        exact ih (i + 1) m r q _ (by omega) rfl rfl rfl hr hq hnr (by rw [he, apT, if_pos hc]) hcan
      · rw [if_neg hc] at hr
        refine j_if_eqF (tgt := 135) d_M_write_110 rfl hc ?_
        split at hr
        · cases hr
        · split at hr
          rotate_left
          · cases hr
          have hge := ctk_ge x k (i + 1) (m + 1) r hr
          refine j_aload_n d_M_write_113 rfl ?_
          refine j_getf d_M_write_114 f_M_33 rfl rfl ?_
          refine j_aload_n d_M_write_117 rfl ?_
          refine j_getf d_M_write_118 f_M_102 rfl rfl ?_
          refine j_top (w := .int (nI q.1)) rfl ?_
          refine j_iload d_M_write_121 rfl ?_
          refine j_i2c d_M_write_123 ?_
          obtain ⟨c, hc256, hce⟩ := cd_nI x i
          refine j_top (w := .int (cd x i)) (by rw [hce, nI_i2c (by omega)]) ?_
          refine j_cast d_M_write_124 rfl (show q.1 < 100 by omega) (by decide) (by rw [hce]; exact (pk_charN (by omega)).1) rfl ?_
          refine j_aload_n d_M_write_125 rfl ?_
          refine j_dup d_M_write_126 rfl ?_
          refine j_getf d_M_write_127 f_M_102 rfl rfl ?_
          refine j_top (w := .int (nI q.1)) rfl ?_
          refine j_iconst (v := 1) d_M_write_130 rfl ?_
          refine j_iadd d_M_write_131 ?_
          refine j_top (w := .int (nI (q.1 + 1))) (by rw [nI_succ]) ?_
          refine j_putf d_M_write_132 f_M_102 rfl (Nat.le_of_ble_eq_true rfl) rfl rfl rfl ?_
          refine j_hp (h' := lay (s1 (s2 (s1 S 30 0) 17 (q.1 + 1, upd q.2 q.1 (cd x i)).2) 32 (nI (q.1 + 1, upd q.2 q.1 (cd x i)).1)) ++ J) rfl ?_
          refine j_iincN d_M_write_135 rfl (by decide) ?_
          refine j_goto (tgt := 87) d_M_write_138 rfl ?_
          exact ih (i + 1) (m + 1) r (q.1 + 1, upd q.2 q.1 (cd x i)) _ (by omega) rfl rfl rfl hr (by show q.1 + 1 = n + (m + 1); omega) hnr (by rw [he, apT, if_neg hc, if_neg (by omega)]) hcan
  have loop1 : ∀ (k i m : Nat) (ls : List (Nat × Value)), i + k = 8 → m ≤ i → j_lg ls 0 = some (.ref 59) → j_lg ls 1 = some (.long x) → j_lg ls 3 = some (.int (nI m)) → j_lg ls 4 = some (.int (nI i)) → ctk x 8 0 0 = ctk x k i m → jE K M_M_write d 10 ls [] (lay (s1 S 30 0) ++ J) (rI (canT x n) (lay (wrS S x n) ++ J)) 0 0 := by
    intro k
    induction k with
    | zero =>
      intro i m ls hi hm l0 l1 l3 l4 he
      have he : ctk x 8 0 0 = some m := he
      refine j_loc' [(0, .ref 59), (1, .long x), (3, .int (nI m)), (4, .int (nI i))] ⟨l0, l1, l3, l4, trivial⟩ ?_
      refine j_iload d_M_write_10 rfl ?_
      refine j_bipush (v := 8) d_M_write_12 (by decide) ?_
      refine j_icmp_geT (tgt := 71) d_M_write_14 rfl (show nI 8 ≤ nI i from nI_le (by omega) (by omega)) ?_
      refine j_aload_n d_M_write_71 rfl ?_
      refine j_getf d_M_write_72 f_M_102 rfl rfl ?_
      refine j_top (w := .int (nI n)) (congrArg Value.int hn) ?_
      refine j_iload_n d_M_write_75 rfl ?_
      refine j_iadd d_M_write_76 ?_
      refine j_top (w := .int (nI (n + m))) (congrArg Value.int (nI_add n m)) ?_
      refine j_bipush (v := 100) d_M_write_77 (by decide) ?_
      by_cases hl : n + m ≤ 100
      · have hcan : canT x n = 1 := by rw [canT, he]; simp [hl]
        refine j_icmp_leT (tgt := 84) d_M_write_79 rfl (show nI (n + m) ≤ nI 100 from nI_le hl (by omega)) ?_
        refine j_iconst (v := 0) d_M_write_84 rfl ?_
        refine j_istore d_M_write_85 (by decide) ?_
        refine j_hp (h' := lay (s1 (s2 (s1 S 30 0) 17 (n, S.2.1 17).2) 32 (nI (n, S.2.1 17).1)) ++ J) ?_ ?_
        · show _ = lay (s1 (s2 (s1 S 30 0) 17 (S.2.1 17)) 32 (nI n)) ++ J
          rw [← hn]
          exact congrArg (fun z => lay z ++ J) ((congrArg (fun z => s1 z 32 (S.1 32)) (s2_self (s1 S 30 0) 17)).trans (s1_self (s1 S 30 0) 32)).symm
        · exact loop2 8 0 0 m (n, S.2.1 17) _ rfl rfl rfl rfl he rfl hl rfl hcan
      · have hcan : canT x n = 0 := by rw [canT, he]; simp [hl]
        refine j_icmp_leF (tgt := 84) d_M_write_79 rfl (show ¬ nI (n + m) ≤ nI 100 from nI_ge (by omega) (by omega)) ?_
        refine j_iconst (v := 0) d_M_write_82 rfl ?_
        exact j_zret rfl rfl d_M_write_83 ⟨by rw [hcan], by rw [wrS, if_pos hcan]⟩
    | succ k ih =>
      intro i m ls hi hm l0 l1 l3 l4 he
      refine j_loc' [(0, .ref 59), (1, .long x), (3, .int (nI m)), (4, .int (nI i))] ⟨l0, l1, l3, l4, trivial⟩ ?_
      refine j_iload d_M_write_10 rfl ?_
      refine j_bipush (v := 8) d_M_write_12 (by decide) ?_
      refine j_icmp_geF (tgt := 71) d_M_write_14 rfl (show ¬ nI 8 ≤ nI i from nI_ge (by omega) (by omega)) ?_
      refine j_lload_n d_M_write_17 rfl ?_
      refine j_bipush (v := 8) d_M_write_18 (by decide) ?_
      refine j_iload d_M_write_20 rfl ?_
      refine j_imul d_M_write_22 ?_
      refine j_lshr d_M_write_23 ?_
      refine j_ldc2 d_M_write_24 c_M_100 ?_
      refine j_land d_M_write_27 ?_
      refine j_l2i d_M_write_28 ?_
      refine j_top (w := .int (cd x i)) (congrArg Value.int (cd_eq x i (by omega))) ?_
      refine j_istore d_M_write_29 (by decide) ?_
      refine j_iload d_M_write_31 rfl ?_
      have bad : ctk x 8 0 0 = none → jE K M_M_write d 50 [(5, .int (cd x i)), (0, .ref 59), (1, .long x), (3, .int (nI m)), (4, .int (nI i))] [] (lay (s1 S 30 0) ++ J) (rI (canT x n) (lay (wrS S x n) ++ J)) 0 0 := by
        intro hno
        have hcan : canT x n = 0 := by rw [canT, hno]
        refine j_iconst (v := 0) d_M_write_50 rfl ?_
        exact j_zret rfl rfl d_M_write_51 ⟨by rw [hcan], by rw [wrS, if_pos hcan]⟩
      by_cases hc : cd x i = 0
      · refine j_if_eqT (tgt := 52) d_M_write_33 rfl hc ?_
        refine j_iload_n d_M_write_52 rfl ?_
        refine j_iload d_M_write_53 rfl ?_
        refine j_if_neF (tgt := 62) d_M_write_55 rfl hc ?_
        refine j_iconst (v := 0) d_M_write_58 rfl ?_
        refine j_goto (tgt := 63) d_M_write_59 rfl ?_
        refine j_iadd d_M_write_63 ?_
        refine j_istore_n d_M_write_64 (by decide) ?_
        refine j_iincN d_M_write_65 rfl (by decide) ?_
        refine j_goto (tgt := 10) d_M_write_68 rfl ?_
        exact ih (i + 1) m _ (by omega) (by omega) rfl rfl (by show some (Value.int (nI m + 0)) = _; rw [Int32.add_zero]) rfl (by rw [he, ctk, if_pos hc])
      · refine j_if_eqF (tgt := 52) d_M_write_33 rfl hc ?_
        refine j_iload d_M_write_36 rfl ?_
        refine j_bipush (v := 32) d_M_write_38 (by decide) ?_
        by_cases h2 : cd x i < 32
        · refine j_icmp_ltT (tgt := 50) d_M_write_40 rfl h2 ?_
          refine j_loc' [(5, .int (cd x i)), (0, .ref 59), (1, .long x), (3, .int (nI m)), (4, .int (nI i))] ⟨rfl, rfl, rfl, rfl, rfl, trivial⟩ ?_
          exact bad (by rw [he, ctk, if_neg hc, if_pos h2])
        · refine j_icmp_ltF (tgt := 50) d_M_write_40 rfl h2 ?_
          refine j_iload d_M_write_43 rfl ?_
          refine j_bipush (v := 126) d_M_write_45 (by decide) ?_
          by_cases h3 : cd x i ≤ 126
          · refine j_icmp_leT (tgt := 52) d_M_write_47 rfl h3 ?_
            refine j_iload_n d_M_write_52 rfl ?_
            refine j_iload d_M_write_53 rfl ?_
            refine j_if_neT (tgt := 62) d_M_write_55 rfl hc ?_
            refine j_iconst (v := 1) d_M_write_62 rfl ?_
            refine j_iadd d_M_write_63 ?_
            refine j_istore_n d_M_write_64 (by decide) ?_
            refine j_iincN d_M_write_65 rfl (by decide) ?_
            refine j_goto (tgt := 10) d_M_write_68 rfl ?_
            exact ih (i + 1) (m + 1) _ (by omega) (by omega) rfl rfl (by show some (Value.int (nI m + 1)) = _; rw [nI_succ]) rfl (by rw [he, ctk, if_neg hc, if_neg h2, if_pos h3])
          · refine j_icmp_leF (tgt := 52) d_M_write_47 rfl h3 ?_
            refine j_loc' [(5, .int (cd x i)), (0, .ref 59), (1, .long x), (3, .int (nI m)), (4, .int (nI i))] ⟨rfl, rfl, rfl, rfl, rfl, trivial⟩ ?_
            exact bad (by rw [he, ctk, if_neg hc, if_neg h2, if_neg h3])
  refine j_aload_n d_M_write_0 rfl ?_
  refine j_iconst (v := 0) d_M_write_1 rfl ?_
  refine j_putf d_M_write_2 f_M_73 rfl (Nat.le_of_ble_eq_true rfl) rfl rfl rfl ?_
  refine j_hp (h' := lay (s1 S 30 0) ++ J) rfl ?_
  refine j_iconst (v := 0) d_M_write_5 rfl ?_
  refine j_istore_n d_M_write_6 (by decide) ?_
  refine j_iconst (v := 0) d_M_write_7 rfl ?_
  refine j_istore d_M_write_8 (by decide) ?_
  exact loop1 8 0 0 _ rfl (Nat.le_refl _) rfl rfl rfl rfl rfl
