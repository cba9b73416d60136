/-! BitLoomModel: listAll, gather -/
abbrev mwl (A : Nat → Nat → Int32) (f : Nat) (x : Int32) : Int32 := mvl A f x.toNatClampNeg
theorem m_M_listAll (K : jK) (d : Nat) (hd : 1 ≤ d) (S : jS) (J : jH) (x : Int32) (hx : rsp (S.2.1 12) x) {lo wd : Nat → Nat} {c : Nat} (hfo : fOk S.2.1 lo wd c) (f : Nat) (hf : f < c) (h45 : S.1 45 = nI f) : jM K M_M_listAll d [.ref 59] (lay S ++ J) (rI (nI (lstL (mwl S.2.1 f) x 32 0 0 (S.2.1 18)).2) (lay (s1 (s2 S 18 (lstL (mwl S.2.1 f) x 32 0 0 (S.2.1 18)).1) 35 (nI (lstL (mwl S.2.1 f) x 32 0 0 (S.2.1 18)).2)) ++ J)) 0 0 := by
  refine jM.of (by decide) (Nat.le_of_ble_eq_true rfl) ?_
  have loop : ∀ k i m (g : Nat → Int32) (ls : List (Nat × Value)), i + k = 32 → m ≤ i → lsOk g m → j_lg ls 0 = some (.ref 59) → j_lg ls 1 = some (.int (nI i)) → jE K M_M_listAll d 7 ls [] (lay (s1 (s2 S 18 g) 35 (nI m)) ++ J) (rI (nI (lstL (mwl S.2.1 f) x k i m g).2) (lay (s1 (s2 S 18 (lstL (mwl S.2.1 f) x k i m g).1) 35 (nI (lstL (mwl S.2.1 f) x k i m g).2)) ++ J)) 0 0 := by
    intro k
    induction k with
    | zero =>
      intro i m g ls hi hm hg l0 l1
      refine j_loc' [(0, .ref 59), (1, .int (nI i))] ⟨l0, l1, trivial⟩ ?_
      refine j_iload_n d_M_listAll_7 rfl ?_
      refine j_bipush (v := 32) d_M_listAll_8 (by decide) ?_
      refine j_icmp_geT (tgt := 102) d_M_listAll_10 rfl (show nI 32 ≤ nI i from nI_le (by omega) (by omega)) ?_
      refine j_aload_n d_M_listAll_102 rfl ?_
      refine j_getf d_M_listAll_103 f_M_260 rfl rfl ?_
      exact j_iret rfl d_M_listAll_106 ⟨rfl, rfl⟩
    | succ k ih =>
      intro i m g ls hi hm hg l0 l1
      have hxi : S.2.1 12 i = b2i (bt x i) := hx i (by omega)
      refine j_loc' [(0, .ref 59), (1, .int (nI i))] ⟨l0, l1, trivial⟩ ?_
      refine j_iload_n d_M_listAll_7 rfl ?_
      refine j_bipush (v := 32) d_M_listAll_8 (by decide) ?_
      refine j_icmp_geF (tgt := 102) d_M_listAll_10 rfl (show ¬ nI 32 ≤ nI i from nI_ge (by omega) (by omega)) ?_
      refine j_aload_n d_M_listAll_13 rfl ?_
      refine j_getf d_M_listAll_14 f_M_17 rfl rfl ?_
      refine j_iload_n d_M_listAll_17 rfl ?_
      refine j_zald d_M_listAll_18 rfl (show i < 32 by omega) (by decide) ?_
      by_cases hb : bt x i = true
      · rw [hb] at hxi
        rw [lstL, if_pos hb]
        refine j_top (w := .int 1) (congrArg Value.int hxi) ?_
        refine j_if_eqF (tgt := 96) d_M_listAll_19 rfl (by decide) ?_
        have fin : ∀ (a : Nat) (g2 : Nat → Int32), a < 32 → upd g2 a (nI i) = insW (mwl S.2.1 f) m i g → jE K M_M_listAll d 79 [(0, .ref 59), (1, .int (nI i)), (2, .int (nI a))] [] (lay (s1 (s2 S 18 g2) 35 (nI m)) ++ J) (rI (nI (lstL (mwl S.2.1 f) x k (i + 1) (m + 1) (insW (mwl S.2.1 f) m i g)).2) (lay (s1 (s2 S 18 (lstL (mwl S.2.1 f) x k (i + 1) (m + 1) (insW (mwl S.2.1 f) m i g)).1) 35 (nI (lstL (mwl S.2.1 f) x k (i + 1) (m + 1) (insW (mwl S.2.1 f) m i g)).2)) ++ J)) 0 0 := by
          intro a g2 ha hg2
          refine j_aload_n d_M_listAll_79 rfl ?_
          refine j_getf d_M_listAll_80 f_M_40 rfl rfl ?_
          refine j_iload_n d_M_listAll_83 rfl ?_
          refine j_iload_n d_M_listAll_84 rfl ?_
          refine j_iast d_M_listAll_85 rfl ha (by decide) rfl ?_
          refine j_hp (h' := lay (s1 (s2 S 18 (upd g2 a (nI i))) 35 (nI m)) ++ J) rfl ?_
          refine j_aload_n d_M_listAll_86 rfl ?_
          refine j_dup d_M_listAll_87 rfl ?_
          refine j_getf d_M_listAll_88 f_M_260 rfl rfl ?_
          refine j_iconst (v := 1) d_M_listAll_91 rfl ?_
          refine j_iadd d_M_listAll_92 ?_
          refine j_top (w := .int (nI (m + 1))) (by rw [nI_succ]; rfl) ?_
          refine j_putf d_M_listAll_93 f_M_260 rfl (Nat.le_of_ble_eq_true rfl) rfl rfl rfl ?_
          refine j_hp (h' := lay (s1 (s2 S 18 (upd g2 a (nI i))) 35 (nI (m + 1))) ++ J) rfl ?_
          rw [hg2]
          refine j_iincN d_M_listAll_96 rfl (by decide) ?_
          refine j_goto (tgt := 7) d_M_listAll_99 rfl ?_
          exact ih (i + 1) (m + 1) _ _ (by omega) (by omega) (insW_ok _ (by omega) hg) rfl rfl
        have loop2 : ∀ (a : Nat) (g2 : Nat → Int32), a < 32 → lsOk g2 a → upd (insF (mwl S.2.1 f) (mwl S.2.1 f (nI i)) a g2).1 (insF (mwl S.2.1 f) (mwl S.2.1 f (nI i)) a g2).2 (nI i) = insW (mwl S.2.1 f) m i g → jE K M_M_listAll d 27 [(0, .ref 59), (1, .int (nI i)), (2, .int (nI a))] [] (lay (s1 (s2 S 18 g2) 35 (nI m)) ++ J) (rI (nI (lstL (mwl S.2.1 f) x k (i + 1) (m + 1) (insW (mwl S.2.1 f) m i g)).2) (lay (s1 (s2 S 18 (lstL (mwl S.2.1 f) x k (i + 1) (m + 1) (insW (mwl S.2.1 f) m i g)).1) 35 (nI (lstL (mwl S.2.1 f) x k (i + 1) (m + 1) (insW (mwl S.2.1 f) m i g)).2)) ++ J)) 0 0 := by
          intro a
          induction a with
          | zero =>
            intro g2 ha hg2 he
            refine j_iload_n d_M_listAll_27 rfl ?_
            refine j_if_leT (tgt := 79) d_M_listAll_28 rfl (by decide) ?_
            exact fin 0 g2 ha he
          | succ a ih2 =>
            intro g2 ha hg2 he
            obtain ⟨u, hu, hgu⟩ := hg2 a (by omega)
            have hfo2 : fOk (s1 (s2 S 18 g2) 35 (nI m)).2.1 lo wd c := hfo
            refine j_iload_n d_M_listAll_27 rfl ?_
            refine j_if_leF (tgt := 79) d_M_listAll_28 rfl (show ¬ nI (a + 1) ≤ nI 0 from nI_ge (by omega) (by omega)) ?_
            refine j_aload_n d_M_listAll_31 rfl ?_
            refine j_aload_n d_M_listAll_32 rfl ?_
            refine j_getf d_M_listAll_33 f_M_40 rfl rfl ?_
            refine j_iload_n d_M_listAll_36 rfl ?_
            refine j_iconst (v := 1) d_M_listAll_37 rfl ?_
            refine j_isub d_M_listAll_38 ?_
            refine j_top (w := .int (nI a)) (by show Value.int (nI (a + 1) - nI 1) = _; rw [pk_sub (by omega)]; rfl) ?_
            refine j_iald d_M_listAll_39 rfl (show a < 32 by omega) (by decide) ?_
            refine j_top (w := .int (nI u)) (congrArg Value.int hgu) ?_
            refine j_aload_n d_M_listAll_40 rfl ?_
            refine j_getf d_M_listAll_41 f_M_206 rfl rfl ?_
            refine j_top (w := .int (nI f)) (congrArg Value.int h45) ?_
            refine j_retI (j_callV d_M_listAll_44 v_M_valueOf l_M_95 rfl rfl (m_M_val K (d - 1) (s1 (s2 S 18 g2) 35 (nI m)) J u f hu hfo2 hf) (by omega) (by decide) (Nat.le_of_ble_eq_true rfl) rfl) rfl ?_
            refine j_top (w := .int (mwl S.2.1 f (g2 a))) (by rw [hgu]; show _ = Value.int (mvl S.2.1 f (nI u).toNatClampNeg); rw [nI_clamp (by omega)]; rfl) ?_
            refine j_aload_n d_M_listAll_47 rfl ?_
            refine j_iload_n d_M_listAll_48 rfl ?_
            refine j_aload_n d_M_listAll_49 rfl ?_
            refine j_getf d_M_listAll_50 f_M_206 rfl rfl ?_
            refine j_top (w := .int (nI f)) (congrArg Value.int h45) ?_
            refine j_retI (j_callV d_M_listAll_53 v_M_valueOf l_M_95 rfl rfl (m_M_val K (d - 1) (s1 (s2 S 18 g2) 35 (nI m)) J i f (by omega) hfo2 hf) (by omega) (by decide) (Nat.le_of_ble_eq_true rfl) rfl) rfl ?_
            refine j_top (w := .int (mwl S.2.1 f (nI i))) (by show _ = Value.int (mvl S.2.1 f (nI i).toNatClampNeg); rw [nI_clamp (by omega)]; rfl) ?_
            refine j_icmp_le (tgt := 79) d_M_listAll_56 rfl (fun hle => ?_) (fun hle => ?_)
            · rw [insF, if_pos hle] at he
              exact fin (a + 1) g2 ha he
            · rw [insF, if_neg hle] at he
              refine j_aload_n d_M_listAll_59 rfl ?_
              refine j_getf d_M_listAll_60 f_M_40 rfl rfl ?_
              refine j_iload_n d_M_listAll_63 rfl ?_
              refine j_aload_n d_M_listAll_64 rfl ?_
              refine j_getf d_M_listAll_65 f_M_40 rfl rfl ?_
              refine j_iload_n d_M_listAll_68 rfl ?_
              refine j_iconst (v := 1) d_M_listAll_69 rfl ?_
              refine j_isub d_M_listAll_70 ?_
              refine j_top (w := .int (nI a)) (by show Value.int (nI (a + 1) - nI 1) = _; rw [pk_sub (by omega)]; rfl) ?_
              refine j_iald d_M_listAll_71 rfl (show a < 32 by omega) (by decide) ?_
              refine j_top (w := .int (g2 a)) rfl ?_
              refine j_iast d_M_listAll_72 rfl ha (by decide) rfl ?_
              refine j_hp (h' := lay (s1 (s2 S 18 (upd g2 (a + 1) (g2 a))) 35 (nI m)) ++ J) rfl ?_
              refine j_iincP d_M_listAll_73 rfl (by decide) ?_
              refine j_goto (tgt := 27) d_M_listAll_76 rfl ?_
              refine j_loc' [(0, .ref 59), (1, .int (nI i)), (2, .int (nI a))] ⟨rfl, rfl, rfl, trivial⟩ ?_
              refine ih2 (upd g2 (a + 1) (g2 a)) (by omega) (fun j hj => ?_) he
              obtain ⟨u2, hu2, h2⟩ := hg2 j (by omega)
              refine ⟨u2, hu2, ?_⟩
              rw [← h2]
              exact if_neg (by omega)
        refine j_aload_n d_M_listAll_22 rfl ?_
        refine j_getf d_M_listAll_23 f_M_260 rfl rfl ?_
        refine j_top (w := .int (nI m)) rfl ?_
        refine j_istore_n d_M_listAll_26 (by decide) ?_
        refine j_loc' [(0, .ref 59), (1, .int (nI i)), (2, .int (nI m))] ⟨rfl, rfl, rfl, trivial⟩ ?_
        exact loop2 m g (by omega) hg rfl
      · rw [Bool.eq_false_iff.mpr hb] at hxi
        rw [lstL, if_neg hb]
        refine j_top (w := .int 0) (congrArg Value.int hxi) ?_
        refine j_if_eqT (tgt := 96) d_M_listAll_19 rfl rfl ?_
        refine j_iincN d_M_listAll_96 rfl (by decide) ?_
        refine j_goto (tgt := 7) d_M_listAll_99 rfl ?_
        exact ih (i + 1) m g _ (by omega) (by omega) hg rfl rfl
  refine j_aload_n d_M_listAll_0 rfl ?_
  refine j_iconst (v := 0) d_M_listAll_1 rfl ?_
  refine j_putf d_M_listAll_2 f_M_260 rfl (Nat.le_of_ble_eq_true rfl) rfl rfl rfl ?_
  refine j_hp (h' := lay (s1 (s2 S 18 (S.2.1 18)) 35 (nI 0)) ++ J) rfl ?_
  refine j_iconst (v := 0) d_M_listAll_5 rfl ?_
  refine j_istore_n d_M_listAll_6 (by decide) ?_
  exact loop 32 0 0 (S.2.1 18) _ rfl (Nat.le_refl _) (fun j hj => by omega) rfl rfl
theorem m_M_gather (K : jK) (d : Nat) (hd : 1 ≤ d) (S : jS) (J : jH) (x : Int32) (hx : rsp (S.2.1 12) x) {lo wd : Nat → Nat} {c : Nat} (hfo : fOk S.2.1 lo wd c) (f : Nat) (hf : f < c) (h45 : S.1 45 = nI f) : jM K M_M_gather d [.ref 59] (lay S ++ J) (rI (gaL (S.1 44) x (fun w => mvl S.2.1 f w) 32 0 0 true) (lay S ++ J)) 0 0 := by
  refine jM.of (by decide) (Nat.le_of_ble_eq_true rfl) ?_
  have loop : ∀ k i v (n : Bool) (ls : List (Nat × Value)), i + k = 32 → j_lg ls 0 = some (.ref 59) → j_lg ls 1 = some (.int v) → j_lg ls 2 = some (.int (b2i n)) → j_lg ls 3 = some (.int (nI i)) → jE K M_M_gather d 6 ls [] (lay S ++ J) (rI (gaL (S.1 44) x (fun w => mvl S.2.1 f w) k i v n) (lay S ++ J)) 0 0 := by
    intro k
    induction k with
    | zero =>
      intro i v n ls hi l0 l1 l2 l3
      refine j_loc' [(0, .ref 59), (1, .int v), (2, .int (b2i n)), (3, .int (nI i))] ⟨l0, l1, l2, l3, trivial⟩ ?_
      refine j_iload_n d_M_gather_6 rfl ?_
      refine j_bipush (v := 32) d_M_gather_7 (by decide) ?_
      refine j_icmp_geT (tgt := 101) d_M_gather_9 rfl (show nI 32 ≤ nI i from nI_le (by omega) (by omega)) ?_
      refine j_iload_n d_M_gather_101 rfl ?_
      exact j_iret rfl d_M_gather_102 ⟨rfl, rfl⟩
    | succ k ih =>
      intro i v n ls hi l0 l1 l2 l3
      have hxi : S.2.1 12 i = b2i (bt x i) := hx i (by omega)
      refine j_loc' [(0, .ref 59), (1, .int v), (2, .int (b2i n)), (3, .int (nI i))] ⟨l0, l1, l2, l3, trivial⟩ ?_
      refine j_iload_n d_M_gather_6 rfl ?_
      refine j_bipush (v := 32) d_M_gather_7 (by decide) ?_
      refine j_icmp_geF (tgt := 101) d_M_gather_9 rfl (show ¬ nI 32 ≤ nI i from nI_ge (by omega) (by omega)) ?_
      refine j_aload_n d_M_gather_12 rfl ?_
      refine j_getf d_M_gather_13 f_M_17 rfl rfl ?_
      refine j_iload_n d_M_gather_16 rfl ?_
      refine j_zald d_M_gather_17 rfl (show i < 32 by omega) (by decide) ?_
      by_cases hb : bt x i = true
      · rw [hb] at hxi
        rw [gaL, if_pos hb]
        refine j_top (w := .int 1) (congrArg Value.int hxi) ?_
        refine j_if_eqF (tgt := 95) d_M_gather_18 rfl (by decide) ?_
        refine j_aload_n d_M_gather_21 rfl ?_
        refine j_iload_n d_M_gather_22 rfl ?_
        refine j_aload_n d_M_gather_23 rfl ?_
        refine j_getf d_M_gather_24 f_M_206 rfl rfl ?_
        refine j_top (w := .int (nI f)) (congrArg Value.int h45) ?_
        refine j_retI (j_callV d_M_gather_27 v_M_valueOf l_M_95 rfl rfl (m_M_val K (d - 1) S J i f (by omega) hfo hf) (by omega) (by decide) (Nat.le_of_ble_eq_true rfl) rfl) rfl ?_
        refine j_istore d_M_gather_30 (by decide) ?_
        refine j_iload_n d_M_gather_32 rfl ?_
        have fin : ∀ (y : Int32) (ls : List (Nat × Value)), j_lg ls 0 = some (.ref 59) → j_lg ls 3 = some (.int (nI i)) → y = (if S.1 44 = 4 then v + mvl S.2.1 f i else if n = true ∨ (S.1 44 = 2 ∧ v < mvl S.2.1 f i) ∨ (¬ S.1 44 = 2 ∧ mvl S.2.1 f i < v) then mvl S.2.1 f i else v) → jE K M_M_gather d 92 ls [.int y] (lay S ++ J) (rI (gaL (S.1 44) x (fun w => mvl S.2.1 f w) k (i + 1) (if S.1 44 = 4 then v + mvl S.2.1 f i else if n = true ∨ (S.1 44 = 2 ∧ v < mvl S.2.1 f i) ∨ (¬ S.1 44 = 2 ∧ mvl S.2.1 f i < v) then mvl S.2.1 f i else v) false) (lay S ++ J)) 0 0 := by
          intro y ls l0 l3 hy
          rw [← hy]
          refine j_loc' [(0, .ref 59), (3, .int (nI i))] ⟨l0, l3, trivial⟩ ?_
          refine j_istore_n d_M_gather_92 (by decide) ?_
          refine j_iconst (v := 0) d_M_gather_93 rfl ?_
          refine j_istore_n d_M_gather_94 (by decide) ?_
          refine j_iincN d_M_gather_95 rfl (by decide) ?_
          refine j_goto (tgt := 6) d_M_gather_98 rfl ?_
          exact ih (i + 1) y false _ (by omega) rfl rfl rfl rfl
        have bet : ∀ (b : Bool) (ls : List (Nat × Value)), j_lg ls 0 = some (.ref 59) → j_lg ls 1 = some (.int v) → j_lg ls 3 = some (.int (nI i)) → j_lg ls 4 = some (.int (mvl S.2.1 f i)) → (b = true ↔ (n = true ∨ (S.1 44 = 2 ∧ v < mvl S.2.1 f i) ∨ (¬ S.1 44 = 2 ∧ mvl S.2.1 f i < v))) → jE K M_M_gather d 64 ls [.int (b2i b)] (lay S ++ J) (rI (gaL (S.1 44) x (fun w => mvl S.2.1 f w) k (i + 1) (if S.1 44 = 4 then v + mvl S.2.1 f i else if n = true ∨ (S.1 44 = 2 ∧ v < mvl S.2.1 f i) ∨ (¬ S.1 44 = 2 ∧ mvl S.2.1 f i < v) then mvl S.2.1 f i else v) false) (lay S ++ J)) 0 0 := by
          intro b ls l0 l1 l3 l4 hbb
          refine j_loc' [(0, .ref 59), (1, .int v), (3, .int (nI i)), (4, .int (mvl S.2.1 f i))] ⟨l0, l1, l3, l4, trivial⟩ ?_
          refine j_istore d_M_gather_64 (by decide) ?_
          refine j_aload_n d_M_gather_66 rfl ?_
          refine j_getf d_M_gather_67 f_M_167 rfl rfl ?_
          refine j_iconst (v := 4) d_M_gather_70 rfl ?_
          by_cases h4 : S.1 44 = 4
          · refine j_icmp_neF (tgt := 81) d_M_gather_71 rfl h4 ?_
            refine j_iload_n d_M_gather_74 rfl ?_
            refine j_iload d_M_gather_75 rfl ?_
            refine j_iadd d_M_gather_77 ?_
            refine j_goto (tgt := 92) d_M_gather_78 rfl ?_
            exact fin _ _ rfl rfl (by rw [if_pos h4])
          · refine j_icmp_neT (tgt := 81) d_M_gather_71 rfl h4 ?_
            refine j_iload d_M_gather_81 rfl ?_
            cases b with
            | true =>
              refine j_if_eqF (tgt := 91) d_M_gather_83 rfl (by decide) ?_
              refine j_iload d_M_gather_86 rfl ?_
              refine j_goto (tgt := 92) d_M_gather_88 rfl ?_
              exact fin _ _ rfl rfl (by rw [if_neg h4, if_pos (hbb.mp rfl)])
            | false =>
              refine j_if_eqT (tgt := 91) d_M_gather_83 rfl rfl ?_
              refine j_iload_n d_M_gather_91 rfl ?_
              exact fin _ _ rfl rfl (by rw [if_neg h4, if_neg (fun q => by cases hbb.mpr q)])
        have yes : ∀ (ls : List (Nat × Value)), j_lg ls 0 = some (.ref 59) → j_lg ls 1 = some (.int v) → j_lg ls 3 = some (.int (nI i)) → j_lg ls 4 = some (.int (mvl S.2.1 f i)) → (n = true ∨ (S.1 44 = 2 ∧ v < mvl S.2.1 f i) ∨ (¬ S.1 44 = 2 ∧ mvl S.2.1 f i < v)) → jE K M_M_gather d 59 ls [] (lay S ++ J) (rI (gaL (S.1 44) x (fun w => mvl S.2.1 f w) k (i + 1) (if S.1 44 = 4 then v + mvl S.2.1 f i else if n = true ∨ (S.1 44 = 2 ∧ v < mvl S.2.1 f i) ∨ (¬ S.1 44 = 2 ∧ mvl S.2.1 f i < v) then mvl S.2.1 f i else v) false) (lay S ++ J)) 0 0 := by
          intro ls l0 l1 l3 l4 hy
          refine j_iconst (v := 1) d_M_gather_59 rfl ?_
          refine j_goto (tgt := 64) d_M_gather_60 rfl ?_
          exact bet true ls l0 l1 l3 l4 ⟨fun _ => hy, fun _ => rfl⟩
        have noo : ∀ (ls : List (Nat × Value)), j_lg ls 0 = some (.ref 59) → j_lg ls 1 = some (.int v) → j_lg ls 3 = some (.int (nI i)) → j_lg ls 4 = some (.int (mvl S.2.1 f i)) → ¬ (n = true ∨ (S.1 44 = 2 ∧ v < mvl S.2.1 f i) ∨ (¬ S.1 44 = 2 ∧ mvl S.2.1 f i < v)) → jE K M_M_gather d 63 ls [] (lay S ++ J) (rI (gaL (S.1 44) x (fun w => mvl S.2.1 f w) k (i + 1) (if S.1 44 = 4 then v + mvl S.2.1 f i else if n = true ∨ (S.1 44 = 2 ∧ v < mvl S.2.1 f i) ∨ (¬ S.1 44 = 2 ∧ mvl S.2.1 f i < v) then mvl S.2.1 f i else v) false) (lay S ++ J)) 0 0 := by
          intro ls l0 l1 l3 l4 hy
          refine j_iconst (v := 0) d_M_gather_63 rfl ?_
          exact bet false ls l0 l1 l3 l4 ⟨fun q => (by cases q), fun q => absurd q hy⟩
        cases n with
        | true =>
          refine j_if_neT (tgt := 59) d_M_gather_33 rfl (by decide) ?_
          exact yes _ rfl rfl rfl rfl (.inl rfl)
        | false =>
          refine j_if_neF (tgt := 59) d_M_gather_33 rfl rfl ?_
          refine j_aload_n d_M_gather_36 rfl ?_
          refine j_getf d_M_gather_37 f_M_167 rfl rfl ?_
          refine j_iconst (v := 2) d_M_gather_40 rfl ?_
          by_cases h2 : S.1 44 = 2
          · refine j_icmp_neF (tgt := 53) d_M_gather_41 rfl h2 ?_
            refine j_iload d_M_gather_44 rfl ?_
            refine j_iload_n d_M_gather_46 rfl ?_
            by_cases hlt : v < mvl S.2.1 f i
            · refine j_icmp_leF (tgt := 63) d_M_gather_47 rfl (Int32.not_le.mpr hlt) ?_
              refine j_goto (tgt := 59) d_M_gather_50 rfl ?_
              exact yes _ rfl rfl rfl rfl (.inr (.inl ⟨h2, hlt⟩))
            · refine j_icmp_leT (tgt := 63) d_M_gather_47 rfl (Int32.not_lt.mp hlt) ?_
              exact noo _ rfl rfl rfl rfl (fun q => by rcases q with q | q | q; cases q; exact hlt q.2; exact q.1 h2)
          · refine j_icmp_neT (tgt := 53) d_M_gather_41 rfl h2 ?_
            refine j_iload d_M_gather_53 rfl ?_
            refine j_iload_n d_M_gather_55 rfl ?_
            by_cases hlt : mvl S.2.1 f i < v
            · refine j_icmp_geF (tgt := 63) d_M_gather_56 rfl (Int32.not_le.mpr hlt) ?_
              exact yes _ rfl rfl rfl rfl (.inr (.inr ⟨h2, hlt⟩))
            · refine j_icmp_geT (tgt := 63) d_M_gather_56 rfl (Int32.not_lt.mp hlt) ?_
              exact noo _ rfl rfl rfl rfl (fun q => by rcases q with q | q | q; cases q; exact h2 q.1; exact hlt q.2)
      · rw [Bool.eq_false_iff.mpr hb] at hxi
        rw [gaL, if_neg hb]
        refine j_top (w := .int 0) (congrArg Value.int hxi) ?_
        refine j_if_eqT (tgt := 95) d_M_gather_18 rfl rfl ?_
        refine j_iincN d_M_gather_95 rfl (by decide) ?_
        refine j_goto (tgt := 6) d_M_gather_98 rfl ?_
        exact ih (i + 1) v n _ (by omega) rfl rfl rfl rfl
  refine j_iconst (v := 0) d_M_gather_0 rfl ?_
  refine j_istore_n d_M_gather_1 (by decide) ?_
  refine j_iconst (v := 1) d_M_gather_2 rfl ?_
  refine j_istore_n d_M_gather_3 (by decide) ?_
  refine j_iconst (v := 0) d_M_gather_4 rfl ?_
  refine j_istore_n d_M_gather_5 (by decide) ?_
  exact loop 32 0 0 true _ rfl rfl rfl rfl rfl
