/-! BitLoomModel: pick, part, afterChange, afterFirst -/
theorem m_M_pick8 (K : jK) (d : Nat) (hd : 3 ≤ d) (S : jS) (J : jH) (n : Nat) (k : Int32) (b e : Nat) (hT : Tk S n k b e) (c : Nat) (hc : S.1 31 = nI c) (h6c : c ≤ 6) (g : Nat) (hg : g < 2) (hS : S.1 46 = nI g) : jM K M_M_pick d [.ref 59, .int 8] (lay S ++ J) (if nmd S c k b e < 0 then rI 17 (lay S ++ J) else rI 8 (lay (s2 S 22 (upd (S.2.1 22) g (nmd S c k b e))) ++ J)) 0 0 := by
  refine jM.of (by decide) (Nat.le_of_ble_eq_true rfl) ?_
  refine j_aload_n d_M_pick_0 rfl ?_
  refine j_retI (j_callV d_M_pick_1 v_M_named l_M_191 rfl rfl (m_M_named K (d - 1) (by omega) S J n k b e hT c hc h6c) (by omega) (by decide) (Nat.le_of_ble_eq_true rfl) rfl) rfl ?_
  by_cases hz : nmd S c k b e < 0
  · rw [if_pos hz]
    refine j_if_geF (tgt := 10) d_M_pick_4 rfl (Int32.not_le.mpr hz) ?_
    refine j_bipush (v := 17) d_M_pick_7 (by decide) ?_
    exact j_iret rfl d_M_pick_9 ⟨rfl, rfl⟩
  · rw [if_neg hz]
    refine j_if_geT (tgt := 10) d_M_pick_4 rfl (Int32.not_lt.mp hz) ?_
    refine j_iload_n d_M_pick_10 rfl ?_
    refine j_bipush (v := 8) d_M_pick_11 (by decide) ?_
    refine j_icmp_neF (tgt := 32) d_M_pick_13 rfl rfl ?_
    refine j_aload_n d_M_pick_16 rfl ?_
    refine j_getf d_M_pick_17 f_M_52 rfl rfl ?_
    refine j_aload_n d_M_pick_20 rfl ?_
    refine j_getf d_M_pick_21 f_M_203 rfl rfl ?_
    refine j_top (w := .int (nI g)) (congrArg Value.int hS) ?_
    refine j_aload_n d_M_pick_24 rfl ?_
    refine j_retI (j_callV d_M_pick_25 v_M_named l_M_191 rfl rfl (m_M_named K (d - 1) (by omega) S J n k b e hT c hc h6c) (by omega) (by decide) (Nat.le_of_ble_eq_true rfl) rfl) rfl ?_
    refine j_iast d_M_pick_28 rfl hg (by decide) rfl ?_
    refine j_goto (tgt := 40) d_M_pick_29 rfl ?_
    refine j_iload_n d_M_pick_40 rfl ?_
    exact j_iret rfl d_M_pick_41 ⟨rfl, rfl⟩
theorem m_M_pick16 (K : jK) (d : Nat) (hd : 3 ≤ d) (S : jS) (J : jH) (n : Nat) (k : Int32) (b e : Nat) (hT : Tk S n k b e) (c : Nat) (hc : S.1 31 = nI c) (h6c : c ≤ 6) : jM K M_M_pick d [.ref 59, .int 16] (lay S ++ J) (if nmd S c k b e < 0 then rI 17 (lay S ++ J) else rI 16 (lay (s1 S 45 (nmd S c k b e)) ++ J)) 0 0 := by
  refine jM.of (by decide) (Nat.le_of_ble_eq_true rfl) ?_
  refine j_aload_n d_M_pick_0 rfl ?_
  refine j_retI (j_callV d_M_pick_1 v_M_named l_M_191 rfl rfl (m_M_named K (d - 1) (by omega) S J n k b e hT c hc h6c) (by omega) (by decide) (Nat.le_of_ble_eq_true rfl) rfl) rfl ?_
  by_cases hz : nmd S c k b e < 0
  · rw [if_pos hz]
    refine j_if_geF (tgt := 10) d_M_pick_4 rfl (Int32.not_le.mpr hz) ?_
    refine j_bipush (v := 17) d_M_pick_7 (by decide) ?_
    exact j_iret rfl d_M_pick_9 ⟨rfl, rfl⟩
  · rw [if_neg hz]
    refine j_if_geT (tgt := 10) d_M_pick_4 rfl (Int32.not_lt.mp hz) ?_
    refine j_iload_n d_M_pick_10 rfl ?_
    refine j_bipush (v := 8) d_M_pick_11 (by decide) ?_
    refine j_icmp_neT (tgt := 32) d_M_pick_13 rfl (by decide) ?_
    refine j_aload_n d_M_pick_32 rfl ?_
    refine j_aload_n d_M_pick_33 rfl ?_
    refine j_retI (j_callV d_M_pick_34 v_M_named l_M_191 rfl rfl (m_M_named K (d - 1) (by omega) S J n k b e hT c hc h6c) (by omega) (by decide) (Nat.le_of_ble_eq_true rfl) rfl) rfl ?_
    refine j_putf d_M_pick_37 f_M_206 rfl (Nat.le_of_ble_eq_true rfl) rfl rfl rfl ?_
    refine j_iload_n d_M_pick_40 rfl ?_
    exact j_iret rfl d_M_pick_41 ⟨rfl, rfl⟩
abbrev pt1 (S : jS) (g : Nat) (f v : Int32) : jS := s2 (s2 S 26 (upd (S.2.1 26) g f)) 27 (upd (S.2.1 27) g v)
abbrev pt0 (S : jS) (g : Nat) (f v : Int32) : jS := s2 (s2 (s2 S 23 (upd (S.2.1 23) g f)) 24 (upd (S.2.1 24) g v)) 25 (upd (S.2.1 25) g 0)
theorem m_M_part_00 (K : jK) (d : Nat) (hd : 3 ≤ d) (S : jS) (J : jH) (n : Nat) (k : Int32) (b e : Nat) (hT : Tk S n k b e) (c : Nat) (hc : S.1 31 = nI c) (h6c : c ≤ 6) (g : Nat) (hg : g < 2) (hS : S.1 46 = nI g) (mi t : Int32) : jM K M_M_part d [.ref 59, .int 0, .int 0, .int mi, .int t] (lay S ++ J) (if k = 45 then rI mi (lay S ++ J) else if ¬ k = 48 ∧ nmd S c k b e < 0 then rI 17 (lay S ++ J) else rI t (lay (pt0 S g (nmd S c k b e) (S.1 39)) ++ J)) 0 0 := by
  refine jM.of (by decide) (Nat.le_of_ble_eq_true rfl) ?_
  have wr : ∀ f v : Int32, jE K M_M_part d 63 [(0, .ref 59), (1, .int 0), (2, .int 0), (3, .int mi), (4, .int t), (5, .int f), (6, .int v)] [] (lay S ++ J) (rI t (lay (pt0 S g f v) ++ J)) 0 0 := by
    intro f v
    refine j_iload_n d_M_part_63 rfl ?_
    refine j_if_eqT (tgt := 92) d_M_part_64 rfl rfl ?_
    refine j_aload_n d_M_part_92 rfl ?_
    refine j_getf d_M_part_93 f_M_55 rfl rfl ?_
    refine j_aload_n d_M_part_96 rfl ?_
    refine j_getf d_M_part_97 f_M_203 rfl rfl ?_
    refine j_top (w := .int (nI g)) (congrArg Value.int hS) ?_
    refine j_iload d_M_part_100 rfl ?_
    refine j_iast d_M_part_102 rfl hg (by decide) rfl ?_
    refine j_aload_n d_M_part_103 rfl ?_
    refine j_getf d_M_part_104 f_M_58 rfl rfl ?_
    refine j_aload_n d_M_part_107 rfl ?_
    refine j_getf d_M_part_108 f_M_203 rfl rfl ?_
    refine j_top (w := .int (nI g)) (congrArg Value.int hS) ?_
    refine j_iload d_M_part_111 rfl ?_
    refine j_iast d_M_part_113 rfl hg (by decide) rfl ?_
    refine j_aload_n d_M_part_114 rfl ?_
    refine j_getf d_M_part_115 f_M_61 rfl rfl ?_
    refine j_aload_n d_M_part_118 rfl ?_
    refine j_getf d_M_part_119 f_M_203 rfl rfl ?_
    refine j_top (w := .int (nI g)) (congrArg Value.int hS) ?_
    refine j_iconst (v := 0) d_M_part_122 rfl ?_
    refine j_iast d_M_part_123 rfl hg (by decide) rfl ?_
    refine j_iload d_M_part_124 rfl ?_
    exact j_iret rfl d_M_part_126 ⟨rfl, rfl⟩
  refine j_aload_n d_M_part_0 rfl ?_
  refine j_bipush (v := 45) d_M_part_1 (by decide) ?_
  refine j_retI (j_callV d_M_part_3 v_M_isIt l_M_175 rfl rfl (m_M_isIt K (d - 1) S J n k b e hT 45 (by decide)) (by omega) (by decide) (Nat.le_of_ble_eq_true rfl) rfl) rfl ?_
  by_cases h45 : k = 45
  · rw [b2i_dT h45, if_pos h45]
    refine j_if_eqF (tgt := 15) d_M_part_6 rfl (by decide) ?_
    refine j_iload_n d_M_part_9 rfl ?_
    refine j_if_neF (tgt := 15) d_M_part_10 rfl rfl ?_
    refine j_iload_n d_M_part_13 rfl ?_
    exact j_iret rfl d_M_part_14 ⟨rfl, rfl⟩
  · rw [b2i_dF h45, if_neg h45]
    refine j_if_eqT (tgt := 15) d_M_part_6 rfl rfl ?_
    refine j_iload_n d_M_part_15 rfl ?_
    refine j_if_eqT (tgt := 23) d_M_part_16 rfl rfl ?_
    refine j_aload_n d_M_part_23 rfl ?_
    refine j_retI (j_callV d_M_part_24 v_M_named l_M_191 rfl rfl (m_M_named K (d - 1) (by omega) S J n k b e hT c hc h6c) (by omega) (by decide) (Nat.le_of_ble_eq_true rfl) rfl) rfl ?_
    refine j_istore d_M_part_27 (by decide) ?_
    refine j_aload_n d_M_part_29 rfl ?_
    refine j_getf d_M_part_30 f_M_132 rfl rfl ?_
    refine j_iconst (v := 2) d_M_part_33 rfl ?_
    rcases hT.num with ⟨h2, hk, ham⟩ | ⟨h2, hk⟩
    · rw [if_neg (fun q => q.1 hk)]
      refine j_icmp_eqT (tgt := 45) d_M_part_34 rfl h2 ?_
      refine j_iload_n d_M_part_45 rfl ?_
      refine j_if_eqT (tgt := 57) d_M_part_46 rfl rfl ?_
      refine j_aload_n d_M_part_57 rfl ?_
      refine j_getf d_M_part_58 f_M_115 rfl rfl ?_
      refine j_istore d_M_part_61 (by decide) ?_
      exact j_loc' [(0, .ref 59), (1, .int 0), (2, .int 0), (3, .int mi), (4, .int t), (5, .int (nmd S c k b e)), (6, .int (S.1 39))] ⟨rfl, rfl, rfl, rfl, rfl, rfl, rfl, trivial⟩ (wr _ _)
    · refine j_icmp_eqF (tgt := 45) d_M_part_34 rfl h2 ?_
      refine j_iload d_M_part_37 rfl ?_
      by_cases hz : nmd S c k b e < 0
      · rw [if_pos ⟨hk, hz⟩]
        refine j_if_geF (tgt := 45) d_M_part_39 rfl (Int32.not_le.mpr hz) ?_
        refine j_bipush (v := 17) d_M_part_42 (by decide) ?_
        exact j_iret rfl d_M_part_44 ⟨rfl, rfl⟩
      · rw [if_neg (fun q => hz q.2)]
        refine j_if_geT (tgt := 45) d_M_part_39 rfl (Int32.not_lt.mp hz) ?_
        refine j_iload_n d_M_part_45 rfl ?_
        refine j_if_eqT (tgt := 57) d_M_part_46 rfl rfl ?_
        refine j_aload_n d_M_part_57 rfl ?_
        refine j_getf d_M_part_58 f_M_115 rfl rfl ?_
        refine j_istore d_M_part_61 (by decide) ?_
        exact j_loc' [(0, .ref 59), (1, .int 0), (2, .int 0), (3, .int mi), (4, .int t), (5, .int (nmd S c k b e)), (6, .int (S.1 39))] ⟨rfl, rfl, rfl, rfl, rfl, rfl, rfl, trivial⟩ (wr _ _)
theorem m_M_part_01 (K : jK) (d : Nat) (hd : 3 ≤ d) (S : jS) (J : jH) (n : Nat) (k : Int32) (b e : Nat) (hT : Tk S n k b e) (c : Nat) (hc : S.1 31 = nI c) (h6c : c ≤ 6) (g : Nat) (hg : g < 2) (hS : S.1 46 = nI g) (mi t : Int32) : jM K M_M_part d [.ref 59, .int 0, .int 1, .int mi, .int t] (lay S ++ J) (if ¬ k = 48 then rI 17 (lay S ++ J) else rI t (lay (pt0 S g (-1) (-(S.1 39))) ++ J)) 0 0 := by
  refine jM.of (by decide) (Nat.le_of_ble_eq_true rfl) ?_
  have wr : ∀ f v : Int32, jE K M_M_part d 63 [(0, .ref 59), (1, .int 0), (2, .int 1), (3, .int mi), (4, .int t), (5, .int f), (6, .int v)] [] (lay S ++ J) (rI t (lay (pt0 S g f v) ++ J)) 0 0 := by
    intro f v
    refine j_iload_n d_M_part_63 rfl ?_
    refine j_if_eqT (tgt := 92) d_M_part_64 rfl rfl ?_
    refine j_aload_n d_M_part_92 rfl ?_
    refine j_getf d_M_part_93 f_M_55 rfl rfl ?_
    refine j_aload_n d_M_part_96 rfl ?_
    refine j_getf d_M_part_97 f_M_203 rfl rfl ?_
    refine j_top (w := .int (nI g)) (congrArg Value.int hS) ?_
    refine j_iload d_M_part_100 rfl ?_
    refine j_iast d_M_part_102 rfl hg (by decide) rfl ?_
    refine j_aload_n d_M_part_103 rfl ?_
    refine j_getf d_M_part_104 f_M_58 rfl rfl ?_
    refine j_aload_n d_M_part_107 rfl ?_
    refine j_getf d_M_part_108 f_M_203 rfl rfl ?_
    refine j_top (w := .int (nI g)) (congrArg Value.int hS) ?_
    refine j_iload d_M_part_111 rfl ?_
    refine j_iast d_M_part_113 rfl hg (by decide) rfl ?_
    refine j_aload_n d_M_part_114 rfl ?_
    refine j_getf d_M_part_115 f_M_61 rfl rfl ?_
    refine j_aload_n d_M_part_118 rfl ?_
    refine j_getf d_M_part_119 f_M_203 rfl rfl ?_
    refine j_top (w := .int (nI g)) (congrArg Value.int hS) ?_
    refine j_iconst (v := 0) d_M_part_122 rfl ?_
    refine j_iast d_M_part_123 rfl hg (by decide) rfl ?_
    refine j_iload d_M_part_124 rfl ?_
    exact j_iret rfl d_M_part_126 ⟨rfl, rfl⟩
  refine j_aload_n d_M_part_0 rfl ?_
  refine j_bipush (v := 45) d_M_part_1 (by decide) ?_
  refine j_retI (j_callV d_M_part_3 v_M_isIt l_M_175 rfl rfl (m_M_isIt K (d - 1) S J n k b e hT 45 (by decide)) (by omega) (by decide) (Nat.le_of_ble_eq_true rfl) rfl) rfl ?_
  have go : jE K M_M_part d 15 [(0, .ref 59), (1, .int 0), (2, .int 1), (3, .int mi), (4, .int t)] [] (lay S ++ J) (if ¬ k = 48 then rI 17 (lay S ++ J) else rI t (lay (pt0 S g (-1) (-(S.1 39))) ++ J)) 0 0 := by
    refine j_iload_n d_M_part_15 rfl ?_
    refine j_if_eqF (tgt := 23) d_M_part_16 rfl (by decide) ?_
    refine j_iconst (v := -1) d_M_part_19 rfl ?_
    refine j_goto (tgt := 27) d_M_part_20 rfl ?_
    refine j_istore d_M_part_27 (by decide) ?_
    refine j_aload_n d_M_part_29 rfl ?_
    refine j_getf d_M_part_30 f_M_132 rfl rfl ?_
    refine j_iconst (v := 2) d_M_part_33 rfl ?_
    rcases hT.num with ⟨h2, hk, ham⟩ | ⟨h2, hk⟩
    · rw [if_neg (fun q => q hk)]
      refine j_icmp_eqT (tgt := 45) d_M_part_34 rfl h2 ?_
      refine j_iload_n d_M_part_45 rfl ?_
      refine j_if_eqF (tgt := 57) d_M_part_46 rfl (by decide) ?_
      refine j_aload_n d_M_part_49 rfl ?_
      refine j_getf d_M_part_50 f_M_115 rfl rfl ?_
      refine j_ineg d_M_part_53 ?_
      refine j_goto (tgt := 61) d_M_part_54 rfl ?_
      refine j_istore d_M_part_61 (by decide) ?_
      exact j_loc' [(0, .ref 59), (1, .int 0), (2, .int 1), (3, .int mi), (4, .int t), (5, .int (-1)), (6, .int (-(S.1 39)))] ⟨rfl, rfl, rfl, rfl, rfl, rfl, rfl, trivial⟩ (wr _ _)
    · rw [if_pos hk]
      refine j_icmp_eqF (tgt := 45) d_M_part_34 rfl h2 ?_
      refine j_iload d_M_part_37 rfl ?_
      refine j_if_geF (tgt := 45) d_M_part_39 rfl (by decide) ?_
      refine j_bipush (v := 17) d_M_part_42 (by decide) ?_
      exact j_iret rfl d_M_part_44 ⟨rfl, rfl⟩
  by_cases h45 : k = 45
  · rw [b2i_dT h45]
    refine j_if_eqF (tgt := 15) d_M_part_6 rfl (by decide) ?_
    refine j_iload_n d_M_part_9 rfl ?_
    refine j_if_neT (tgt := 15) d_M_part_10 rfl (by decide) ?_
    exact go
  · rw [b2i_dF h45]
    refine j_if_eqT (tgt := 15) d_M_part_6 rfl rfl ?_
    exact go
theorem m_M_part_10 (K : jK) (d : Nat) (hd : 3 ≤ d) (S : jS) (J : jH) (n : Nat) (k : Int32) (b e : Nat) (hT : Tk S n k b e) (c : Nat) (hc : S.1 31 = nI c) (h6c : c ≤ 6) (g : Nat) (hg : g < 2) (hS : S.1 46 = nI g) (mi t : Int32) : jM K M_M_part d [.ref 59, .int 1, .int 0, .int mi, .int t] (lay S ++ J) (if k = 45 then rI mi (lay S ++ J) else if ¬ k = 48 ∧ nmd S c k b e < 0 then rI 17 (lay S ++ J) else rI t (lay (pt1 S g (nmd S c k b e) (S.1 39)) ++ J)) 0 0 := by
  refine jM.of (by decide) (Nat.le_of_ble_eq_true rfl) ?_
  have wr : ∀ f v : Int32, jE K M_M_part d 63 [(0, .ref 59), (1, .int 1), (2, .int 0), (3, .int mi), (4, .int t), (5, .int f), (6, .int v)] [] (lay S ++ J) (rI t (lay (pt1 S g f v) ++ J)) 0 0 := by
    intro f v
    refine j_iload_n d_M_part_63 rfl ?_
    refine j_if_eqF (tgt := 92) d_M_part_64 rfl (by decide) ?_
    refine j_aload_n d_M_part_67 rfl ?_
    refine j_getf d_M_part_68 f_M_64 rfl rfl ?_
    refine j_aload_n d_M_part_71 rfl ?_
    refine j_getf d_M_part_72 f_M_203 rfl rfl ?_
    refine j_top (w := .int (nI g)) (congrArg Value.int hS) ?_
    refine j_iload d_M_part_75 rfl ?_
    refine j_iast d_M_part_77 rfl hg (by decide) rfl ?_
    refine j_aload_n d_M_part_78 rfl ?_
    refine j_getf d_M_part_79 f_M_67 rfl rfl ?_
    refine j_aload_n d_M_part_82 rfl ?_
    refine j_getf d_M_part_83 f_M_203 rfl rfl ?_
    refine j_top (w := .int (nI g)) (congrArg Value.int hS) ?_
    refine j_iload d_M_part_86 rfl ?_
    refine j_iast d_M_part_88 rfl hg (by decide) rfl ?_
    refine j_goto (tgt := 124) d_M_part_89 rfl ?_
    refine j_iload d_M_part_124 rfl ?_
    exact j_iret rfl d_M_part_126 ⟨rfl, rfl⟩
  refine j_aload_n d_M_part_0 rfl ?_
  refine j_bipush (v := 45) d_M_part_1 (by decide) ?_
  refine j_retI (j_callV d_M_part_3 v_M_isIt l_M_175 rfl rfl (m_M_isIt K (d - 1) S J n k b e hT 45 (by decide)) (by omega) (by decide) (Nat.le_of_ble_eq_true rfl) rfl) rfl ?_
  by_cases h45 : k = 45
  · rw [b2i_dT h45, if_pos h45]
    refine j_if_eqF (tgt := 15) d_M_part_6 rfl (by decide) ?_
    refine j_iload_n d_M_part_9 rfl ?_
    refine j_if_neF (tgt := 15) d_M_part_10 rfl rfl ?_
    refine j_iload_n d_M_part_13 rfl ?_
    exact j_iret rfl d_M_part_14 ⟨rfl, rfl⟩
  · rw [b2i_dF h45, if_neg h45]
    refine j_if_eqT (tgt := 15) d_M_part_6 rfl rfl ?_
    refine j_iload_n d_M_part_15 rfl ?_
    refine j_if_eqT (tgt := 23) d_M_part_16 rfl rfl ?_
    refine j_aload_n d_M_part_23 rfl ?_
    refine j_retI (j_callV d_M_part_24 v_M_named l_M_191 rfl rfl (m_M_named K (d - 1) (by omega) S J n k b e hT c hc h6c) (by omega) (by decide) (Nat.le_of_ble_eq_true rfl) rfl) rfl ?_
    refine j_istore d_M_part_27 (by decide) ?_
    refine j_aload_n d_M_part_29 rfl ?_
    refine j_getf d_M_part_30 f_M_132 rfl rfl ?_
    refine j_iconst (v := 2) d_M_part_33 rfl ?_
    rcases hT.num with ⟨h2, hk, ham⟩ | ⟨h2, hk⟩
    · rw [if_neg (fun q => q.1 hk)]
      refine j_icmp_eqT (tgt := 45) d_M_part_34 rfl h2 ?_
      refine j_iload_n d_M_part_45 rfl ?_
      refine j_if_eqT (tgt := 57) d_M_part_46 rfl rfl ?_
      refine j_aload_n d_M_part_57 rfl ?_
      refine j_getf d_M_part_58 f_M_115 rfl rfl ?_
      refine j_istore d_M_part_61 (by decide) ?_
      exact j_loc' [(0, .ref 59), (1, .int 1), (2, .int 0), (3, .int mi), (4, .int t), (5, .int (nmd S c k b e)), (6, .int (S.1 39))] ⟨rfl, rfl, rfl, rfl, rfl, rfl, rfl, trivial⟩ (wr _ _)
    · refine j_icmp_eqF (tgt := 45) d_M_part_34 rfl h2 ?_
      refine j_iload d_M_part_37 rfl ?_
      by_cases hz : nmd S c k b e < 0
      · rw [if_pos ⟨hk, hz⟩]
        refine j_if_geF (tgt := 45) d_M_part_39 rfl (Int32.not_le.mpr hz) ?_
        refine j_bipush (v := 17) d_M_part_42 (by decide) ?_
        exact j_iret rfl d_M_part_44 ⟨rfl, rfl⟩
      · rw [if_neg (fun q => hz q.2)]
        refine j_if_geT (tgt := 45) d_M_part_39 rfl (Int32.not_lt.mp hz) ?_
        refine j_iload_n d_M_part_45 rfl ?_
        refine j_if_eqT (tgt := 57) d_M_part_46 rfl rfl ?_
        refine j_aload_n d_M_part_57 rfl ?_
        refine j_getf d_M_part_58 f_M_115 rfl rfl ?_
        refine j_istore d_M_part_61 (by decide) ?_
        exact j_loc' [(0, .ref 59), (1, .int 1), (2, .int 0), (3, .int mi), (4, .int t), (5, .int (nmd S c k b e)), (6, .int (S.1 39))] ⟨rfl, rfl, rfl, rfl, rfl, rfl, rfl, trivial⟩ (wr _ _)
theorem m_M_part_11 (K : jK) (d : Nat) (hd : 3 ≤ d) (S : jS) (J : jH) (n : Nat) (k : Int32) (b e : Nat) (hT : Tk S n k b e) (c : Nat) (hc : S.1 31 = nI c) (h6c : c ≤ 6) (g : Nat) (hg : g < 2) (hS : S.1 46 = nI g) (mi t : Int32) : jM K M_M_part d [.ref 59, .int 1, .int 1, .int mi, .int t] (lay S ++ J) (if ¬ k = 48 then rI 17 (lay S ++ J) else rI t (lay (pt1 S g (-1) (-(S.1 39))) ++ J)) 0 0 := by
  refine jM.of (by decide) (Nat.le_of_ble_eq_true rfl) ?_
  have wr : ∀ f v : Int32, jE K M_M_part d 63 [(0, .ref 59), (1, .int 1), (2, .int 1), (3, .int mi), (4, .int t), (5, .int f), (6, .int v)] [] (lay S ++ J) (rI t (lay (pt1 S g f v) ++ J)) 0 0 := by
    intro f v
    refine j_iload_n d_M_part_63 rfl ?_
    refine j_if_eqF (tgt := 92) d_M_part_64 rfl (by decide) ?_
    refine j_aload_n d_M_part_67 rfl ?_
    refine j_getf d_M_part_68 f_M_64 rfl rfl ?_
    refine j_aload_n d_M_part_71 rfl ?_
    refine j_getf d_M_part_72 f_M_203 rfl rfl ?_
    refine j_top (w := .int (nI g)) (congrArg Value.int hS) ?_
    refine j_iload d_M_part_75 rfl ?_
    refine j_iast d_M_part_77 rfl hg (by decide) rfl ?_
    refine j_aload_n d_M_part_78 rfl ?_
    refine j_getf d_M_part_79 f_M_67 rfl rfl ?_
    refine j_aload_n d_M_part_82 rfl ?_
    refine j_getf d_M_part_83 f_M_203 rfl rfl ?_
    refine j_top (w := .int (nI g)) (congrArg Value.int hS) ?_
    refine j_iload d_M_part_86 rfl ?_
    refine j_iast d_M_part_88 rfl hg (by decide) rfl ?_
    refine j_goto (tgt := 124) d_M_part_89 rfl ?_
    refine j_iload d_M_part_124 rfl ?_
    exact j_iret rfl d_M_part_126 ⟨rfl, rfl⟩
  refine j_aload_n d_M_part_0 rfl ?_
  refine j_bipush (v := 45) d_M_part_1 (by decide) ?_
  refine j_retI (j_callV d_M_part_3 v_M_isIt l_M_175 rfl rfl (m_M_isIt K (d - 1) S J n k b e hT 45 (by decide)) (by omega) (by decide) (Nat.le_of_ble_eq_true rfl) rfl) rfl ?_
  have go : jE K M_M_part d 15 [(0, .ref 59), (1, .int 1), (2, .int 1), (3, .int mi), (4, .int t)] [] (lay S ++ J) (if ¬ k = 48 then rI 17 (lay S ++ J) else rI t (lay (pt1 S g (-1) (-(S.1 39))) ++ J)) 0 0 := by
    refine j_iload_n d_M_part_15 rfl ?_
    refine j_if_eqF (tgt := 23) d_M_part_16 rfl (by decide) ?_
    refine j_iconst (v := -1) d_M_part_19 rfl ?_
    refine j_goto (tgt := 27) d_M_part_20 rfl ?_
    refine j_istore d_M_part_27 (by decide) ?_
    refine j_aload_n d_M_part_29 rfl ?_
    refine j_getf d_M_part_30 f_M_132 rfl rfl ?_
    refine j_iconst (v := 2) d_M_part_33 rfl ?_
    rcases hT.num with ⟨h2, hk, ham⟩ | ⟨h2, hk⟩
    · rw [if_neg (fun q => q hk)]
      refine j_icmp_eqT (tgt := 45) d_M_part_34 rfl h2 ?_
      refine j_iload_n d_M_part_45 rfl ?_
      refine j_if_eqF (tgt := 57) d_M_part_46 rfl (by decide) ?_
      refine j_aload_n d_M_part_49 rfl ?_
      refine j_getf d_M_part_50 f_M_115 rfl rfl ?_
      refine j_ineg d_M_part_53 ?_
      refine j_goto (tgt := 61) d_M_part_54 rfl ?_
      refine j_istore d_M_part_61 (by decide) ?_
      exact j_loc' [(0, .ref 59), (1, .int 1), (2, .int 1), (3, .int mi), (4, .int t), (5, .int (-1)), (6, .int (-(S.1 39)))] ⟨rfl, rfl, rfl, rfl, rfl, rfl, rfl, trivial⟩ (wr _ _)
    · rw [if_pos hk]
      refine j_icmp_eqF (tgt := 45) d_M_part_34 rfl h2 ?_
      refine j_iload d_M_part_37 rfl ?_
      refine j_if_geF (tgt := 45) d_M_part_39 rfl (by decide) ?_
      refine j_bipush (v := 17) d_M_part_42 (by decide) ?_
      exact j_iret rfl d_M_part_44 ⟨rfl, rfl⟩
  by_cases h45 : k = 45
  · rw [b2i_dT h45]
    refine j_if_eqF (tgt := 15) d_M_part_6 rfl (by decide) ?_
    refine j_iload_n d_M_part_9 rfl ?_
    refine j_if_neT (tgt := 15) d_M_part_10 rfl (by decide) ?_
    exact go
  · rw [b2i_dF h45]
    refine j_if_eqT (tgt := 15) d_M_part_6 rfl rfl ?_
    exact go
theorem Tk.fin {S : jS} {n : Nat} {k : Int32} {b e : Nat} (h : Tk S n k b e) : (S.1 36 = 0 ∧ k = 46) ∨ (¬ S.1 36 = 0 ∧ ¬ k = 46) := by
  obtain ⟨-, -, -, -, -, h4⟩ := h
  rcases h4 with ⟨a1, a2, a3, a4⟩ | ⟨a1, a2, a3, a4, a5, a6, a7, a8⟩ | ⟨a1, a2, a3, a4, a5, a6⟩ | ⟨a1, a2, a3, a4, a5, a6, a7, a8, a9⟩ | ⟨a1, a2⟩
  · exact .inl ⟨a2, a1⟩
  · exact .inr ⟨by rw [a2]; decide, by rw [a1]; decide⟩
  · exact .inr ⟨by rw [a2]; decide, by rw [a1]; decide⟩
  · exact .inr ⟨by rw [a5]; decide, isSg_46 a2⟩
  · exact .inr ⟨by rw [a2]; decide, by rw [a1]; decide⟩
/-- behind a change -/
def acQ (S : jS) (J : jH) (k : Int32) (g : Nat) : jO → jH → Prop := if g = 0 ∧ k = 44 then rI 7 (lay (s1 S 46 1) ++ J) else if k = 46 then rI 16 (lay S ++ J) else rI 17 (lay S ++ J)
theorem m_M_afterChange (K : jK) (d : Nat) (hd : 3 ≤ d) (S : jS) (J : jH) (n : Nat) (k : Int32) (b e : Nat) (hT : Tk S n k b e) (c : Nat) (hc : S.1 31 = nI c) (h6c : c ≤ 6) (g : Nat) (hg : g < 2) (hS : S.1 46 = nI g) : jM K M_M_afterChange d [.ref 59] (lay S ++ J) (acQ S J k g) 0 0 := by
  refine jM.of (by decide) (Nat.le_of_ble_eq_true rfl) ?_
  have no : ¬ (g = 0 ∧ k = 44) → jE K M_M_afterChange d 24 [(0, .ref 59)] [] (lay S ++ J) (acQ S J k g) 0 0 := by
    intro hn
    unfold acQ
    rw [if_neg hn]
    refine j_aload_n d_M_afterChange_24 rfl ?_
    refine j_getf d_M_afterChange_25 f_M_132 rfl rfl ?_
    rcases hT.fin with ⟨h0, hk⟩ | ⟨h0, hk⟩
    · rw [if_pos hk]
      refine j_if_neF (tgt := 36) d_M_afterChange_28 rfl h0 ?_
      refine j_bipush (v := 16) d_M_afterChange_31 (by decide) ?_
      refine j_goto (tgt := 38) d_M_afterChange_33 rfl ?_
      exact j_iret rfl d_M_afterChange_38 ⟨rfl, rfl⟩
    · rw [if_neg hk]
      refine j_if_neT (tgt := 36) d_M_afterChange_28 rfl h0 ?_
      refine j_bipush (v := 17) d_M_afterChange_36 (by decide) ?_
      exact j_iret rfl d_M_afterChange_38 ⟨rfl, rfl⟩
  refine j_aload_n d_M_afterChange_0 rfl ?_
  refine j_getf d_M_afterChange_1 f_M_203 rfl rfl ?_
  refine j_top (w := .int (nI g)) (congrArg Value.int hS) ?_
  by_cases hg0 : g = 0
  · refine j_if_neF (tgt := 24) d_M_afterChange_4 rfl (by rw [hg0]; rfl) ?_
    refine j_aload_n d_M_afterChange_7 rfl ?_
    refine j_bipush (v := 44) d_M_afterChange_8 (by decide) ?_
    refine j_retI (j_callV d_M_afterChange_10 v_M_isIt l_M_175 rfl rfl (m_M_isIt K (d - 1) S J n k b e hT 44 (by decide)) (by omega) (by decide) (Nat.le_of_ble_eq_true rfl) rfl) rfl ?_
    by_cases h44 : k = 44
    · rw [b2i_dT h44]
      refine j_if_eqF (tgt := 24) d_M_afterChange_13 rfl (by decide) ?_
      refine j_aload_n d_M_afterChange_16 rfl ?_
      refine j_iconst (v := 1) d_M_afterChange_17 rfl ?_
      refine j_putf d_M_afterChange_18 f_M_203 rfl (Nat.le_of_ble_eq_true rfl) rfl rfl rfl ?_
      refine j_bipush (v := 7) d_M_afterChange_21 (by decide) ?_
      refine j_iret rfl d_M_afterChange_23 ?_
      unfold acQ
      rw [if_pos ⟨hg0, h44⟩]
      exact ⟨rfl, rfl⟩
    · rw [b2i_dF h44]
      refine j_if_eqT (tgt := 24) d_M_afterChange_13 rfl rfl ?_
      exact no (fun q => h44 q.2)
  · refine j_if_neT (tgt := 24) d_M_afterChange_4 rfl (fun q => hg0 ((nI_eq (b := 0) (by omega) (by omega)).mp q)) ?_
    exact no (fun q => hg0 q.1)
