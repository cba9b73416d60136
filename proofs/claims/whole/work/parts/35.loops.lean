/-! BitLoom: greatest, least, total, sortIn, listAll, changeAll -/
def fldL (g : Int32 → Int32 → Int32) (x : Int32) (f : Nat → Int32) : Nat → Nat → Int32 → Int32
  | 0, _, v => v
  | k + 1, i, v => fldL g x f k (i + 1) (if bt x i = true then g v (f i) else v)
abbrev fvl (A : Nat → Nat → Int32) (f w : Nat) : Int32 := vval (A 1 f) (A 2 f) (A 3 f) (A 4 w)
theorem m_B_greatest (K : jK) (d : Nat) (hd : 2 ≤ d) (S : jS) (J : jH) (f : Nat) (hf : f < 6) (x : Int32) : jM K M_B_greatest d [.ref 32, .int (nI f), .int x] (lay S ++ J) (rI (fldL maxJ x (fun w => fvl S.2.1 f w) 32 0 (-512)) (lay S ++ J)) 0 0 := by
  refine jM.of (by decide) (Nat.le_of_ble_eq_true rfl) ?_
  have loop : ∀ m i v, i + m = 32 → jE K M_B_greatest d 7 [(0, .ref 32), (1, .int (nI f)), (2, .int x), (3, .int v), (4, .int (nI i))] [] (lay S ++ J) (rI (fldL maxJ x (fun w => fvl S.2.1 f w) m i v) (lay S ++ J)) 0 0 := by
    intro m
    induction m with
    | zero =>
      intro i v hi
      refine j_iload d_B_greatest_7 rfl ?_
      refine j_bipush (v := 32) d_B_greatest_9 (by decide) ?_
      refine j_icmp_geT (tgt := 41) d_B_greatest_11 rfl (show nI 32 ≤ nI i from nI_le (by omega) (by omega)) ?_
      refine j_iload_n d_B_greatest_41 rfl ?_
      exact j_iret rfl d_B_greatest_42 ⟨rfl, rfl⟩
    | succ m ih =>
      intro i v hi
      refine j_iload d_B_greatest_7 rfl ?_
      refine j_bipush (v := 32) d_B_greatest_9 (by decide) ?_
      refine j_icmp_geF (tgt := 41) d_B_greatest_11 rfl (show ¬ nI 32 ≤ nI i from nI_ge (by omega) (by omega)) ?_
      refine j_iload_n d_B_greatest_14 rfl ?_
      refine j_iload d_B_greatest_15 rfl ?_
      refine j_retI (j_callS d_B_greatest_17 s_W_holds l_B_133 rfl (m_W_holds K (d - 1) (lay S ++ J) x i (by omega)) (by omega) (by decide) (Nat.le_of_ble_eq_true rfl) rfl) rfl ?_
      refine j_if_eq (tgt := 35) d_B_greatest_20 rfl (fun h0 => ?_) (fun h0 => ?_)
      · refine j_iincN d_B_greatest_35 rfl (by decide) ?_
        refine j_goto (tgt := 7) d_B_greatest_38 rfl ?_
        refine j_loc' [(0, .ref 32), (1, .int (nI f)), (2, .int x), (3, .int v), (4, .int (nI (i + 1)))] ⟨rfl, rfl, rfl, rfl, rfl, trivial⟩ ?_
        have := ih (i + 1) v (by omega)
        rw [fldL, if_neg (by rw [b2i_ze h0]; decide)]
        exact this
      · refine j_iload_n d_B_greatest_23 rfl ?_
        refine j_aload_n d_B_greatest_24 rfl ?_
        refine j_iload_n d_B_greatest_25 rfl ?_
        refine j_iload d_B_greatest_26 rfl ?_
        refine j_retI (j_callV d_B_greatest_28 v_B_valueOf l_B_210 rfl rfl (m_B_valueOf K (d - 1) (by omega) S J f i hf (by omega)) (by omega) (by decide) (Nat.le_of_ble_eq_true rfl) rfl) rfl ?_
        refine j_retI (j_callS d_B_greatest_31 s_JMath_max l_B_213 rfl (m_JMath_max K (d - 1) (lay S ++ J) v (fvl S.2.1 f i)) (by omega) (by decide) (Nat.le_of_ble_eq_true rfl) rfl) rfl ?_
        refine j_istore_n d_B_greatest_34 (by decide) ?_
        refine j_iincN d_B_greatest_35 rfl (by decide) ?_
        refine j_goto (tgt := 7) d_B_greatest_38 rfl ?_
        refine j_loc' [(0, .ref 32), (1, .int (nI f)), (2, .int x), (3, .int (maxJ v (fvl S.2.1 f i))), (4, .int (nI (i + 1)))] ⟨rfl, rfl, rfl, rfl, rfl, trivial⟩ ?_
        have := ih (i + 1) (maxJ v (fvl S.2.1 f i)) (by omega)
        rw [fldL, if_pos (b2i_ne h0)]
        exact this
  refine j_sipush (v := -512) d_B_greatest_0 (by decide) ?_
  refine j_istore_n d_B_greatest_3 (by decide) ?_
  refine j_iconst (v := 0) d_B_greatest_4 rfl ?_
  refine j_istore d_B_greatest_5 (by decide) ?_
  refine j_loc' [(0, .ref 32), (1, .int (nI f)), (2, .int x), (3, .int (-512)), (4, .int (nI 0))] ⟨rfl, rfl, rfl, rfl, rfl, trivial⟩ ?_
  exact loop 32 0 (-512) rfl
theorem m_B_least (K : jK) (d : Nat) (hd : 2 ≤ d) (S : jS) (J : jH) (f : Nat) (hf : f < 6) (x : Int32) : jM K M_B_least d [.ref 32, .int (nI f), .int x] (lay S ++ J) (rI (fldL minJ x (fun w => fvl S.2.1 f w) 32 0 (1023)) (lay S ++ J)) 0 0 := by
  refine jM.of (by decide) (Nat.le_of_ble_eq_true rfl) ?_
  have loop : ∀ m i v, i + m = 32 → jE K M_B_least d 7 [(0, .ref 32), (1, .int (nI f)), (2, .int x), (3, .int v), (4, .int (nI i))] [] (lay S ++ J) (rI (fldL minJ x (fun w => fvl S.2.1 f w) m i v) (lay S ++ J)) 0 0 := by
    intro m
    induction m with
    | zero =>
      intro i v hi
      refine j_iload d_B_least_7 rfl ?_
      refine j_bipush (v := 32) d_B_least_9 (by decide) ?_
      refine j_icmp_geT (tgt := 41) d_B_least_11 rfl (show nI 32 ≤ nI i from nI_le (by omega) (by omega)) ?_
      refine j_iload_n d_B_least_41 rfl ?_
      exact j_iret rfl d_B_least_42 ⟨rfl, rfl⟩
    | succ m ih =>
      intro i v hi
      refine j_iload d_B_least_7 rfl ?_
      refine j_bipush (v := 32) d_B_least_9 (by decide) ?_
      refine j_icmp_geF (tgt := 41) d_B_least_11 rfl (show ¬ nI 32 ≤ nI i from nI_ge (by omega) (by omega)) ?_
      refine j_iload_n d_B_least_14 rfl ?_
      refine j_iload d_B_least_15 rfl ?_
      refine j_retI (j_callS d_B_least_17 s_W_holds l_B_133 rfl (m_W_holds K (d - 1) (lay S ++ J) x i (by omega)) (by omega) (by decide) (Nat.le_of_ble_eq_true rfl) rfl) rfl ?_
      refine j_if_eq (tgt := 35) d_B_least_20 rfl (fun h0 => ?_) (fun h0 => ?_)
      · refine j_iincN d_B_least_35 rfl (by decide) ?_
        refine j_goto (tgt := 7) d_B_least_38 rfl ?_
        refine j_loc' [(0, .ref 32), (1, .int (nI f)), (2, .int x), (3, .int v), (4, .int (nI (i + 1)))] ⟨rfl, rfl, rfl, rfl, rfl, trivial⟩ ?_
        have := ih (i + 1) v (by omega)
        rw [fldL, if_neg (by rw [b2i_ze h0]; decide)]
        exact this
      · refine j_iload_n d_B_least_23 rfl ?_
        refine j_aload_n d_B_least_24 rfl ?_
        refine j_iload_n d_B_least_25 rfl ?_
        refine j_iload d_B_least_26 rfl ?_
        refine j_retI (j_callV d_B_least_28 v_B_valueOf l_B_210 rfl rfl (m_B_valueOf K (d - 1) (by omega) S J f i hf (by omega)) (by omega) (by decide) (Nat.le_of_ble_eq_true rfl) rfl) rfl ?_
        refine j_retI (j_callS d_B_least_31 s_JMath_min l_B_218 rfl (m_JMath_min K (d - 1) (lay S ++ J) v (fvl S.2.1 f i)) (by omega) (by decide) (Nat.le_of_ble_eq_true rfl) rfl) rfl ?_
        refine j_istore_n d_B_least_34 (by decide) ?_
        refine j_iincN d_B_least_35 rfl (by decide) ?_
        refine j_goto (tgt := 7) d_B_least_38 rfl ?_
        refine j_loc' [(0, .ref 32), (1, .int (nI f)), (2, .int x), (3, .int (minJ v (fvl S.2.1 f i))), (4, .int (nI (i + 1)))] ⟨rfl, rfl, rfl, rfl, rfl, trivial⟩ ?_
        have := ih (i + 1) (minJ v (fvl S.2.1 f i)) (by omega)
        rw [fldL, if_pos (b2i_ne h0)]
        exact this
  refine j_sipush (v := 1023) d_B_least_0 (by decide) ?_
  refine j_istore_n d_B_least_3 (by decide) ?_
  refine j_iconst (v := 0) d_B_least_4 rfl ?_
  refine j_istore d_B_least_5 (by decide) ?_
  refine j_loc' [(0, .ref 32), (1, .int (nI f)), (2, .int x), (3, .int (1023)), (4, .int (nI 0))] ⟨rfl, rfl, rfl, rfl, rfl, trivial⟩ ?_
  exact loop 32 0 (1023) rfl
theorem m_B_total (K : jK) (d : Nat) (hd : 2 ≤ d) (S : jS) (J : jH) (f : Nat) (hf : f < 6) (x : Int32) : jM K M_B_total d [.ref 32, .int (nI f), .int x] (lay S ++ J) (rI (fldL (fun a b => a + b) x (fun w => fvl S.2.1 f w) 32 0 (0)) (lay S ++ J)) 0 0 := by
  refine jM.of (by decide) (Nat.le_of_ble_eq_true rfl) ?_
  have loop : ∀ m i v, i + m = 32 → jE K M_B_total d 5 [(0, .ref 32), (1, .int (nI f)), (2, .int x), (3, .int v), (4, .int (nI i))] [] (lay S ++ J) (rI (fldL (fun a b => a + b) x (fun w => fvl S.2.1 f w) m i v) (lay S ++ J)) 0 0 := by
    intro m
    induction m with
    | zero =>
      intro i v hi
      refine j_iload d_B_total_5 rfl ?_
      refine j_bipush (v := 32) d_B_total_7 (by decide) ?_
      refine j_icmp_geT (tgt := 37) d_B_total_9 rfl (show nI 32 ≤ nI i from nI_le (by omega) (by omega)) ?_
      refine j_iload_n d_B_total_37 rfl ?_
      exact j_iret rfl d_B_total_38 ⟨rfl, rfl⟩
    | succ m ih =>
      intro i v hi
      refine j_iload d_B_total_5 rfl ?_
      refine j_bipush (v := 32) d_B_total_7 (by decide) ?_
      refine j_icmp_geF (tgt := 37) d_B_total_9 rfl (show ¬ nI 32 ≤ nI i from nI_ge (by omega) (by omega)) ?_
      refine j_iload_n d_B_total_12 rfl ?_
      refine j_iload d_B_total_13 rfl ?_
      refine j_retI (j_callS d_B_total_15 s_W_holds l_B_133 rfl (m_W_holds K (d - 1) (lay S ++ J) x i (by omega)) (by omega) (by decide) (Nat.le_of_ble_eq_true rfl) rfl) rfl ?_
      refine j_if_eq (tgt := 31) d_B_total_18 rfl (fun h0 => ?_) (fun h0 => ?_)
      · refine j_iincN d_B_total_31 rfl (by decide) ?_
        refine j_goto (tgt := 5) d_B_total_34 rfl ?_
        refine j_loc' [(0, .ref 32), (1, .int (nI f)), (2, .int x), (3, .int v), (4, .int (nI (i + 1)))] ⟨rfl, rfl, rfl, rfl, rfl, trivial⟩ ?_
        have := ih (i + 1) v (by omega)
        rw [fldL, if_neg (by rw [b2i_ze h0]; decide)]
        exact this
      · refine j_iload_n d_B_total_21 rfl ?_
        refine j_aload_n d_B_total_22 rfl ?_
        refine j_iload_n d_B_total_23 rfl ?_
        refine j_iload d_B_total_24 rfl ?_
        refine j_retI (j_callV d_B_total_26 v_B_valueOf l_B_210 rfl rfl (m_B_valueOf K (d - 1) (by omega) S J f i hf (by omega)) (by omega) (by decide) (Nat.le_of_ble_eq_true rfl) rfl) rfl ?_

        refine j_iadd d_B_total_29 ?_
        refine j_istore_n d_B_total_30 (by decide) ?_
        refine j_iincN d_B_total_31 rfl (by decide) ?_
        refine j_goto (tgt := 5) d_B_total_34 rfl ?_
        refine j_loc' [(0, .ref 32), (1, .int (nI f)), (2, .int x), (3, .int ((fun a b => a + b) v (fvl S.2.1 f i))), (4, .int (nI (i + 1)))] ⟨rfl, rfl, rfl, rfl, rfl, trivial⟩ ?_
        have := ih (i + 1) ((fun a b => a + b) v (fvl S.2.1 f i)) (by omega)
        rw [fldL, if_pos (b2i_ne h0)]
        exact this
  refine j_iconst (v := 0) d_B_total_0 rfl ?_
  refine j_istore_n d_B_total_1 (by decide) ?_
  refine j_iconst (v := 0) d_B_total_2 rfl ?_
  refine j_istore d_B_total_3 (by decide) ?_
  refine j_loc' [(0, .ref 32), (1, .int (nI f)), (2, .int x), (3, .int (0)), (4, .int (nI 0))] ⟨rfl, rfl, rfl, rfl, rfl, trivial⟩ ?_
  exact loop 32 0 (0) rfl
/-- a word sorted into the list: the list from k down, and where the word comes -/
def insF (val : Int32 → Int32) (v : Int32) : Nat → (Nat → Int32) → (Nat → Int32) × Nat
  | 0, f => (f, 0)
  | k + 1, f => if val (f k) ≤ v then (f, k + 1) else insF val v k (upd f (k + 1) (f k))
def insW (val : Int32 → Int32) (m : Nat) (w : Nat) (f : Nat → Int32) : Nat → Int32 := upd (insF val (val (nI w)) m f).1 (insF val (val (nI w)) m f).2 (nI w)
def lsOk (f : Nat → Int32) (m : Nat) : Prop := ∀ j, j < m → ∃ w : Nat, w < 32 ∧ f j = nI w
abbrev wvl (A : Nat → Nat → Int32) (f : Nat) (x : Int32) : Int32 := fvl A f x.toNatClampNeg
theorem m_B_sortIn (K : jK) (d : Nat) (hd : 3 ≤ d) (S : jS) (J : jH) (w f : Nat) (hw : w < 32) (hf : f < 6) (m : Nat) (hm : m < 32) (h0 : S.1 0 = nI m) (hL : lsOk (S.2.1 9) m) : jM K M_B_sortIn d [.ref 32, .int (nI w), .int (nI f)] (lay S ++ J) (rV (lay (s1 (s2 S 9 (insW (wvl S.2.1 f) m w (S.2.1 9))) 0 (nI (m + 1))) ++ J)) 0 0 := by
  refine jM.of (by decide) (Nat.le_of_ble_eq_true rfl) ?_
  have fin : ∀ (k : Nat) (g : Nat → Int32), k < 32 → jE K M_B_sortIn d 58 [(0, .ref 32), (1, .int (nI w)), (2, .int (nI f)), (3, .int (wvl S.2.1 f (nI w))), (4, .int (nI k))] [] (lay (s2 S 9 g) ++ J) (rV (lay (s1 (s2 S 9 (upd g k (nI w))) 0 (nI (m + 1))) ++ J)) 0 0 := by
    intro k g hk
    refine j_aload_n d_B_sortIn_58 rfl ?_
    refine j_getf d_B_sortIn_59 f_B_39 rfl rfl ?_
    refine j_iload d_B_sortIn_62 rfl ?_
    refine j_iload_n d_B_sortIn_64 rfl ?_
    refine j_iast d_B_sortIn_65 rfl hk (by decide) rfl ?_
    refine j_aload_n d_B_sortIn_66 rfl ?_
    refine j_dup d_B_sortIn_67 rfl ?_
    refine j_getf d_B_sortIn_68 f_B_169 rfl rfl ?_
    refine j_iconst (v := 1) d_B_sortIn_71 rfl ?_
    refine j_iadd d_B_sortIn_72 ?_
    refine j_top (w := .int (nI (m + 1))) (by rw [nI_succ]; exact congrArg (fun x => Value.int (x + 1)) h0) ?_
    refine j_putf d_B_sortIn_73 f_B_169 rfl (Nat.le_of_ble_eq_true rfl) rfl rfl rfl ?_
    exact j_vret rfl d_B_sortIn_76 ⟨rfl, rfl⟩
  have loop : ∀ (k : Nat) (g : Nat → Int32), k < 32 → lsOk g k → jE K M_B_sortIn d 13 [(0, .ref 32), (1, .int (nI w)), (2, .int (nI f)), (3, .int (wvl S.2.1 f (nI w))), (4, .int (nI k))] [] (lay (s2 S 9 g) ++ J) (rV (lay (s1 (s2 S 9 (upd (insF (wvl S.2.1 f) (wvl S.2.1 f (nI w)) k g).1 (insF (wvl S.2.1 f) (wvl S.2.1 f (nI w)) k g).2 (nI w))) 0 (nI (m + 1))) ++ J)) 0 0 := by
    intro k
    induction k with
    | zero =>
      intro g hk hg
      refine j_iload d_B_sortIn_13 rfl ?_
      refine j_if_leT (tgt := 58) d_B_sortIn_15 rfl (by decide) ?_
      exact fin 0 g hk
    | succ k ih =>
      intro g hk hg
      obtain ⟨u, hu, hgu⟩ := hg k (by omega)
      refine j_iload d_B_sortIn_13 rfl ?_
      refine j_if_leF (tgt := 58) d_B_sortIn_15 rfl (show ¬ nI (k + 1) ≤ nI 0 from nI_ge (by omega) (by omega)) ?_
      refine j_aload_n d_B_sortIn_18 rfl ?_
      refine j_iload_n d_B_sortIn_19 rfl ?_
      refine j_aload_n d_B_sortIn_20 rfl ?_
      refine j_getf d_B_sortIn_21 f_B_39 rfl rfl ?_
      refine j_iload d_B_sortIn_24 rfl ?_
      refine j_iconst (v := 1) d_B_sortIn_26 rfl ?_
      refine j_isub d_B_sortIn_27 ?_
      refine j_top (w := .int (nI k)) (by show Value.int (nI (k + 1) - nI 1) = _; rw [pk_sub (by omega)]; rfl) ?_
      refine j_iald d_B_sortIn_28 rfl (show k < 32 by omega) (by decide) ?_
      refine j_top (w := .int (nI u)) (congrArg Value.int hgu) ?_
      refine j_retI (j_callV d_B_sortIn_29 v_B_valueOf l_B_210 rfl rfl (m_B_valueOf K (d - 1) (by omega) (s2 S 9 g) J f u hf hu) (by omega) (by decide) (Nat.le_of_ble_eq_true rfl) rfl) rfl ?_
      refine j_top (w := .int (wvl S.2.1 f (g k))) (by rw [hgu]; show _ = Value.int (fvl S.2.1 f (nI u).toNatClampNeg); rw [nI_clamp (by omega)]; rfl) ?_
      refine j_iload_n d_B_sortIn_32 rfl ?_
      refine j_icmp_le (tgt := 58) d_B_sortIn_33 rfl (fun hle => ?_) (fun hle => ?_)
      · rw [insF, if_pos hle]
        exact fin (k + 1) g hk
      · rw [insF, if_neg hle]
        refine j_aload_n d_B_sortIn_36 rfl ?_
        refine j_getf d_B_sortIn_37 f_B_39 rfl rfl ?_
        refine j_iload d_B_sortIn_40 rfl ?_
        refine j_aload_n d_B_sortIn_42 rfl ?_
        refine j_getf d_B_sortIn_43 f_B_39 rfl rfl ?_
        refine j_iload d_B_sortIn_46 rfl ?_
        refine j_iconst (v := 1) d_B_sortIn_48 rfl ?_
        refine j_isub d_B_sortIn_49 ?_
        refine j_top (w := .int (nI k)) (by show Value.int (nI (k + 1) - nI 1) = _; rw [pk_sub (by omega)]; rfl) ?_
        refine j_iald d_B_sortIn_50 rfl (show k < 32 by omega) (by decide) ?_
        refine j_top (w := .int (g k)) rfl ?_
        refine j_iast d_B_sortIn_51 rfl hk (by decide) rfl ?_
        refine j_hp (h' := lay (s2 S 9 (upd g (k + 1) (g k))) ++ J) rfl ?_
        refine j_iincP d_B_sortIn_52 rfl (by decide) ?_
        refine j_goto (tgt := 13) d_B_sortIn_55 rfl ?_
        refine j_loc' [(0, .ref 32), (1, .int (nI w)), (2, .int (nI f)), (3, .int (wvl S.2.1 f (nI w))), (4, .int (nI k))] ⟨rfl, rfl, rfl, rfl, rfl, trivial⟩ ?_
        refine ih (upd g (k + 1) (g k)) (by omega) (fun j hj => ?_)
        obtain ⟨u2, hu2, h2⟩ := hg j (by omega)
        refine ⟨u2, hu2, ?_⟩
        rw [← h2]
        exact if_neg (by omega)
  refine j_aload_n d_B_sortIn_0 rfl ?_
  refine j_iload_n d_B_sortIn_1 rfl ?_
  refine j_iload_n d_B_sortIn_2 rfl ?_
  refine j_retI (j_callV d_B_sortIn_3 v_B_valueOf l_B_210 rfl rfl (m_B_valueOf K (d - 1) (by omega) S J f w hf hw) (by omega) (by decide) (Nat.le_of_ble_eq_true rfl) rfl) rfl ?_
  refine j_top (w := .int (wvl S.2.1 f (nI w))) (by show _ = Value.int (fvl S.2.1 f (nI w).toNatClampNeg); rw [nI_clamp (by omega)]) ?_
  refine j_istore_n d_B_sortIn_6 (by decide) ?_
  refine j_aload_n d_B_sortIn_7 rfl ?_
  refine j_getf d_B_sortIn_8 f_B_169 rfl rfl ?_
  refine j_top (w := .int (nI m)) (congrArg Value.int h0) ?_
  refine j_istore d_B_sortIn_11 (by decide) ?_
  refine j_loc' [(0, .ref 32), (1, .int (nI w)), (2, .int (nI f)), (3, .int (wvl S.2.1 f (nI w))), (4, .int (nI m))] ⟨rfl, rfl, rfl, rfl, rfl, trivial⟩ ?_
  exact loop m (S.2.1 9) hm hL
/-- the list of the words in a set, sorted -/
def lstL (val : Int32 → Int32) (x : Int32) : Nat → Nat → Nat → (Nat → Int32) → (Nat → Int32) × Nat
  | 0, _, m, f => (f, m)
  | k + 1, i, m, f => if bt x i = true then lstL val x k (i + 1) (m + 1) (insW val m i f) else lstL val x k (i + 1) m f
theorem insF_ok (val : Int32 → Int32) (v : Int32) : ∀ (k : Nat) (f : Nat → Int32) (m : Nat), k ≤ m → lsOk f m → (insF val v k f).2 ≤ k ∧ ∀ j, j < m + 1 → ¬ j = (insF val v k f).2 → (j < m ∨ k = m) → ∃ w : Nat, w < 32 ∧ (insF val v k f).1 j = nI w
  | 0, f, m, hk, hf => ⟨Nat.le_refl _, fun j hj hne hor => by
    have h0 : ¬ j = 0 := hne
    rcases hor with h | h
    · exact hf j h
    · omega⟩
  | k + 1, f, m, hk, hf => by
    unfold insF
    by_cases h : val (f k) ≤ v
    · rw [if_pos h]
      refine ⟨Nat.le_refl _, fun j hj hne hor => ?_⟩
      have h0 : ¬ j = k + 1 := hne
      exact hf j (by omega)
    · rw [if_neg h]
      by_cases hkm : k + 1 = m
      · have hg : lsOk (upd f (k + 1) (f k)) (m + 1) := by
          intro j hj
          by_cases hjk : j = k + 1
          · obtain ⟨u, hu, h2⟩ := hf k (by omega)
            exact ⟨u, hu, by rw [← h2]; exact if_pos hjk⟩
          · obtain ⟨u, hu, h2⟩ := hf j (by omega)
            exact ⟨u, hu, by rw [← h2]; exact if_neg hjk⟩
        obtain ⟨a1, a2⟩ := insF_ok val v k (upd f (k + 1) (f k)) (m + 1) (by omega) hg
        exact ⟨by omega, fun j hj hne _ => a2 j (by omega) hne (.inl (by omega))⟩
      · have hg : lsOk (upd f (k + 1) (f k)) m := by
          intro j hj
          by_cases hjk : j = k + 1
          · obtain ⟨u, hu, h2⟩ := hf k (by omega)
            exact ⟨u, hu, by rw [← h2]; exact if_pos hjk⟩
          · obtain ⟨u, hu, h2⟩ := hf j (by omega)
            exact ⟨u, hu, by rw [← h2]; exact if_neg hjk⟩
        obtain ⟨a1, a2⟩ := insF_ok val v k (upd f (k + 1) (f k)) m (by omega) hg
        exact ⟨by omega, fun j hj hne hor => a2 j (by omega) hne (.inl (by omega))⟩
theorem insW_ok (val : Int32 → Int32) {m w : Nat} (hw : w < 32) {f : Nat → Int32} (hf : lsOk f m) : lsOk (insW val m w f) (m + 1) := by
  obtain ⟨a1, a2⟩ := insF_ok val (val (nI w)) m f m (Nat.le_refl _) hf
  intro j hj
  by_cases h : j = (insF val (val (nI w)) m f).2
  · exact ⟨w, hw, if_pos h⟩
  · obtain ⟨u, hu, h2⟩ := a2 j hj h (.inr rfl)
    exact ⟨u, hu, by rw [← h2]; exact if_neg h⟩
theorem m_B_listAll (K : jK) (d : Nat) (hd : 4 ≤ d) (S : jS) (J : jH) (f : Nat) (hf : f < 6) (x : Int32) : jM K M_B_listAll d [.ref 32, .int (nI f), .int x] (lay S ++ J) (rI (nI (lstL (wvl S.2.1 f) x 32 0 0 (S.2.1 9)).2) (lay (s1 (s2 S 9 (lstL (wvl S.2.1 f) x 32 0 0 (S.2.1 9)).1) 0 (nI (lstL (wvl S.2.1 f) x 32 0 0 (S.2.1 9)).2)) ++ J)) 0 0 := by
  refine jM.of (by decide) (Nat.le_of_ble_eq_true rfl) ?_
  have loop : ∀ k i m (g : Nat → Int32), i + k = 32 → m ≤ i → lsOk g m → jE K M_B_listAll d 7 [(0, .ref 32), (1, .int (nI f)), (2, .int x), (3, .int (nI i))] [] (lay (s1 (s2 S 9 g) 0 (nI m)) ++ J) (rI (nI (lstL (wvl S.2.1 f) x k i m g).2) (lay (s1 (s2 S 9 (lstL (wvl S.2.1 f) x k i m g).1) 0 (nI (lstL (wvl S.2.1 f) x k i m g).2)) ++ J)) 0 0 := by
    intro k
    induction k with
    | zero =>
      intro i m g hi hm hg
      refine j_iload_n d_B_listAll_7 rfl ?_
      refine j_bipush (v := 32) d_B_listAll_8 (by decide) ?_
      refine j_icmp_geT (tgt := 33) d_B_listAll_10 rfl (show nI 32 ≤ nI i from nI_le (by omega) (by omega)) ?_
      refine j_aload_n d_B_listAll_33 rfl ?_
      refine j_getf d_B_listAll_34 f_B_169 rfl rfl ?_
      exact j_iret rfl d_B_listAll_37 ⟨rfl, rfl⟩
    | succ k ih =>
      intro i m g hi hm hg
      refine j_iload_n d_B_listAll_7 rfl ?_
      refine j_bipush (v := 32) d_B_listAll_8 (by decide) ?_
      refine j_icmp_geF (tgt := 33) d_B_listAll_10 rfl (show ¬ nI 32 ≤ nI i from nI_ge (by omega) (by omega)) ?_
      refine j_iload_n d_B_listAll_13 rfl ?_
      refine j_iload_n d_B_listAll_14 rfl ?_
      refine j_retI (j_callS d_B_listAll_15 s_W_holds l_B_133 rfl (m_W_holds K (d - 1) _ x i (by omega)) (by omega) (by decide) (Nat.le_of_ble_eq_true rfl) rfl) rfl ?_
      refine j_if_eq (tgt := 27) d_B_listAll_18 rfl (fun h0 => ?_) (fun h0 => ?_)
      · rw [lstL, if_neg (by rw [b2i_ze h0]; decide)]
        refine j_iincN d_B_listAll_27 rfl (by decide) ?_
        refine j_goto (tgt := 7) d_B_listAll_30 rfl ?_
        refine j_loc' [(0, .ref 32), (1, .int (nI f)), (2, .int x), (3, .int (nI (i + 1)))] ⟨rfl, rfl, rfl, rfl, trivial⟩ ?_
        exact ih (i + 1) m g (by omega) (by omega) hg
      · rw [lstL, if_pos (b2i_ne h0)]
        refine j_aload_n d_B_listAll_21 rfl ?_
        refine j_iload_n d_B_listAll_22 rfl ?_
        refine j_iload_n d_B_listAll_23 rfl ?_
        refine j_retV (j_callV d_B_listAll_24 v_B_sortIn l_B_221 rfl rfl (m_B_sortIn K (d - 1) (by omega) (s1 (s2 S 9 g) 0 (nI m)) J i f (by omega) hf m (by omega) rfl hg) (by omega) (by decide) (Nat.le_of_ble_eq_true rfl) rfl) rfl ?_
        refine j_iincN d_B_listAll_27 rfl (by decide) ?_
        refine j_goto (tgt := 7) d_B_listAll_30 rfl ?_
        refine j_loc' [(0, .ref 32), (1, .int (nI f)), (2, .int x), (3, .int (nI (i + 1)))] ⟨rfl, rfl, rfl, rfl, trivial⟩ ?_
        refine j_hp (h' := lay (s1 (s2 S 9 (insW (wvl S.2.1 f) m i g)) 0 (nI (m + 1))) ++ J) rfl ?_
        exact ih (i + 1) (m + 1) (insW (wvl S.2.1 f) m i g) (by omega) (by omega) (insW_ok _ (by omega) hg)
  refine j_aload_n d_B_listAll_0 rfl ?_
  refine j_iconst (v := 0) d_B_listAll_1 rfl ?_
  refine j_putf d_B_listAll_2 f_B_169 rfl (Nat.le_of_ble_eq_true rfl) rfl rfl rfl ?_
  refine j_hp (h' := lay (s1 (s2 S 9 (S.2.1 9)) 0 (nI 0)) ++ J) rfl ?_
  refine j_iconst (v := 0) d_B_listAll_5 rfl ?_
  refine j_istore_n d_B_listAll_6 (by decide) ?_
  refine j_loc' [(0, .ref 32), (1, .int (nI f)), (2, .int x), (3, .int (nI 0))] ⟨rfl, rfl, rfl, rfl, trivial⟩ ?_
  exact loop 32 0 0 (S.2.1 9) rfl (Nat.le_refl _) (fun j hj => by omega)
/-- all the changes: the words, how many were refused, how many were changed -/
def chL (can chg : Int32 → Int32) (x : Int32) : Nat → Nat → (Nat → Int32) → Int32 → Nat → (Nat → Int32) × Int32 × Nat
  | 0, _, f, r, n => (f, r, n)
  | k + 1, i, f, r, n => if bt x i = true then (if can (f i) = 0 then chL can chg x k (i + 1) f (r + 1) n else chL can chg x k (i + 1) (upd f i (chg (f i))) r (n + 1)) else chL can chg x k (i + 1) f r n
theorem m_B_changeAll (K : jK) (d : Nat) (hd : 5 ≤ d) (S : jS) (J : jH) (x : Int32) (q : Chg) (z : Option Chg) (hq : isCs q z S) : jM K M_B_changeAll d [.ref 32, .int x] (lay S ++ J) (rI (nI (chL (canV S.2.1 q z) (chgV S.2.1 q z) x 32 0 (S.2.1 4) (S.1 1) 0).2.2) (lay (s1 (s2 S 4 (chL (canV S.2.1 q z) (chgV S.2.1 q z) x 32 0 (S.2.1 4) (S.1 1) 0).1) 1 (chL (canV S.2.1 q z) (chgV S.2.1 q z) x 32 0 (S.2.1 4) (S.1 1) 0).2.1) ++ J)) 0 0 := by
  refine jM.of (by decide) (Nat.le_of_ble_eq_true rfl) ?_
  have loop : ∀ k i (g : Nat → Int32) (r : Int32) (n : Nat), i + k = 32 → jE K M_B_changeAll d 4 [(0, .ref 32), (1, .int x), (2, .int (nI n)), (3, .int (nI i))] [] (lay (s1 (s2 S 4 g) 1 r) ++ J) (rI (nI (chL (canV S.2.1 q z) (chgV S.2.1 q z) x k i g r n).2.2) (lay (s1 (s2 S 4 (chL (canV S.2.1 q z) (chgV S.2.1 q z) x k i g r n).1) 1 (chL (canV S.2.1 q z) (chgV S.2.1 q z) x k i g r n).2.1) ++ J)) 0 0 := by
    intro k
    induction k with
    | zero =>
      intro i g r n hi
      refine j_iload_n d_B_changeAll_4 rfl ?_
      refine j_bipush (v := 32) d_B_changeAll_5 (by decide) ?_
      refine j_icmp_geT (tgt := 79) d_B_changeAll_7 rfl (show nI 32 ≤ nI i from nI_le (by omega) (by omega)) ?_
      refine j_iload_n d_B_changeAll_79 rfl ?_
      exact j_iret rfl d_B_changeAll_80 ⟨rfl, rfl⟩
    | succ k ih =>
      intro i g r n hi
      have hq' : isCs q z (s1 (s2 S 4 g) 1 r) := hq
      refine j_iload_n d_B_changeAll_4 rfl ?_
      refine j_bipush (v := 32) d_B_changeAll_5 (by decide) ?_
      refine j_icmp_geF (tgt := 79) d_B_changeAll_7 rfl (show ¬ nI 32 ≤ nI i from nI_ge (by omega) (by omega)) ?_
      refine j_iload_n d_B_changeAll_10 rfl ?_
      refine j_iload_n d_B_changeAll_11 rfl ?_
      refine j_retI (j_callS d_B_changeAll_12 s_W_holds l_B_133 rfl (m_W_holds K (d - 1) _ x i (by omega)) (by omega) (by decide) (Nat.le_of_ble_eq_true rfl) rfl) rfl ?_
      refine j_if_eq (tgt := 73) d_B_changeAll_15 rfl (fun h0 => ?_) (fun h0 => ?_)
      · rw [chL, if_neg (by rw [b2i_ze h0]; decide)]
        refine j_iincN d_B_changeAll_73 rfl (by decide) ?_
        refine j_goto (tgt := 4) d_B_changeAll_76 rfl ?_
        refine j_loc' [(0, .ref 32), (1, .int x), (2, .int (nI n)), (3, .int (nI (i + 1)))] ⟨rfl, rfl, rfl, rfl, trivial⟩ ?_
        exact ih (i + 1) g r n (by omega)
      · rw [chL, if_pos (b2i_ne h0)]
        refine j_aload_n d_B_changeAll_18 rfl ?_
        refine j_getf d_B_changeAll_19 f_B_19 rfl rfl ?_
        refine j_iload_n d_B_changeAll_22 rfl ?_
        refine j_retI (j_callV d_B_changeAll_23 v_W_bitsOf l_B_96 rfl rfl (m_W_bitsOf K (d - 1) (s1 (s2 S 4 g) 1 r) J i (by omega)) (by omega) (by decide) (Nat.le_of_ble_eq_true rfl) rfl) rfl ?_
        refine j_top (w := .int (g i)) rfl ?_
        refine j_istore d_B_changeAll_26 (by decide) ?_
        refine j_aload_n d_B_changeAll_28 rfl ?_
        refine j_getf d_B_changeAll_29 f_B_35 rfl rfl ?_
        refine j_iload d_B_changeAll_32 rfl ?_
        refine j_retI (j_callV d_B_changeAll_34 v_S_canChange l_B_224 rfl rfl (m_S_canChange K (d - 1) (by omega) (s1 (s2 S 4 g) 1 r) J (g i) q z hq') (by omega) (by decide) (Nat.le_of_ble_eq_true rfl) rfl) rfl ?_
        refine j_top (w := .int (canV S.2.1 q z (g i))) rfl ?_
        refine j_if_eq (tgt := 63) d_B_changeAll_37 rfl (fun h1 => ?_) (fun h1 => ?_)
        · rw [if_pos h1]
          refine j_aload_n d_B_changeAll_63 rfl ?_
          refine j_dup d_B_changeAll_64 rfl ?_
          refine j_getf d_B_changeAll_65 f_B_165 rfl rfl ?_
          refine j_iconst (v := 1) d_B_changeAll_68 rfl ?_
          refine j_iadd d_B_changeAll_69 ?_
          refine j_putf d_B_changeAll_70 f_B_165 rfl (Nat.le_of_ble_eq_true rfl) rfl rfl rfl ?_
          refine j_hp (h' := lay (s1 (s2 S 4 g) 1 (r + 1)) ++ J) rfl ?_
          refine j_iincN d_B_changeAll_73 rfl (by decide) ?_
          refine j_goto (tgt := 4) d_B_changeAll_76 rfl ?_
          refine j_loc' [(0, .ref 32), (1, .int x), (2, .int (nI n)), (3, .int (nI (i + 1)))] ⟨rfl, rfl, rfl, rfl, trivial⟩ ?_
          exact ih (i + 1) g (r + 1) n (by omega)
        · rw [if_neg h1]
          refine j_aload_n d_B_changeAll_40 rfl ?_
          refine j_getf d_B_changeAll_41 f_B_19 rfl rfl ?_
          refine j_iload_n d_B_changeAll_44 rfl ?_
          refine j_aload_n d_B_changeAll_45 rfl ?_
          refine j_getf d_B_changeAll_46 f_B_35 rfl rfl ?_
          refine j_iload d_B_changeAll_49 rfl ?_
          refine j_retI (j_callV d_B_changeAll_51 v_S_changed l_B_228 rfl rfl (m_S_changed K (d - 1) (by omega) (s1 (s2 S 4 g) 1 r) J (g i) q z hq') (by omega) (by decide) (Nat.le_of_ble_eq_true rfl) rfl) rfl ?_
          refine j_top (w := .int (chgV S.2.1 q z (g i))) rfl ?_
          refine j_retV (j_callV d_B_changeAll_54 v_W_replace l_B_103 rfl rfl (m_W_replace K (d - 1) (s1 (s2 S 4 g) 1 r) J i (by omega) (chgV S.2.1 q z (g i))) (by omega) (by decide) (Nat.le_of_ble_eq_true rfl) rfl) rfl ?_
          refine j_hp (h' := lay (s1 (s2 S 4 (upd g i (chgV S.2.1 q z (g i)))) 1 r) ++ J) rfl ?_
          refine j_iincN d_B_changeAll_57 rfl (by decide) ?_
          refine j_goto (tgt := 73) d_B_changeAll_60 rfl ?_
          refine j_iincN d_B_changeAll_73 rfl (by decide) ?_
          refine j_goto (tgt := 4) d_B_changeAll_76 rfl ?_
          refine j_loc' [(0, .ref 32), (1, .int x), (2, .int (nI (n + 1))), (3, .int (nI (i + 1)))] ⟨rfl, rfl, rfl, rfl, trivial⟩ ?_
          exact ih (i + 1) (upd g i (chgV S.2.1 q z (g i))) r (n + 1) (by omega)
  refine j_iconst (v := 0) d_B_changeAll_0 rfl ?_
  refine j_istore_n d_B_changeAll_1 (by decide) ?_
  refine j_iconst (v := 0) d_B_changeAll_2 rfl ?_
  refine j_istore_n d_B_changeAll_3 (by decide) ?_
  refine j_loc' [(0, .ref 32), (1, .int x), (2, .int (nI 0)), (3, .int (nI 0))] ⟨rfl, rfl, rfl, rfl, trivial⟩ ?_
  refine j_hp (h' := lay (s1 (s2 S 4 (S.2.1 4)) 1 (S.1 1)) ++ J) rfl ?_
  exact loop 32 0 (S.2.1 4) (S.1 1) 0 rfl
