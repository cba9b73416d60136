/-! BitLoom$Fields -/
theorem m_F_isFull (K : jK) (d : Nat) (S : jS) (J : jH) : jM K M_F_isFull d [.ref 33] (lay S ++ J) (rI (if 6 ≤ S.1 2 then 1 else 0) (lay S ++ J)) 0 0 := by
  refine jM.of (by decide) (Nat.le_of_ble_eq_true rfl) ?_
  refine j_aload_n d_F_isFull_0 rfl ?_
  refine j_getf d_F_isFull_1 f_F_26 rfl rfl ?_
  refine j_bipush (v := 6) d_F_isFull_4 (by decide) ?_
  refine j_icmp_lt (tgt := 13) d_F_isFull_6 rfl (fun hc => ?_) (fun hc => ?_)
  · refine j_iconst (v := 0) d_F_isFull_13 rfl ?_
    exact j_zret rfl rfl d_F_isFull_14 ⟨by rw [if_neg (Int32.not_le.mpr hc)], rfl⟩
  · refine j_iconst (v := 1) d_F_isFull_9 rfl ?_
    refine j_goto (tgt := 14) d_F_isFull_10 rfl ?_
    exact j_zret rfl rfl d_F_isFull_14 ⟨by rw [if_pos (Int32.not_lt.mp hc)], rfl⟩
theorem m_F_ground (K : jK) (d : Nat) (h : jH) (a w : Int32) : jM K M_F_ground d [.int a, .int w] h (rI (((1 <<< (w &&& 31)) - 1) <<< (a &&& 31)) h) 0 0 := by
  refine jM.of (by decide) (Nat.le_of_ble_eq_true rfl) ?_
  refine j_iconst (v := 1) d_F_ground_0 rfl ?_
  refine j_iload_n d_F_ground_1 rfl ?_
  refine j_ishl d_F_ground_2 ?_
  refine j_iconst (v := 1) d_F_ground_3 rfl ?_
  refine j_isub d_F_ground_4 ?_
  refine j_iload_n d_F_ground_5 rfl ?_
  refine j_ishl d_F_ground_6 ?_
  exact j_iret rfl d_F_ground_7 ⟨rfl, rfl⟩
def ixOf (f : Nat → Int32) (c : Int32) : Nat → Nat → Int32
  | 0, _ => -1
  | k + 1, i => if f i = c then nI i else ixOf f c k (i + 1)
theorem m_F_indexOf (K : jK) (d : Nat) (S : jS) (J : jH) (c : Int32) (n : Nat) (hn : S.1 2 = nI n) (h6 : n ≤ 6) : jM K M_F_indexOf d [.ref 33, .int c] (lay S ++ J) (rI (ixOf (S.2.1 0) c n 0) (lay S ++ J)) 0 0 := by
  refine jM.of (by decide) (Nat.le_of_ble_eq_true rfl) ?_
  have loop : ∀ k i, i + k = n → jE K M_F_indexOf d 2 [(0, .ref 33), (1, .int c), (2, .int (nI i))] [] (lay S ++ J) (rI (ixOf (S.2.1 0) c k i) (lay S ++ J)) 0 0 := by
    intro k
    induction k with
    | zero =>
      intro i hi
      refine j_iload_n d_F_indexOf_2 rfl ?_
      refine j_aload_n d_F_indexOf_3 rfl ?_
      refine j_getf d_F_indexOf_4 f_F_26 rfl rfl ?_
      refine j_icmp_geT (tgt := 28) d_F_indexOf_7 rfl (by rw [hn]; exact (nI_leI (by omega) (by omega)).mpr (by omega)) ?_
      refine j_iconst (v := -1) d_F_indexOf_28 rfl ?_
      exact j_iret rfl d_F_indexOf_29 ⟨rfl, rfl⟩
    | succ k ih =>
      intro i hi
      refine j_iload_n d_F_indexOf_2 rfl ?_
      refine j_aload_n d_F_indexOf_3 rfl ?_
      refine j_getf d_F_indexOf_4 f_F_26 rfl rfl ?_
      refine j_icmp_geF (tgt := 28) d_F_indexOf_7 rfl (by rw [hn]; exact fun q => absurd ((nI_leI (by omega) (by omega)).mp q) (by omega)) ?_
      refine j_aload_n d_F_indexOf_10 rfl ?_
      refine j_getf d_F_indexOf_11 f_F_9 rfl rfl ?_
      refine j_iload_n d_F_indexOf_14 rfl ?_
      refine j_cald (j := i) d_F_indexOf_15 rfl (by omega) (by decide) ?_
      refine j_iload_n d_F_indexOf_16 rfl ?_
      refine j_icmp_ne (tgt := 22) d_F_indexOf_17 rfl (fun hc => ?_) (fun hc => ?_)
      · refine j_iincN d_F_indexOf_22 rfl (by decide) ?_
        refine j_goto (tgt := 2) d_F_indexOf_25 rfl ?_
        refine j_loc' [(0, .ref 33), (1, .int c), (2, .int (nI (i + 1)))] ⟨rfl, rfl, rfl, trivial⟩ ?_
        rw [show ixOf (S.2.1 0) c (k + 1) i = ixOf (S.2.1 0) c k (i + 1) by rw [ixOf, if_neg hc]]
        exact ih (i + 1) (by omega)
      · refine j_iload_n d_F_indexOf_20 rfl ?_
        exact j_iret rfl d_F_indexOf_21 ⟨by rw [ixOf, if_pos hc], rfl⟩
  refine j_iconst (v := 0) d_F_indexOf_0 rfl ?_
  refine j_istore_n d_F_indexOf_1 (by decide) ?_
  exact j_loc' [(0, .ref 33), (1, .int c), (2, .int (nI 0))] ⟨rfl, rfl, rfl, trivial⟩ (loop n 0 (by omega))
