/-! BitLoom$Statement: refuse, readSign, passSign, readField, readOperand -/
theorem m_S_refuse (K : jK) (d : Nat) (hd : 6 ≤ d) (S : jS) (J : jH) (a : Nat) (ha : S.1 12 = nI a) (h101 : a < 101) (s : Nat) (hs : S.2.1 7 a = nI s) : jM K M_S_refuse d [.ref 42] (lay S ++ J) (rX 10 (lay (s1 S 10 (nI s)) ++ J)) 0 0 := by
  refine jM.of (by decide) (Nat.le_of_ble_eq_true rfl) ?_
  refine j_aload_n d_S_refuse_0 rfl ?_
  refine j_aload_n d_S_refuse_1 rfl ?_
  refine j_getf d_S_refuse_2 f_S_24 rfl rfl ?_
  refine j_retI (j_callV d_S_refuse_5 v_K_start l_S_116 rfl rfl (m_K_start K (d - 1) S J a ha h101) (by omega) (by decide) (Nat.le_of_ble_eq_true rfl) rfl) rfl ?_
  refine j_top (w := .int (nI s)) (congrArg Value.int hs) ?_
  refine j_putf d_S_refuse_8 f_S_56 rfl (Nat.le_of_ble_eq_true rfl) rfl rfl rfl ?_
  exact j_throw d_S_refuse_11 d_S_refuse_14 d_S_refuse_15 d_S_refuse_18 x_S_119 rfl (by omega) (Nat.le_of_ble_eq_true rfl) ⟨rfl, rfl⟩
def yI {α : Type} (f : α → Int32) : α → jO → jS → Prop := fun a o _ => o = .inl (some (.int (f a)))
theorem b2i_ne {b : Bool} (h : ¬ b2i b = 0) : b = true := by cases b; exact absurd rfl h; rfl
theorem b2i_ze {b : Bool} (h : b2i b = 0) : b = false := by cases b; rfl; exact absurd h (by decide)
theorem nI_ne1 {i : Nat} (h : i < 101) : ¬ nI i = -1 := by
  intro q
  have := congrArg Int32.toInt q
  rw [nI_toInt (by omega)] at this
  have h2 : (-1 : Int32).toInt = -1 := by decide
  omega
theorem isLt_97 {k : Int32} {s e : Nat} (h : isLt k s e = true) : k = 97 := by
  unfold isLt at h
  exact of_decide_eq_true (Bool.and_eq_true _ _ ▸ h).1
theorem tx_letter {S : jS} {n c : Nat} {r : List Tok} (h : Rdr S n c r) : c ≤ 6 := h.2.2.2.2.2.1
theorem m_S_readField (K : jK) (d : Nat) (hd : 7 ≤ d) (S : jS) (J : jH) (n c : Nat) (r : List Tok) (hR : Rdr S n c r) : jM K M_S_readField d [.ref 42] (lay S ++ J) (pst n c [12] S J (yI fun f => nI f) (pFld (S.2.1 5) (S.2.1 0) c r)) 0 0 := by
  refine jM.of (by decide) (Nat.le_of_ble_eq_true rfl) ?_
  obtain ⟨a, k, s, e, r1, rfl, ha, h101, hk, hs, he, hse, hen, hnx⟩ := hR.cur
  have hR0 := hR
  obtain ⟨hn, h100, hc, ht, hf, h6, hl, hA, -⟩ := hR0
  have hll := tokL_len (S.2.1 5) n (n - 0) 0 (Nat.le_refl _) (Nat.zero_le _)
  refine j_aload_n d_S_readField_0 rfl ?_
  refine j_getf d_S_readField_1 f_S_24 rfl rfl ?_
  refine j_retI (j_callV d_S_readField_4 v_K_isLetter l_S_206 rfl rfl (m_K_isLetter K (d - 1) S J a ha h101 s e hs he hse (by omega)) (by omega) (by decide) (Nat.le_of_ble_eq_true rfl) rfl) rfl ?_
  rw [hk]
  refine j_if_eq (tgt := 27) d_S_readField_7 rfl (fun h7 => ?_) (fun h7 => ?_)
  · refine j_iconst (v := -1) d_S_readField_27 rfl ?_
    refine j_istore_n d_S_readField_28 (by decide) ?_
    refine j_iload_n d_S_readField_29 rfl ?_
    refine j_iconst (v := -1) d_S_readField_30 rfl ?_
    refine j_icmp_neF (tgt := 38) d_S_readField_31 rfl rfl ?_
    refine j_aload_n d_S_readField_34 rfl ?_
    refine j_retX (j_callV d_S_readField_35 v_S_refuse l_S_113 rfl rfl (m_S_refuse K (d - 1) (by omega) S J a ha h101 s hs) (by omega) (by decide) (Nat.le_of_ble_eq_true rfl) rfl) rfl ?_
    rw [show pFld (S.2.1 5) (S.2.1 0) c ((k, s, e) :: r1) = .inr s by rw [pFld, b2i_ze h7]; rfl]
    exact ⟨rfl, _, rfl, (frm.rf _ S).s1 (by decide) _, rfl⟩
  · have hT := b2i_ne h7
    have hx := hnx (by rw [isLt_97 hT]; decide)
    refine j_aload_n d_S_readField_10 rfl ?_
    refine j_getf d_S_readField_11 f_S_9 rfl rfl ?_
    refine j_aload_n d_S_readField_14 rfl ?_
    refine j_getf d_S_readField_15 f_S_24 rfl rfl ?_
    refine j_retI (j_callV d_S_readField_18 v_K_letter l_S_209 rfl rfl (m_K_letter K (d - 1) (by omega) S J a ha h101 n hn h100 hc s hs hx.1) (by omega) (by decide) (Nat.le_of_ble_eq_true rfl) rfl) rfl ?_
    refine j_retI (j_callV d_S_readField_21 v_F_indexOf l_S_213 rfl rfl (m_F_indexOf K (d - 1) S J (S.2.1 5 s) c hf h6) (by omega) (by decide) (Nat.le_of_ble_eq_true rfl) rfl) rfl ?_
    rcases ixOf_two (S.2.1 0) (S.2.1 5 s) c 0 with hi | ⟨j, -, hj, hi⟩
    · rw [hi]
      refine j_goto (tgt := 28) d_S_readField_24 rfl ?_
      refine j_istore_n d_S_readField_28 (by decide) ?_
      refine j_iload_n d_S_readField_29 rfl ?_
      refine j_iconst (v := -1) d_S_readField_30 rfl ?_
      refine j_icmp_neF (tgt := 38) d_S_readField_31 rfl rfl ?_
      refine j_aload_n d_S_readField_34 rfl ?_
      refine j_retX (j_callV d_S_readField_35 v_S_refuse l_S_113 rfl rfl (m_S_refuse K (d - 1) (by omega) S J a ha h101 s hs) (by omega) (by decide) (Nat.le_of_ble_eq_true rfl) rfl) rfl ?_
      rw [show pFld (S.2.1 5) (S.2.1 0) c ((k, s, e) :: r1) = .inr s by rw [pFld, if_pos hT, if_pos hi]]
      exact ⟨rfl, _, rfl, (frm.rf _ S).s1 (by decide) _, rfl⟩
    · have hj2 : j < 6 := by omega
      rw [show pFld (S.2.1 5) (S.2.1 0) c ((k, s, e) :: r1) = .inl (j, r1) by rw [pFld, if_pos hT, hi, if_neg (nI_ne1 (by omega)), nI_clamp (by omega)]]
      rw [hi]
      refine j_goto (tgt := 28) d_S_readField_24 rfl ?_
      refine j_istore_n d_S_readField_28 (by decide) ?_
      refine j_iload_n d_S_readField_29 rfl ?_
      refine j_iconst (v := -1) d_S_readField_30 rfl ?_
      refine j_icmp_neT (tgt := 38) d_S_readField_31 rfl (nI_ne1 (by omega)) ?_
      refine j_aload_n d_S_readField_38 rfl ?_
      refine j_getf d_S_readField_39 f_S_24 rfl rfl ?_
      refine j_retV (j_callV d_S_readField_42 v_K_advance l_S_99 rfl rfl (m_K_advance K (d - 1) S J a ha h101 _ hl hx.2.1 (by omega)) (by omega) (by decide) (Nat.le_of_ble_eq_true rfl) rfl) rfl ?_
      refine j_iload_n d_S_readField_45 rfl ?_
      exact j_iret rfl d_S_readField_46 ⟨_, rfl, (frm.rf _ S).s1 (by decide) _, hx.2.2, rfl⟩
def yU {α : Type} : α → jO → jS → Prop := fun _ o _ => o = .inl none
def pPass (x : Int32) : List Tok → Rs Unit
  | [] => .inr 0
  | (k, s, e) :: r => if k = x then .inl ((), r) else .inr s
def pSgn (x y z : Int32) : List Tok → Rs Int32
  | [] => .inr 0
  | (k, s, e) :: r => if k = x ∨ k = y ∨ k = z then .inl (k, r) else .inl (32, (k, s, e) :: r)
theorem b2i_dT {p : Prop} [Decidable p] (h : p) : b2i (decide p) = 1 := by rw [decide_eq_true h]; rfl
theorem b2i_dF {p : Prop} [Decidable p] (h : ¬ p) : b2i (decide p) = 0 := by rw [decide_eq_false h]; rfl
theorem m_S_passSign (K : jK) (d : Nat) (hd : 7 ≤ d) (S : jS) (J : jH) (n c : Nat) (r : List Tok) (hR : Rdr S n c r) (x : Int32) (hx46 : ¬ x = 46) : jM K M_S_passSign d [.ref 42, .int x] (lay S ++ J) (pst n c [12] S J yU (pPass x r)) 0 0 := by
  refine jM.of (by decide) (Nat.le_of_ble_eq_true rfl) ?_
  obtain ⟨a, k, s, e, r1, rfl, ha, h101, hk, hs, he, hse, hen, hnx⟩ := hR.cur
  have hR0 := hR
  obtain ⟨hn, h100, hc, ht, hf, h6, hl, hA, -⟩ := hR0
  have hll := tokL_len (S.2.1 5) n (n - 0) 0 (Nat.le_refl _) (Nat.zero_le _)
  refine j_aload_n d_S_passSign_0 rfl ?_
  refine j_getf d_S_passSign_1 f_S_24 rfl rfl ?_
  refine j_iload_n d_S_passSign_4 rfl ?_
  refine j_retI (j_callV d_S_passSign_5 v_K_isSign l_S_125 rfl rfl (m_K_isSign K (d - 1) S J x a ha h101) (by omega) (by decide) (Nat.le_of_ble_eq_true rfl) rfl) rfl ?_
  rw [hk]
  by_cases hkx : k = x
  · rw [b2i_dT hkx, show pPass x ((k, s, e) :: r1) = .inl ((), r1) by rw [pPass, if_pos hkx]]
    have hx := hnx (by rw [hkx]; exact hx46)
    refine j_if_neT (tgt := 15) d_S_passSign_8 rfl (by decide) ?_
    refine j_aload_n d_S_passSign_15 rfl ?_
    refine j_getf d_S_passSign_16 f_S_24 rfl rfl ?_
    refine j_retV (j_callV d_S_passSign_19 v_K_advance l_S_99 rfl rfl (m_K_advance K (d - 1) S J a ha h101 _ hl hx.2.1 (by omega)) (by omega) (by decide) (Nat.le_of_ble_eq_true rfl) rfl) rfl ?_
    exact j_vret rfl d_S_passSign_22 ⟨_, rfl, (frm.rf _ S).s1 (by decide) _, hx.2.2, rfl⟩
  · rw [b2i_dF hkx, show pPass x ((k, s, e) :: r1) = .inr s by rw [pPass, if_neg hkx]]
    refine j_if_neF (tgt := 15) d_S_passSign_8 rfl rfl ?_
    refine j_aload_n d_S_passSign_11 rfl ?_
    refine j_retX (j_callV d_S_passSign_12 v_S_refuse l_S_113 rfl rfl (m_S_refuse K (d - 1) (by omega) S J a ha h101 s hs) (by omega) (by decide) (Nat.le_of_ble_eq_true rfl) rfl) rfl ?_
    exact ⟨rfl, _, rfl, (frm.rf _ S).s1 (by decide) _, rfl⟩
theorem m_S_readSign (K : jK) (d : Nat) (hd : 7 ≤ d) (S : jS) (J : jH) (n c : Nat) (r : List Tok) (hR : Rdr S n c r) (x y z : Int32) (hx46 : ¬ x = 46 ∧ ¬ y = 46 ∧ ¬ z = 46) (hx32 : ¬ x = 32 ∧ ¬ y = 32 ∧ ¬ z = 32) (hnr : narrow .char (.int x) = .int x ∧ narrow .char (.int y) = .int y ∧ narrow .char (.int z) = .int z) : jM K M_S_readSign d [.ref 42, .int x, .int y, .int z] (lay S ++ J) (pst n c [12] S J (yI fun v => v) (pSgn x y z r)) 0 0 := by
  refine jM.of (by decide) (Nat.le_of_ble_eq_true rfl) ?_
  obtain ⟨a, k, s, e, r1, rfl, ha, h101, hk, hs, he, hse, hen, hnx⟩ := hR.cur
  have hR0 := hR
  obtain ⟨hn, h100, hc, ht, hf, h6, hl, hA, -⟩ := hR0
  have hll := tokL_len (S.2.1 5) n (n - 0) 0 (Nat.le_refl _) (Nat.zero_le _)
  have fin : ∀ ls, (k = x ∨ k = y ∨ k = z) → j_lg ls 0 = some (.ref 42) → j_lg ls 4 = some (.int k) → jE K M_S_readSign d 52 ls [] (lay S ++ J) (pst n c [12] S J (yI fun v => v) (pSgn x y z ((k, s, e) :: r1))) 0 0 := by
    intro ls hor l0 l4
    have k46 : ¬ k = 46 := by rcases hor with q | q | q <;> rw [q]; exact hx46.1; exact hx46.2.1; exact hx46.2.2
    have k32 : ¬ k = 32 := by rcases hor with q | q | q <;> rw [q]; exact hx32.1; exact hx32.2.1; exact hx32.2.2
    have knr : narrow .char (.int k) = .int k := by rcases hor with q | q | q <;> rw [q]; exact hnr.1; exact hnr.2.1; exact hnr.2.2
    have hx := hnx k46
    rw [show pSgn x y z ((k, s, e) :: r1) = .inl (k, r1) by rw [pSgn, if_pos hor]]
    refine j_iload d_S_readSign_52 l4 ?_
    refine j_bipush (v := 32) d_S_readSign_54 (by decide) ?_
    refine j_icmp_eqF (tgt := 66) d_S_readSign_56 rfl k32 ?_
    refine j_aload_n d_S_readSign_59 l0 ?_
    refine j_getf d_S_readSign_60 f_S_24 rfl rfl ?_
    refine j_retV (j_callV d_S_readSign_63 v_K_advance l_S_99 rfl rfl (m_K_advance K (d - 1) S J a ha h101 _ hl hx.2.1 (by omega)) (by omega) (by decide) (Nat.le_of_ble_eq_true rfl) rfl) rfl ?_
    refine j_iload d_S_readSign_66 l4 ?_
    exact j_zret rfl knr d_S_readSign_68 ⟨_, rfl, (frm.rf _ S).s1 (by decide) _, hx.2.2, rfl⟩
  refine j_bipush (v := 32) d_S_readSign_0 (by decide) ?_
  refine j_istore d_S_readSign_2 (by decide) ?_
  refine j_aload_n d_S_readSign_4 rfl ?_
  refine j_getf d_S_readSign_5 f_S_24 rfl rfl ?_
  refine j_iload_n d_S_readSign_8 rfl ?_
  refine j_retI (j_callV d_S_readSign_9 v_K_isSign l_S_125 rfl rfl (m_K_isSign K (d - 1) S J x a ha h101) (by omega) (by decide) (Nat.le_of_ble_eq_true rfl) rfl) rfl ?_
  rw [hk]
  by_cases h1 : k = x
  · rw [b2i_dT h1]
    refine j_if_eqF (tgt := 21) d_S_readSign_12 rfl (by decide) ?_
    refine j_iload_n d_S_readSign_15 rfl ?_
    refine j_istore d_S_readSign_16 (by decide) ?_
    refine j_goto (tgt := 52) d_S_readSign_18 rfl ?_
    exact fin _ (.inl h1) rfl (congrArg (fun v => some (Value.int v)) h1.symm)
  · rw [b2i_dF h1]
    refine j_if_eqT (tgt := 21) d_S_readSign_12 rfl rfl ?_
    refine j_aload_n d_S_readSign_21 rfl ?_
    refine j_getf d_S_readSign_22 f_S_24 rfl rfl ?_
    refine j_iload_n d_S_readSign_25 rfl ?_
    refine j_retI (j_callV d_S_readSign_26 v_K_isSign l_S_125 rfl rfl (m_K_isSign K (d - 1) S J y a ha h101) (by omega) (by decide) (Nat.le_of_ble_eq_true rfl) rfl) rfl ?_
    rw [hk]
    by_cases h2 : k = y
    · rw [b2i_dT h2]
      refine j_if_eqF (tgt := 38) d_S_readSign_29 rfl (by decide) ?_
      refine j_iload_n d_S_readSign_32 rfl ?_
      refine j_istore d_S_readSign_33 (by decide) ?_
      refine j_goto (tgt := 52) d_S_readSign_35 rfl ?_
      exact fin _ (.inr (.inl h2)) rfl (congrArg (fun v => some (Value.int v)) h2.symm)
    · rw [b2i_dF h2]
      refine j_if_eqT (tgt := 38) d_S_readSign_29 rfl rfl ?_
      refine j_aload_n d_S_readSign_38 rfl ?_
      refine j_getf d_S_readSign_39 f_S_24 rfl rfl ?_
      refine j_iload_n d_S_readSign_42 rfl ?_
      refine j_retI (j_callV d_S_readSign_43 v_K_isSign l_S_125 rfl rfl (m_K_isSign K (d - 1) S J z a ha h101) (by omega) (by decide) (Nat.le_of_ble_eq_true rfl) rfl) rfl ?_
      rw [hk]
      by_cases h3 : k = z
      · rw [b2i_dT h3]
        refine j_if_eqF (tgt := 52) d_S_readSign_46 rfl (by decide) ?_
        refine j_iload_n d_S_readSign_49 rfl ?_
        refine j_istore d_S_readSign_50 (by decide) ?_
        exact fin _ (.inr (.inr h3)) rfl (congrArg (fun v => some (Value.int v)) h3.symm)
      · rw [b2i_dF h3]
        refine j_if_eqT (tgt := 52) d_S_readSign_46 rfl rfl ?_
        rw [show pSgn x y z ((k, s, e) :: r1) = .inl (32, (k, s, e) :: r1) by rw [pSgn, if_neg (by rintro (q | q | q); exact h1 q; exact h2 q; exact h3 q)]]
        refine j_iload d_S_readSign_52 rfl ?_
        refine j_bipush (v := 32) d_S_readSign_54 (by decide) ?_
        refine j_icmp_eqT (tgt := 66) d_S_readSign_56 rfl rfl ?_
        refine j_iload d_S_readSign_66 rfl ?_
        exact j_zret rfl rfl d_S_readSign_68 ⟨_, rfl, frm.rf _ S, hR, rfl⟩
