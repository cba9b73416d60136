/-! BitLoom$Statement.readOperand -/
/-- the operand that is told by these two numbers -/
def isO (f m : Nat) (x : Opd) (S : jS) : Prop := match x with
  | .inl j => j < 6 ∧ S.1 f = nI j
  | .inr v => S.1 f = -1 ∧ S.1 m = v
def yO (f m : Nat) : Opd → jO → jS → Prop := fun x o S => o = .inl none ∧ isO f m x S
theorem pFld_lt {T N : Nat → Int32} {c : Nat} {r r1 : List Tok} {f : Nat} (h : pFld T N c r = .inl (f, r1)) (h6 : c ≤ 6) : f < 6 := by
  unfold pFld at h
  split at h
  · cases h
  · rename_i k s e r2
    split at h
    · split at h
      · cases h
      · rename_i h2 h3
        rcases ixOf_two N (T s) c 0 with hi | ⟨j, -, hj, hi⟩
        · exact absurd hi h3
        · have := congrArg (fun x : Rs Nat => match x with | .inl (f, _) => f | .inr _ => 0) h
          simp only at this
          rw [hi, nI_clamp (by omega)] at this
          omega
    · cases h
theorem m_S_readOperand_48 (K : jK) (d : Nat) (hd : 8 ≤ d) (S : jS) (J : jH) (n c : Nat) (r : List Tok) (hR : Rdr S n c r) : jM K M_S_readOperand d [.ref 42, .ref 48] (lay S ++ J) (pst n c [12, 14, 15] S J (yO 14 15) (pOpd (S.2.1 5) (S.2.1 0) c r)) 0 0 := by
  refine jM.of (by decide) (Nat.le_of_ble_eq_true rfl) ?_
  obtain ⟨a, k, s, e, r1, rfl, ha, h101, hk, hs, he, hse, hen, hnx⟩ := hR.cur
  have hR0 := hR
  obtain ⟨hn, h100, hc, ht, hf, h6, hl, hA, -⟩ := hR0
  have hll := tokL_len (S.2.1 5) n (n - 0) 0 (Nat.le_refl _) (Nat.zero_le _)
  refine j_aload_n d_S_readOperand_0 rfl ?_
  refine j_getf d_S_readOperand_1 f_S_24 rfl rfl ?_
  refine j_bipush (v := 45) d_S_readOperand_4 (by decide) ?_
  refine j_retI (j_callV d_S_readOperand_6 v_K_isSign l_S_125 rfl rfl (m_K_isSign K (d - 1) S J 45 a ha h101) (by omega) (by decide) (Nat.le_of_ble_eq_true rfl) rfl) rfl ?_
  rw [hk]
  by_cases h1 : k = 45
  · rw [b2i_dT h1]
    have hx := hnx (by rw [h1]; decide)
    refine j_istore_n d_S_readOperand_9 (by decide) ?_
    refine j_iload_n d_S_readOperand_10 rfl ?_
    refine j_if_eqF (tgt := 21) d_S_readOperand_11 rfl (by decide) ?_
    refine j_aload_n d_S_readOperand_14 rfl ?_
    refine j_getf d_S_readOperand_15 f_S_24 rfl rfl ?_
    refine j_retV (j_callV d_S_readOperand_18 v_K_advance l_S_99 rfl rfl (m_K_advance K (d - 1) S J a ha h101 _ hl hx.2.1 (by omega)) (by omega) (by decide) (Nat.le_of_ble_eq_true rfl) rfl) rfl ?_
    obtain ⟨a2, k2, s2, e2, r2, rfl, ha2, h1012, hk2, hs2, he2, hse2, hen2, hnx2⟩ := hx.2.2.cur
    have e0 : pOpd (S.2.1 5) (S.2.1 0) c ((k, s, e) :: (k2, s2, e2) :: r2) = if k2 = 48 then .inl (.inr (-(numV (S.2.1 5) (e2 - s2) s2 0)), r2) else .inr s2 := by rw [pOpd, if_pos h1]
    refine j_aload_n d_S_readOperand_21 rfl ?_
    refine j_getf d_S_readOperand_22 f_S_24 rfl rfl ?_
    refine j_retI (j_callV d_S_readOperand_25 v_K_isNumber l_S_191 rfl rfl (m_K_isNumber K (d - 1) (s1 S 12 (nI (a + 1))) J a2 ha2 h1012) (by omega) (by decide) (Nat.le_of_ble_eq_true rfl) rfl) rfl ?_
    rw [hk2]
    by_cases h2 : k2 = 48
    · rw [b2i_dT h2]
      rw [e0, if_pos h2]
      have hx2 := hnx2 (by rw [h2]; decide)
      refine j_if_eqF (tgt := 67) d_S_readOperand_28 rfl (by decide) ?_
      refine j_aload_n d_S_readOperand_31 rfl ?_
      refine j_iload_n d_S_readOperand_32 rfl ?_
      refine j_if_eqF (tgt := 47) d_S_readOperand_33 rfl (by decide) ?_
      refine j_aload_n d_S_readOperand_36 rfl ?_
      refine j_getf d_S_readOperand_37 f_S_24 rfl rfl ?_
      refine j_retI (j_callV d_S_readOperand_40 v_K_number l_S_194 rfl rfl (m_K_number K (d - 1) (by omega) (s1 S 12 (nI (a + 1))) J a2 ha2 h1012 n hn h100 hc s2 e2 hs2 he2 hse2 (by omega) hen2) (by omega) (by decide) (Nat.le_of_ble_eq_true rfl) rfl) rfl ?_
      refine j_ineg d_S_readOperand_43 ?_
      refine j_goto (tgt := 54) d_S_readOperand_44 rfl ?_
      refine j_retV (j_callV d_S_readOperand_54 v_O_becomeNumber l_S_197 rfl rfl (m_O_becomeNumber_48 K (d - 1) (s1 S 12 (nI (a + 1))) J _) (by omega) (by decide) (Nat.le_of_ble_eq_true rfl) rfl) rfl ?_
      refine j_aload_n d_S_readOperand_57 rfl ?_
      refine j_getf d_S_readOperand_58 f_S_24 rfl rfl ?_
      refine j_retV (j_callV d_S_readOperand_61 v_K_advance l_S_99 rfl rfl (m_K_advance K (d - 1) (s1 (s1 (s1 S 12 (nI (a + 1))) 14 (-1)) 15 (-(numV (S.2.1 5) (e2 - s2) s2 0))) J a2 ha2 h1012 _ hl hx2.2.1 (by omega)) (by omega) (by decide) (Nat.le_of_ble_eq_true rfl) rfl) rfl ?_
      refine j_goto (tgt := 86) d_S_readOperand_64 rfl ?_
      exact j_vret rfl d_S_readOperand_86 ⟨_, rfl, ((((frm.rf _ S).s1 (by decide) _).s1 (by decide) _).s1 (by decide) _).s1 (by decide) _, hx2.2.2, rfl, rfl, rfl⟩
    · rw [b2i_dF h2]
      rw [e0, if_neg h2]
      refine j_if_eqT (tgt := 67) d_S_readOperand_28 rfl rfl ?_
      refine j_iload_n d_S_readOperand_67 rfl ?_
      refine j_if_eqF (tgt := 78) d_S_readOperand_68 rfl (by decide) ?_
      refine j_aload_n d_S_readOperand_71 rfl ?_
      refine j_retX (j_callV d_S_readOperand_72 v_S_refuse l_S_113 rfl rfl (m_S_refuse K (d - 1) (by omega) (s1 S 12 (nI (a + 1))) J a2 ha2 h1012 s2 hs2) (by omega) (by decide) (Nat.le_of_ble_eq_true rfl) rfl) rfl ?_
      exact ⟨rfl, _, rfl, ((frm.rf _ S).s1 (by decide) _).s1 (by decide) _, rfl⟩
  · rw [b2i_dF h1]
    refine j_istore_n d_S_readOperand_9 (by decide) ?_
    refine j_iload_n d_S_readOperand_10 rfl ?_
    refine j_if_eqT (tgt := 21) d_S_readOperand_11 rfl rfl ?_
    refine j_aload_n d_S_readOperand_21 rfl ?_
    refine j_getf d_S_readOperand_22 f_S_24 rfl rfl ?_
    refine j_retI (j_callV d_S_readOperand_25 v_K_isNumber l_S_191 rfl rfl (m_K_isNumber K (d - 1) S J a ha h101) (by omega) (by decide) (Nat.le_of_ble_eq_true rfl) rfl) rfl ?_
    rw [hk]
    by_cases h2 : k = 48
    · rw [b2i_dT h2]
      rw [show pOpd (S.2.1 5) (S.2.1 0) c ((k, s, e) :: r1) = .inl (.inr (numV (S.2.1 5) (e - s) s 0), r1) from (if_neg h1).trans (if_pos h2)]
      have hx := hnx (by rw [h2]; decide)
      refine j_if_eqF (tgt := 67) d_S_readOperand_28 rfl (by decide) ?_
      refine j_aload_n d_S_readOperand_31 rfl ?_
      refine j_iload_n d_S_readOperand_32 rfl ?_
      refine j_if_eqT (tgt := 47) d_S_readOperand_33 rfl rfl ?_
      refine j_aload_n d_S_readOperand_47 rfl ?_
      refine j_getf d_S_readOperand_48 f_S_24 rfl rfl ?_
      refine j_retI (j_callV d_S_readOperand_51 v_K_number l_S_194 rfl rfl (m_K_number K (d - 1) (by omega) S J a ha h101 n hn h100 hc s e hs he hse (by omega) hen) (by omega) (by decide) (Nat.le_of_ble_eq_true rfl) rfl) rfl ?_
      refine j_retV (j_callV d_S_readOperand_54 v_O_becomeNumber l_S_197 rfl rfl (m_O_becomeNumber_48 K (d - 1) S J _) (by omega) (by decide) (Nat.le_of_ble_eq_true rfl) rfl) rfl ?_
      refine j_aload_n d_S_readOperand_57 rfl ?_
      refine j_getf d_S_readOperand_58 f_S_24 rfl rfl ?_
      refine j_retV (j_callV d_S_readOperand_61 v_K_advance l_S_99 rfl rfl (m_K_advance K (d - 1) (s1 (s1 S 14 (-1)) 15 (numV (S.2.1 5) (e - s) s 0)) J a ha h101 _ hl hx.2.1 (by omega)) (by omega) (by decide) (Nat.le_of_ble_eq_true rfl) rfl) rfl ?_
      refine j_goto (tgt := 86) d_S_readOperand_64 rfl ?_
      exact j_vret rfl d_S_readOperand_86 ⟨_, rfl, (((frm.rf _ S).s1 (by decide) _).s1 (by decide) _).s1 (by decide) _, hx.2.2, rfl, rfl, rfl⟩
    · rw [b2i_dF h2]
      have e0 : pOpd (S.2.1 5) (S.2.1 0) c ((k, s, e) :: r1) = (match pFld (S.2.1 5) (S.2.1 0) c ((k, s, e) :: r1) with | .inl (f, r1) => .inl (.inl f, r1) | .inr p => .inr p) := (if_neg h1).trans (if_neg h2)
      rw [e0]
      refine j_if_eqT (tgt := 67) d_S_readOperand_28 rfl rfl ?_
      refine j_iload_n d_S_readOperand_67 rfl ?_
      refine j_if_eqT (tgt := 78) d_S_readOperand_68 rfl rfl ?_
      refine j_aload_n d_S_readOperand_78 rfl ?_
      refine j_aload_n d_S_readOperand_79 rfl ?_
      refine j_pst (j_callV d_S_readOperand_80 v_S_readField l_S_174 rfl rfl (m_S_readField K (d - 1) (by omega) S J n c _ hR) (by omega) (by decide) (Nat.le_of_ble_eq_true rfl) rfl) rfl (fun _ _ _ q => by cases q) (fun j r2 v S2 hj f2 hR2 hv => ?_) (fun p S2 hp f2 hp2 => ?_)
      · cases hv
        rw [hj]
        refine j_retV (j_callV d_S_readOperand_83 v_O_becomeField l_S_203 rfl rfl (m_O_becomeField_48 K (d - 1) S2 J _) (by omega) (by decide) (Nat.le_of_ble_eq_true rfl) rfl) rfl ?_
        exact j_vret rfl d_S_readOperand_86 ⟨_, rfl, (f2.up (by decide)).s1 (by decide) _, hR2.keep (((frm.rf [14] S2).s1 (by decide) _)) (by decide), rfl, pFld_lt hj h6, rfl⟩
      · rw [hp]
        exact ⟨rfl, _, rfl, f2.up (by decide), hp2⟩
theorem m_S_readOperand_49 (K : jK) (d : Nat) (hd : 8 ≤ d) (S : jS) (J : jH) (n c : Nat) (r : List Tok) (hR : Rdr S n c r) : jM K M_S_readOperand d [.ref 42, .ref 49] (lay S ++ J) (pst n c [12, 16, 17] S J (yO 16 17) (pOpd (S.2.1 5) (S.2.1 0) c r)) 0 0 := by
  refine jM.of (by decide) (Nat.le_of_ble_eq_true rfl) ?_
  obtain ⟨a, k, s, e, r1, rfl, ha, h101, hk, hs, he, hse, hen, hnx⟩ := hR.cur
  have hR0 := hR
  obtain ⟨hn, h100, hc, ht, hf, h6, hl, hA, -⟩ := hR0
  have hll := tokL_len (S.2.1 5) n (n - 0) 0 (Nat.le_refl _) (Nat.zero_le _)
  refine j_aload_n d_S_readOperand_0 rfl ?_
  refine j_getf d_S_readOperand_1 f_S_24 rfl rfl ?_
  refine j_bipush (v := 45) d_S_readOperand_4 (by decide) ?_
  refine j_retI (j_callV d_S_readOperand_6 v_K_isSign l_S_125 rfl rfl (m_K_isSign K (d - 1) S J 45 a ha h101) (by omega) (by decide) (Nat.le_of_ble_eq_true rfl) rfl) rfl ?_
  rw [hk]
  by_cases h1 : k = 45
  · rw [b2i_dT h1]
    have hx := hnx (by rw [h1]; decide)
    refine j_istore_n d_S_readOperand_9 (by decide) ?_
    refine j_iload_n d_S_readOperand_10 rfl ?_
    refine j_if_eqF (tgt := 21) d_S_readOperand_11 rfl (by decide) ?_
    refine j_aload_n d_S_readOperand_14 rfl ?_
    refine j_getf d_S_readOperand_15 f_S_24 rfl rfl ?_
    refine j_retV (j_callV d_S_readOperand_18 v_K_advance l_S_99 rfl rfl (m_K_advance K (d - 1) S J a ha h101 _ hl hx.2.1 (by omega)) (by omega) (by decide) (Nat.le_of_ble_eq_true rfl) rfl) rfl ?_
    obtain ⟨a2, k2, s2, e2, r2, rfl, ha2, h1012, hk2, hs2, he2, hse2, hen2, hnx2⟩ := hx.2.2.cur
    have e0 : pOpd (S.2.1 5) (S.2.1 0) c ((k, s, e) :: (k2, s2, e2) :: r2) = if k2 = 48 then .inl (.inr (-(numV (S.2.1 5) (e2 - s2) s2 0)), r2) else .inr s2 := by rw [pOpd, if_pos h1]
    refine j_aload_n d_S_readOperand_21 rfl ?_
    refine j_getf d_S_readOperand_22 f_S_24 rfl rfl ?_
    refine j_retI (j_callV d_S_readOperand_25 v_K_isNumber l_S_191 rfl rfl (m_K_isNumber K (d - 1) (s1 S 12 (nI (a + 1))) J a2 ha2 h1012) (by omega) (by decide) (Nat.le_of_ble_eq_true rfl) rfl) rfl ?_
    rw [hk2]
    by_cases h2 : k2 = 48
    · rw [b2i_dT h2]
      rw [e0, if_pos h2]
      have hx2 := hnx2 (by rw [h2]; decide)
      refine j_if_eqF (tgt := 67) d_S_readOperand_28 rfl (by decide) ?_
      refine j_aload_n d_S_readOperand_31 rfl ?_
      refine j_iload_n d_S_readOperand_32 rfl ?_
      refine j_if_eqF (tgt := 47) d_S_readOperand_33 rfl (by decide) ?_
      refine j_aload_n d_S_readOperand_36 rfl ?_
      refine j_getf d_S_readOperand_37 f_S_24 rfl rfl ?_
      refine j_retI (j_callV d_S_readOperand_40 v_K_number l_S_194 rfl rfl (m_K_number K (d - 1) (by omega) (s1 S 12 (nI (a + 1))) J a2 ha2 h1012 n hn h100 hc s2 e2 hs2 he2 hse2 (by omega) hen2) (by omega) (by decide) (Nat.le_of_ble_eq_true rfl) rfl) rfl ?_
      refine j_ineg d_S_readOperand_43 ?_
      refine j_goto (tgt := 54) d_S_readOperand_44 rfl ?_
      refine j_retV (j_callV d_S_readOperand_54 v_O_becomeNumber l_S_197 rfl rfl (m_O_becomeNumber_49 K (d - 1) (s1 S 12 (nI (a + 1))) J _) (by omega) (by decide) (Nat.le_of_ble_eq_true rfl) rfl) rfl ?_
      refine j_aload_n d_S_readOperand_57 rfl ?_
      refine j_getf d_S_readOperand_58 f_S_24 rfl rfl ?_
      refine j_retV (j_callV d_S_readOperand_61 v_K_advance l_S_99 rfl rfl (m_K_advance K (d - 1) (s1 (s1 (s1 S 12 (nI (a + 1))) 16 (-1)) 17 (-(numV (S.2.1 5) (e2 - s2) s2 0))) J a2 ha2 h1012 _ hl hx2.2.1 (by omega)) (by omega) (by decide) (Nat.le_of_ble_eq_true rfl) rfl) rfl ?_
      refine j_goto (tgt := 86) d_S_readOperand_64 rfl ?_
      exact j_vret rfl d_S_readOperand_86 ⟨_, rfl, ((((frm.rf _ S).s1 (by decide) _).s1 (by decide) _).s1 (by decide) _).s1 (by decide) _, hx2.2.2, rfl, rfl, rfl⟩
    · rw [b2i_dF h2]
      rw [e0, if_neg h2]
      refine j_if_eqT (tgt := 67) d_S_readOperand_28 rfl rfl ?_
      refine j_iload_n d_S_readOperand_67 rfl ?_
      refine j_if_eqF (tgt := 78) d_S_readOperand_68 rfl (by decide) ?_
      refine j_aload_n d_S_readOperand_71 rfl ?_
      refine j_retX (j_callV d_S_readOperand_72 v_S_refuse l_S_113 rfl rfl (m_S_refuse K (d - 1) (by omega) (s1 S 12 (nI (a + 1))) J a2 ha2 h1012 s2 hs2) (by omega) (by decide) (Nat.le_of_ble_eq_true rfl) rfl) rfl ?_
      exact ⟨rfl, _, rfl, ((frm.rf _ S).s1 (by decide) _).s1 (by decide) _, rfl⟩
  · rw [b2i_dF h1]
    refine j_istore_n d_S_readOperand_9 (by decide) ?_
    refine j_iload_n d_S_readOperand_10 rfl ?_
    refine j_if_eqT (tgt := 21) d_S_readOperand_11 rfl rfl ?_
    refine j_aload_n d_S_readOperand_21 rfl ?_
    refine j_getf d_S_readOperand_22 f_S_24 rfl rfl ?_
    refine j_retI (j_callV d_S_readOperand_25 v_K_isNumber l_S_191 rfl rfl (m_K_isNumber K (d - 1) S J a ha h101) (by omega) (by decide) (Nat.le_of_ble_eq_true rfl) rfl) rfl ?_
    rw [hk]
    by_cases h2 : k = 48
    · rw [b2i_dT h2]
      rw [show pOpd (S.2.1 5) (S.2.1 0) c ((k, s, e) :: r1) = .inl (.inr (numV (S.2.1 5) (e - s) s 0), r1) from (if_neg h1).trans (if_pos h2)]
      have hx := hnx (by rw [h2]; decide)
      refine j_if_eqF (tgt := 67) d_S_readOperand_28 rfl (by decide) ?_
      refine j_aload_n d_S_readOperand_31 rfl ?_
      refine j_iload_n d_S_readOperand_32 rfl ?_
      refine j_if_eqT (tgt := 47) d_S_readOperand_33 rfl rfl ?_
      refine j_aload_n d_S_readOperand_47 rfl ?_
      refine j_getf d_S_readOperand_48 f_S_24 rfl rfl ?_
      refine j_retI (j_callV d_S_readOperand_51 v_K_number l_S_194 rfl rfl (m_K_number K (d - 1) (by omega) S J a ha h101 n hn h100 hc s e hs he hse (by omega) hen) (by omega) (by decide) (Nat.le_of_ble_eq_true rfl) rfl) rfl ?_
      refine j_retV (j_callV d_S_readOperand_54 v_O_becomeNumber l_S_197 rfl rfl (m_O_becomeNumber_49 K (d - 1) S J _) (by omega) (by decide) (Nat.le_of_ble_eq_true rfl) rfl) rfl ?_
      refine j_aload_n d_S_readOperand_57 rfl ?_
      refine j_getf d_S_readOperand_58 f_S_24 rfl rfl ?_
      refine j_retV (j_callV d_S_readOperand_61 v_K_advance l_S_99 rfl rfl (m_K_advance K (d - 1) (s1 (s1 S 16 (-1)) 17 (numV (S.2.1 5) (e - s) s 0)) J a ha h101 _ hl hx.2.1 (by omega)) (by omega) (by decide) (Nat.le_of_ble_eq_true rfl) rfl) rfl ?_
      refine j_goto (tgt := 86) d_S_readOperand_64 rfl ?_
      exact j_vret rfl d_S_readOperand_86 ⟨_, rfl, (((frm.rf _ S).s1 (by decide) _).s1 (by decide) _).s1 (by decide) _, hx.2.2, rfl, rfl, rfl⟩
    · rw [b2i_dF h2]
      have e0 : pOpd (S.2.1 5) (S.2.1 0) c ((k, s, e) :: r1) = (match pFld (S.2.1 5) (S.2.1 0) c ((k, s, e) :: r1) with | .inl (f, r1) => .inl (.inl f, r1) | .inr p => .inr p) := (if_neg h1).trans (if_neg h2)
      rw [e0]
      refine j_if_eqT (tgt := 67) d_S_readOperand_28 rfl rfl ?_
      refine j_iload_n d_S_readOperand_67 rfl ?_
      refine j_if_eqT (tgt := 78) d_S_readOperand_68 rfl rfl ?_
      refine j_aload_n d_S_readOperand_78 rfl ?_
      refine j_aload_n d_S_readOperand_79 rfl ?_
      refine j_pst (j_callV d_S_readOperand_80 v_S_readField l_S_174 rfl rfl (m_S_readField K (d - 1) (by omega) S J n c _ hR) (by omega) (by decide) (Nat.le_of_ble_eq_true rfl) rfl) rfl (fun _ _ _ q => by cases q) (fun j r2 v S2 hj f2 hR2 hv => ?_) (fun p S2 hp f2 hp2 => ?_)
      · cases hv
        rw [hj]
        refine j_retV (j_callV d_S_readOperand_83 v_O_becomeField l_S_203 rfl rfl (m_O_becomeField_49 K (d - 1) S2 J _) (by omega) (by decide) (Nat.le_of_ble_eq_true rfl) rfl) rfl ?_
        exact j_vret rfl d_S_readOperand_86 ⟨_, rfl, (f2.up (by decide)).s1 (by decide) _, hR2.keep (((frm.rf [16] S2).s1 (by decide) _)) (by decide), rfl, pFld_lt hj h6, rfl⟩
      · rw [hp]
        exact ⟨rfl, _, rfl, f2.up (by decide), hp2⟩
theorem m_S_readOperand_52 (K : jK) (d : Nat) (hd : 8 ≤ d) (S : jS) (J : jH) (n c : Nat) (r : List Tok) (hR : Rdr S n c r) : jM K M_S_readOperand d [.ref 42, .ref 52] (lay S ++ J) (pst n c [12, 20, 21] S J (yO 20 21) (pOpd (S.2.1 5) (S.2.1 0) c r)) 0 0 := by
  refine jM.of (by decide) (Nat.le_of_ble_eq_true rfl) ?_
  obtain ⟨a, k, s, e, r1, rfl, ha, h101, hk, hs, he, hse, hen, hnx⟩ := hR.cur
  have hR0 := hR
  obtain ⟨hn, h100, hc, ht, hf, h6, hl, hA, -⟩ := hR0
  have hll := tokL_len (S.2.1 5) n (n - 0) 0 (Nat.le_refl _) (Nat.zero_le _)
  refine j_aload_n d_S_readOperand_0 rfl ?_
  refine j_getf d_S_readOperand_1 f_S_24 rfl rfl ?_
  refine j_bipush (v := 45) d_S_readOperand_4 (by decide) ?_
  refine j_retI (j_callV d_S_readOperand_6 v_K_isSign l_S_125 rfl rfl (m_K_isSign K (d - 1) S J 45 a ha h101) (by omega) (by decide) (Nat.le_of_ble_eq_true rfl) rfl) rfl ?_
  rw [hk]
  by_cases h1 : k = 45
  · rw [b2i_dT h1]
    have hx := hnx (by rw [h1]; decide)
    refine j_istore_n d_S_readOperand_9 (by decide) ?_
    refine j_iload_n d_S_readOperand_10 rfl ?_
    refine j_if_eqF (tgt := 21) d_S_readOperand_11 rfl (by decide) ?_
    refine j_aload_n d_S_readOperand_14 rfl ?_
    refine j_getf d_S_readOperand_15 f_S_24 rfl rfl ?_
    refine j_retV (j_callV d_S_readOperand_18 v_K_advance l_S_99 rfl rfl (m_K_advance K (d - 1) S J a ha h101 _ hl hx.2.1 (by omega)) (by omega) (by decide) (Nat.le_of_ble_eq_true rfl) rfl) rfl ?_
    obtain ⟨a2, k2, s2, e2, r2, rfl, ha2, h1012, hk2, hs2, he2, hse2, hen2, hnx2⟩ := hx.2.2.cur
    have e0 : pOpd (S.2.1 5) (S.2.1 0) c ((k, s, e) :: (k2, s2, e2) :: r2) = if k2 = 48 then .inl (.inr (-(numV (S.2.1 5) (e2 - s2) s2 0)), r2) else .inr s2 := by rw [pOpd, if_pos h1]
    refine j_aload_n d_S_readOperand_21 rfl ?_
    refine j_getf d_S_readOperand_22 f_S_24 rfl rfl ?_
    refine j_retI (j_callV d_S_readOperand_25 v_K_isNumber l_S_191 rfl rfl (m_K_isNumber K (d - 1) (s1 S 12 (nI (a + 1))) J a2 ha2 h1012) (by omega) (by decide) (Nat.le_of_ble_eq_true rfl) rfl) rfl ?_
    rw [hk2]
    by_cases h2 : k2 = 48
    · rw [b2i_dT h2]
      rw [e0, if_pos h2]
      have hx2 := hnx2 (by rw [h2]; decide)
      refine j_if_eqF (tgt := 67) d_S_readOperand_28 rfl (by decide) ?_
      refine j_aload_n d_S_readOperand_31 rfl ?_
      refine j_iload_n d_S_readOperand_32 rfl ?_
      refine j_if_eqF (tgt := 47) d_S_readOperand_33 rfl (by decide) ?_
      refine j_aload_n d_S_readOperand_36 rfl ?_
      refine j_getf d_S_readOperand_37 f_S_24 rfl rfl ?_
      refine j_retI (j_callV d_S_readOperand_40 v_K_number l_S_194 rfl rfl (m_K_number K (d - 1) (by omega) (s1 S 12 (nI (a + 1))) J a2 ha2 h1012 n hn h100 hc s2 e2 hs2 he2 hse2 (by omega) hen2) (by omega) (by decide) (Nat.le_of_ble_eq_true rfl) rfl) rfl ?_
      refine j_ineg d_S_readOperand_43 ?_
      refine j_goto (tgt := 54) d_S_readOperand_44 rfl ?_
      refine j_retV (j_callV d_S_readOperand_54 v_O_becomeNumber l_S_197 rfl rfl (m_O_becomeNumber_52 K (d - 1) (s1 S 12 (nI (a + 1))) J _) (by omega) (by decide) (Nat.le_of_ble_eq_true rfl) rfl) rfl ?_
      refine j_aload_n d_S_readOperand_57 rfl ?_
      refine j_getf d_S_readOperand_58 f_S_24 rfl rfl ?_
      refine j_retV (j_callV d_S_readOperand_61 v_K_advance l_S_99 rfl rfl (m_K_advance K (d - 1) (s1 (s1 (s1 S 12 (nI (a + 1))) 20 (-1)) 21 (-(numV (S.2.1 5) (e2 - s2) s2 0))) J a2 ha2 h1012 _ hl hx2.2.1 (by omega)) (by omega) (by decide) (Nat.le_of_ble_eq_true rfl) rfl) rfl ?_
      refine j_goto (tgt := 86) d_S_readOperand_64 rfl ?_
      exact j_vret rfl d_S_readOperand_86 ⟨_, rfl, ((((frm.rf _ S).s1 (by decide) _).s1 (by decide) _).s1 (by decide) _).s1 (by decide) _, hx2.2.2, rfl, rfl, rfl⟩
    · rw [b2i_dF h2]
      rw [e0, if_neg h2]
      refine j_if_eqT (tgt := 67) d_S_readOperand_28 rfl rfl ?_
      refine j_iload_n d_S_readOperand_67 rfl ?_
      refine j_if_eqF (tgt := 78) d_S_readOperand_68 rfl (by decide) ?_
      refine j_aload_n d_S_readOperand_71 rfl ?_
      refine j_retX (j_callV d_S_readOperand_72 v_S_refuse l_S_113 rfl rfl (m_S_refuse K (d - 1) (by omega) (s1 S 12 (nI (a + 1))) J a2 ha2 h1012 s2 hs2) (by omega) (by decide) (Nat.le_of_ble_eq_true rfl) rfl) rfl ?_
      exact ⟨rfl, _, rfl, ((frm.rf _ S).s1 (by decide) _).s1 (by decide) _, rfl⟩
  · rw [b2i_dF h1]
    refine j_istore_n d_S_readOperand_9 (by decide) ?_
    refine j_iload_n d_S_readOperand_10 rfl ?_
    refine j_if_eqT (tgt := 21) d_S_readOperand_11 rfl rfl ?_
    refine j_aload_n d_S_readOperand_21 rfl ?_
    refine j_getf d_S_readOperand_22 f_S_24 rfl rfl ?_
    refine j_retI (j_callV d_S_readOperand_25 v_K_isNumber l_S_191 rfl rfl (m_K_isNumber K (d - 1) S J a ha h101) (by omega) (by decide) (Nat.le_of_ble_eq_true rfl) rfl) rfl ?_
    rw [hk]
    by_cases h2 : k = 48
    · rw [b2i_dT h2]
      rw [show pOpd (S.2.1 5) (S.2.1 0) c ((k, s, e) :: r1) = .inl (.inr (numV (S.2.1 5) (e - s) s 0), r1) from (if_neg h1).trans (if_pos h2)]
      have hx := hnx (by rw [h2]; decide)
      refine j_if_eqF (tgt := 67) d_S_readOperand_28 rfl (by decide) ?_
      refine j_aload_n d_S_readOperand_31 rfl ?_
      refine j_iload_n d_S_readOperand_32 rfl ?_
      refine j_if_eqT (tgt := 47) d_S_readOperand_33 rfl rfl ?_
      refine j_aload_n d_S_readOperand_47 rfl ?_
      refine j_getf d_S_readOperand_48 f_S_24 rfl rfl ?_
      refine j_retI (j_callV d_S_readOperand_51 v_K_number l_S_194 rfl rfl (m_K_number K (d - 1) (by omega) S J a ha h101 n hn h100 hc s e hs he hse (by omega) hen) (by omega) (by decide) (Nat.le_of_ble_eq_true rfl) rfl) rfl ?_
      refine j_retV (j_callV d_S_readOperand_54 v_O_becomeNumber l_S_197 rfl rfl (m_O_becomeNumber_52 K (d - 1) S J _) (by omega) (by decide) (Nat.le_of_ble_eq_true rfl) rfl) rfl ?_
      refine j_aload_n d_S_readOperand_57 rfl ?_
      refine j_getf d_S_readOperand_58 f_S_24 rfl rfl ?_
      refine j_retV (j_callV d_S_readOperand_61 v_K_advance l_S_99 rfl rfl (m_K_advance K (d - 1) (s1 (s1 S 20 (-1)) 21 (numV (S.2.1 5) (e - s) s 0)) J a ha h101 _ hl hx.2.1 (by omega)) (by omega) (by decide) (Nat.le_of_ble_eq_true rfl) rfl) rfl ?_
      refine j_goto (tgt := 86) d_S_readOperand_64 rfl ?_
      exact j_vret rfl d_S_readOperand_86 ⟨_, rfl, (((frm.rf _ S).s1 (by decide) _).s1 (by decide) _).s1 (by decide) _, hx.2.2, rfl, rfl, rfl⟩
    · rw [b2i_dF h2]
      have e0 : pOpd (S.2.1 5) (S.2.1 0) c ((k, s, e) :: r1) = (match pFld (S.2.1 5) (S.2.1 0) c ((k, s, e) :: r1) with | .inl (f, r1) => .inl (.inl f, r1) | .inr p => .inr p) := (if_neg h1).trans (if_neg h2)
      rw [e0]
      refine j_if_eqT (tgt := 67) d_S_readOperand_28 rfl rfl ?_
      refine j_iload_n d_S_readOperand_67 rfl ?_
      refine j_if_eqT (tgt := 78) d_S_readOperand_68 rfl rfl ?_
      refine j_aload_n d_S_readOperand_78 rfl ?_
      refine j_aload_n d_S_readOperand_79 rfl ?_
      refine j_pst (j_callV d_S_readOperand_80 v_S_readField l_S_174 rfl rfl (m_S_readField K (d - 1) (by omega) S J n c _ hR) (by omega) (by decide) (Nat.le_of_ble_eq_true rfl) rfl) rfl (fun _ _ _ q => by cases q) (fun j r2 v S2 hj f2 hR2 hv => ?_) (fun p S2 hp f2 hp2 => ?_)
      · cases hv
        rw [hj]
        refine j_retV (j_callV d_S_readOperand_83 v_O_becomeField l_S_203 rfl rfl (m_O_becomeField_52 K (d - 1) S2 J _) (by omega) (by decide) (Nat.le_of_ble_eq_true rfl) rfl) rfl ?_
        exact j_vret rfl d_S_readOperand_86 ⟨_, rfl, (f2.up (by decide)).s1 (by decide) _, hR2.keep (((frm.rf [20] S2).s1 (by decide) _)) (by decide), rfl, pFld_lt hj h6, rfl⟩
      · rw [hp]
        exact ⟨rfl, _, rfl, f2.up (by decide), hp2⟩
theorem m_S_readOperand_53 (K : jK) (d : Nat) (hd : 8 ≤ d) (S : jS) (J : jH) (n c : Nat) (r : List Tok) (hR : Rdr S n c r) : jM K M_S_readOperand d [.ref 42, .ref 53] (lay S ++ J) (pst n c [12, 22, 23] S J (yO 22 23) (pOpd (S.2.1 5) (S.2.1 0) c r)) 0 0 := by
  refine jM.of (by decide) (Nat.le_of_ble_eq_true rfl) ?_
  obtain ⟨a, k, s, e, r1, rfl, ha, h101, hk, hs, he, hse, hen, hnx⟩ := hR.cur
  have hR0 := hR
  obtain ⟨hn, h100, hc, ht, hf, h6, hl, hA, -⟩ := hR0
  have hll := tokL_len (S.2.1 5) n (n - 0) 0 (Nat.le_refl _) (Nat.zero_le _)
  refine j_aload_n d_S_readOperand_0 rfl ?_
  refine j_getf d_S_readOperand_1 f_S_24 rfl rfl ?_
  refine j_bipush (v := 45) d_S_readOperand_4 (by decide) ?_
  refine j_retI (j_callV d_S_readOperand_6 v_K_isSign l_S_125 rfl rfl (m_K_isSign K (d - 1) S J 45 a ha h101) (by omega) (by decide) (Nat.le_of_ble_eq_true rfl) rfl) rfl ?_
  rw [hk]
  by_cases h1 : k = 45
  · rw [b2i_dT h1]
    have hx := hnx (by rw [h1]; decide)
    refine j_istore_n d_S_readOperand_9 (by decide) ?_
    refine j_iload_n d_S_readOperand_10 rfl ?_
    refine j_if_eqF (tgt := 21) d_S_readOperand_11 rfl (by decide) ?_
    refine j_aload_n d_S_readOperand_14 rfl ?_
    refine j_getf d_S_readOperand_15 f_S_24 rfl rfl ?_
    refine j_retV (j_callV d_S_readOperand_18 v_K_advance l_S_99 rfl rfl (m_K_advance K (d - 1) S J a ha h101 _ hl hx.2.1 (by omega)) (by omega) (by decide) (Nat.le_of_ble_eq_true rfl) rfl) rfl ?_
    obtain ⟨a2, k2, s2, e2, r2, rfl, ha2, h1012, hk2, hs2, he2, hse2, hen2, hnx2⟩ := hx.2.2.cur
    have e0 : pOpd (S.2.1 5) (S.2.1 0) c ((k, s, e) :: (k2, s2, e2) :: r2) = if k2 = 48 then .inl (.inr (-(numV (S.2.1 5) (e2 - s2) s2 0)), r2) else .inr s2 := by rw [pOpd, if_pos h1]
    refine j_aload_n d_S_readOperand_21 rfl ?_
    refine j_getf d_S_readOperand_22 f_S_24 rfl rfl ?_
    refine j_retI (j_callV d_S_readOperand_25 v_K_isNumber l_S_191 rfl rfl (m_K_isNumber K (d - 1) (s1 S 12 (nI (a + 1))) J a2 ha2 h1012) (by omega) (by decide) (Nat.le_of_ble_eq_true rfl) rfl) rfl ?_
    rw [hk2]
    by_cases h2 : k2 = 48
    · rw [b2i_dT h2]
      rw [e0, if_pos h2]
      have hx2 := hnx2 (by rw [h2]; decide)
      refine j_if_eqF (tgt := 67) d_S_readOperand_28 rfl (by decide) ?_
      refine j_aload_n d_S_readOperand_31 rfl ?_
      refine j_iload_n d_S_readOperand_32 rfl ?_
      refine j_if_eqF (tgt := 47) d_S_readOperand_33 rfl (by decide) ?_
      refine j_aload_n d_S_readOperand_36 rfl ?_
      refine j_getf d_S_readOperand_37 f_S_24 rfl rfl ?_
      refine j_retI (j_callV d_S_readOperand_40 v_K_number l_S_194 rfl rfl (m_K_number K (d - 1) (by omega) (s1 S 12 (nI (a + 1))) J a2 ha2 h1012 n hn h100 hc s2 e2 hs2 he2 hse2 (by omega) hen2) (by omega) (by decide) (Nat.le_of_ble_eq_true rfl) rfl) rfl ?_
      refine j_ineg d_S_readOperand_43 ?_
      refine j_goto (tgt := 54) d_S_readOperand_44 rfl ?_
      refine j_retV (j_callV d_S_readOperand_54 v_O_becomeNumber l_S_197 rfl rfl (m_O_becomeNumber_53 K (d - 1) (s1 S 12 (nI (a + 1))) J _) (by omega) (by decide) (Nat.le_of_ble_eq_true rfl) rfl) rfl ?_
      refine j_aload_n d_S_readOperand_57 rfl ?_
      refine j_getf d_S_readOperand_58 f_S_24 rfl rfl ?_
      refine j_retV (j_callV d_S_readOperand_61 v_K_advance l_S_99 rfl rfl (m_K_advance K (d - 1) (s1 (s1 (s1 S 12 (nI (a + 1))) 22 (-1)) 23 (-(numV (S.2.1 5) (e2 - s2) s2 0))) J a2 ha2 h1012 _ hl hx2.2.1 (by omega)) (by omega) (by decide) (Nat.le_of_ble_eq_true rfl) rfl) rfl ?_
      refine j_goto (tgt := 86) d_S_readOperand_64 rfl ?_
      exact j_vret rfl d_S_readOperand_86 ⟨_, rfl, ((((frm.rf _ S).s1 (by decide) _).s1 (by decide) _).s1 (by decide) _).s1 (by decide) _, hx2.2.2, rfl, rfl, rfl⟩
    · rw [b2i_dF h2]
      rw [e0, if_neg h2]
      refine j_if_eqT (tgt := 67) d_S_readOperand_28 rfl rfl ?_
      refine j_iload_n d_S_readOperand_67 rfl ?_
      refine j_if_eqF (tgt := 78) d_S_readOperand_68 rfl (by decide) ?_
      refine j_aload_n d_S_readOperand_71 rfl ?_
      refine j_retX (j_callV d_S_readOperand_72 v_S_refuse l_S_113 rfl rfl (m_S_refuse K (d - 1) (by omega) (s1 S 12 (nI (a + 1))) J a2 ha2 h1012 s2 hs2) (by omega) (by decide) (Nat.le_of_ble_eq_true rfl) rfl) rfl ?_
      exact ⟨rfl, _, rfl, ((frm.rf _ S).s1 (by decide) _).s1 (by decide) _, rfl⟩
  · rw [b2i_dF h1]
    refine j_istore_n d_S_readOperand_9 (by decide) ?_
    refine j_iload_n d_S_readOperand_10 rfl ?_
    refine j_if_eqT (tgt := 21) d_S_readOperand_11 rfl rfl ?_
    refine j_aload_n d_S_readOperand_21 rfl ?_
    refine j_getf d_S_readOperand_22 f_S_24 rfl rfl ?_
    refine j_retI (j_callV d_S_readOperand_25 v_K_isNumber l_S_191 rfl rfl (m_K_isNumber K (d - 1) S J a ha h101) (by omega) (by decide) (Nat.le_of_ble_eq_true rfl) rfl) rfl ?_
    rw [hk]
    by_cases h2 : k = 48
    · rw [b2i_dT h2]
      rw [show pOpd (S.2.1 5) (S.2.1 0) c ((k, s, e) :: r1) = .inl (.inr (numV (S.2.1 5) (e - s) s 0), r1) from (if_neg h1).trans (if_pos h2)]
      have hx := hnx (by rw [h2]; decide)
      refine j_if_eqF (tgt := 67) d_S_readOperand_28 rfl (by decide) ?_
      refine j_aload_n d_S_readOperand_31 rfl ?_
      refine j_iload_n d_S_readOperand_32 rfl ?_
      refine j_if_eqT (tgt := 47) d_S_readOperand_33 rfl rfl ?_
      refine j_aload_n d_S_readOperand_47 rfl ?_
      refine j_getf d_S_readOperand_48 f_S_24 rfl rfl ?_
      refine j_retI (j_callV d_S_readOperand_51 v_K_number l_S_194 rfl rfl (m_K_number K (d - 1) (by omega) S J a ha h101 n hn h100 hc s e hs he hse (by omega) hen) (by omega) (by decide) (Nat.le_of_ble_eq_true rfl) rfl) rfl ?_
      refine j_retV (j_callV d_S_readOperand_54 v_O_becomeNumber l_S_197 rfl rfl (m_O_becomeNumber_53 K (d - 1) S J _) (by omega) (by decide) (Nat.le_of_ble_eq_true rfl) rfl) rfl ?_
      refine j_aload_n d_S_readOperand_57 rfl ?_
      refine j_getf d_S_readOperand_58 f_S_24 rfl rfl ?_
      refine j_retV (j_callV d_S_readOperand_61 v_K_advance l_S_99 rfl rfl (m_K_advance K (d - 1) (s1 (s1 S 22 (-1)) 23 (numV (S.2.1 5) (e - s) s 0)) J a ha h101 _ hl hx.2.1 (by omega)) (by omega) (by decide) (Nat.le_of_ble_eq_true rfl) rfl) rfl ?_
      refine j_goto (tgt := 86) d_S_readOperand_64 rfl ?_
      exact j_vret rfl d_S_readOperand_86 ⟨_, rfl, (((frm.rf _ S).s1 (by decide) _).s1 (by decide) _).s1 (by decide) _, hx.2.2, rfl, rfl, rfl⟩
    · rw [b2i_dF h2]
      have e0 : pOpd (S.2.1 5) (S.2.1 0) c ((k, s, e) :: r1) = (match pFld (S.2.1 5) (S.2.1 0) c ((k, s, e) :: r1) with | .inl (f, r1) => .inl (.inl f, r1) | .inr p => .inr p) := (if_neg h1).trans (if_neg h2)
      rw [e0]
      refine j_if_eqT (tgt := 67) d_S_readOperand_28 rfl rfl ?_
      refine j_iload_n d_S_readOperand_67 rfl ?_
      refine j_if_eqT (tgt := 78) d_S_readOperand_68 rfl rfl ?_
      refine j_aload_n d_S_readOperand_78 rfl ?_
      refine j_aload_n d_S_readOperand_79 rfl ?_
      refine j_pst (j_callV d_S_readOperand_80 v_S_readField l_S_174 rfl rfl (m_S_readField K (d - 1) (by omega) S J n c _ hR) (by omega) (by decide) (Nat.le_of_ble_eq_true rfl) rfl) rfl (fun _ _ _ q => by cases q) (fun j r2 v S2 hj f2 hR2 hv => ?_) (fun p S2 hp f2 hp2 => ?_)
      · cases hv
        rw [hj]
        refine j_retV (j_callV d_S_readOperand_83 v_O_becomeField l_S_203 rfl rfl (m_O_becomeField_53 K (d - 1) S2 J _) (by omega) (by decide) (Nat.le_of_ble_eq_true rfl) rfl) rfl ?_
        exact j_vret rfl d_S_readOperand_86 ⟨_, rfl, (f2.up (by decide)).s1 (by decide) _, hR2.keep (((frm.rf [22] S2).s1 (by decide) _)) (by decide), rfl, pFld_lt hj h6, rfl⟩
      · rw [hp]
        exact ⟨rfl, _, rfl, f2.up (by decide), hp2⟩
theorem m_S_readOperand_56 (K : jK) (d : Nat) (hd : 8 ≤ d) (S : jS) (J : jH) (n c : Nat) (r : List Tok) (hR : Rdr S n c r) : jM K M_S_readOperand d [.ref 42, .ref 56] (lay S ++ J) (pst n c [12, 26, 27] S J (yO 26 27) (pOpd (S.2.1 5) (S.2.1 0) c r)) 0 0 := by
  refine jM.of (by decide) (Nat.le_of_ble_eq_true rfl) ?_
  obtain ⟨a, k, s, e, r1, rfl, ha, h101, hk, hs, he, hse, hen, hnx⟩ := hR.cur
  have hR0 := hR
  obtain ⟨hn, h100, hc, ht, hf, h6, hl, hA, -⟩ := hR0
  have hll := tokL_len (S.2.1 5) n (n - 0) 0 (Nat.le_refl _) (Nat.zero_le _)
  refine j_aload_n d_S_readOperand_0 rfl ?_
  refine j_getf d_S_readOperand_1 f_S_24 rfl rfl ?_
  refine j_bipush (v := 45) d_S_readOperand_4 (by decide) ?_
  refine j_retI (j_callV d_S_readOperand_6 v_K_isSign l_S_125 rfl rfl (m_K_isSign K (d - 1) S J 45 a ha h101) (by omega) (by decide) (Nat.le_of_ble_eq_true rfl) rfl) rfl ?_
  rw [hk]
  by_cases h1 : k = 45
  · rw [b2i_dT h1]
    have hx := hnx (by rw [h1]; decide)
    refine j_istore_n d_S_readOperand_9 (by decide) ?_
    refine j_iload_n d_S_readOperand_10 rfl ?_
    refine j_if_eqF (tgt := 21) d_S_readOperand_11 rfl (by decide) ?_
    refine j_aload_n d_S_readOperand_14 rfl ?_
    refine j_getf d_S_readOperand_15 f_S_24 rfl rfl ?_
    refine j_retV (j_callV d_S_readOperand_18 v_K_advance l_S_99 rfl rfl (m_K_advance K (d - 1) S J a ha h101 _ hl hx.2.1 (by omega)) (by omega) (by decide) (Nat.le_of_ble_eq_true rfl) rfl) rfl ?_
    obtain ⟨a2, k2, s2, e2, r2, rfl, ha2, h1012, hk2, hs2, he2, hse2, hen2, hnx2⟩ := hx.2.2.cur
    have e0 : pOpd (S.2.1 5) (S.2.1 0) c ((k, s, e) :: (k2, s2, e2) :: r2) = if k2 = 48 then .inl (.inr (-(numV (S.2.1 5) (e2 - s2) s2 0)), r2) else .inr s2 := by rw [pOpd, if_pos h1]
    refine j_aload_n d_S_readOperand_21 rfl ?_
    refine j_getf d_S_readOperand_22 f_S_24 rfl rfl ?_
    refine j_retI (j_callV d_S_readOperand_25 v_K_isNumber l_S_191 rfl rfl (m_K_isNumber K (d - 1) (s1 S 12 (nI (a + 1))) J a2 ha2 h1012) (by omega) (by decide) (Nat.le_of_ble_eq_true rfl) rfl) rfl ?_
    rw [hk2]
    by_cases h2 : k2 = 48
    · rw [b2i_dT h2]
      rw [e0, if_pos h2]
      have hx2 := hnx2 (by rw [h2]; decide)
      refine j_if_eqF (tgt := 67) d_S_readOperand_28 rfl (by decide) ?_
      refine j_aload_n d_S_readOperand_31 rfl ?_
      refine j_iload_n d_S_readOperand_32 rfl ?_
      refine j_if_eqF (tgt := 47) d_S_readOperand_33 rfl (by decide) ?_
      refine j_aload_n d_S_readOperand_36 rfl ?_
      refine j_getf d_S_readOperand_37 f_S_24 rfl rfl ?_
      refine j_retI (j_callV d_S_readOperand_40 v_K_number l_S_194 rfl rfl (m_K_number K (d - 1) (by omega) (s1 S 12 (nI (a + 1))) J a2 ha2 h1012 n hn h100 hc s2 e2 hs2 he2 hse2 (by omega) hen2) (by omega) (by decide) (Nat.le_of_ble_eq_true rfl) rfl) rfl ?_
      refine j_ineg d_S_readOperand_43 ?_
      refine j_goto (tgt := 54) d_S_readOperand_44 rfl ?_
      refine j_retV (j_callV d_S_readOperand_54 v_O_becomeNumber l_S_197 rfl rfl (m_O_becomeNumber_56 K (d - 1) (s1 S 12 (nI (a + 1))) J _) (by omega) (by decide) (Nat.le_of_ble_eq_true rfl) rfl) rfl ?_
      refine j_aload_n d_S_readOperand_57 rfl ?_
      refine j_getf d_S_readOperand_58 f_S_24 rfl rfl ?_
      refine j_retV (j_callV d_S_readOperand_61 v_K_advance l_S_99 rfl rfl (m_K_advance K (d - 1) (s1 (s1 (s1 S 12 (nI (a + 1))) 26 (-1)) 27 (-(numV (S.2.1 5) (e2 - s2) s2 0))) J a2 ha2 h1012 _ hl hx2.2.1 (by omega)) (by omega) (by decide) (Nat.le_of_ble_eq_true rfl) rfl) rfl ?_
      refine j_goto (tgt := 86) d_S_readOperand_64 rfl ?_
      exact j_vret rfl d_S_readOperand_86 ⟨_, rfl, ((((frm.rf _ S).s1 (by decide) _).s1 (by decide) _).s1 (by decide) _).s1 (by decide) _, hx2.2.2, rfl, rfl, rfl⟩
    · rw [b2i_dF h2]
      rw [e0, if_neg h2]
      refine j_if_eqT (tgt := 67) d_S_readOperand_28 rfl rfl ?_
      refine j_iload_n d_S_readOperand_67 rfl ?_
      refine j_if_eqF (tgt := 78) d_S_readOperand_68 rfl (by decide) ?_
      refine j_aload_n d_S_readOperand_71 rfl ?_
      refine j_retX (j_callV d_S_readOperand_72 v_S_refuse l_S_113 rfl rfl (m_S_refuse K (d - 1) (by omega) (s1 S 12 (nI (a + 1))) J a2 ha2 h1012 s2 hs2) (by omega) (by decide) (Nat.le_of_ble_eq_true rfl) rfl) rfl ?_
      exact ⟨rfl, _, rfl, ((frm.rf _ S).s1 (by decide) _).s1 (by decide) _, rfl⟩
  · rw [b2i_dF h1]
    refine j_istore_n d_S_readOperand_9 (by decide) ?_
    refine j_iload_n d_S_readOperand_10 rfl ?_
    refine j_if_eqT (tgt := 21) d_S_readOperand_11 rfl rfl ?_
    refine j_aload_n d_S_readOperand_21 rfl ?_
    refine j_getf d_S_readOperand_22 f_S_24 rfl rfl ?_
    refine j_retI (j_callV d_S_readOperand_25 v_K_isNumber l_S_191 rfl rfl (m_K_isNumber K (d - 1) S J a ha h101) (by omega) (by decide) (Nat.le_of_ble_eq_true rfl) rfl) rfl ?_
    rw [hk]
    by_cases h2 : k = 48
    · rw [b2i_dT h2]
      rw [show pOpd (S.2.1 5) (S.2.1 0) c ((k, s, e) :: r1) = .inl (.inr (numV (S.2.1 5) (e - s) s 0), r1) from (if_neg h1).trans (if_pos h2)]
      have hx := hnx (by rw [h2]; decide)
      refine j_if_eqF (tgt := 67) d_S_readOperand_28 rfl (by decide) ?_
      refine j_aload_n d_S_readOperand_31 rfl ?_
      refine j_iload_n d_S_readOperand_32 rfl ?_
      refine j_if_eqT (tgt := 47) d_S_readOperand_33 rfl rfl ?_
      refine j_aload_n d_S_readOperand_47 rfl ?_
      refine j_getf d_S_readOperand_48 f_S_24 rfl rfl ?_
      refine j_retI (j_callV d_S_readOperand_51 v_K_number l_S_194 rfl rfl (m_K_number K (d - 1) (by omega) S J a ha h101 n hn h100 hc s e hs he hse (by omega) hen) (by omega) (by decide) (Nat.le_of_ble_eq_true rfl) rfl) rfl ?_
      refine j_retV (j_callV d_S_readOperand_54 v_O_becomeNumber l_S_197 rfl rfl (m_O_becomeNumber_56 K (d - 1) S J _) (by omega) (by decide) (Nat.le_of_ble_eq_true rfl) rfl) rfl ?_
      refine j_aload_n d_S_readOperand_57 rfl ?_
      refine j_getf d_S_readOperand_58 f_S_24 rfl rfl ?_
      refine j_retV (j_callV d_S_readOperand_61 v_K_advance l_S_99 rfl rfl (m_K_advance K (d - 1) (s1 (s1 S 26 (-1)) 27 (numV (S.2.1 5) (e - s) s 0)) J a ha h101 _ hl hx.2.1 (by omega)) (by omega) (by decide) (Nat.le_of_ble_eq_true rfl) rfl) rfl ?_
      refine j_goto (tgt := 86) d_S_readOperand_64 rfl ?_
      exact j_vret rfl d_S_readOperand_86 ⟨_, rfl, (((frm.rf _ S).s1 (by decide) _).s1 (by decide) _).s1 (by decide) _, hx.2.2, rfl, rfl, rfl⟩
    · rw [b2i_dF h2]
      have e0 : pOpd (S.2.1 5) (S.2.1 0) c ((k, s, e) :: r1) = (match pFld (S.2.1 5) (S.2.1 0) c ((k, s, e) :: r1) with | .inl (f, r1) => .inl (.inl f, r1) | .inr p => .inr p) := (if_neg h1).trans (if_neg h2)
      rw [e0]
      refine j_if_eqT (tgt := 67) d_S_readOperand_28 rfl rfl ?_
      refine j_iload_n d_S_readOperand_67 rfl ?_
      refine j_if_eqT (tgt := 78) d_S_readOperand_68 rfl rfl ?_
      refine j_aload_n d_S_readOperand_78 rfl ?_
      refine j_aload_n d_S_readOperand_79 rfl ?_
      refine j_pst (j_callV d_S_readOperand_80 v_S_readField l_S_174 rfl rfl (m_S_readField K (d - 1) (by omega) S J n c _ hR) (by omega) (by decide) (Nat.le_of_ble_eq_true rfl) rfl) rfl (fun _ _ _ q => by cases q) (fun j r2 v S2 hj f2 hR2 hv => ?_) (fun p S2 hp f2 hp2 => ?_)
      · cases hv
        rw [hj]
        refine j_retV (j_callV d_S_readOperand_83 v_O_becomeField l_S_203 rfl rfl (m_O_becomeField_56 K (d - 1) S2 J _) (by omega) (by decide) (Nat.le_of_ble_eq_true rfl) rfl) rfl ?_
        exact j_vret rfl d_S_readOperand_86 ⟨_, rfl, (f2.up (by decide)).s1 (by decide) _, hR2.keep (((frm.rf [26] S2).s1 (by decide) _)) (by decide), rfl, pFld_lt hj h6, rfl⟩
      · rw [hp]
        exact ⟨rfl, _, rfl, f2.up (by decide), hp2⟩
theorem m_S_readOperand_57 (K : jK) (d : Nat) (hd : 8 ≤ d) (S : jS) (J : jH) (n c : Nat) (r : List Tok) (hR : Rdr S n c r) : jM K M_S_readOperand d [.ref 42, .ref 57] (lay S ++ J) (pst n c [12, 28, 29] S J (yO 28 29) (pOpd (S.2.1 5) (S.2.1 0) c r)) 0 0 := by
  refine jM.of (by decide) (Nat.le_of_ble_eq_true rfl) ?_
  obtain ⟨a, k, s, e, r1, rfl, ha, h101, hk, hs, he, hse, hen, hnx⟩ := hR.cur
  have hR0 := hR
  obtain ⟨hn, h100, hc, ht, hf, h6, hl, hA, -⟩ := hR0
  have hll := tokL_len (S.2.1 5) n (n - 0) 0 (Nat.le_refl _) (Nat.zero_le _)
  refine j_aload_n d_S_readOperand_0 rfl ?_
  refine j_getf d_S_readOperand_1 f_S_24 rfl rfl ?_
  refine j_bipush (v := 45) d_S_readOperand_4 (by decide) ?_
  refine j_retI (j_callV d_S_readOperand_6 v_K_isSign l_S_125 rfl rfl (m_K_isSign K (d - 1) S J 45 a ha h101) (by omega) (by decide) (Nat.le_of_ble_eq_true rfl) rfl) rfl ?_
  rw [hk]
  by_cases h1 : k = 45
  · rw [b2i_dT h1]
    have hx := hnx (by rw [h1]; decide)
    refine j_istore_n d_S_readOperand_9 (by decide) ?_
    refine j_iload_n d_S_readOperand_10 rfl ?_
    refine j_if_eqF (tgt := 21) d_S_readOperand_11 rfl (by decide) ?_
    refine j_aload_n d_S_readOperand_14 rfl ?_
    refine j_getf d_S_readOperand_15 f_S_24 rfl rfl ?_
    refine j_retV (j_callV d_S_readOperand_18 v_K_advance l_S_99 rfl rfl (m_K_advance K (d - 1) S J a ha h101 _ hl hx.2.1 (by omega)) (by omega) (by decide) (Nat.le_of_ble_eq_true rfl) rfl) rfl ?_
    obtain ⟨a2, k2, s2, e2, r2, rfl, ha2, h1012, hk2, hs2, he2, hse2, hen2, hnx2⟩ := hx.2.2.cur
    have e0 : pOpd (S.2.1 5) (S.2.1 0) c ((k, s, e) :: (k2, s2, e2) :: r2) = if k2 = 48 then .inl (.inr (-(numV (S.2.1 5) (e2 - s2) s2 0)), r2) else .inr s2 := by rw [pOpd, if_pos h1]
    refine j_aload_n d_S_readOperand_21 rfl ?_
    refine j_getf d_S_readOperand_22 f_S_24 rfl rfl ?_
    refine j_retI (j_callV d_S_readOperand_25 v_K_isNumber l_S_191 rfl rfl (m_K_isNumber K (d - 1) (s1 S 12 (nI (a + 1))) J a2 ha2 h1012) (by omega) (by decide) (Nat.le_of_ble_eq_true rfl) rfl) rfl ?_
    rw [hk2]
    by_cases h2 : k2 = 48
    · rw [b2i_dT h2]
      rw [e0, if_pos h2]
      have hx2 := hnx2 (by rw [h2]; decide)
      refine j_if_eqF (tgt := 67) d_S_readOperand_28 rfl (by decide) ?_
      refine j_aload_n d_S_readOperand_31 rfl ?_
      refine j_iload_n d_S_readOperand_32 rfl ?_
      refine j_if_eqF (tgt := 47) d_S_readOperand_33 rfl (by decide) ?_
      refine j_aload_n d_S_readOperand_36 rfl ?_
      refine j_getf d_S_readOperand_37 f_S_24 rfl rfl ?_
      refine j_retI (j_callV d_S_readOperand_40 v_K_number l_S_194 rfl rfl (m_K_number K (d - 1) (by omega) (s1 S 12 (nI (a + 1))) J a2 ha2 h1012 n hn h100 hc s2 e2 hs2 he2 hse2 (by omega) hen2) (by omega) (by decide) (Nat.le_of_ble_eq_true rfl) rfl) rfl ?_
      refine j_ineg d_S_readOperand_43 ?_
      refine j_goto (tgt := 54) d_S_readOperand_44 rfl ?_
      refine j_retV (j_callV d_S_readOperand_54 v_O_becomeNumber l_S_197 rfl rfl (m_O_becomeNumber_57 K (d - 1) (s1 S 12 (nI (a + 1))) J _) (by omega) (by decide) (Nat.le_of_ble_eq_true rfl) rfl) rfl ?_
      refine j_aload_n d_S_readOperand_57 rfl ?_
      refine j_getf d_S_readOperand_58 f_S_24 rfl rfl ?_
      refine j_retV (j_callV d_S_readOperand_61 v_K_advance l_S_99 rfl rfl (m_K_advance K (d - 1) (s1 (s1 (s1 S 12 (nI (a + 1))) 28 (-1)) 29 (-(numV (S.2.1 5) (e2 - s2) s2 0))) J a2 ha2 h1012 _ hl hx2.2.1 (by omega)) (by omega) (by decide) (Nat.le_of_ble_eq_true rfl) rfl) rfl ?_
      refine j_goto (tgt := 86) d_S_readOperand_64 rfl ?_
      exact j_vret rfl d_S_readOperand_86 ⟨_, rfl, ((((frm.rf _ S).s1 (by decide) _).s1 (by decide) _).s1 (by decide) _).s1 (by decide) _, hx2.2.2, rfl, rfl, rfl⟩
    · rw [b2i_dF h2]
      rw [e0, if_neg h2]
      refine j_if_eqT (tgt := 67) d_S_readOperand_28 rfl rfl ?_
      refine j_iload_n d_S_readOperand_67 rfl ?_
      refine j_if_eqF (tgt := 78) d_S_readOperand_68 rfl (by decide) ?_
      refine j_aload_n d_S_readOperand_71 rfl ?_
      refine j_retX (j_callV d_S_readOperand_72 v_S_refuse l_S_113 rfl rfl (m_S_refuse K (d - 1) (by omega) (s1 S 12 (nI (a + 1))) J a2 ha2 h1012 s2 hs2) (by omega) (by decide) (Nat.le_of_ble_eq_true rfl) rfl) rfl ?_
      exact ⟨rfl, _, rfl, ((frm.rf _ S).s1 (by decide) _).s1 (by decide) _, rfl⟩
  · rw [b2i_dF h1]
    refine j_istore_n d_S_readOperand_9 (by decide) ?_
    refine j_iload_n d_S_readOperand_10 rfl ?_
    refine j_if_eqT (tgt := 21) d_S_readOperand_11 rfl rfl ?_
    refine j_aload_n d_S_readOperand_21 rfl ?_
    refine j_getf d_S_readOperand_22 f_S_24 rfl rfl ?_
    refine j_retI (j_callV d_S_readOperand_25 v_K_isNumber l_S_191 rfl rfl (m_K_isNumber K (d - 1) S J a ha h101) (by omega) (by decide) (Nat.le_of_ble_eq_true rfl) rfl) rfl ?_
    rw [hk]
    by_cases h2 : k = 48
    · rw [b2i_dT h2]
      rw [show pOpd (S.2.1 5) (S.2.1 0) c ((k, s, e) :: r1) = .inl (.inr (numV (S.2.1 5) (e - s) s 0), r1) from (if_neg h1).trans (if_pos h2)]
      have hx := hnx (by rw [h2]; decide)
      refine j_if_eqF (tgt := 67) d_S_readOperand_28 rfl (by decide) ?_
      refine j_aload_n d_S_readOperand_31 rfl ?_
      refine j_iload_n d_S_readOperand_32 rfl ?_
      refine j_if_eqT (tgt := 47) d_S_readOperand_33 rfl rfl ?_
      refine j_aload_n d_S_readOperand_47 rfl ?_
      refine j_getf d_S_readOperand_48 f_S_24 rfl rfl ?_
      refine j_retI (j_callV d_S_readOperand_51 v_K_number l_S_194 rfl rfl (m_K_number K (d - 1) (by omega) S J a ha h101 n hn h100 hc s e hs he hse (by omega) hen) (by omega) (by decide) (Nat.le_of_ble_eq_true rfl) rfl) rfl ?_
      refine j_retV (j_callV d_S_readOperand_54 v_O_becomeNumber l_S_197 rfl rfl (m_O_becomeNumber_57 K (d - 1) S J _) (by omega) (by decide) (Nat.le_of_ble_eq_true rfl) rfl) rfl ?_
      refine j_aload_n d_S_readOperand_57 rfl ?_
      refine j_getf d_S_readOperand_58 f_S_24 rfl rfl ?_
      refine j_retV (j_callV d_S_readOperand_61 v_K_advance l_S_99 rfl rfl (m_K_advance K (d - 1) (s1 (s1 S 28 (-1)) 29 (numV (S.2.1 5) (e - s) s 0)) J a ha h101 _ hl hx.2.1 (by omega)) (by omega) (by decide) (Nat.le_of_ble_eq_true rfl) rfl) rfl ?_
      refine j_goto (tgt := 86) d_S_readOperand_64 rfl ?_
      exact j_vret rfl d_S_readOperand_86 ⟨_, rfl, (((frm.rf _ S).s1 (by decide) _).s1 (by decide) _).s1 (by decide) _, hx.2.2, rfl, rfl, rfl⟩
    · rw [b2i_dF h2]
      have e0 : pOpd (S.2.1 5) (S.2.1 0) c ((k, s, e) :: r1) = (match pFld (S.2.1 5) (S.2.1 0) c ((k, s, e) :: r1) with | .inl (f, r1) => .inl (.inl f, r1) | .inr p => .inr p) := (if_neg h1).trans (if_neg h2)
      rw [e0]
      refine j_if_eqT (tgt := 67) d_S_readOperand_28 rfl rfl ?_
      refine j_iload_n d_S_readOperand_67 rfl ?_
      refine j_if_eqT (tgt := 78) d_S_readOperand_68 rfl rfl ?_
      refine j_aload_n d_S_readOperand_78 rfl ?_
      refine j_aload_n d_S_readOperand_79 rfl ?_
      refine j_pst (j_callV d_S_readOperand_80 v_S_readField l_S_174 rfl rfl (m_S_readField K (d - 1) (by omega) S J n c _ hR) (by omega) (by decide) (Nat.le_of_ble_eq_true rfl) rfl) rfl (fun _ _ _ q => by cases q) (fun j r2 v S2 hj f2 hR2 hv => ?_) (fun p S2 hp f2 hp2 => ?_)
      · cases hv
        rw [hj]
        refine j_retV (j_callV d_S_readOperand_83 v_O_becomeField l_S_203 rfl rfl (m_O_becomeField_57 K (d - 1) S2 J _) (by omega) (by decide) (Nat.le_of_ble_eq_true rfl) rfl) rfl ?_
        exact j_vret rfl d_S_readOperand_86 ⟨_, rfl, (f2.up (by decide)).s1 (by decide) _, hR2.keep (((frm.rf [28] S2).s1 (by decide) _)) (by decide), rfl, pFld_lt hj h6, rfl⟩
      · rw [hp]
        exact ⟨rfl, _, rfl, f2.up (by decide), hp2⟩
