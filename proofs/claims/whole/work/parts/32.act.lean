/-! BitLoom$Statement.readChange, readVerb, readAction; BitLoom$Action.word -/
abbrev Chg : Type := Nat × Opd × Int32 × Opd
def pChg (T N : Nat → Int32) (c : Nat) (r : List Tok) : Rs Chg := match pFld T N c r with
  | .inr p => .inr p
  | .inl (f, r1) => match pPass 61 r1 with
    | .inr p => .inr p
    | .inl (_, r2) => match pOpd T N c r2 with
      | .inr p => .inr p
      | .inl (x, r3) => match pSgn 43 45 42 r3 with
        | .inr p => .inr p
        | .inl (k, r4) => if k = 32 then .inl ((f, x, 32, .inr 0), r4) else match pOpd T N c r4 with
          | .inr p => .inr p
          | .inl (y, r5) => .inl ((f, x, k, y), r5)
/-- the change that is told by these numbers -/
def isC (t l m g l2 m2 : Nat) (q : Chg) (S : jS) : Prop := q.1 < 6 ∧ S.1 t = nI q.1 ∧ isO l m q.2.1 S ∧ S.1 g = q.2.2.1 ∧ (q.2.2.1 = 32 ∨ ((q.2.2.1 = 43 ∨ q.2.2.1 = 45 ∨ q.2.2.1 = 42) ∧ isO l2 m2 q.2.2.2 S))
def yC (t l m g l2 m2 : Nat) : Chg → jO → jS → Prop := fun q o S => o = .inl none ∧ isC t l m g l2 m2 q S
theorem pSgn_or {x y z k : Int32} {r r1 : List Tok} (h : pSgn x y z r = .inl (k, r1)) : k = 32 ∨ (k = x ∨ k = y ∨ k = z) := by
  cases r with
  | nil => cases h
  | cons q r =>
    obtain ⟨k0, s, e⟩ := q
    by_cases ho : k0 = x ∨ k0 = y ∨ k0 = z
    · rw [pSgn, if_pos ho] at h; cases h; exact .inr ho
    · rw [pSgn, if_neg ho] at h; cases h; exact .inl rfl
theorem sg2_nar {k : Int32} (h : k = 32 ∨ (k = 43 ∨ k = 45 ∨ k = 42)) : narrow .char (.int k) = .int k := by rcases h with q | q | q | q <;> rw [q] <;> rfl
theorem sg2_fit (K : jK) {k : Int32} (h : k = 32 ∨ (k = 43 ∨ k = 45 ∨ k = 42)) : fits .char (j_v K (.int k)) = true := by rcases h with q | q | q | q <;> rw [q] <;> rfl
theorem m_S_readChange_50 (K : jK) (d : Nat) (hd : 9 ≤ d) (S : jS) (J : jH) (n c : Nat) (r : List Tok) (hR : Rdr S n c r) : jM K M_S_readChange d [.ref 42, .ref 50] (lay S ++ J) (pst n c [12, 18, 19, 20, 21, 22, 23] S J (yC 18 20 21 19 22 23) (pChg (S.2.1 5) (S.2.1 0) c r)) 0 0 := by
  refine jM.of (by decide) (Nat.le_of_ble_eq_true rfl) ?_
  have h6 := hR.2.2.2.2.2.1
  refine j_aload_n d_S_readChange_0 rfl ?_
  refine j_aload_n d_S_readChange_1 rfl ?_
  refine j_pst (j_callV d_S_readChange_2 v_S_readField l_S_174 rfl rfl (m_S_readField K (d - 1) (by omega) S J n c r hR) (by omega) (by decide) (Nat.le_of_ble_eq_true rfl) rfl) rfl (fun _ _ _ q => by cases q) (fun f r1 v S1 hx1 f1 hR1 hv1 => ?_) (fun p S1 hp f1 hp1 => ?_)
  rotate_left
  · rw [show pChg (S.2.1 5) (S.2.1 0) c r = .inr p by unfold pChg; rw [hp]]
    exact ⟨rfl, _, rfl, f1.up (by decide), hp1⟩
  cases hv1
  refine j_st (st' := [.int (nI f), .ref 50]) rfl ?_
  refine j_putf d_S_readChange_5 f_S_185 rfl (Nat.le_of_ble_eq_true rfl) rfl rfl rfl ?_
  refine j_hp (h' := lay (s1 S1 18 (nI f)) ++ J) rfl ?_
  have g1 : frm [12, 18, 19, 20, 21, 22, 23] S (s1 S1 18 (nI f)) := (f1.up (by decide)).s1 (by decide) _
  have hR1' : Rdr (s1 S1 18 (nI f)) n c r1 := hR1.keep ((frm.rf [18] S1).s1 (by decide) _) (by decide)
  refine j_aload_n d_S_readChange_8 rfl ?_
  refine j_bipush (v := 61) d_S_readChange_9 (by decide) ?_
  refine j_pst (j_callV d_S_readChange_11 v_S_passSign l_S_135 rfl rfl (m_S_passSign K (d - 1) (by omega) (s1 S1 18 (nI f)) J n c r1 hR1' 61 (by decide)) (by omega) (by decide) (Nat.le_of_ble_eq_true rfl) rfl) rfl (fun _ _ _ q => by cases q) (fun u r2 v S2 hx2 f2 hR2 hv2 => ?_) (fun p S2 hp f2 hp1 => ?_)
  rotate_left
  · rw [show pChg (S.2.1 5) (S.2.1 0) c r = .inr p by unfold pChg; rw [hx1]; simp only; rw [hp]]
    exact ⟨rfl, _, rfl, (g1.up (by decide)).tr (f2.up (by decide)), hp1⟩
  cases hv2
  refine j_st (st' := []) rfl ?_
  have g2 : frm [12, 18, 19, 20, 21, 22, 23] S S2 := g1.tr (f2.up (by decide))
  refine j_aload_n d_S_readChange_14 rfl ?_
  refine j_aload_n d_S_readChange_15 rfl ?_
  refine j_getf d_S_readChange_16 f_S_188 rfl rfl ?_
  refine j_getf d_S_readChange_19 f_S_139 rfl rfl ?_
  refine j_pst (j_callV d_S_readChange_22 v_S_readOperand l_S_143 rfl rfl (m_S_readOperand_52 K (d - 1) (by omega) S2 J n c r2 hR2) (by omega) (by decide) (Nat.le_of_ble_eq_true rfl) rfl) rfl (fun _ _ _ q => by cases q.1) (fun x r3 v S3 hx3 f3 hR3 hv3 => ?_) (fun p S3 hp f3 hp1 => ?_)
  rotate_left
  · rw [g2.sy] at hp
    rw [show pChg (S.2.1 5) (S.2.1 0) c r = .inr p by unfold pChg; rw [hx1]; simp only; rw [hx2]; simp only; rw [hp]]
    exact ⟨rfl, _, rfl, (g2.up (by decide)).tr (f3.up (by decide)), hp1⟩
  rw [g2.sy] at hx3
  obtain ⟨hv, hO3⟩ := hv3
  cases hv
  refine j_st (st' := []) rfl ?_
  have g3 : frm [12, 18, 19, 20, 21, 22, 23] S S3 := g2.tr (f3.up (by decide))
  refine j_aload_n d_S_readChange_25 rfl ?_
  refine j_getf d_S_readChange_26 f_S_188 rfl rfl ?_
  refine j_aload_n d_S_readChange_29 rfl ?_
  refine j_bipush (v := 43) d_S_readChange_30 (by decide) ?_
  refine j_bipush (v := 45) d_S_readChange_32 (by decide) ?_
  refine j_bipush (v := 42) d_S_readChange_34 (by decide) ?_
  refine j_pst (j_callV d_S_readChange_36 v_S_readSign l_S_147 rfl rfl (m_S_readSign K (d - 1) (by omega) S3 J n c r3 hR3 43 45 42 (by decide) (by decide) ⟨rfl, rfl, rfl⟩) (by omega) (by decide) (Nat.le_of_ble_eq_true rfl) rfl) rfl (fun _ _ _ q => by cases q) (fun k r4 v S4 hx4 f4 hR4 hv4 => ?_) (fun p S4 hp f4 hp1 => ?_)
  rotate_left
  · rw [show pChg (S.2.1 5) (S.2.1 0) c r = .inr p by unfold pChg; rw [hx1]; simp only; rw [hx2]; simp only; rw [hx3]; simp only; rw [hp]]
    exact ⟨rfl, _, rfl, (g3.up (by decide)).tr (f4.up (by decide)), hp1⟩
  have hor := pSgn_or hx4
  cases hv4
  refine j_st (st' := [.int k, .ref 51]) rfl ?_
  refine j_putf d_S_readChange_39 f_S_151 rfl (Nat.le_of_ble_eq_true rfl) (sg2_nar hor) (sg2_fit K hor) rfl ?_
  refine j_hp (h' := lay (s1 S4 19 k) ++ J) rfl ?_
  have g4 : frm [12, 18, 19, 20, 21, 22, 23] S (s1 S4 19 k) := (g3.tr (f4.up (by decide))).s1 (by decide) _
  have hR5 : Rdr (s1 S4 19 k) n c r4 := hR4.keep ((frm.rf [19] S4).s1 (by decide) _) (by decide)
  have k4 : frm [12, 19] S3 (s1 S4 19 k) := (f4.up (by decide)).s1 (by decide) _
  have hO4 : isO 20 21 x (s1 S4 19 k) := isO_keep hO3 k4 (by decide)
  have ht4 : (s1 S4 19 k).1 18 = nI f := (k4.1 18 (by decide)).trans ((f3.1 18 (by decide)).trans (f2.1 18 (by decide)))
  refine j_aload_n d_S_readChange_42 rfl ?_
  refine j_getf d_S_readChange_43 f_S_188 rfl rfl ?_
  refine j_getf d_S_readChange_46 f_S_151 rfl rfl ?_
  refine j_bipush (v := 32) d_S_readChange_49 (by decide) ?_
  by_cases h32 : k = 32
  · refine j_icmp_eqT (tgt := 65) d_S_readChange_51 rfl h32 ?_
    rw [show pChg (S.2.1 5) (S.2.1 0) c r = .inl ((f, x, 32, .inr 0), r4) by unfold pChg; rw [hx1]; simp only; rw [hx2]; simp only; rw [hx3]; simp only; rw [hx4]; simp only; rw [if_pos h32]]
    exact j_vret rfl d_S_readChange_65 ⟨_, rfl, g4, hR5, rfl, pFld_lt hx1 h6, ht4, hO4, h32, .inl rfl⟩
  · refine j_icmp_eqF (tgt := 65) d_S_readChange_51 rfl h32 ?_
    refine j_aload_n d_S_readChange_54 rfl ?_
    refine j_aload_n d_S_readChange_55 rfl ?_
    refine j_getf d_S_readChange_56 f_S_188 rfl rfl ?_
    refine j_getf d_S_readChange_59 f_S_155 rfl rfl ?_
    refine j_pst (j_callV d_S_readChange_62 v_S_readOperand l_S_143 rfl rfl (m_S_readOperand_53 K (d - 1) (by omega) (s1 S4 19 k) J n c r4 hR5) (by omega) (by decide) (Nat.le_of_ble_eq_true rfl) rfl) rfl (fun _ _ _ q => by cases q.1) (fun y r5 v S5 hx5 f5 hR5 hv5 => ?_) (fun p S5 hp f5 hp1 => ?_)
    · rw [g4.sy] at hx5
      obtain ⟨hv, hO5⟩ := hv5
      cases hv
      refine j_st (st' := []) rfl ?_
      rw [show pChg (S.2.1 5) (S.2.1 0) c r = .inl ((f, x, k, y), r5) by unfold pChg; rw [hx1]; simp only; rw [hx2]; simp only; rw [hx3]; simp only; rw [hx4]; simp only; rw [if_neg h32, hx5]]
      exact j_vret rfl d_S_readChange_65 ⟨_, rfl, g4.tr (f5.up (by decide)), hR5, rfl, pFld_lt hx1 h6, (f5.1 18 (by decide)).trans ht4, isO_keep hO4 f5 (by decide), f5.1 19 (by decide), .inr ⟨hor.resolve_left h32, hO5⟩⟩
    · rw [g4.sy] at hp
      rw [show pChg (S.2.1 5) (S.2.1 0) c r = .inr p by unfold pChg; rw [hx1]; simp only; rw [hx2]; simp only; rw [hx3]; simp only; rw [hx4]; simp only; rw [if_neg h32, hp]]
      exact ⟨rfl, _, rfl, (g4.up (by decide)).tr (f5.up (by decide)), hp1⟩
theorem m_S_readChange_54 (K : jK) (d : Nat) (hd : 9 ≤ d) (S : jS) (J : jH) (n c : Nat) (r : List Tok) (hR : Rdr S n c r) : jM K M_S_readChange d [.ref 42, .ref 54] (lay S ++ J) (pst n c [12, 24, 25, 26, 27, 28, 29] S J (yC 24 26 27 25 28 29) (pChg (S.2.1 5) (S.2.1 0) c r)) 0 0 := by
  refine jM.of (by decide) (Nat.le_of_ble_eq_true rfl) ?_
  have h6 := hR.2.2.2.2.2.1
  refine j_aload_n d_S_readChange_0 rfl ?_
  refine j_aload_n d_S_readChange_1 rfl ?_
  refine j_pst (j_callV d_S_readChange_2 v_S_readField l_S_174 rfl rfl (m_S_readField K (d - 1) (by omega) S J n c r hR) (by omega) (by decide) (Nat.le_of_ble_eq_true rfl) rfl) rfl (fun _ _ _ q => by cases q) (fun f r1 v S1 hx1 f1 hR1 hv1 => ?_) (fun p S1 hp f1 hp1 => ?_)
  rotate_left
  · rw [show pChg (S.2.1 5) (S.2.1 0) c r = .inr p by unfold pChg; rw [hp]]
    exact ⟨rfl, _, rfl, f1.up (by decide), hp1⟩
  cases hv1
  refine j_st (st' := [.int (nI f), .ref 54]) rfl ?_
  refine j_putf d_S_readChange_5 f_S_185 rfl (Nat.le_of_ble_eq_true rfl) rfl rfl rfl ?_
  refine j_hp (h' := lay (s1 S1 24 (nI f)) ++ J) rfl ?_
  have g1 : frm [12, 24, 25, 26, 27, 28, 29] S (s1 S1 24 (nI f)) := (f1.up (by decide)).s1 (by decide) _
  have hR1' : Rdr (s1 S1 24 (nI f)) n c r1 := hR1.keep ((frm.rf [24] S1).s1 (by decide) _) (by decide)
  refine j_aload_n d_S_readChange_8 rfl ?_
  refine j_bipush (v := 61) d_S_readChange_9 (by decide) ?_
  refine j_pst (j_callV d_S_readChange_11 v_S_passSign l_S_135 rfl rfl (m_S_passSign K (d - 1) (by omega) (s1 S1 24 (nI f)) J n c r1 hR1' 61 (by decide)) (by omega) (by decide) (Nat.le_of_ble_eq_true rfl) rfl) rfl (fun _ _ _ q => by cases q) (fun u r2 v S2 hx2 f2 hR2 hv2 => ?_) (fun p S2 hp f2 hp1 => ?_)
  rotate_left
  · rw [show pChg (S.2.1 5) (S.2.1 0) c r = .inr p by unfold pChg; rw [hx1]; simp only; rw [hp]]
    exact ⟨rfl, _, rfl, (g1.up (by decide)).tr (f2.up (by decide)), hp1⟩
  cases hv2
  refine j_st (st' := []) rfl ?_
  have g2 : frm [12, 24, 25, 26, 27, 28, 29] S S2 := g1.tr (f2.up (by decide))
  refine j_aload_n d_S_readChange_14 rfl ?_
  refine j_aload_n d_S_readChange_15 rfl ?_
  refine j_getf d_S_readChange_16 f_S_188 rfl rfl ?_
  refine j_getf d_S_readChange_19 f_S_139 rfl rfl ?_
  refine j_pst (j_callV d_S_readChange_22 v_S_readOperand l_S_143 rfl rfl (m_S_readOperand_56 K (d - 1) (by omega) S2 J n c r2 hR2) (by omega) (by decide) (Nat.le_of_ble_eq_true rfl) rfl) rfl (fun _ _ _ q => by cases q.1) (fun x r3 v S3 hx3 f3 hR3 hv3 => ?_) (fun p S3 hp f3 hp1 => ?_)
  rotate_left
  · rw [g2.sy] at hp
    rw [show pChg (S.2.1 5) (S.2.1 0) c r = .inr p by unfold pChg; rw [hx1]; simp only; rw [hx2]; simp only; rw [hp]]
    exact ⟨rfl, _, rfl, (g2.up (by decide)).tr (f3.up (by decide)), hp1⟩
  rw [g2.sy] at hx3
  obtain ⟨hv, hO3⟩ := hv3
  cases hv
  refine j_st (st' := []) rfl ?_
  have g3 : frm [12, 24, 25, 26, 27, 28, 29] S S3 := g2.tr (f3.up (by decide))
  refine j_aload_n d_S_readChange_25 rfl ?_
  refine j_getf d_S_readChange_26 f_S_188 rfl rfl ?_
  refine j_aload_n d_S_readChange_29 rfl ?_
  refine j_bipush (v := 43) d_S_readChange_30 (by decide) ?_
  refine j_bipush (v := 45) d_S_readChange_32 (by decide) ?_
  refine j_bipush (v := 42) d_S_readChange_34 (by decide) ?_
  refine j_pst (j_callV d_S_readChange_36 v_S_readSign l_S_147 rfl rfl (m_S_readSign K (d - 1) (by omega) S3 J n c r3 hR3 43 45 42 (by decide) (by decide) ⟨rfl, rfl, rfl⟩) (by omega) (by decide) (Nat.le_of_ble_eq_true rfl) rfl) rfl (fun _ _ _ q => by cases q) (fun k r4 v S4 hx4 f4 hR4 hv4 => ?_) (fun p S4 hp f4 hp1 => ?_)
  rotate_left
  · rw [show pChg (S.2.1 5) (S.2.1 0) c r = .inr p by unfold pChg; rw [hx1]; simp only; rw [hx2]; simp only; rw [hx3]; simp only; rw [hp]]
    exact ⟨rfl, _, rfl, (g3.up (by decide)).tr (f4.up (by decide)), hp1⟩
  have hor := pSgn_or hx4
  cases hv4
  refine j_st (st' := [.int k, .ref 55]) rfl ?_
  refine j_putf d_S_readChange_39 f_S_151 rfl (Nat.le_of_ble_eq_true rfl) (sg2_nar hor) (sg2_fit K hor) rfl ?_
  refine j_hp (h' := lay (s1 S4 25 k) ++ J) rfl ?_
  have g4 : frm [12, 24, 25, 26, 27, 28, 29] S (s1 S4 25 k) := (g3.tr (f4.up (by decide))).s1 (by decide) _
  have hR5 : Rdr (s1 S4 25 k) n c r4 := hR4.keep ((frm.rf [25] S4).s1 (by decide) _) (by decide)
  have k4 : frm [12, 25] S3 (s1 S4 25 k) := (f4.up (by decide)).s1 (by decide) _
  have hO4 : isO 26 27 x (s1 S4 25 k) := isO_keep hO3 k4 (by decide)
  have ht4 : (s1 S4 25 k).1 24 = nI f := (k4.1 24 (by decide)).trans ((f3.1 24 (by decide)).trans (f2.1 24 (by decide)))
  refine j_aload_n d_S_readChange_42 rfl ?_
  refine j_getf d_S_readChange_43 f_S_188 rfl rfl ?_
  refine j_getf d_S_readChange_46 f_S_151 rfl rfl ?_
  refine j_bipush (v := 32) d_S_readChange_49 (by decide) ?_
  by_cases h32 : k = 32
  · refine j_icmp_eqT (tgt := 65) d_S_readChange_51 rfl h32 ?_
    rw [show pChg (S.2.1 5) (S.2.1 0) c r = .inl ((f, x, 32, .inr 0), r4) by unfold pChg; rw [hx1]; simp only; rw [hx2]; simp only; rw [hx3]; simp only; rw [hx4]; simp only; rw [if_pos h32]]
    exact j_vret rfl d_S_readChange_65 ⟨_, rfl, g4, hR5, rfl, pFld_lt hx1 h6, ht4, hO4, h32, .inl rfl⟩
  · refine j_icmp_eqF (tgt := 65) d_S_readChange_51 rfl h32 ?_
    refine j_aload_n d_S_readChange_54 rfl ?_
    refine j_aload_n d_S_readChange_55 rfl ?_
    refine j_getf d_S_readChange_56 f_S_188 rfl rfl ?_
    refine j_getf d_S_readChange_59 f_S_155 rfl rfl ?_
    refine j_pst (j_callV d_S_readChange_62 v_S_readOperand l_S_143 rfl rfl (m_S_readOperand_57 K (d - 1) (by omega) (s1 S4 25 k) J n c r4 hR5) (by omega) (by decide) (Nat.le_of_ble_eq_true rfl) rfl) rfl (fun _ _ _ q => by cases q.1) (fun y r5 v S5 hx5 f5 hR5 hv5 => ?_) (fun p S5 hp f5 hp1 => ?_)
    · rw [g4.sy] at hx5
      obtain ⟨hv, hO5⟩ := hv5
      cases hv
      refine j_st (st' := []) rfl ?_
      rw [show pChg (S.2.1 5) (S.2.1 0) c r = .inl ((f, x, k, y), r5) by unfold pChg; rw [hx1]; simp only; rw [hx2]; simp only; rw [hx3]; simp only; rw [hx4]; simp only; rw [if_neg h32, hx5]]
      exact j_vret rfl d_S_readChange_65 ⟨_, rfl, g4.tr (f5.up (by decide)), hR5, rfl, pFld_lt hx1 h6, (f5.1 24 (by decide)).trans ht4, isO_keep hO4 f5 (by decide), f5.1 25 (by decide), .inr ⟨hor.resolve_left h32, hO5⟩⟩
    · rw [g4.sy] at hp
      rw [show pChg (S.2.1 5) (S.2.1 0) c r = .inr p by unfold pChg; rw [hx1]; simp only; rw [hx2]; simp only; rw [hx3]; simp only; rw [hx4]; simp only; rw [if_neg h32, hp]]
      exact ⟨rfl, _, rfl, (g4.up (by decide)).tr (f5.up (by decide)), hp1⟩
/-! the actions -/
theorem x_actZ (K : jK) (s : State) (hX : jX K s) : va_Z "BitLoom" "ACTIONS" "[LBitLoom$Action;" (j_v K (.ref 1)) (jA K) s K.2.2.1 := by
  obtain ⟨h1, h2, h3, h4, h5, h6, h7, h8, h9, h10, h11, h12, h13, h14, h15, h16, h17, h18⟩ := hX
  rw [j_vx K (by omega)]
  exact h8
theorem x_actT (K : jK) (s : State) (hX : jX K s) : va_T (.object "BitLoom$Action") (j_adr K 1) 6 (fun j => .ref (j_x K (2 + j))) (jA K) s K.2.2.1 := by
  obtain ⟨h1, h2, h3, h4, h5, h6, h7, h8, h9, h10, h11, h12, h13, h14, h15, h16, h17, h18⟩ := hX
  rw [j_adx K (by omega)]
  exact h9
theorem x_actO (K : jK) {i : Nat} (hi : i < 6) (s : State) (hX : jX K s) : va_O "BitLoom$Action" (j_adr K (2 + i)) (jA K) s K.2.2.1 := by
  obtain ⟨h1, h2, h3, h4, h5, h6, h7, h8, h9, h10, h11, h12, h13, h14, h15, h16, h17, h18⟩ := hX
  rw [j_adx K (by omega)]
  exact (h10.1 i hi).2.1
theorem x_actN (K : jK) {i : Nat} (hi : i < 6) (s : State) (hX : jX K s) : va_Z "BitLoom$Action" (["SET", "MAX", "MIN", "SUM", "LIST", "COUNT"].getD i "") "LBitLoom$Action;" (j_v K (.ref (2 + i))) (jA K) s K.2.2.1 := by
  obtain ⟨h1, h2, h3, h4, h5, h6, h7, h8, h9, h10, h11, h12, h13, h14, h15, h16, h17, h18⟩ := hX
  rw [j_vx K (by omega)]
  exact (h10.1 i hi).1
theorem x_actW (K : jK) {i : Nat} (hi : i < 6) (s : State) (hX : jX K s) : va_OF "BitLoom$Action" "word" "Ljava/lang/String;" (j_v K (.ref (8 + i))) (j_adr K (2 + i)) (jA K) s K.2.2.1 := by
  obtain ⟨h1, h2, h3, h4, h5, h6, h7, h8, h9, h10, h11, h12, h13, h14, h15, h16, h17, h18⟩ := hX
  rw [j_adx K (by omega), j_vx K (by omega)]
  exact h11 i hi
theorem ord_e : ∀ i : Fin 6, ([0, 1, 2, 3, 4, 5] : List Int32).getD i.val 0 = nI i.val := by decide
theorem x_actR (K : jK) {i : Nat} (hi : i < 6) (s : State) (hX : jX K s) : va_OF "java/lang/Enum" "ordinal" "I" (j_v K (.int (nI i))) (j_adr K (2 + i)) (jA K) s K.2.2.1 := by
  obtain ⟨h1, h2, h3, h4, h5, h6, h7, h8, h9, h10, h11, h12, h13, h14, h15, h16, h17, h18⟩ := hX
  rw [j_adx K (by omega)]
  have := (h10.1 i hi).2.2 ("java/lang/Enum", "ordinal", "I", [0, 1, 2, 3, 4, 5]) List.mem_cons_self
  rw [show j_v K (.int (nI i)) = .int (nI i) from rfl, ← ord_e ⟨i, hi⟩]
  exact this
theorem x_actI (K : jK) {i j : Nat} (hi : i < 6) (hj : j < 6) (hne : i ≠ j) (s : State) (hX : jX K s) : j_adr K (2 + i) ≠ j_adr K (2 + j) := by
  obtain ⟨h1, h2, h3, h4, h5, h6, h7, h8, h9, h10, h11, h12, h13, h14, h15, h16, h17, h18⟩ := hX
  rw [j_adx K (by omega), j_adx K (by omega)]
  exact fun q => hne (h10.2 i j hi hj q)
theorem z_S_177 : Cond.fieldLinkNest "BitLoom$Statement" 177 "BitLoom" "ACTIONS" "[LBitLoom$Action;" "BitLoom" ∈ jt := j_in 785 (by decide +kernel) rfl
theorem z_S_47 : Cond.fieldLink "BitLoom$Statement" 47 "BitLoom$Action" "COUNT" "LBitLoom$Action;" ∈ jt := j_in 179 (by decide +kernel) rfl
theorem z_S_167 : Cond.fieldLink "BitLoom$Statement" 167 "BitLoom$Action" "SET" "LBitLoom$Action;" ∈ jt := j_in 791 (by decide +kernel) rfl
theorem z_A_41 : Cond.fieldLink "BitLoom$Action" 41 "BitLoom$Action" "word" "Ljava/lang/String;" ∈ jt := j_in 1264 (by decide +kernel) rfl
theorem m_A_word (K : jK) (d : Nat) (h : jH) {i : Nat} (hi : i < 6) : jM K M_A_word d [.ref (2 + i)] h (fun o g => o = .inl (some (.ref (8 + i))) ∧ g = h) 0 0 := by
  refine jM.of (by decide) (Nat.le_of_ble_eq_true rfl) ?_
  refine j_aload_n d_A_word_0 rfl ?_
  refine j_getx d_A_word_1 z_A_41 (x_actW K hi) ?_
  exact j_aret rfl (.inl ⟨_, rfl⟩) d_A_word_4 ⟨rfl, rfl⟩
section RETR
variable {K : jK} {M : jR} {d pc : Nat} {ls : List (Nat × Value)} {st st0 : List Value} {h g : jH} {Q : jO → jH → Prop} {mc ms : Nat}
theorem j_retR {i : Nat} (hcall : jCall K M d pc ls st0 st h (fun o h' => o = .inl (some (.ref i)) ∧ h' = g) 0 0) (hh : M.2.2.2.2 = []) (k : jE K M d (pc + 3) ls (.ref i :: st) g Q mc ms) : jE K M d pc ls st0 h Q mc ms :=
  j_ret0 hcall hh (fun v' g' hq => by
    obtain ⟨hv, rfl⟩ := hq
    cases hv
    exact k) (fun k' g' hq => by cases hq.1)
end RETR
/-- the word that stands for an action -/
def vbL (f : Nat → Bool) : Nat → Nat → Int32 → Int32
  | 0, _, v => v
  | k + 1, i, v => vbL f k (i + 1) (if f i = true then nI i else v)
theorem vbL_two (f : Nat → Bool) : ∀ (k i : Nat) (v : Int32), vbL f k i v = v ∨ ∃ j : Nat, i ≤ j ∧ j < i + k ∧ vbL f k i v = nI j
  | 0, i, v => .inl rfl
  | k + 1, i, v => by
    unfold vbL
    rcases vbL_two f k (i + 1) (if f i = true then nI i else v) with h | ⟨j, h1, h2, h3⟩
    · rw [h]
      split
      · exact .inr ⟨i, Nat.le_refl _, by omega, rfl⟩
      · exact .inl rfl
    · exact .inr ⟨j, by omega, by omega, h3⟩
def pVerb (T : Nat → Int32) : List Tok → Rs Nat
  | [] => .inr 0
  | (k, s, e) :: r => if vbL (fun i => isWd T i k s e) 6 0 (-1) = -1 then .inr s else .inl ((vbL (fun i => isWd T i k s e) 6 0 (-1)).toNatClampNeg, r)
def verbQ (n c : Nat) (S : jS) (J : jH) (x : Rs Nat) (o : jO) (h : jH) : Prop := match x with
  | .inl (v, r1) => o = .inl none ∧ ∃ a : Nat, h = lay (s5 (s1 S 12 (nI a)) (2 + v)) ++ J ∧ Rdr (s1 S 12 (nI a)) n c r1 ∧ v < 6
  | .inr p => o = .inr 10 ∧ h = lay (s1 S 10 (nI p)) ++ J ++ [.inr (10, [])]
theorem isWd_97 {T : Nat → Int32} {i : Nat} {k : Int32} {s e : Nat} (h : isWd T i k s e = true) : k = 97 := by
  unfold isWd at h
  exact of_decide_eq_true (Bool.and_eq_true _ _ ▸ h).1
theorem vbL_97 {T : Nat → Int32} {k : Int32} {s e : Nat} (h : ¬ vbL (fun i => isWd T i k s e) 6 0 (-1) = -1) : k = 97 := by
  by_cases hk : k = 97
  · exact hk
  · exfalso
    apply h
    have hf : (fun i => isWd T i k s e) = fun _ => false := by
      funext i
      by_cases q : isWd T i k s e = true
      · exact absurd (isWd_97 q) hk
      · exact Bool.eq_false_iff.mpr q
    rw [hf]
    rfl
theorem m_S_readVerb (K : jK) (d : Nat) (hd : 7 ≤ d) (S : jS) (J : jH) (n c : Nat) (r : List Tok) (hR : Rdr S n c r) : jM K M_S_readVerb d [.ref 42] (lay S ++ J) (verbQ n c S J (pVerb (S.2.1 5) r)) 0 0 := by
  refine jM.of (by decide) (Nat.le_of_ble_eq_true rfl) ?_
  obtain ⟨a, k, s, e, r1, rfl, ha, h101, hk, hs, he, hse, hen, hnx⟩ := hR.cur
  have hR0 := hR
  obtain ⟨hn, h100, hc, ht, hf, h6, hl, hA, -⟩ := hR0
  have hll := tokL_len (S.2.1 5) n (n - 0) 0 (Nat.le_refl _) (Nat.zero_le _)
  have fin : ∀ (v : Int32) (ls : List (Nat × Value)), j_lg ls 0 = some (.ref 42) → j_lg ls 1 = some (.int v) → v = vbL (fun i => isWd (S.2.1 5) i k s e) 6 0 (-1) → jE K M_S_readVerb d 38 ls [] (lay S ++ J) (verbQ n c S J (pVerb (S.2.1 5) ((k, s, e) :: r1))) 0 0 := by
    intro v ls l0 l1 hv
    refine j_iload_n d_S_readVerb_38 l1 ?_
    refine j_iconst (v := -1) d_S_readVerb_39 rfl ?_
    by_cases h1 : v = -1
    · refine j_icmp_neF (tgt := 50) d_S_readVerb_40 rfl h1 ?_
      refine j_aload_n d_S_readVerb_43 l0 ?_
      refine j_retX (j_callV d_S_readVerb_44 v_S_refuse l_S_113 rfl rfl (m_S_refuse K (d - 1) (by omega) S J a ha h101 s hs) (by omega) (by decide) (Nat.le_of_ble_eq_true rfl) rfl) rfl ?_
      rw [show pVerb (S.2.1 5) ((k, s, e) :: r1) = .inr s by rw [pVerb, if_pos (hv ▸ h1)]]
      exact ⟨rfl, rfl⟩
    · have h2 : ¬ vbL (fun i => isWd (S.2.1 5) i k s e) 6 0 (-1) = -1 := hv ▸ h1
      have hx := hnx (by rw [vbL_97 h2]; decide)
      obtain ⟨j, hj6, hj⟩ : ∃ j : Nat, j < 6 ∧ v = nI j := by
        rcases vbL_two (fun i => isWd (S.2.1 5) i k s e) 6 0 (-1) with q | ⟨j, q1, q2, q3⟩
        · exact absurd q h2
        · exact ⟨j, by omega, hv.trans q3⟩
      rw [show pVerb (S.2.1 5) ((k, s, e) :: r1) = .inl (j, r1) by rw [pVerb, if_neg h2, ← hv, hj, nI_clamp (by omega)]]
      refine j_icmp_neT (tgt := 50) d_S_readVerb_40 rfl h1 ?_
      refine j_aload_n d_S_readVerb_50 l0 ?_
      refine j_gets d_S_readVerb_51 (.inr ⟨_, z_S_177⟩) (x_actZ K) ?_
      refine j_iload_n d_S_readVerb_54 l1 ?_
      refine j_top (w := .int (nI j)) (congrArg Value.int hj) ?_
      refine j_xaald (v := .ref (2 + j)) d_S_readVerb_55 (x_actT K) hj6 (by decide) (j_vx K (by omega)).symm ?_
      refine j_putf d_S_readVerb_56 f_S_53 rfl (Nat.le_of_ble_eq_true rfl) rfl rfl rfl ?_
      refine j_hp (h' := lay (s5 S (2 + j)) ++ J) rfl ?_
      refine j_aload_n d_S_readVerb_59 l0 ?_
      refine j_getf d_S_readVerb_60 f_S_24 rfl rfl ?_
      refine j_retV (j_callV d_S_readVerb_63 v_K_advance l_S_99 rfl rfl (m_K_advance K (d - 1) (s5 S (2 + j)) J a ha h101 _ hl hx.2.1 (by omega)) (by omega) (by decide) (Nat.le_of_ble_eq_true rfl) rfl) rfl ?_
      exact j_vret rfl d_S_readVerb_66 ⟨rfl, a + 1, rfl, hx.2.2, hj6⟩
  have loop : ∀ m i v, i + m = 6 → vbL (fun i => isWd (S.2.1 5) i k s e) m i v = vbL (fun i => isWd (S.2.1 5) i k s e) 6 0 (-1) → jE K M_S_readVerb d 4 [(0, .ref 42), (1, .int v), (2, .int (nI i))] [] (lay S ++ J) (verbQ n c S J (pVerb (S.2.1 5) ((k, s, e) :: r1))) 0 0 := by
    intro m
    induction m with
    | zero =>
      intro i v hi hv
      refine j_iload_n d_S_readVerb_4 rfl ?_
      refine j_gets d_S_readVerb_5 (.inr ⟨_, z_S_177⟩) (x_actZ K) ?_
      refine j_xlen d_S_readVerb_8 (x_actT K) ?_
      refine j_icmp_geT (tgt := 38) d_S_readVerb_9 rfl (nI_le (by omega) (by omega)) ?_
      exact fin v _ rfl rfl hv
    | succ m ih =>
      intro i v hi hv
      refine j_iload_n d_S_readVerb_4 rfl ?_
      refine j_gets d_S_readVerb_5 (.inr ⟨_, z_S_177⟩) (x_actZ K) ?_
      refine j_xlen d_S_readVerb_8 (x_actT K) ?_
      refine j_icmp_geF (tgt := 38) d_S_readVerb_9 rfl (nI_ge (by omega) (by omega)) ?_
      refine j_aload_n d_S_readVerb_12 rfl ?_
      refine j_getf d_S_readVerb_13 f_S_24 rfl rfl ?_
      refine j_gets d_S_readVerb_16 (.inr ⟨_, z_S_177⟩) (x_actZ K) ?_
      refine j_iload_n d_S_readVerb_19 rfl ?_
      refine j_xaald (v := .ref (2 + i)) d_S_readVerb_20 (x_actT K) (by omega) (by decide) (j_vx K (by omega)).symm ?_
      refine j_retR (j_callX d_S_readVerb_21 xf_A_word l_S_181 rfl (x_actO K (by omega)) (m_A_word K (d - 1) (lay S ++ J) (by omega)) (by omega) (by decide) (Nat.le_of_ble_eq_true rfl) rfl) rfl ?_
      refine j_retI (j_callV d_S_readVerb_24 v_K_isWord l_S_95 rfl rfl (m_K_isWord K (d - 1) (by omega) S J a ha h101 n hn h100 hc s e hs he hse (by omega) hen i (by omega)) (by omega) (by decide) (Nat.le_of_ble_eq_true rfl) rfl) rfl ?_
      rw [hk]
      refine j_if_eq (tgt := 32) d_S_readVerb_27 rfl (fun h0 => ?_) (fun h0 => ?_)
      · refine j_iincN d_S_readVerb_32 rfl (by decide) ?_
        refine j_goto (tgt := 4) d_S_readVerb_35 rfl ?_
        refine j_loc' [(0, .ref 42), (1, .int v), (2, .int (nI (i + 1)))] ⟨rfl, rfl, rfl, trivial⟩ ?_
        refine ih (i + 1) v (by omega) ?_
        rw [vbL, b2i_ze h0] at hv
        exact hv
      · refine j_iload_n d_S_readVerb_30 rfl ?_
        refine j_istore_n d_S_readVerb_31 (by decide) ?_
        refine j_iincN d_S_readVerb_32 rfl (by decide) ?_
        refine j_goto (tgt := 4) d_S_readVerb_35 rfl ?_
        refine j_loc' [(0, .ref 42), (1, .int (nI i)), (2, .int (nI (i + 1)))] ⟨rfl, rfl, rfl, trivial⟩ ?_
        refine ih (i + 1) (nI i) (by omega) ?_
        rw [vbL, b2i_ne h0] at hv
        exact hv
  refine j_iconst (v := -1) d_S_readVerb_0 rfl ?_
  refine j_istore_n d_S_readVerb_1 (by decide) ?_
  refine j_iconst (v := 0) d_S_readVerb_2 rfl ?_
  refine j_istore_n d_S_readVerb_3 (by decide) ?_
  refine j_loc' [(0, .ref 42), (1, .int (-1)), (2, .int (nI 0))] ⟨rfl, rfl, rfl, trivial⟩ ?_
  exact loop 6 0 (-1) rfl rfl
