/-! BitLoomModel.readText: one token -/
/-- what stays while the text is read -/
def RdOk (S : jS) (n c : Nat) : Prop := S.1 32 = nI n ∧ n ≤ 100 ∧ chOk (S.2.1 17) ∧ txOk (S.2.1 17) n ∧ S.1 31 = nI c ∧ c ≤ 6
/-- the reader before the token behind p -/
abbrev Rd (K : jK) (d : Nat) (J : jH) (Q : jO → jH → Prop) (st : Int32) (p : Nat) (S : jS) : Prop := jE K M_M_readText d 24 [(0, .ref 59), (1, .int st), (2, .int (nI p))] [] (lay S ++ J) Q 0 0
def scnd (S S1 : jS) : Prop := ∃ (kd b e am : Int32) (lt : Int64), S1 = scS S kd b e am lt
def nxQ (K : jK) (d : Nat) (J : jH) (n : Nat) (k : Int32) (b e : Nat) (Q : jO → jH → Prop) : jO → jH → Prop := fun o h => ∃ (v : Int32) (S2 : jS), o = .inl (some (.int v)) ∧ h = lay S2 ++ J ∧ Tk S2 n k b e ∧ (v = 17 → Q (.inl (some (.int (nI b)))) (lay S2 ++ J)) ∧ (¬ v = 17 → k = 46 → Q (.inl (some (.int (-1)))) (lay S2 ++ J)) ∧ (¬ v = 17 → ¬ k = 46 → Rd K d J Q v e S2)
theorem Tk.wrong {S : jS} {n : Nat} {k : Int32} {b e : Nat} (h : Tk S n k b e) : (S.1 36 = 4 ∧ k = 63) ∨ (¬ S.1 36 = 4 ∧ ¬ k = 63 ∧ (¬ k = 46 → S.1 38 = nI e)) := by
  obtain ⟨-, -, -, -, -, h4⟩ := h
  rcases h4 with ⟨a1, a2, a3, a4⟩ | ⟨a1, a2, a3, a4, a5, a6, a7, a8⟩ | ⟨a1, a2, a3, a4, a5, a6⟩ | ⟨a1, a2, a3, a4, a5, a6, a7, a8, a9⟩ | ⟨a1, a2⟩
  · exact .inr ⟨by rw [a2]; decide, by rw [a1]; decide, fun q => absurd a1 q⟩
  · exact .inr ⟨by rw [a2]; decide, by rw [a1]; decide, fun _ => a4⟩
  · exact .inr ⟨by rw [a2]; decide, by rw [a1]; decide, fun _ => a4⟩
  · exact .inr ⟨by rw [a5]; decide, fun z => by rw [z] at a2; exact absurd a2 (by decide), fun _ => a7⟩
  · exact .inl ⟨a2, a1⟩
theorem rd_step (K : jK) (d : Nat) (hd : 3 ≤ d) (S : jS) (J : jH) (Q : jO → jH → Prop) (n c p : Nat) (hS : RdOk S n c) (hp : p ≤ n) (st : Int32) (k : Int32) (b e : Nat) (r : List Tok) (htok : tokL (S.2.1 17) n p = (k, b, e) :: r)
    (h16 : k = 46 → st = 16 → ∀ S1, scnd S S1 → Q (.inl (some (.int (-1)))) (lay S1 ++ J))
    (h63 : k = 63 → ∀ S1, scnd S S1 → Q (.inl (some (.int (nI b)))) (lay S1 ++ J))
    (hN : ¬ (k = 46 ∧ st = 16) → ¬ k = 63 → ∀ S1, scnd S S1 → Tk S1 n k b e → jM K M_M_next (d - 1) [.ref 59, .int st] (lay S1 ++ J) (nxQ K d J n k b e Q) 0 0) : Rd K d J Q st p S := by
  obtain ⟨hn, h100, hc, ht, hfc, h6⟩ := hS
  refine j_aload_n d_M_readText_24 rfl ?_
  refine j_iload_n d_M_readText_25 rfl ?_
  refine j_ret0 (j_callV d_M_readText_26 v_M_scan l_M_238 rfl rfl (m_M_scan K (d - 1) (by omega) S J n p hn h100 hp hc ht) (by omega) (by decide) (Nat.le_of_ble_eq_true rfl) rfl) rfl (fun v h' hq => ?_) (fun k' h' hq => by cases hq.1)
  obtain ⟨hv, kd, b1, e1, am, lt, rfl, hsc⟩ := hq
  cases hv
  refine j_st (st' := []) rfl ?_
  obtain ⟨k1, e2, r1, q1, hT, -, -⟩ := hsc.tk hn h100 hc
  rw [htok] at q1
  cases q1
  have hsn : scnd S (scS S kd (nI b) (nI e1) am lt) := ⟨_, _, _, _, _, rfl⟩
  have bad : ∀ (S2 : jS), Tk S2 n k b e → Q (.inl (some (.int (nI b)))) (lay S2 ++ J) → jE K M_M_readText d 69 [(0, .ref 59), (1, .int 17), (2, .int (nI p))] [] (lay S2 ++ J) Q 0 0 := by
    intro S2 hT2 hq
    refine j_aload_n d_M_readText_69 rfl ?_
    refine j_getf d_M_readText_70 f_M_132 rfl rfl ?_
    rcases hT2.fin with ⟨h0, hk⟩ | ⟨h0, hk⟩
    · refine j_if_neF (tgt := 83) d_M_readText_73 rfl h0 ?_
      refine j_aload_n d_M_readText_76 rfl ?_
      refine j_getf d_M_readText_77 f_M_102 rfl rfl ?_
      have hbn : b = n := by
        obtain ⟨-, -, -, -, -, h4⟩ := hT2
        rcases h4 with ⟨a1, a2, a3, a4⟩ | ⟨a1, a2, a3, a4, a5, a6, a7, a8⟩ | ⟨a1, a2, a3, a4, a5, a6⟩ | ⟨a1, a2, a3, a4, a5, a6, a7, a8, a9⟩ | ⟨a1, a2⟩
        · exact a3
        · rw [h0] at a2; exact absurd a2 (by decide)
        · rw [h0] at a2; exact absurd a2 (by decide)
        · rw [h0] at a5; exact absurd a5 (by decide)
        · rw [h0] at a2; exact absurd a2 (by decide)
      refine j_top (w := .int (nI b)) (by rw [hbn]; exact congrArg Value.int hT2.1) ?_
      refine j_goto (tgt := 87) d_M_readText_80 rfl ?_
      exact j_iret rfl d_M_readText_87 hq
    · refine j_if_neT (tgt := 83) d_M_readText_73 rfl h0 ?_
      refine j_aload_n d_M_readText_83 rfl ?_
      refine j_getf d_M_readText_84 f_M_105 rfl rfl ?_
      refine j_top (w := .int (nI b)) (congrArg Value.int hT2.2.2.2.1) ?_
      exact j_iret rfl d_M_readText_87 hq
  have go : ¬ (k = 46 ∧ st = 16) → jE K M_M_readText d 44 [(0, .ref 59), (1, .int st), (2, .int (nI p))] [] (lay (scS S kd (nI b) (nI e1) am lt) ++ J) Q 0 0 := by
    intro hns
    refine j_aload_n d_M_readText_44 rfl ?_
    refine j_getf d_M_readText_45 f_M_132 rfl rfl ?_
    refine j_iconst (v := 4) d_M_readText_48 rfl ?_
    rcases hT.wrong with ⟨h4, hk⟩ | ⟨h4, hk, hen⟩
    · refine j_icmp_neF (tgt := 57) d_M_readText_49 rfl h4 ?_
      refine j_bipush (v := 17) d_M_readText_52 (by decide) ?_
      refine j_goto (tgt := 62) d_M_readText_54 rfl ?_
      refine j_istore_n d_M_readText_62 (by decide) ?_
      refine j_iload_n d_M_readText_63 rfl ?_
      refine j_bipush (v := 17) d_M_readText_64 (by decide) ?_
      refine j_icmp_neF (tgt := 88) d_M_readText_66 rfl rfl ?_
      refine j_loc' [(0, .ref 59), (1, .int 17), (2, .int (nI p))] ⟨rfl, rfl, rfl, trivial⟩ ?_
      exact bad _ hT (h63 hk _ hsn)
    · refine j_icmp_neT (tgt := 57) d_M_readText_49 rfl h4 ?_
      refine j_aload_n d_M_readText_57 rfl ?_
      refine j_iload_n d_M_readText_58 rfl ?_
      refine j_ret0 (j_callV d_M_readText_59 v_M_next l_M_241 rfl rfl (hN hns hk _ hsn hT) (by omega) (by decide) (Nat.le_of_ble_eq_true rfl) rfl) rfl (fun v h' hq => ?_) (fun k' h' hq => by obtain ⟨v, S2, h0, -⟩ := hq; cases h0)
      obtain ⟨u, S2, hu, rfl, hT2, a1, a2, a3⟩ := hq
      cases hu
      refine j_st (st' := [.int u]) rfl ?_
      refine j_istore_n d_M_readText_62 (by decide) ?_
      refine j_iload_n d_M_readText_63 rfl ?_
      refine j_bipush (v := 17) d_M_readText_64 (by decide) ?_
      by_cases h17 : u = 17
      · refine j_icmp_neF (tgt := 88) d_M_readText_66 rfl h17 ?_
        refine j_loc' [(0, .ref 59), (1, .int 17), (2, .int (nI p))] ⟨rfl, by rw [h17]; rfl, rfl, trivial⟩ ?_
        exact bad S2 hT2 (a1 h17)
      · refine j_icmp_neT (tgt := 88) d_M_readText_66 rfl h17 ?_
        refine j_aload_n d_M_readText_88 rfl ?_
        refine j_getf d_M_readText_89 f_M_132 rfl rfl ?_
        rcases hT2.fin with ⟨h0, hk2⟩ | ⟨h0, hk2⟩
        · refine j_if_neF (tgt := 97) d_M_readText_92 rfl h0 ?_
          refine j_iconst (v := -1) d_M_readText_95 rfl ?_
          exact j_iret rfl d_M_readText_96 (a2 h17 hk2)
        · refine j_if_neT (tgt := 97) d_M_readText_92 rfl h0 ?_
          refine j_aload_n d_M_readText_97 rfl ?_
          refine j_getf d_M_readText_98 f_M_112 rfl rfl ?_
          have hen2 : S2.1 38 = nI e := by
            rcases hT2.wrong with ⟨-, z⟩ | ⟨-, -, z⟩
            · exact absurd z hk
            · exact z hk2
          refine j_top (w := .int (nI e)) (congrArg Value.int hen2) ?_
          refine j_istore_n d_M_readText_101 (by decide) ?_
          refine j_goto (tgt := 24) d_M_readText_102 rfl ?_
          exact j_loc' [(0, .ref 59), (1, .int u), (2, .int (nI e))] ⟨rfl, rfl, rfl, trivial⟩ (a3 h17 hk2)
  refine j_aload_n d_M_readText_29 rfl ?_
  refine j_getf d_M_readText_30 f_M_132 rfl rfl ?_
  rcases hT.fin with ⟨h0, hk⟩ | ⟨h0, hk⟩
  · refine j_if_neF (tgt := 44) d_M_readText_33 rfl h0 ?_
    refine j_iload_n d_M_readText_36 rfl ?_
    refine j_bipush (v := 16) d_M_readText_37 (by decide) ?_
    by_cases hst : st = 16
    · refine j_icmp_neF (tgt := 44) d_M_readText_39 rfl hst ?_
      refine j_iconst (v := -1) d_M_readText_42 rfl ?_
      exact j_iret rfl d_M_readText_43 (h16 hk hst _ hsn)
    · refine j_icmp_neT (tgt := 44) d_M_readText_39 rfl hst ?_
      exact go (fun q => hst q.2)
  · refine j_if_neT (tgt := 44) d_M_readText_33 rfl h0 ?_
    exact go (fun q => hk q.1)
