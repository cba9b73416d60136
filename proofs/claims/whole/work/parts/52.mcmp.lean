/-! a comparison, read by the model -/
theorem mR_nil {K : jK} {d : Nat} {J : jH} {Q : jO → jH → Prop} {S0 : jS} {n : Nat} {st : Int32} {C : List (Int32 × Int32)} {P : List Int32} : mR K d J Q S0 n st [] C P := fun p _ hp hpn _ _ => absurd hp (tokL_ne _ n (n - p) p (Nat.le_refl _) hpn)
theorem mRr_nil {rl : Int32} {K : jK} {d : Nat} {J : jH} {Q : jO → jH → Prop} {S0 : jS} {n : Nat} {st : Int32} {C : List (Int32 × Int32)} {P : List Int32} : mRr rl K d J Q S0 n st [] C P := fun p _ hp hpn _ _ _ => absurd hp (tokL_ne _ n (n - p) p (Nat.le_refl _) hpn)
theorem mR_rel {K : jK} {d : Nat} (hd : 8 ≤ d) {J : jH} {Q : jO → jH → Prop} {S0 : jS} {n c : Nat} (hok : RdOk S0 n c) {k : Int32} {s e : Nat} {r : List Tok} {C : List (Int32 × Int32)} {P : List Int32}
    (h1 : (k = 60 ∨ k = 61 ∨ k = 62) → mRr (relc k) K d J Q S0 n 4 r C P) (h2 : ¬ (k = 60 ∨ k = 61 ∨ k = 62) → mB J Q S0 s) : mR K d J Q S0 n 3 ((k, s, e) :: r) C P := by
  intro p S hp hpn hf hM
  have hT17 : S.2.1 17 = S0.2.1 17 := hf.2.1 17 (by decide)
  refine rd_step K d (by omega) S J Q n c p (hf.ok hok) hpn 3 k s e r (by rw [hT17]; exact hp) (fun _ q => absurd q (by decide)) (fun q S1 hs => h2 (by rw [q]; decide) S1 (hf.sc hs)) (fun _ h63 S1 hs hT => ?_)
  have hrel := m_M_relate K (d - 1 - 1) (by omega) S1 J n k s e hT C P (hs.ms hM)
  by_cases hor : k = 60 ∨ k = 61 ∨ k = 62
  · rw [if_pos hor] at hrel
    have h46 : ¬ k = 46 := by rcases hor with q | q | q <;> rw [q] <;> decide
    obtain ⟨he, hr⟩ := tokL_nx (S0.2.1 17) n (n - p) p (Nat.le_refl _) hpn hp h46
    exact nx_of (m_M_next_3 K (d - 1) (by omega) S1 J _ (isInt_st _ _ _ _) hrel) hT (by decide) h46 (fun S4 f4 hM4 => h1 hor e S4 hr he ((hf.sc hs).m f4) hM4.1 hM4.2)
  · rw [if_neg hor] at hrel
    exact nx_bad (m_M_next_3 K (d - 1) (by omega) S1 J _ (isInt_st _ _ _ _) hrel) hT (fun S4 f4 => h2 hor S4 ((hf.sc hs).m f4))
theorem pCmp_len3 {T N : Nat → Int32} {c : Nat} {r r1 : List Tok} {x : Int32 × Opd × Opd} (h : pCmp T N c r = .inl (x, r1)) : 3 + r1.length ≤ r.length := by
  unfold pCmp at h
  split at h
  · cases h
  · cases h
  · rename_i h1
    have := pOpd_len h1
    split at h
    · split at h
      · rename_i h2
        have h3 := pOpd_len h2
        cases h
        simp at this
        omega
      · cases h
    · cases h
/-- the first rule of part 31 -/
theorem Q1_cmp {K : jK} {d : Nat} (hd : 8 ≤ d) {J : jH} {Q : jO → jH → Prop} {S0 : jS} {n c : Nat} (hok : RdOk S0 n c) {A : Nat → Nat → Int32} (hA : A 5 = S0.2.1 17) (hN : ∀ ch, fdL (S0.2.1 13) ch c 0 (-1) = ixOf (A 0) ch c 0) (o : Nat) (k : Int32) (s e : Nat) (r : List Tok) (h33 : ¬ k = 33) (h40 : ¬ k = 40) : Q1 K d J Q S0 n o ((k, s, e) :: r) (mapR (cmpC A) (pCmp (A 5) (A 0) c ((k, s, e) :: r))) := by
  rw [hA]
  refine ⟨?_, ?_⟩
  · cases hp : pCmp (S0.2.1 17) (A 0) c ((k, s, e) :: r) with
    | inl q => exact pCmp_len3 hp
    | inr q => trivial
  · intro C P ho hn hlen hgo p S hp hpn hf hM
    simp only [List.length_cons] at hlen
    refine mR_opd_1 hd hok hN (rl := S.1 43) (by omega) h33 h40 ?_ p S hp hpn hf hM rfl
    cases hx : pOpd (S0.2.1 17) (A 0) c ((k, s, e) :: r) with
    | inr q =>
      rw [show pCmp (S0.2.1 17) (A 0) c ((k, s, e) :: r) = .inr q by unfold pCmp; rw [hx]] at hgo
      exact hgo
    | inl xr =>
      obtain ⟨x, r1⟩ := xr
      have hl1 := pOpd_len hx
      show mR K d J Q S0 n 3 r1 (thn 3 (S.1 43) (C ++ [opc x]) P).1 (thn 3 (S.1 43) (C ++ [opc x]) P).2
      rw [thn, if_neg (by decide)]
      cases r1 with
      | nil => exact mR_nil
      | cons q2 r2 =>
        obtain ⟨k2, s2, e2⟩ := q2
        refine mR_rel hd hok (fun hor => ?_) (fun hor => ?_)
        · cases r2 with
          | nil => exact mRr_nil
          | cons q3 r3 =>
            obtain ⟨k3, s3, e3⟩ := q3
            simp only [List.length_cons] at hl1
            refine mR_opd_4 hd hok hN (by simp; omega) ?_
            cases hy : pOpd (S0.2.1 17) (A 0) c ((k3, s3, e3) :: r3) with
            | inr q =>
              rw [show pCmp (S0.2.1 17) (A 0) c ((k, s, e) :: r) = .inr q by unfold pCmp; rw [hx]; simp only; rw [if_pos hor, hy]] at hgo
              exact hgo
            | inl yr =>
              obtain ⟨y, r4⟩ := yr
              rw [show pCmp (S0.2.1 17) (A 0) c ((k, s, e) :: r) = .inl ((k2, x, y), r4) by unfold pCmp; rw [hx]; simp only; rw [if_pos hor, hy]] at hgo
              show mR K d J Q S0 n 6 r4 (thn 6 (relc k2) (C ++ [opc x] ++ [opc y]) P).1 (thn 6 (relc k2) (C ++ [opc x] ++ [opc y]) P).2
              rw [thn, if_pos rfl]
              have e1 : C ++ [opc x] ++ [opc y] ++ [(relc k2, 0)] ++ twN P = C ++ (cmpC A (k2, x, y)).1 ++ twN P := by
                simp only [cmpC, List.append_assoc, List.cons_append, List.nil_append]
              show mR K d J Q S0 n 6 r4 (C ++ [opc x] ++ [opc y] ++ [(relc k2, 0)] ++ twN P) (dwN P)
              rw [e1]
              exact hgo
        · rw [show pCmp (S0.2.1 17) (A 0) c ((k, s, e) :: r) = .inr s2 by unfold pCmp; rw [hx]; simp only; rw [if_neg hor]] at hgo
          exact hgo
