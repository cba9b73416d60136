/-! class and model side by side: what holds between calls, and each call but run -/
def Iv (S : jS) (c n m : Nat) (lo wd : Nat → Nat) : Prop :=
  (S.1 2 = nI c ∧ S.1 31 = nI c) ∧ (S.1 6 = nI n ∧ S.1 32 = nI n ∧ n ≤ 100) ∧ (S.1 0 = nI m ∧ S.1 35 = nI m ∧ m ≤ 32) ∧ (S.2.1 0 = S.2.1 13 ∧ S.2.1 4 = S.2.1 11 ∧ S.2.1 5 = S.2.1 17 ∧ S.2.1 9 = S.2.1 18) ∧ fOk S.2.1 lo wd c ∧ dst (S.2.1 0) c ∧ cov (S.1 3) lo wd c ∧ rsp (S.2.1 10) (S.1 4) ∧ rsp (S.2.1 12) (S.1 5) ∧ (∀ w, w < 32 → bt (S.1 4) w = false → bt (S.1 5) w = false ∧ S.2.1 4 w = 0) ∧ (S.1 10 = S.1 33 ∧ S.1 1 = S.1 34) ∧ (chOk (S.2.1 5) ∧ txOk (S.2.1 5) n)
def Inv (S : jS) : Prop := ∃ (c n m : Nat) (lo wd : Nat → Nat), Iv S c n m lo wd
theorem Iv.keep {S S' : jS} {c n m : Nat} {lo wd : Nat → Nat} (h : Iv S c n m lo wd) (e1 : ∀ i, i ∈ [0, 1, 2, 3, 4, 5, 6, 10, 31, 32, 33, 34, 35] → S'.1 i = S.1 i) (e2 : ∀ i, i ∈ [0, 1, 2, 3, 4, 5, 9, 10, 11, 12, 13, 14, 15, 16, 17, 18] → S'.2.1 i = S.2.1 i) : Iv S' c n m lo wd := by
  obtain ⟨h1, h2, h3, h4, h5, h6, h7, h8, h9, h10, h11, h12⟩ := h
  have h5' := h5.eq (e2 1 (by decide)) (e2 2 (by decide)) (e2 3 (by decide)) (e2 14 (by decide)) (e2 15 (by decide)) (e2 16 (by decide))
  unfold Iv
  rw [e1 2 (by decide), e1 31 (by decide), e1 6 (by decide), e1 32 (by decide), e1 0 (by decide), e1 35 (by decide), e2 0 (by decide), e2 13 (by decide), e2 4 (by decide), e2 11 (by decide), e2 5 (by decide), e2 17 (by decide), e2 9 (by decide), e2 18 (by decide), e1 3 (by decide), e2 10 (by decide), e1 4 (by decide), e2 12 (by decide), e1 5 (by decide), e1 10 (by decide), e1 33 (by decide), e1 1 (by decide), e1 34 (by decide)]
  exact ⟨h1, h2, h3, h4, h5', h6, h7, h8, h9, h10, h11, h12⟩
theorem Iv.k {S : jS} {c n m : Nat} {lo wd : Nat → Nat} (h : Iv S c n m lo wd) (v : Int32) : Iv (s1 S 30 v) c n m lo wd := h.keep (fun i hi => j_une ((by decide : ∀ i, i ∈ [0, 1, 2, 3, 4, 5, 6, 10, 31, 32, 33, 34, 35] → ¬ i = 30) i hi)) (fun _ _ => rfl)
/-- what the model's call must come to, behind the class's -/
def mQ (J1 : jH) (k : Int32) (P : Int32 → Prop) : jO → jH → Prop := fun o h => ∃ (b : Int32) (S2 : jS), o = .inl (some (.int b)) ∧ h = lay S2 ++ J1 ∧ S2.1 30 = k ∧ (k = 0 → S2.2.2.2.1 0 = b.toInt64) ∧ P b ∧ Inv S2
def mV (J1 : jH) (k : Int32) : jO → jH → Prop := fun o h => ∃ S2 : jS, o = .inl none ∧ h = lay S2 ++ J1 ∧ S2.1 30 = k ∧ Inv S2
def wQ (K : jK) (d : Nat) (MM : jR) (as : List Value) (P : Int32 → Prop) : jO → jH → Prop := fun o h => ∃ (k : Int32) (S1 : jS) (J1 : jH), o = .inl (some (.int k)) ∧ h = lay S1 ++ J1 ∧ jM K MM d as (lay S1 ++ J1) (mQ J1 k P) 0 0
def wV (K : jK) (d : Nat) (MM : jR) (as : List Value) : jO → jH → Prop := fun o h => ∃ (k : Int32) (S1 : jS) (J1 : jH), o = .inl (some (.int k)) ∧ h = lay S1 ++ J1 ∧ jM K MM d as (lay S1 ++ J1) (mV J1 k) 0 0
def dQ (K : jK) (d : Nat) (MM : jR) (as : List Value) (J : jH) : jO → jH → Prop := fun o h => ∃ (v : Int32) (S1 : jS), o = .inl (some (.int v)) ∧ h = lay S1 ++ J ∧ jM K MM d as (lay S1 ++ J) (fun o2 h2 => ∃ S2 : jS, o2 = .inl (some (.int v)) ∧ h2 = lay S2 ++ J ∧ Inv S2) 0 0
abbrev anyB : Int32 → Prop := fun _ => True
abbrev isB : Int32 → Prop := fun b => b = 0 ∨ b = 1
theorem jM.rQ {K : jK} {M : jR} {d : Nat} {av : List Value} {h : jH} {b k : Int32} {S2 : jS} {J1 : jH} {P : Int32 → Prop} (hM : jM K M d av h (rI b (lay S2 ++ J1)) 0 0) (h30 : S2.1 30 = k) (hk : k = 0 → S2.2.2.2.1 0 = b.toInt64) (hP : P b) (hI : Inv S2) : jM K M d av h (mQ J1 k P) 0 0 := hM.mono (fun _ _ q => ⟨b, S2, q.1, q.2, h30, hk, hP, hI⟩)
theorem jM.rVV {K : jK} {M : jR} {d : Nat} {av : List Value} {h : jH} {k : Int32} {S2 : jS} {J1 : jH} (hM : jM K M d av h (rV (lay S2 ++ J1)) 0 0) (h30 : S2.1 30 = k) (hI : Inv S2) : jM K M d av h (mV J1 k) 0 0 := hM.mono (fun _ _ q => ⟨S2, q.1, q.2, h30, hI⟩)
theorem jM.rD {K : jK} {M : jR} {d : Nat} {av : List Value} {h : jH} {v : Int32} {S2 : jS} {J : jH} (hM : jM K M d av h (rI v (lay S2 ++ J)) 0 0) (hI : Inv S2) : jM K M d av h (fun o2 h2 => ∃ S2 : jS, o2 = .inl (some (.int v)) ∧ h2 = lay S2 ++ J ∧ Inv S2) 0 0 := hM.mono (fun _ _ q => ⟨S2, q.1, q.2, hI⟩)
theorem bad_or (w : Int32) : badW w ∨ ∃ i : Nat, i < 32 ∧ w = nI i := by
  rcases pk_ix w (n := 32) (by omega) with h | h | h
  · exact .inl (.inl h)
  · exact .inl (.inr h)
  · exact .inr h
theorem two_vals (i : Nat) (b : Bool) : (if b = true then (1 : Int32) else 0) = b2i b := by cases b <;> rfl
theorem op_place (K : jK) (d : Nat) (hd : 60 ≤ d) (S : jS) (J : jH) (hI : Inv S) : jM K M_B_place d [.ref 32] (lay S ++ J) (dQ K d M_M_place [.ref 59] J) 0 0 := by
  obtain ⟨c, n, m, lo, wd, h⟩ := hI
  have h0 := h
  obtain ⟨h1, h2, h3, h4, h5, h6, h7, h8, h9, h10, h11, h12⟩ := h0
  refine (m_B_place K d (by omega) S J).mono (fun o hh q => ⟨_, S, q.1, q.2, ?_⟩)
  rw [h11.1]
  exact (m_M_place K d S J).rD ⟨c, n, m, lo, wd, h.k 0⟩
theorem op_refused (K : jK) (d : Nat) (hd : 60 ≤ d) (S : jS) (J : jH) (hI : Inv S) : jM K M_B_refused d [.ref 32] (lay S ++ J) (dQ K d M_M_refused [.ref 59] J) 0 0 := by
  obtain ⟨c, n, m, lo, wd, h⟩ := hI
  have h0 := h
  obtain ⟨h1, h2, h3, h4, h5, h6, h7, h8, h9, h10, h11, h12⟩ := h0
  refine (m_B_refused K d S J).mono (fun o hh q => ⟨_, S, q.1, q.2, ?_⟩)
  rw [h11.2]
  exact (m_M_refused K d S J).rD ⟨c, n, m, lo, wd, h.k 0⟩
theorem op_wipe (K : jK) (d : Nat) (hd : 60 ≤ d) (S : jS) (J : jH) (hI : Inv S) : jM K M_B_wipe d [.ref 32] (lay S ++ J) (dQ K d M_M_wipe [.ref 59] J) 0 0 := by
  obtain ⟨c, n, m, lo, wd, h⟩ := hI
  have h0 := h
  obtain ⟨h1, h2, h3, h4, h5, h6, h7, h8, h9, h10, h11, h12⟩ := h0
  refine (m_B_wipe K d (by omega) S J).mono (fun o hh q => ⟨_, s1 S 6 0, q.1, q.2, ?_⟩)
  have := m_M_wipe K d (s1 S 6 0) J
  rw [show (s1 S 6 0).1 32 = S.1 6 from h2.2.1.trans h2.1.symm] at this
  exact this.rD ⟨c, 0, m, lo, wd, h1, ⟨rfl, rfl, by omega⟩, h3, h4, h5, h6, h7, h8, h9, h10, h11, h12.1, fun j hj => by omega⟩
theorem cl_one (x : Int32) {i j : Nat} (hi : i < 32) (hj : j < 32) : bt (x &&& (((1 : Int32) <<< (nI i &&& 31)) ^^^ (-1))) j = (bt x j && !decide (j = i)) := by
  rw [b_and, b_not _ hj, b_one hi hj]
theorem op_first (K : jK) (d : Nat) (hd : 60 ≤ d) (S : jS) (J : jH) (hI : Inv S) : jM K M_B_first d [.ref 32] (lay S ++ J) (dQ K d M_M_first [.ref 59] J) 0 0 := by
  obtain ⟨c, n, m, lo, wd, h⟩ := hI
  have h0 := h
  obtain ⟨h1, h2, h3, h4, h5, h6, h7, h8, h9, h10, h11, h12⟩ := h0
  rcases lowF_two (S.1 5) 32 0 with hx | ⟨i, -, hi, hx, hb⟩
  · refine (m_B_first_n K d (by omega) S J hx).mono (fun o hh q => ⟨_, S, q.1, q.2, ?_⟩)
    have := m_M_first K d S J (S.1 5) h9
    rw [hx, show fiS S (S.1 5) = s1 S 30 0 from if_pos hx] at this
    exact this.rD ⟨c, n, m, lo, wd, h.k 0⟩
  · have hi : i < 32 := by omega
    refine (m_B_first K d (by omega) S J i hi hx).mono (fun o hh q => ⟨_, _, q.1, q.2, ?_⟩)
    have := m_M_first K d (s1 S 5 (S.1 5 &&& (((1 : Int32) <<< (nI i &&& 31)) ^^^ (-1)))) J (S.1 5) h9
    rw [hx, show fiS (s1 S 5 (S.1 5 &&& (((1 : Int32) <<< (nI i &&& 31)) ^^^ (-1)))) (S.1 5) = s2 (s1 (s1 S 5 (S.1 5 &&& (((1 : Int32) <<< (nI i &&& 31)) ^^^ (-1)))) 30 0) 12 (upd (S.2.1 12) i 0) by rw [fiS, hx, if_neg (nI_ne1 (by omega)), nI_clamp (by omega)]] at this
    refine this.rD ⟨c, n, m, lo, wd, h1, h2, h3, h4, h5, h6, h7, h8, ?_, ?_, h11, h12⟩
    · intro w hw
      show upd (S.2.1 12) i 0 w = b2i (bt (S.1 5 &&& (((1 : Int32) <<< (nI i &&& 31)) ^^^ (-1))) w)
      rw [cl_one _ hi hw]
      by_cases e : w = i
      · rw [show upd (S.2.1 12) i 0 w = 0 from if_pos e, decide_eq_true e, Bool.not_true, Bool.and_false]
        rfl
      · rw [show upd (S.2.1 12) i 0 w = S.2.1 12 w from if_neg e, decide_eq_false e, Bool.not_false, Bool.and_true]
        exact h9 w hw
    · intro w hw hu
      obtain ⟨z1, z2⟩ := h10 w hw hu
      refine ⟨?_, z2⟩
      show bt (S.1 5 &&& (((1 : Int32) <<< (nI i &&& 31)) ^^^ (-1))) w = false
      rw [cl_one _ hi hw, z1]
      rfl
theorem op_search (K : jK) (d : Nat) (hd : 60 ≤ d) (S : jS) (J : jH) (hI : Inv S) (mk p am : Int32) : jM K M_B_search d [.ref 32, .int mk, .int p, .int am] (lay S ++ J) (dQ K d M_M_search [.ref 59, .int mk, .int p, .int am] J) 0 0 := by
  obtain ⟨c, n, m, lo, wd, h⟩ := hI
  have h0 := h
  obtain ⟨h1, h2, h3, h4, h5, h6, h7, h8, h9, h10, h11, h12⟩ := h0
  refine (m_B_search K d (by omega) S J mk p am).mono (fun o hh q => ⟨_, _, q.1, q.2, ?_⟩)
  have hX : ∀ w, w < 32 → bt (srchX S mk p am) w = (bt (S.1 4) w && ((decide (am = 0) || bt (S.1 5) w) && decide ((S.2.1 11 w ^^^ p) &&& mk = 0))) := by
    intro w hw
    unfold srchX
    rw [mkS_all _ hw]
    unfold mtch
    rw [h4.2.1]
    by_cases ha : am = 0
    · rw [if_pos ha, decide_eq_true ha, Bool.true_or, Bool.true_and]
    · rw [if_neg ha, decide_eq_false ha, Bool.false_or]
      cases hu : bt (S.1 4) w with
      | true => rw [Bool.true_and]
      | false => rw [(h10 w hw hu).1, Bool.false_and, Bool.false_and]
  have := m_M_search K d (s1 S 5 (srchX S mk p am)) J mk p am (S.1 4) (S.1 5) (srchX S mk p am) h8 h9 hX
  rw [bcJ_eq]
  refine this.rD ⟨c, n, m, lo, wd, h1, h2, h3, h4, h5, h6, h7, h8, ?_, ?_, h11, h12⟩
  · intro w hw
    exact if_pos hw
  · intro w hw hu
    refine ⟨?_, (h10 w hw hu).2⟩
    show bt (srchX S mk p am) w = false
    rw [hX w hw, show bt (S.1 4) w = false from hu, Bool.false_and]
theorem apT_ok (x : Int64) : ∀ (k i : Nat) (q : Nat × (Nat → Int32)) (m r n : Nat), ctk x k i m = some r → q.1 = n + m → n + r ≤ 100 → chOk q.2 → txOk q.2 q.1 → (apT x k i q).1 = n + r ∧ chOk (apT x k i q).2 ∧ txOk (apT x k i q).2 (apT x k i q).1
  | 0, i, q, m, r, n, h, hq, hr, hc, ht => by
    cases h
    exact ⟨hq, hc, ht⟩
  | k + 1, i, q, m, r, n, h, hq, hr, hc, ht => by
    unfold ctk at h
    unfold apT
    by_cases h0 : cd x i = 0
    · rw [if_pos h0] at h ⊢
      exact apT_ok x k (i + 1) q m r n h hq hr hc ht
    · rw [if_neg h0] at h ⊢
      split at h
      · cases h
      · rename_i h32
        split at h
        · rename_i h126
          have hge := ctk_ge x k (i + 1) (m + 1) r h
          rw [if_neg (by omega)]
          obtain ⟨cc, hc256, hce⟩ := cd_nI x i
          refine apT_ok x k (i + 1) (q.1 + 1, upd q.2 q.1 (cd x i)) (m + 1) r n h (by show q.1 + 1 = n + (m + 1); omega) hr ?_ ?_
          · intro j
            show narrow .char (.int (upd q.2 q.1 (cd x i) j)) = .int (upd q.2 q.1 (cd x i) j)
            unfold upd
            split
            · rw [hce]; exact (pk_charN (by omega)).1
            · exact hc j
          · intro j hj
            have hj : j < q.1 + 1 := hj
            show ∃ m : Nat, 32 ≤ m ∧ m ≤ 126 ∧ upd q.2 q.1 (cd x i) j = nI m
            by_cases e : j = q.1
            · rw [show upd q.2 q.1 (cd x i) j = cd x i from if_pos e]
              rw [hce] at h32 h126 ⊢
              exact ⟨cc, Nat.le_of_not_lt (fun z => h32 ((nI_ltI (b := 32) (by omega) (by omega)).mpr z)), (nI_leI (b := 126) (by omega) (by omega)).mp h126, rfl⟩
            · rw [show upd q.2 q.1 (cd x i) j = q.2 j from if_neg e]
              exact ht j (by omega)
        · cases h
theorem op_write (K : jK) (d : Nat) (hd : 60 ≤ d) (S : jS) (J : jH) (hI : Inv S) (x : Int64) : jM K M_B_write d [.ref 32, .long x] (lay S ++ J) (dQ K d M_M_write [.ref 59, .long x] J) 0 0 := by
  obtain ⟨c, n, m, lo, wd, h⟩ := hI
  have h0 := h
  obtain ⟨h1, h2, h3, h4, h5, h6, h7, h8, h9, h10, h11, h12⟩ := h0
  by_cases hx : canT x n = 0
  · refine (m_B_write_n K d (by omega) S J x n h2.1 h2.2.2 hx).mono (fun o hh q => ⟨_, S, q.1, q.2, ?_⟩)
    have := m_M_write K d S J x n h2.2.1 h2.2.2
    rw [hx, show wrS S x n = s1 S 30 0 from if_pos hx] at this
    exact this.rD ⟨c, n, m, lo, wd, h.k 0⟩
  · refine (m_B_write K d (by omega) S J x n h2.1 h2.2.2 hx).mono (fun o hh q => ⟨_, _, q.1, q.2, ?_⟩)
    obtain ⟨r, hr, hn⟩ : ∃ r, ctk x 8 0 0 = some r ∧ n + r ≤ 100 := by
      unfold canT at hx
      split at hx
      · exact absurd rfl hx
      · rename_i r hr
        refine ⟨r, hr, ?_⟩
        by_cases z : n + r ≤ 100
        · exact z
        · rw [if_neg z] at hx; exact absurd rfl hx
    have h1' : canT x n = 1 := by
      unfold canT
      rw [hr]
      exact if_pos hn
    have := m_M_write K d (s1 (s2 S 5 (apT x 8 0 (n, S.2.1 5)).2) 6 (nI (apT x 8 0 (n, S.2.1 5)).1)) J x n h2.2.1 h2.2.2
    rw [h1', show wrS (s1 (s2 S 5 (apT x 8 0 (n, S.2.1 5)).2) 6 (nI (apT x 8 0 (n, S.2.1 5)).1)) x n = s1 (s2 (s1 (s1 (s2 S 5 (apT x 8 0 (n, S.2.1 5)).2) 6 (nI (apT x 8 0 (n, S.2.1 5)).1)) 30 0) 17 (apT x 8 0 (n, S.2.1 17)).2) 32 (nI (apT x 8 0 (n, S.2.1 17)).1) by rw [wrS, h1', if_neg (by decide)]; rfl] at this
    obtain ⟨g1, g2, g3⟩ := apT_ok x 8 0 (n, S.2.1 5) 0 r n hr rfl hn h12.1 h12.2
    refine this.rD ⟨c, n + r, m, lo, wd, h1, ⟨congrArg nI g1, ?_, hn⟩, h3, ⟨h4.1, h4.2.1, ?_, h4.2.2.2⟩, h5, h6, h7, h8, h9, h10, h11, g2, ?_⟩
    · show nI (apT x 8 0 (n, S.2.1 17)).1 = nI (n + r)
      rw [← h4.2.2.1, g1]
    · show (apT x 8 0 (n, S.2.1 5)).2 = (apT x 8 0 (n, S.2.1 17)).2
      rw [h4.2.2.1]
    · rw [← g1]; exact g3
theorem op_remove (K : jK) (d : Nat) (hd : 60 ≤ d) (S : jS) (J : jH) (hI : Inv S) (w : Int32) : jM K M_L_remove d [.ref 32, .int w] (lay S ++ J) (wV K d M_M_remove [.ref 59, .int w]) 1 6 := by
  obtain ⟨c, n, m, lo, wd, h⟩ := hI
  have h0 := h
  obtain ⟨h1, h2, h3, h4, h5, h6, h7, h8, h9, h10, h11, h12⟩ := h0
  rcases bad_or w with hw | ⟨i, hi, rfl⟩
  · refine m_L_remove K d (by omega) S J w _ _ (m_B_remove_x1 K (d - 1) (by omega) S J w hw) (fun v hh q => by cases q.1) (fun x hh q => ?_)
    obtain ⟨q1, rfl⟩ := q
    cases q1
    exact .inl ⟨rfl, 1, S, _, rfl, List.append_assoc _ _ _, (m_M_remove_x K d (by omega) S _ w hw).rVV rfl ⟨c, n, m, lo, wd, h.k 1⟩⟩
  · have hU := h8 i hi
    cases hb : bt (S.1 4) i with
    | false =>
      rw [hb] at hU
      refine m_L_remove K d (by omega) S J (nI i) _ _ (m_B_remove_x2 K (d - 1) (by omega) S J i hi hb) (fun v hh q => by cases q.1) (fun x hh q => ?_)
      obtain ⟨q1, rfl⟩ := q
      cases q1
      exact .inr ⟨rfl, 2, S, _, rfl, List.append_assoc _ _ _, (m_M_remove_y K d (by omega) S _ i hi hU).rVV rfl ⟨c, n, m, lo, wd, h.k 2⟩⟩
    | true =>
      rw [hb] at hU
      refine m_L_remove K d (by omega) S J (nI i) _ _ (m_B_remove K (d - 1) (by omega) S J i hi hb) (fun v hh q => ?_) (fun x hh q => by cases q.1)
      obtain ⟨q1, rfl⟩ := q
      cases q1
      refine ⟨rfl, 0, _, J, rfl, rfl, (m_M_remove K d (by omega) (s2 (s1 (s1 S 4 (S.1 4 &&& (((1 : Int32) <<< (nI i &&& 31)) ^^^ (-1)))) 5 (S.1 5 &&& (((1 : Int32) <<< (nI i &&& 31)) ^^^ (-1)))) 4 (upd (S.2.1 4) i 0)) J i hi (by show ¬ S.2.1 10 i = 0; rw [hU]; decide)).rVV rfl ?_⟩
      have up : ∀ (f : Nat → Int32) (x : Int32), rsp f x → rsp (upd f i 0) (x &&& (((1 : Int32) <<< (nI i &&& 31)) ^^^ (-1))) := by
        intro f x hf w hw
        rw [cl_one _ hi hw]
        by_cases e : w = i
        · rw [show upd f i 0 w = 0 from if_pos e, decide_eq_true e, Bool.not_true, Bool.and_false]
          rfl
        · rw [show upd f i 0 w = f w from if_neg e, decide_eq_false e, Bool.not_false, Bool.and_true]
          exact hf w hw
      refine ⟨c, n, m, lo, wd, h1, h2, h3, ⟨h4.1, ?_, h4.2.2⟩, h5, h6, h7, up _ _ h8, up _ _ h9, ?_, h11, h12⟩
      · show upd (S.2.1 4) i 0 = upd (S.2.1 11) i 0
        rw [h4.2.1]
      · intro w hw hu
        have hu : bt (S.1 4 &&& (((1 : Int32) <<< (nI i &&& 31)) ^^^ (-1))) w = false := hu
        show bt (S.1 5 &&& (((1 : Int32) <<< (nI i &&& 31)) ^^^ (-1))) w = false ∧ upd (S.2.1 4) i 0 w = 0
        rw [cl_one _ hi hw] at hu ⊢
        by_cases e : w = i
        · exact ⟨by rw [decide_eq_true e, Bool.not_true, Bool.and_false], if_pos e⟩
        · rw [decide_eq_false e, Bool.not_false, Bool.and_true] at hu ⊢
          exact ⟨(h10 w hw hu).1, (if_neg e).trans (h10 w hw hu).2⟩
theorem se_one (x : Int32) {i j : Nat} (hi : i < 32) (hj : j < 32) : bt (x ||| ((1 : Int32) <<< (nI i &&& 31))) j = (bt x j || decide (j = i)) := by
  rw [b_or, b_one hi hj]
theorem op_insert (K : jK) (d : Nat) (hd : 60 ≤ d) (S : jS) (J : jH) (hI : Inv S) : jM K M_L_insert d [.ref 32, .ref 79] (lay S ++ J) (wQ K d M_M_insert [.ref 59] anyB) 1 6 := by
  obtain ⟨c, n, m, lo, wd, h⟩ := hI
  have h0 := h
  obtain ⟨h1, h2, h3, h4, h5, h6, h7, h8, h9, h10, h11, h12⟩ := h0
  rcases lowF_two (S.1 4 ^^^ (-1)) 32 0 with hx | ⟨i, -, hi, hx, hb⟩
  · refine m_L_insert K d (by omega) S J _ _ (m_B_insert_x K (d - 1) (by omega) S J hx) (fun v hh q => by cases q.1) (fun x hh q => ?_)
    obtain ⟨q1, rfl⟩ := q
    cases q1
    have := m_M_insert K d S (J ++ [.inr (11, [])]) (S.1 4) h8
    rw [show inQ S (J ++ [.inr (11, [])]) (S.1 4) = rI 0 (lay (s1 S 30 1) ++ (J ++ [.inr (11, [])])) from if_pos hx] at this
    exact ⟨rfl, 1, S, _, rfl, List.append_assoc _ _ _, this.rQ rfl (fun z => absurd z (by decide)) trivial ⟨c, n, m, lo, wd, h.k 1⟩⟩
  · have hi : i < 32 := by omega
    rw [b_not _ hi] at hb
    have hb : bt (S.1 4) i = false := by cases z : bt (S.1 4) i with
      | false => rfl
      | true => rw [z] at hb; cases hb
    refine m_L_insert K d (by omega) S J _ _ (m_B_insert K (d - 1) (by omega) S J i hi hx) (fun v hh q => ?_) (fun x hh q => by cases q.1)
    obtain ⟨q1, rfl⟩ := q
    cases q1
    refine ⟨nI i, _, J, rfl, rfl, 0, _, J, rfl, rfl, ?_⟩
    have := m_M_insert K d (oS (s1 S 4 (S.1 4 ||| ((1 : Int32) <<< (nI i &&& 31)))) (nI i).toInt64) J (S.1 4) h8
    rw [show inQ (oS (s1 S 4 (S.1 4 ||| ((1 : Int32) <<< (nI i &&& 31)))) (nI i).toInt64) J (S.1 4) = rI (nI i) (lay (s2 (s2 (s2 (s1 (oS (s1 S 4 (S.1 4 ||| ((1 : Int32) <<< (nI i &&& 31)))) (nI i).toInt64) 30 0) 10 (upd (S.2.1 10) i 1)) 11 (upd (S.2.1 11) i 0)) 12 (upd (S.2.1 12) i 0)) ++ J) by rw [inQ, hx, if_neg (nI_ne1 (by omega)), nI_clamp (by omega)]] at this
    refine this.rQ rfl (fun _ => rfl) trivial ⟨c, n, m, lo, wd, h1, h2, h3, ⟨h4.1, ?_, h4.2.2⟩, h5, h6, h7, ?_, ?_, ?_, h11, h12⟩
    · show S.2.1 4 = upd (S.2.1 11) i 0
      funext j
      unfold upd
      split
      · rename_i e
        rw [e]
        exact (h10 i hi hb).2
      · exact congrFun h4.2.1 j
    · intro w hw
      show upd (S.2.1 10) i 1 w = b2i (bt (S.1 4 ||| ((1 : Int32) <<< (nI i &&& 31))) w)
      rw [se_one _ hi hw]
      by_cases e : w = i
      · rw [show upd (S.2.1 10) i 1 w = 1 from if_pos e, decide_eq_true e, Bool.or_true]
        rfl
      · rw [show upd (S.2.1 10) i 1 w = S.2.1 10 w from if_neg e, decide_eq_false e, Bool.or_false]
        exact h8 w hw
    · intro w hw
      show upd (S.2.1 12) i 0 w = b2i (bt (S.1 5) w)
      by_cases e : w = i
      · rw [show upd (S.2.1 12) i 0 w = 0 from if_pos e, e, (h10 i hi hb).1]
        rfl
      · rw [show upd (S.2.1 12) i 0 w = S.2.1 12 w from if_neg e]
        exact h9 w hw
    · intro w hw hu
      have hu : bt (S.1 4 ||| ((1 : Int32) <<< (nI i &&& 31))) w = false := hu
      rw [se_one _ hi hw] at hu
      cases z : bt (S.1 4) w with
      | true => rw [z] at hu; cases hu
      | false => exact h10 w hw z
theorem fld_or {S : jS} {c n m : Nat} {lo wd : Nat → Nat} (h : Iv S c n m lo wd) (ch : Int32) : (ixOf (S.2.1 0) ch c 0 = -1 ∧ fdL (S.2.1 13) ch c 0 (-1) < 0) ∨ ∃ f : Nat, f < c ∧ ixOf (S.2.1 0) ch c 0 = nI f ∧ fdL (S.2.1 13) ch c 0 (-1) = nI f := by
  obtain ⟨h1, h2, h3, h4, h5, h6, h7, h8, h9, h10, h11, h12⟩ := h
  rw [← h4.1, fd_ix (S.2.1 0) ch c h6 c 0 (by omega)]
  rcases ixOf_two (S.2.1 0) ch c 0 with z | ⟨j, z1, z2, z3⟩
  · rw [z]; exact .inl ⟨rfl, by decide⟩
  · exact .inr ⟨j, by omega, z3, z3⟩
theorem op_put (K : jK) (d : Nat) (hd : 60 ≤ d) (S : jS) (J : jH) (hI : Inv S) (w ch v : Int32) : jM K M_L_put d [.ref 32, .int w, .int ch, .int v] (lay S ++ J) (wV K d M_M_put [.ref 59, .int w, .int ch, .int v]) 1 6 := by
  obtain ⟨c, n, m, lo, wd, h⟩ := hI
  have h0 := h
  obtain ⟨h1, h2, h3, h4, h5, h6, h7, h8, h9, h10, h11, h12⟩ := h0
  have c6 := h5.1
  rcases bad_or w with hw | ⟨i, hi, rfl⟩
  · refine m_L_put K d (by omega) S J w ch v _ _ (m_B_put_x1 K (d - 1) (by omega) S J w ch v hw) (fun v hh q => by cases q.1) (fun x hh q => ?_)
    obtain ⟨q1, rfl⟩ := q
    cases q1
    exact .inl ⟨rfl, 1, S, _, rfl, List.append_assoc _ _ _, (m_M_put_x K d (by omega) S _ ch c h1.2 c6 w v (.inl hw)).rVV rfl ⟨c, n, m, lo, wd, h.k 1⟩⟩
  · rcases fld_or h ch with ⟨f1, f2⟩ | ⟨f, hf, f1, f2⟩
    · refine m_L_put K d (by omega) S J (nI i) ch v _ _ (m_B_put_x2 K (d - 1) (by omega) S J i hi ch v c h1.1 c6 f1) (fun v hh q => by cases q.1) (fun x hh q => ?_)
      obtain ⟨q1, rfl⟩ := q
      cases q1
      exact .inl ⟨rfl, 1, S, _, rfl, List.append_assoc _ _ _, (m_M_put_x K d (by omega) S _ ch c h1.2 c6 (nI i) v (.inr f2)).rVV rfl ⟨c, n, m, lo, wd, h.k 1⟩⟩
    · have hU := h8 i hi
      cases hb : bt (S.1 4) i with
      | false =>
        rw [hb] at hU
        refine m_L_put K d (by omega) S J (nI i) ch v _ _ (m_B_put_x3 K (d - 1) (by omega) S J i hi ch v c h1.1 c6 f (by omega) f1 hb) (fun v hh q => by cases q.1) (fun x hh q => ?_)
        obtain ⟨q1, rfl⟩ := q
        cases q1
        exact .inr (.inl ⟨rfl, 2, S, _, rfl, List.append_assoc _ _ _, (m_M_put_y K d (by omega) S _ ch c h1.2 c6 i f v hi (by omega) f2 hU).rVV rfl ⟨c, n, m, lo, wd, h.k 2⟩⟩)
      | true =>
        rw [hb] at hU
        by_cases hv : vfit (S.2.1 2 f) (S.2.1 3 f) v = 0
        · refine m_L_put K d (by omega) S J (nI i) ch v _ _ (m_B_put_x4 K (d - 1) (by omega) S J i hi ch v c h1.1 c6 f (by omega) f1 hb hv) (fun v hh q => by cases q.1) (fun x hh q => ?_)
          obtain ⟨q1, rfl⟩ := q
          cases q1
          have := m_M_put K d (by omega) S (J ++ [.inr (12, [])]) ch c h1.2 c6 i f v hi h5 hf f2 (by rw [hU]; decide)
          rw [if_pos hv] at this
          exact .inr (.inr ⟨rfl, 3, S, _, rfl, List.append_assoc _ _ _, this.rVV rfl ⟨c, n, m, lo, wd, h.k 3⟩⟩)
        · refine m_L_put K d (by omega) S J (nI i) ch v _ _ (m_B_put K (d - 1) (by omega) S J i hi ch v c h1.1 c6 f (by omega) f1 hb hv) (fun v hh q => ?_) (fun x hh q => by cases q.1)
          obtain ⟨q1, rfl⟩ := q
          cases q1
          have := m_M_put K d (by omega) (s2 S 4 (upd (S.2.1 4) i (vput (S.2.1 1 f) (S.2.1 2 f) (S.2.1 4 i) v))) J ch c h1.2 c6 i f v hi h5 hf f2 (by show ¬ S.2.1 10 i = 0; rw [hU]; decide)
          rw [if_neg (show ¬ vfit ((s2 S 4 (upd (S.2.1 4) i (vput (S.2.1 1 f) (S.2.1 2 f) (S.2.1 4 i) v))).2.1 2 f) ((s2 S 4 (upd (S.2.1 4) i (vput (S.2.1 1 f) (S.2.1 2 f) (S.2.1 4 i) v))).2.1 3 f) v = 0 from hv)] at this
          refine ⟨rfl, 0, _, J, rfl, rfl, this.rVV rfl ⟨c, n, m, lo, wd, h1, h2, h3, ⟨h4.1, ?_, h4.2.2⟩, h5, h6, h7, h8, h9, ?_, h11, h12⟩⟩
          · show upd (S.2.1 4) i (vput (S.2.1 1 f) (S.2.1 2 f) (S.2.1 4 i) v) = upd (S.2.1 11) i (vput (S.2.1 1 f) (S.2.1 2 f) (S.2.1 11 i) v)
            rw [h4.2.1]
          · intro w hw hu
            have hu : bt (S.1 4) w = false := hu
            refine ⟨(h10 w hw hu).1, ?_⟩
            show upd (S.2.1 4) i (vput (S.2.1 1 f) (S.2.1 2 f) (S.2.1 4 i) v) w = 0
            exact (if_neg (fun e => by rw [e, hb] at hu; cases hu)).trans (h10 w hw hu).2
theorem op_get (K : jK) (d : Nat) (hd : 60 ≤ d) (S : jS) (J : jH) (hI : Inv S) (w ch : Int32) : jM K M_L_get d [.ref 32, .int w, .int ch, .ref 79] (lay S ++ J) (wQ K d M_M_get [.ref 59, .int w, .int ch] anyB) 1 6 := by
  obtain ⟨c, n, m, lo, wd, h⟩ := hI
  have h0 := h
  obtain ⟨h1, h2, h3, h4, h5, h6, h7, h8, h9, h10, h11, h12⟩ := h0
  have c6 := h5.1
  rcases bad_or w with hw | ⟨i, hi, rfl⟩
  · refine m_L_get K d (by omega) S J w ch _ _ (m_B_get_x1 K (d - 1) (by omega) S J w ch hw) (fun v hh q => by cases q.1) (fun x hh q => ?_)
    obtain ⟨q1, rfl⟩ := q
    cases q1
    exact .inl ⟨rfl, 1, S, _, rfl, List.append_assoc _ _ _, (m_M_get_x K d (by omega) S _ ch c h1.2 c6 w (.inl hw)).rQ rfl (fun z => absurd z (by decide)) trivial ⟨c, n, m, lo, wd, h.k 1⟩⟩
  · rcases fld_or h ch with ⟨f1, f2⟩ | ⟨f, hf, f1, f2⟩
    · refine m_L_get K d (by omega) S J (nI i) ch _ _ (m_B_get_x2 K (d - 1) (by omega) S J i hi ch c h1.1 c6 f1) (fun v hh q => by cases q.1) (fun x hh q => ?_)
      obtain ⟨q1, rfl⟩ := q
      cases q1
      exact .inl ⟨rfl, 1, S, _, rfl, List.append_assoc _ _ _, (m_M_get_x K d (by omega) S _ ch c h1.2 c6 (nI i) (.inr f2)).rQ rfl (fun z => absurd z (by decide)) trivial ⟨c, n, m, lo, wd, h.k 1⟩⟩
    · have hU := h8 i hi
      cases hb : bt (S.1 4) i with
      | false =>
        rw [hb] at hU
        refine m_L_get K d (by omega) S J (nI i) ch _ _ (m_B_get_x3 K (d - 1) (by omega) S J i hi ch c h1.1 c6 f (by omega) f1 hb) (fun v hh q => by cases q.1) (fun x hh q => ?_)
        obtain ⟨q1, rfl⟩ := q
        cases q1
        exact .inr ⟨rfl, 2, S, _, rfl, List.append_assoc _ _ _, (m_M_get_y K d (by omega) S _ ch c h1.2 c6 i f hi (by omega) f2 hU).rQ rfl (fun z => absurd z (by decide)) trivial ⟨c, n, m, lo, wd, h.k 2⟩⟩
      | true =>
        rw [hb] at hU
        refine m_L_get K d (by omega) S J (nI i) ch _ _ (m_B_get K (d - 1) (by omega) S J i hi ch c h1.1 c6 f (by omega) f1 hb) (fun v hh q => ?_) (fun x hh q => by cases q.1)
        obtain ⟨q1, rfl⟩ := q
        cases q1
        obtain ⟨-, e1, e2, e3, hh5⟩ := h5
        obtain ⟨g1, g2, g3, g4, g5⟩ := hh5 f hf
        refine ⟨_, S, J, rfl, rfl, 0, _, J, rfl, rfl, ?_⟩
        have := m_M_get K d (by omega) (oS S (vval (S.2.1 1 f) (S.2.1 2 f) (S.2.1 3 f) (S.2.1 4 i)).toInt64) J ch c h1.2 c6 i f hi (by omega) f2 (by show ¬ S.2.1 10 i = 0; rw [hU]; decide) (wd f) g2 g4
        refine this.rQ rfl (fun _ => ?_) trivial ⟨c, n, m, lo, wd, h.k 0⟩
        show (vval (S.2.1 1 f) (S.2.1 2 f) (S.2.1 3 f) (S.2.1 4 i)).toInt64 = (mvL (S.2.1 14 f) (wd f) (S.2.1 16 f) (S.2.1 11 i) (wd f) 0 0 1).toInt64
        rw [e1, e2, e3, h4.2.1, g1, g2, val_eq _ _ g3 g4 g5]
theorem op_bit (K : jK) (d : Nat) (hd : 60 ≤ d) (S : jS) (J : jH) (hI : Inv S) (w k : Int32) : jM K M_L_bit d [.ref 32, .int w, .int k, .ref 79] (lay S ++ J) (wQ K d M_M_bit [.ref 59, .int w, .int k] isB) 1 6 := by
  obtain ⟨c, n, m, lo, wd, h⟩ := hI
  have h0 := h
  obtain ⟨h1, h2, h3, h4, h5, h6, h7, h8, h9, h10, h11, h12⟩ := h0
  rcases bad_or w with hw | ⟨i, hi, rfl⟩
  · refine m_L_bit K d (by omega) S J w k _ _ (m_B_bit_x1 K (d - 1) (by omega) S J w k hw) (fun v hh q => by cases q.1) (fun x hh q => ?_)
    obtain ⟨q1, rfl⟩ := q
    cases q1
    exact ⟨rfl, 1, S, _, rfl, List.append_assoc _ _ _, (m_M_bit_x K d (by omega) S _ w k (.inl hw)).rQ rfl (fun z => absurd z (by decide)) (.inl rfl) ⟨c, n, m, lo, wd, h.k 1⟩⟩
  · rcases bad_or k with hk | ⟨j, hj, rfl⟩
    · refine m_L_bit K d (by omega) S J (nI i) k _ _ (m_B_bit_x2 K (d - 1) (by omega) S J i hi k hk) (fun v hh q => by cases q.1) (fun x hh q => ?_)
      obtain ⟨q1, rfl⟩ := q
      cases q1
      exact ⟨rfl, 1, S, _, rfl, List.append_assoc _ _ _, (m_M_bit_x K d (by omega) S _ (nI i) k (.inr hk)).rQ rfl (fun z => absurd z (by decide)) (.inl rfl) ⟨c, n, m, lo, wd, h.k 1⟩⟩
    · refine m_L_bit K d (by omega) S J (nI i) (nI j) _ _ (m_B_bit K (d - 1) (by omega) S J i j hi hj) (fun v hh q => ?_) (fun x hh q => by cases q.1)
      obtain ⟨q1, rfl⟩ := q
      cases q1
      refine ⟨_, S, J, rfl, rfl, 0, _, J, rfl, rfl, ?_⟩
      have := m_M_bit K d (by omega) (oS S (b2i (bt (S.2.1 4 i) j)).toInt64) J i j hi hj
      have e : (if (S.2.1 11 i >>> (nI j &&& 31)) &&& 1 = 1 then (1 : Int32) else 0) = b2i (bt (S.2.1 4 i) j) := by
        rw [h4.2.1]
        cases z : bt (S.2.1 11 i) j with
        | true => rw [if_pos ((hs_iff _ hj).mpr z)]; rfl
        | false => rw [if_neg (fun y => by rw [(hs_iff _ hj).mp y] at z; cases z)]; rfl
      refine this.rQ rfl (fun _ => ?_) ?_ ⟨c, n, m, lo, wd, h.k 0⟩
      · exact congrArg Int32.toInt64 e.symm
      · show (if (S.2.1 11 i >>> (nI j &&& 31)) &&& 1 = 1 then (1 : Int32) else 0) = 0 ∨ (if (S.2.1 11 i >>> (nI j &&& 31)) &&& 1 = 1 then (1 : Int32) else 0) = 1
        split
        · exact .inr rfl
        · exact .inl rfl
theorem op_responds (K : jK) (d : Nat) (hd : 60 ≤ d) (S : jS) (J : jH) (hI : Inv S) (w : Int32) : jM K M_L_responds d [.ref 32, .int w, .ref 79] (lay S ++ J) (wQ K d M_M_responds [.ref 59, .int w] isB) 1 6 := by
  obtain ⟨c, n, m, lo, wd, h⟩ := hI
  have h0 := h
  obtain ⟨h1, h2, h3, h4, h5, h6, h7, h8, h9, h10, h11, h12⟩ := h0
  rcases bad_or w with hw | ⟨i, hi, rfl⟩
  · refine m_L_responds K d (by omega) S J w _ _ (m_B_responds_x K (d - 1) (by omega) S J w hw) (fun v hh q => by cases q.1) (fun x hh q => ?_)
    obtain ⟨q1, rfl⟩ := q
    cases q1
    exact ⟨rfl, 1, S, _, rfl, List.append_assoc _ _ _, (m_M_responds_x K d (by omega) S _ w hw).rQ rfl (fun z => absurd z (by decide)) (.inl rfl) ⟨c, n, m, lo, wd, h.k 1⟩⟩
  · refine m_L_responds K d (by omega) S J (nI i) _ _ (m_B_responds K (d - 1) (by omega) S J i hi) (fun v hh q => ?_) (fun x hh q => by cases q.1)
    obtain ⟨q1, rfl⟩ := q
    cases q1
    refine ⟨_, S, J, rfl, rfl, 0, _, J, rfl, rfl, ?_⟩
    have := m_M_responds K d (by omega) (oS S (b2i (bt (S.1 5) i)).toInt64) J i hi
    have e : (if S.2.1 12 i = 0 then (0 : Int32) else 1) = b2i (bt (S.1 5) i) := by
      rw [h9 i hi]
      cases bt (S.1 5) i <;> rfl
    refine this.rQ rfl (fun _ => congrArg Int32.toInt64 e.symm) ?_ ⟨c, n, m, lo, wd, h.k 0⟩
    show (if S.2.1 12 i = 0 then (0 : Int32) else 1) = 0 ∨ (if S.2.1 12 i = 0 then (0 : Int32) else 1) = 1
    split
    · exact .inl rfl
    · exact .inr rfl
theorem op_multi (K : jK) (d : Nat) (hd : 60 ≤ d) (S : jS) (J : jH) (hI : Inv S) (mk p : Int32) : jM K M_L_multi d [.ref 32, .int mk, .int p] (lay S ++ J) (wV K d M_M_multi [.ref 59, .int mk, .int p]) 1 6 := by
  obtain ⟨c, n, m, lo, wd, h⟩ := hI
  have h0 := h
  obtain ⟨h1, h2, h3, h4, h5, h6, h7, h8, h9, h10, h11, h12⟩ := h0
  by_cases hm : mk &&& 16777215 = 0
  · refine m_L_multi K d (by omega) S J mk p _ _ (m_B_multi K (d - 1) (by omega) S J mk p hm) (fun v hh q => ?_) (fun x hh q => by cases q.1)
    obtain ⟨q1, rfl⟩ := q
    cases q1
    refine ⟨rfl, 0, _, J, rfl, rfl, (m_M_multi K d (s2 S 4 (ovF (S.2.1 4) (S.1 5) mk p 32)) J mk p (S.1 5) h9 hm).rVV rfl ⟨c, n, m, lo, wd, h1, h2, h3, ⟨h4.1, ?_, h4.2.2⟩, h5, h6, h7, h8, h9, ?_, h11, h12⟩⟩
    · show ovF (S.2.1 4) (S.1 5) mk p 32 = ovF (S.2.1 11) (S.1 5) mk p 32
      rw [h4.2.1]
    · intro w hw hu
      refine ⟨(h10 w hw hu).1, ?_⟩
      show ovF (S.2.1 4) (S.1 5) mk p 32 w = 0
      exact (if_neg (fun z => by rw [(h10 w hw hu).1] at z; cases z.2)).trans (h10 w hw hu).2
  · refine m_L_multi K d (by omega) S J mk p _ _ (m_B_multi_x K (d - 1) (by omega) S J mk p hm) (fun v hh q => by cases q.1) (fun x hh q => ?_)
    obtain ⟨q1, rfl⟩ := q
    cases q1
    exact ⟨rfl, 1, S, _, rfl, List.append_assoc _ _ _, (m_M_multi_x K d S _ mk p hm).rVV rfl ⟨c, n, m, lo, wd, h.k 1⟩⟩
theorem op_listed (K : jK) (d : Nat) (hd : 60 ≤ d) (S : jS) (J : jH) (hI : Inv S) (i : Int32) : jM K M_L_listed d [.ref 32, .int i, .ref 79] (lay S ++ J) (wQ K d M_M_listed [.ref 59, .int i] anyB) 1 6 := by
  obtain ⟨c, n, m, lo, wd, h⟩ := hI
  have h0 := h
  obtain ⟨h1, h2, h3, h4, h5, h6, h7, h8, h9, h10, h11, h12⟩ := h0
  have hor : (i < 0 ∨ nI m ≤ i) ∨ ∃ j : Nat, j < m ∧ i = nI j := by
    rcases pk_ix i (n := m) (by omega) with z | z | z
    · exact .inl (.inl z)
    · exact .inl (.inr z)
    · exact .inr z
  rcases hor with hi | ⟨j, hj, rfl⟩
  · refine m_L_listed K d (by omega) S J i _ _ (m_B_listed_x K (d - 1) (by omega) S J i (by rw [h3.1]; exact hi)) (fun v hh q => by cases q.1) (fun x hh q => ?_)
    obtain ⟨q1, rfl⟩ := q
    cases q1
    exact ⟨rfl, 1, S, _, rfl, List.append_assoc _ _ _, (m_M_listed_x K d S _ i (by rw [h3.2.1]; exact hi)).rQ rfl (fun z => absurd z (by decide)) trivial ⟨c, n, m, lo, wd, h.k 1⟩⟩
  · refine m_L_listed K d (by omega) S J (nI j) _ _ (m_B_listed K (d - 1) S J j m h3.1 h3.2.2 hj) (fun v hh q => ?_) (fun x hh q => by cases q.1)
    obtain ⟨q1, rfl⟩ := q
    cases q1
    refine ⟨_, S, J, rfl, rfl, 0, _, J, rfl, rfl, (m_M_listed K d (oS S (S.2.1 9 j).toInt64) J j m h3.2.1 h3.2.2 hj).rQ rfl (fun _ => ?_) trivial ⟨c, n, m, lo, wd, h.k 0⟩⟩
    show (S.2.1 9 j).toInt64 = (S.2.1 18 j).toInt64
    rw [h4.2.2.2]
theorem op_field (K : jK) (d : Nat) (hd : 60 ≤ d) (S : jS) (J : jH) (hI : Inv S) (ch a w z : Int32) (hch : narrow .char (.int ch) = .int ch) (hz : narrow .boolean (.int z) = .int z) : jM K M_L_field d [.ref 32, .int ch, .int a, .int w, .int z] (lay S ++ J) (wV K d M_M_field [.ref 59, .int ch, .int a, .int w, .int z]) 1 6 := by
  obtain ⟨c, n, m, lo, wd, h⟩ := hI
  have h0 := h
  obtain ⟨h1, h2, h3, h4, h5, h6, h7, h8, h9, h10, h11, h12⟩ := h0
  have c6 := h5.1
  obtain ⟨i1, i2, i3⟩ := fld_iff (ch := ch) (a := a) (w := w) (N := S.2.1 0) (L := S.2.1 14) (D := S.2.1 15) c6 h6 h7 h5.2.2.2.2
  by_cases hg : ¬ newNm (S.2.1 0) c ch = 0 ∧ ¬ opnG (S.1 3) a w = 0
  · have hgd := i1.mpr hg
    rw [h4.1] at hgd
    have ngd : ¬ gd ch a w (S.2.1 13) (S.2.1 14) (S.2.1 15) c = false := by rw [hgd]; decide
    by_cases hc : c = 6
    · refine m_L_field K d (by omega) S J ch a w z _ _ (m_B_field_x2 K (d - 1) (by omega) S J ch a w z c h1.1 c6 hg.1 hg.2 hc) (fun v hh q => by cases q.1) (fun x hh q => ?_)
      obtain ⟨q1, rfl⟩ := q
      cases q1
      have := m_M_field K d (by omega) S (J ++ [.inr (12, [])]) ch c h1.2 c6 a w z hch hz
      rw [show fdQ S (J ++ [.inr (12, [])]) ch a w z c = rV (lay (s1 S 30 2) ++ (J ++ [.inr (12, [])])) from (if_neg ngd).trans (if_pos hc)] at this
      exact .inr ⟨rfl, 2, S, _, rfl, List.append_assoc _ _ _, this.rVV rfl ⟨c, n, m, lo, wd, h.k 2⟩⟩
    · have hc6 : c < 6 := by omega
      refine m_L_field K d (by omega) S J ch a w z _ _ (m_B_field K (d - 1) (by omega) S J ch a w z c h1.1 c6 hg.1 hg.2 hc6 hch hz) (fun v hh q => ?_) (fun x hh q => by cases q.1)
      obtain ⟨q1, rfl⟩ := q
      cases q1
      obtain ⟨a', w', rfl, rfl, w1, w10, aw⟩ := i3 hg.2
      have := m_M_field K d (by omega) (s1 (s1 (s2 (s2 (s2 (s2 S 0 (upd (S.2.1 0) c ch)) 1 (upd (S.2.1 1) c (nI a'))) 2 (upd (S.2.1 2) c (nI w'))) 3 (upd (S.2.1 3) c z)) 2 (nI (c + 1))) 3 (S.1 3 ||| grd (nI a') (nI w'))) J ch c h1.2 c6 (nI a') (nI w') z hch hz
      rw [show fdQ (s1 (s1 (s2 (s2 (s2 (s2 S 0 (upd (S.2.1 0) c ch)) 1 (upd (S.2.1 1) c (nI a'))) 2 (upd (S.2.1 2) c (nI w'))) 3 (upd (S.2.1 3) c z)) 2 (nI (c + 1))) 3 (S.1 3 ||| grd (nI a') (nI w'))) J ch (nI a') (nI w') z c = _ from (if_neg ngd).trans (if_neg hc)] at this
      refine ⟨rfl, 0, _, J, rfl, rfl, this.rVV rfl ⟨c + 1, n, m, fun k => if k = c then a' else lo k, fun k => if k = c then w' else wd k, ⟨rfl, rfl⟩, h2, h3, ⟨?_, h4.2⟩, ⟨by omega, ?_, ?_, ?_, ?_⟩, dst_app h6 (i2 hg.1) c6, cov_app h7 aw w10, h8, h9, h10, h11, h12⟩⟩
      · show upd (S.2.1 0) c ch = upd (S.2.1 13) c ch
        rw [h4.1]
      · show upd (S.2.1 1) c (nI a') = upd (S.2.1 14) c (nI a')
        rw [h5.2.1]
      · show upd (S.2.1 2) c (nI w') = upd (S.2.1 15) c (nI w')
        rw [h5.2.2.1]
      · show upd (S.2.1 3) c z = upd (S.2.1 16) c z
        rw [h5.2.2.2.1]
      · intro f hf
        show upd (S.2.1 14) c (nI a') f = nI (if f = c then a' else lo f) ∧ upd (S.2.1 15) c (nI w') f = nI (if f = c then w' else wd f) ∧ 1 ≤ (if f = c then w' else wd f) ∧ (if f = c then w' else wd f) ≤ 10 ∧ (if f = c then a' else lo f) + (if f = c then w' else wd f) ≤ 24
        unfold upd
        by_cases e : f = c
        · simp only [if_pos e]
          exact ⟨trivial, trivial, w1, w10, aw⟩
        · simp only [if_neg e]
          exact h5.2.2.2.2 f (by omega)
  · have hgd : gd ch a w (S.2.1 13) (S.2.1 14) (S.2.1 15) c = false := by
      rw [← h4.1]
      exact Bool.eq_false_iff.mpr (fun q => hg (i1.mp q))
    have hor : newNm (S.2.1 0) c ch = 0 ∨ opnG (S.1 3) a w = 0 := by
      by_cases e : newNm (S.2.1 0) c ch = 0
      · exact .inl e
      · by_cases e2 : opnG (S.1 3) a w = 0
        · exact .inr e2
        · exact absurd ⟨e, e2⟩ hg
    refine m_L_field K d (by omega) S J ch a w z _ _ (m_B_field_x1 K (d - 1) (by omega) S J ch a w z c h1.1 c6 hor) (fun v hh q => by cases q.1) (fun x hh q => ?_)
    obtain ⟨q1, rfl⟩ := q
    cases q1
    have := m_M_field K d (by omega) S (J ++ [.inr (10, [])]) ch c h1.2 c6 a w z hch hz
    rw [show fdQ S (J ++ [.inr (10, [])]) ch a w z c = rV (lay (s1 S 30 1) ++ (J ++ [.inr (10, [])])) from if_pos hgd] at this
    exact .inl ⟨rfl, 1, S, _, rfl, List.append_assoc _ _ _, this.rVV rfl ⟨c, n, m, lo, wd, h.k 1⟩⟩
