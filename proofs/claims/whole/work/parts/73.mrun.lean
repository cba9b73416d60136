/-! BitLoomModel.run -/
theorem va_self {α : Type} (f : Nat → α) (i : Nat) : va_up f i (f i) = f := by
  funext j
  unfold va_up
  split
  · rename_i e
    rw [e]
  · rfl
/-- the same but for these numbers and arrays, and the letters -/
def frZ (X Y : List Nat) (S S' : jS) : Prop := (∀ i, ¬ i ∈ X → S'.1 i = S.1 i) ∧ (∀ i, ¬ i ∈ Y → S'.2.1 i = S.2.1 i) ∧ S'.2.2.2 = S.2.2.2
theorem frZ.rf (X Y : List Nat) (S : jS) : frZ X Y S S := ⟨fun _ _ => rfl, fun _ _ => rfl, rfl⟩
theorem frZ.tr {X Y : List Nat} {A B C : jS} (h : frZ X Y A B) (g : frZ X Y B C) : frZ X Y A C := ⟨fun i hi => (g.1 i hi).trans (h.1 i hi), fun i hi => (g.2.1 i hi).trans (h.2.1 i hi), g.2.2.trans h.2.2⟩
theorem frZ.up {X Y X' Y' : List Nat} {A B : jS} (h : frZ X Y A B) (hs : ∀ i, i ∈ X → i ∈ X') (ht : ∀ i, i ∈ Y → i ∈ Y') : frZ X' Y' A B := ⟨fun i hi => h.1 i (fun q => hi (hs i q)), fun i hi => h.2.1 i (fun q => hi (ht i q)), h.2.2⟩
theorem frZ.s1 {X Y : List Nat} {A B : jS} (h : frZ X Y A B) {i : Nat} (hi : i ∈ X) (v : Int32) : frZ X Y A (s1 B i v) := ⟨fun j hj => (j_une (i := i) (j := j) (fun e => hj (by rw [e]; exact hi))).trans (h.1 j hj), h.2.1, h.2.2⟩
theorem frZ.s2 {X Y : List Nat} {A B : jS} (h : frZ X Y A B) {i : Nat} (hi : i ∈ Y) (v : Nat → Int32) : frZ X Y A (s2 B i v) := ⟨h.1, fun j hj => (j_une (i := i) (j := j) (fun e => hj (by rw [e]; exact hi))).trans (h.2.1 j hj), h.2.2⟩
theorem frM.z {X Y : List Nat} {A B : jS} (h : frM X Y A B) : frZ X Y A B := ⟨h.1, h.2.1, congrArg (fun z => z.2) h.2.2⟩
theorem frC.z {A B : jS} (h : frC A B) : frZ [36, 37, 38, 39, 40, 41, 42, 43, 44, 45, 46] [19, 20, 21, 22, 23, 24, 25, 26, 27] A B := h
def mskF (g : Nat → Int32) (n : Nat) : Nat → Int32 := fun j => if j < n then g j &&& 16777215 else g j
theorem mskF_s (g : Nat → Int32) (n : Nat) : upd (mskF g n) n (g n &&& 16777215) = mskF g (n + 1) := by
  funext j
  unfold upd mskF
  by_cases h : j = n
  · subst h; rw [if_pos rfl, if_pos (by omega)]
  · rw [if_neg h]
    by_cases h2 : j < n
    · rw [if_pos h2, if_pos (by omega)]
    · rw [if_neg h2, if_neg (by omega)]
/-- what the model's action does -/
abbrev mCh (q : Act) (t : Int32) (A : Nat → Nat → Int32) : (Nat → Int32) × Int32 × Nat := chL (canV A q.2.2.1 q.2.2.2) (chgV A q.2.2.1 q.2.2.2) t 32 0 (A 11) 0 0
abbrev mLs (q : Act) (t : Int32) (A : Nat → Nat → Int32) : (Nat → Int32) × Nat := lstL (mwl A q.2.1) t 32 0 0 (A 18)
def mBits (q : Act) (t : Int32) (A : Nat → Nat → Int32) : Nat → Int32 := if q.1 = 0 then (mCh q t A).1 else A 11
def mRef (q : Act) (t : Int32) (A : Nat → Nat → Int32) : Int32 := if q.1 = 0 then (mCh q t A).2.1 else 0
def mList (q : Act) (t : Int32) (A : Nat → Nat → Int32) : Nat → Int32 := if q.1 = 4 then (mLs q t A).1 else A 18
def mMany (q : Act) (t : Int32) (A : Nat → Nat → Int32) (m : Int32) : Int32 := if q.1 = 4 then nI (mLs q t A).2 else m
def mAns (q : Act) (t : Int32) (A : Nat → Nat → Int32) : Int32 := if q.1 = 0 then nI (mCh q t A).2.2 else if q.1 = 4 then nI (mLs q t A).2 else if q.1 = 5 then nI (cntB (bt t) 32) else gaL (nI (q.1 + 1)) t (fun w => mvl A q.2.1 w) 32 0 0 true
/-- an action that may have been read -/
def aOk (c : Nat) (q : Act) : Prop := q.1 < 6 ∧ (q.1 = 0 → cgsOk c q.2.2.1 q.2.2.2) ∧ (¬ q.1 = 0 → ¬ q.1 = 5 → q.2.1 < c)
theorem cnt0 (t : Int32) : cntB (bt t) 32 = 0 ↔ t = 0 := by
  constructor
  · intro h
    have z : ∀ n, cntB (bt t) n = 0 → ∀ i, i < n → bt t i = false := by
      intro n
      induction n with
      | zero => intro _ i hi; omega
      | succ n ih =>
        intro h i hi
        unfold cntB at h
        by_cases hb : bt t n = true
        · rw [if_pos hb] at h; omega
        · rw [if_neg hb] at h
          by_cases e : i = n
          · rw [e]; exact Bool.eq_false_iff.mpr hb
          · exact ih (by omega) i (by omega)
    apply b_ext
    intro i hi
    rw [z 32 h i hi, b_0]
  · intro h
    subst h
    decide +kernel
theorem ovl_eq {A B : Nat → Nat → Int32} (h1 : A 1 = B 1) (h2 : A 2 = B 2) (h3 : A 3 = B 3) (x : Opd) (b : Int32) : ovl A x b = ovl B x b := by
  cases x with
  | inl j => show vval (A 1 j) (A 2 j) (A 3 j) b = vval (B 1 j) (B 2 j) (B 3 j) b; rw [h1, h2, h3]
  | inr v => rfl
theorem resC_eq {A B : Nat → Nat → Int32} (h1 : A 1 = B 1) (h2 : A 2 = B 2) (h3 : A 3 = B 3) (q : Chg) (b : Int32) : resC A q b = resC B q b := by unfold resC; rw [ovl_eq h1 h2 h3, ovl_eq h1 h2 h3]
theorem fitC_eq {A B : Nat → Nat → Int32} (h1 : A 1 = B 1) (h2 : A 2 = B 2) (h3 : A 3 = B 3) (q : Chg) (b : Int32) : fitC A q b = fitC B q b := by unfold fitC; rw [resC_eq h1 h2 h3, h2, h3]
theorem putC_eq {A B : Nat → Nat → Int32} (h1 : A 1 = B 1) (h2 : A 2 = B 2) (h3 : A 3 = B 3) (q : Chg) (b0 b : Int32) : putC A q b0 b = putC B q b0 b := by unfold putC; rw [resC_eq h1 h2 h3, h1, h2]
theorem canV_eq {A B : Nat → Nat → Int32} (h1 : A 1 = B 1) (h2 : A 2 = B 2) (h3 : A 3 = B 3) (q : Chg) (z : Option Chg) : canV A q z = canV B q z := by
  funext b
  unfold canV
  rw [fitC_eq h1 h2 h3]
  cases z with
  | none => rfl
  | some y => simp only [fitC_eq h1 h2 h3]
theorem chgV_eq {A B : Nat → Nat → Int32} (h1 : A 1 = B 1) (h2 : A 2 = B 2) (h3 : A 3 = B 3) (q : Chg) (z : Option Chg) : chgV A q z = chgV B q z := by
  funext b
  unfold chgV
  cases z with
  | none => exact putC_eq h1 h2 h3 q b b
  | some y => simp only [putC_eq h1 h2 h3]
theorem mvl_eq {A B : Nat → Nat → Int32} (h1 : A 1 = B 1) (h2 : A 2 = B 2) (h3 : A 3 = B 3) (h11 : A 11 = B 11) (f : Nat) : mvl A f = mvl B f := by
  funext w
  unfold mvl
  rw [h1, h2, h3, h11]
def mrQ (S : jS) (J : jH) (U : Int32) (y : (Cnd × Act) ⊕ Nat) : jO → jH → Prop := fun o h => ∃ S', h = lay S' ++ J ∧ frZ [30, 32, 33, 34, 35, 36, 37, 38, 39, 40, 41, 42, 43, 44, 45, 46, 47] [11, 12, 18, 19, 20, 21, 22, 23, 24, 25, 26, 27, 28] S S' ∧ (match y with
  | .inr p => o = .inl (some (.int 0)) ∧ frZ [36, 37, 38, 39, 40, 41, 42, 43, 44, 45, 46, 47] [19, 20, 21, 22, 23, 24, 25, 26, 27, 28] (s1 (s1 S 33 (nI p)) 30 1) S'
  | .inl (x, q) => if lackV (U &&& x.2) q.1 = true then o = .inl (some (.int 0)) ∧ frZ [36, 37, 38, 39, 40, 41, 42, 43, 44, 45, 46, 47] [19, 20, 21, 22, 23, 24, 25, 26, 27, 28] (s1 (s1 S 33 (-1)) 30 2) S' else o = .inl (some (.int (mAns q (U &&& x.2) S.2.1))) ∧ S'.1 30 = 0 ∧ S'.1 32 = 0 ∧ S'.1 33 = -1 ∧ S'.1 34 = mRef q (U &&& x.2) S.2.1 ∧ S'.1 35 = mMany q (U &&& x.2) S.2.1 (S.1 35) ∧ rsp (S'.2.1 12) (U &&& x.2) ∧ (∀ j, 32 ≤ j → S'.2.1 12 j = S.2.1 12 j) ∧ S'.2.1 11 = mskF (mBits q (U &&& x.2) S.2.1) 32 ∧ S'.2.1 18 = mList q (U &&& x.2) S.2.1)
theorem lack_iff (t : Int32) (v : Nat) : lackV t v = true ↔ t = 0 ∧ (v = 1 ∨ v = 2) := by
  unfold lackV
  rw [Bool.and_eq_true, Bool.or_eq_true, decide_eq_true_eq, decide_eq_true_eq, decide_eq_true_eq]
theorem b2i_d1 (b : Bool) : decide (b2i b = 1) = b := by cases b <;> rfl
theorem m_M_run (K : jK) (d : Nat) (hd : 10 ≤ d) (S : jS) (J : jH) (n c : Nat) (hok : RdOk S n c) {N : Nat → Int32} (hN : ∀ ch, fdL (S.2.1 13) ch c 0 (-1) = ixOf N ch c 0) {P4 : PR} (hP4 : ∀ r y, P4 0 r y → ∀ Q, Q4 K (d - 1) J Q (s1 S 46 0) n 0 r y) (y : (Cnd × Act) ⊕ Nat) (hy : Stm P4 (S.2.1 17) N c (tokL (S.2.1 17) n 0) y) {lo wd : Nat → Nat} (hfo : fOk S.2.1 lo wd c) (U : Int32) (hU : rsp (S.2.1 10) U)
    (hsem : ∀ x q, y = .inl (x, q) → Sem (fun w f => mvl S.2.1 f w) c x ∧ aOk c q ∧ x.1.length ≤ 110) (hpos : ∀ p, y = .inr p → p ≤ n) : jM K M_M_run d [.ref 59] (lay S ++ J) (mrQ S J U y) 0 0 := by
  refine jM.of (by decide) (Nat.le_of_ble_eq_true rfl) ?_
  have h100 := hok.2.1
  refine j_aload_n d_M_run_0 rfl ?_
  refine j_ret0 (j_callV d_M_run_1 v_M_readText l_M_263 rfl rfl (m_M_readText K (d - 1) (by omega) S J n c hok hN hP4 y hy) (by omega) (by decide) (Nat.le_of_ble_eq_true rfl) rfl) rfl (fun v h' hq => ?_) (fun k' h' hq => by
    obtain ⟨S', rfl, f0, hq⟩ := hq
    split at hq
    · cases hq.1
    · cases hq)
  obtain ⟨S1, rfl, f0, hq⟩ := hq
  cases y with
  | inr p =>
    have hq : Sum.inl v = (.inl (some (.int (nI p))) : jO) := hq
    cases hq
    have hpn := hpos p rfl
    refine j_st (st' := [.int (nI p)]) rfl ?_
    refine j_istore_n d_M_run_4 (by decide) ?_
    refine j_aload_n d_M_run_5 rfl ?_
    refine j_iload_n d_M_run_6 rfl ?_
    refine j_putf d_M_run_7 f_M_36 rfl (Nat.le_of_ble_eq_true rfl) rfl rfl rfl ?_
    refine j_hp (h' := lay (s1 S1 33 (nI p)) ++ J) rfl ?_
    refine j_aload_n d_M_run_10 rfl ?_
    refine j_iload_n d_M_run_11 rfl ?_
    refine j_if_ltF (tgt := 19) d_M_run_12 rfl (show ¬ nI p < nI 0 from nI_nlt (by omega) (by omega)) ?_
    refine j_iconst (v := 1) d_M_run_15 rfl ?_
    refine j_goto (tgt := 20) d_M_run_16 rfl ?_
    refine j_putf d_M_run_20 f_M_73 rfl (Nat.le_of_ble_eq_true rfl) rfl rfl rfl ?_
    refine j_hp (h' := lay (s1 (s1 S1 33 (nI p)) 30 1) ++ J) rfl ?_
    refine j_aload_n d_M_run_23 rfl ?_
    refine j_getf d_M_run_24 f_M_73 rfl rfl ?_
    refine j_if_leF (tgt := 32) d_M_run_27 rfl (by show ¬ (1 : Int32) ≤ 0; decide) ?_
    refine j_iconst (v := 0) d_M_run_30 rfl ?_
    refine j_iret rfl d_M_run_31 ⟨s1 (s1 S1 33 (nI p)) 30 1, rfl, (((f0.z.up (by decide : ∀ i, i ∈ [36, 37, 38, 39, 40, 41, 42, 43, 44, 45, 46] → i ∈ [30, 32, 33, 34, 35, 36, 37, 38, 39, 40, 41, 42, 43, 44, 45, 46, 47]) (by decide : ∀ i, i ∈ [19, 20, 21, 22, 23, 24, 25, 26, 27] → i ∈ [11, 12, 18, 19, 20, 21, 22, 23, 24, 25, 26, 27, 28])).s1 (by decide) _).s1 (by decide) _), rfl, ?_⟩
    refine ⟨fun i hi => ?_, fun i hi => f0.2.1 i (fun q => hi ((by decide : ∀ i, i ∈ [19, 20, 21, 22, 23, 24, 25, 26, 27] → i ∈ [19, 20, 21, 22, 23, 24, 25, 26, 27, 28]) i q)), f0.2.2⟩
    show va_up (va_up S1.1 33 (nI p)) 30 1 i = va_up (va_up S.1 33 (nI p)) 30 1 i
    unfold va_up
    rw [f0.1 i (fun q => hi ((by decide : ∀ i, i ∈ [36, 37, 38, 39, 40, 41, 42, 43, 44, 45, 46] → i ∈ [36, 37, 38, 39, 40, 41, 42, 43, 44, 45, 46, 47]) i q))]
  | inl xq =>
    obtain ⟨x, q⟩ := xq
    obtain ⟨hv, hM, hA⟩ := hq
    cases hv
    obtain ⟨hS, hqo, hl⟩ := hsem x q rfl
    refine j_st (st' := [.int (-1)]) rfl ?_
    refine j_istore_n d_M_run_4 (by decide) ?_
    refine j_aload_n d_M_run_5 rfl ?_
    refine j_iload_n d_M_run_6 rfl ?_
    refine j_putf d_M_run_7 f_M_36 rfl (Nat.le_of_ble_eq_true rfl) rfl rfl rfl ?_
    refine j_hp (h' := lay (s1 S1 33 (-1)) ++ J) rfl ?_
    refine j_aload_n d_M_run_10 rfl ?_
    refine j_iload_n d_M_run_11 rfl ?_
    refine j_if_ltT (tgt := 19) d_M_run_12 rfl (by decide) ?_
    refine j_iconst (v := 0) d_M_run_19 rfl ?_
    refine j_putf d_M_run_20 f_M_73 rfl (Nat.le_of_ble_eq_true rfl) rfl rfl rfl ?_
    refine j_hp (h' := lay (s1 (s1 S1 33 (-1)) 30 0) ++ J) rfl ?_
    refine j_aload_n d_M_run_23 rfl ?_
    refine j_getf d_M_run_24 f_M_73 rfl rfl ?_
    refine j_if_leT (tgt := 32) d_M_run_27 rfl (by show (0 : Int32) ≤ 0; decide) ?_
    refine j_iconst (v := 0) d_M_run_32 rfl ?_
    refine j_istore_n d_M_run_33 (by decide) ?_
    refine j_iconst (v := 0) d_M_run_34 rfl ?_
    refine j_istore_n d_M_run_35 (by decide) ?_
    refine j_loc' [(0, .ref 59), (2, .int (nI (cntB (bt (U &&& x.2)) 0))), (3, .int (nI 0))] ⟨rfl, rfl, rfl, trivial⟩ ?_
    -- what every state of the two loops is
    let B := s1 (s1 S1 33 (-1)) 30 0
    have hB : B = s1 (s1 S1 33 (-1)) 30 0 := rfl
    have hMB : Ms B x.1 [] := hM
    have hAB : mAct q B := hA
    have fB : frZ [30, 32, 33, 34, 35, 36, 37, 38, 39, 40, 41, 42, 43, 44, 45, 46, 47] [11, 12, 18, 19, 20, 21, 22, 23, 24, 25, 26, 27, 28] S B := ((f0.z.up (by decide : ∀ i, i ∈ [36, 37, 38, 39, 40, 41, 42, 43, 44, 45, 46] → i ∈ [30, 32, 33, 34, 35, 36, 37, 38, 39, 40, 41, 42, 43, 44, 45, 46, 47]) (by decide : ∀ i, i ∈ [19, 20, 21, 22, 23, 24, 25, 26, 27] → i ∈ [11, 12, 18, 19, 20, 21, 22, 23, 24, 25, 26, 27, 28])).s1 (by decide) _).s1 (by decide) _
    have aB : ∀ i, ¬ i ∈ [19, 20, 21, 22, 23, 24, 25, 26, 27] → B.2.1 i = S.2.1 i := f0.2.1
    have sB : ∀ i, ¬ i ∈ [36, 37, 38, 39, 40, 41, 42, 43, 44, 45, 46] → ¬ i = 33 → ¬ i = 30 → B.1 i = S.1 i := fun i hi h33 h30 => by
      show va_up (va_up S1.1 33 (-1)) 30 0 i = S.1 i
      rw [j_une h30, j_une h33]
      exact f0.1 i hi
    have tk : ∀ (S2 : jS) (w : Nat), w < 32 → frZ [47] [12, 28] B S2 → jM K M_M_isTaken (d - 1) [.ref 59, .int (nI w)] (lay S2 ++ J) (tkQ S2 J (bt (U &&& x.2) w)) 0 0 := by
      intro S2 w hw f2
      have hM2 : Ms S2 x.1 [] := by
        obtain ⟨m1, m2, m3, m4, m5⟩ := hMB
        refine ⟨(f2.1 40 (by decide)).trans m1, (f2.1 41 (by decide)).trans m2, (f2.1 42 (by decide)).trans m3, fun j q hq => ?_, fun j x hx => by simp at hx⟩
        have := m4 j q hq
        exact ⟨(congrFun (f2.2.1 19 (by decide)) j).trans this.1, (congrFun (f2.2.1 20 (by decide)) j).trans this.2⟩
      have e : ∀ i, ¬ i ∈ [12, 28] → ¬ i ∈ [19, 20, 21, 22, 23, 24, 25, 26, 27] → S2.2.1 i = S.2.1 i := fun i h1 h2 => (f2.2.1 i h1).trans (aB i h2)
      have hfo2 : fOk S2.2.1 lo wd c := hfo.eq (e 1 (by decide) (by decide)) (e 2 (by decide) (by decide)) (e 3 (by decide) (by decide)) (e 14 (by decide) (by decide)) (e 15 (by decide) (by decide)) (e 16 (by decide) (by decide))
      have hmv : (fun f => mvl S2.2.1 f w) = fun f => mvl S.2.1 f w := by
        funext f
        unfold mvl
        rw [e 1 (by decide) (by decide), e 2 (by decide) (by decide), e 3 (by decide) (by decide), e 11 (by decide) (by decide)]
      have := m_M_isTaken K (d - 1) (by omega) S2 J w hw x.1 hM2 hl hfo2 hS.1 (b2i (bt x.2 w)) (by rw [hmv]; exact hS.2 w hw []) (bt U w) ((congrFun (e 10 (by decide) (by decide)) w).trans (hU w hw))
      rw [b2i_d1, ← b_and] at this
      exact this
    have hp44 : B.1 44 = nI (q.1 + 1) := hAB.2.1
    have q6 : q.1 < 6 := hAB.1
    -- the last loop
    have fin : ∀ (S7 : jS) (ls : List (Nat × Value)), j_lg ls 0 = some (.ref 59) → frZ [30, 32, 33, 34, 35, 36, 37, 38, 39, 40, 41, 42, 43, 44, 45, 46, 47] [11, 12, 18, 19, 20, 21, 22, 23, 24, 25, 26, 27, 28] S S7 → S7.1 30 = 0 → S7.1 32 = 0 → S7.1 33 = -1 → S7.1 34 = mRef q (U &&& x.2) S.2.1 → S7.1 35 = mMany q (U &&& x.2) S.2.1 (S.1 35) → rsp (S7.2.1 12) (U &&& x.2) → (∀ j, 32 ≤ j → S7.2.1 12 j = S.2.1 12 j) → S7.2.1 11 = mBits q (U &&& x.2) S.2.1 → S7.2.1 18 = mList q (U &&& x.2) S.2.1 → ¬ lackV (U &&& x.2) q.1 = true → jE K M_M_run d 177 ls [.int (mAns q (U &&& x.2) S.2.1)] (lay S7 ++ J) (mrQ S J U (.inl (x, q))) 0 0 := by
      intro S7 ls l0 g0 g30 g32 g33 g34 g35 g12 g12b g11 g18 hnl
      have loop3 : ∀ k i (ls : List (Nat × Value)), i + k = 32 → j_lg ls 0 = some (.ref 59) → j_lg ls 3 = some (.int (mAns q (U &&& x.2) S.2.1)) → j_lg ls 4 = some (.int (nI i)) → jE K M_M_run d 181 ls [] (lay (s2 S7 11 (mskF (mBits q (U &&& x.2) S.2.1) i)) ++ J) (mrQ S J U (.inl (x, q))) 0 0 := by
        intro k
        induction k with
        | zero =>
          intro i ls hi l0 l3 l4
          have hi : i = 32 := by omega
          subst hi
          refine j_loc' [(0, .ref 59), (3, .int (mAns q (U &&& x.2) S.2.1)), (4, .int (nI 32))] ⟨l0, l3, l4, trivial⟩ ?_
          refine j_iload d_M_run_181 rfl ?_
          refine j_bipush (v := 32) d_M_run_183 (by decide) ?_
          refine j_icmp_geT (tgt := 206) d_M_run_185 rfl (show nI 32 ≤ nI 32 from nI_le (by omega) (by omega)) ?_
          refine j_iload_n d_M_run_206 rfl ?_
          refine j_iret rfl d_M_run_207 ⟨_, rfl, g0.s2 (by decide) _, ?_⟩
          show (if lackV (U &&& x.2) q.1 = true then _ else _)
          rw [if_neg hnl]
          exact ⟨rfl, g30, g32, g33, g34, g35, g12, g12b, rfl, g18⟩
        | succ k ih =>
          intro i ls hi l0 l3 l4
          refine j_loc' [(0, .ref 59), (3, .int (mAns q (U &&& x.2) S.2.1)), (4, .int (nI i))] ⟨l0, l3, l4, trivial⟩ ?_
          refine j_iload d_M_run_181 rfl ?_
          refine j_bipush (v := 32) d_M_run_183 (by decide) ?_
          refine j_icmp_geF (tgt := 206) d_M_run_185 rfl (show ¬ nI 32 ≤ nI i from nI_ge (by omega) (by omega)) ?_
          refine j_aload_n d_M_run_188 rfl ?_
          refine j_getf d_M_run_189 f_M_13 rfl rfl ?_
          refine j_iload d_M_run_192 rfl ?_
          refine j_dup2 d_M_run_194 rfl rfl ?_
          refine j_iald d_M_run_195 rfl (show i < 32 by omega) (by decide) ?_
          refine j_top (w := .int (mBits q (U &&& x.2) S.2.1 i)) (congrArg Value.int (show mskF (mBits q (U &&& x.2) S.2.1) i i = _ from if_neg (by omega))) ?_
          refine j_ldc d_M_run_196 c_M_99 ?_
          refine j_iand d_M_run_198 ?_
          refine j_iast d_M_run_199 rfl (show i < 32 by omega) (by decide) rfl ?_
          refine j_hp (h' := lay (s2 S7 11 (upd (mskF (mBits q (U &&& x.2) S.2.1) i) i (mBits q (U &&& x.2) S.2.1 i &&& 16777215))) ++ J) rfl ?_
          rw [mskF_s]
          refine j_iincN d_M_run_200 rfl (by decide) ?_
          refine j_goto (tgt := 181) d_M_run_203 rfl ?_
          exact ih (i + 1) _ (by omega) rfl rfl rfl
      refine j_loc' [(0, .ref 59)] ⟨l0, trivial⟩ ?_
      refine j_istore_n d_M_run_177 (by decide) ?_
      refine j_iconst (v := 0) d_M_run_178 rfl ?_
      refine j_istore d_M_run_179 (by decide) ?_
      refine j_hp (h' := lay (s2 S7 11 (mskF (mBits q (U &&& x.2) S.2.1) 0)) ++ J) ?_ ?_
      · rw [← g11]
        show lay S7 ++ J = lay (S7.1, va_up S7.2.1 11 (mskF (S7.2.1 11) 0), S7.2.2) ++ J
        rw [show mskF (S7.2.1 11) 0 = S7.2.1 11 by funext j; exact if_neg (by omega)]
        rw [va_self]
      · exact loop3 32 0 _ rfl rfl rfl rfl
    -- behind the second loop
    have act : ∀ (S5 : jS) (ls : List (Nat × Value)), j_lg ls 0 = some (.ref 59) → j_lg ls 2 = some (.int (nI (cntB (bt (U &&& x.2)) 32))) → frZ [47] [12, 28] B S5 → rsp (S5.2.1 12) (U &&& x.2) → (∀ j, 32 ≤ j → S5.2.1 12 j = S.2.1 12 j) → ¬ lackV (U &&& x.2) q.1 = true → jE K M_M_run d 120 ls [] (lay S5 ++ J) (mrQ S J U (.inl (x, q))) 0 0 := by
      intro S5 ls l0 l2 f5 g12 g12b hnl
      refine j_loc' [(0, .ref 59), (2, .int (nI (cntB (bt (U &&& x.2)) 32)))] ⟨l0, l2, trivial⟩ ?_
      refine j_aload_n d_M_run_120 rfl ?_
      refine j_iconst (v := 0) d_M_run_121 rfl ?_
      refine j_putf d_M_run_122 f_M_102 rfl (Nat.le_of_ble_eq_true rfl) rfl rfl rfl ?_
      refine j_aload_n d_M_run_125 rfl ?_
      refine j_iconst (v := 0) d_M_run_126 rfl ?_
      refine j_putf d_M_run_127 f_M_257 rfl (Nat.le_of_ble_eq_true rfl) rfl rfl rfl ?_
      refine j_hp (h' := lay (s1 (s1 S5 32 0) 34 0) ++ J) rfl ?_
      have e : ∀ i, ¬ i ∈ [12, 28] → ¬ i ∈ [19, 20, 21, 22, 23, 24, 25, 26, 27] → S5.2.1 i = S.2.1 i := fun i h1 h2 => (f5.2.1 i h1).trans (aB i h2)
      have f6 : frZ [30, 32, 33, 34, 35, 36, 37, 38, 39, 40, 41, 42, 43, 44, 45, 46, 47] [11, 12, 18, 19, 20, 21, 22, 23, 24, 25, 26, 27, 28] S (s1 (s1 S5 32 0) 34 0) := ((fB.tr (f5.up (by decide) (by decide))).s1 (by decide) _).s1 (by decide) _
      have hfo6 : fOk (s1 (s1 S5 32 0) 34 0).2.1 lo wd c := hfo.eq (e 1 (by decide) (by decide)) (e 2 (by decide) (by decide)) (e 3 (by decide) (by decide)) (e 14 (by decide) (by decide)) (e 15 (by decide) (by decide)) (e 16 (by decide) (by decide))
      have e1 : (s1 (s1 S5 32 0) 34 0).2.1 1 = S.2.1 1 := e 1 (by decide) (by decide)
      have e2 : (s1 (s1 S5 32 0) 34 0).2.1 2 = S.2.1 2 := e 2 (by decide) (by decide)
      have e3 : (s1 (s1 S5 32 0) 34 0).2.1 3 = S.2.1 3 := e 3 (by decide) (by decide)
      have e11 : (s1 (s1 S5 32 0) 34 0).2.1 11 = S.2.1 11 := e 11 (by decide) (by decide)
      have e18 : (s1 (s1 S5 32 0) 34 0).2.1 18 = S.2.1 18 := e 18 (by decide) (by decide)
      have h44 : (s1 (s1 S5 32 0) 34 0).1 44 = nI (q.1 + 1) := (f5.1 44 (by decide)).trans hp44
      have h30 : (s1 (s1 S5 32 0) 34 0).1 30 = 0 := f5.1 30 (by decide)
      have h33 : (s1 (s1 S5 32 0) 34 0).1 33 = -1 := f5.1 33 (by decide)
      have h35 : (s1 (s1 S5 32 0) 34 0).1 35 = S.1 35 := (f5.1 35 (by decide)).trans (sB 35 (by decide) (by decide) (by decide))
      refine j_aload_n d_M_run_130 rfl ?_
      refine j_getf d_M_run_131 f_M_167 rfl rfl ?_
      refine j_top (w := .int (nI (q.1 + 1))) (congrArg Value.int h44) ?_
      refine j_iconst (v := 1) d_M_run_134 rfl ?_
      by_cases h0 : q.1 = 0
      · refine j_icmp_neF (tgt := 145) d_M_run_135 rfl (by rw [h0]; rfl) ?_
        refine j_aload_n d_M_run_138 rfl ?_
        have hms : isMs q.2.2.1 q.2.2.2 (s1 (s1 S5 32 0) 34 0) := by
          obtain ⟨a1, a2⟩ := hAB.2.2.1 h0
          have k5 : ∀ i, ¬ i ∈ [12, 28] → (s1 (s1 S5 32 0) 34 0).2.1 i = B.2.1 i := fun i hi => f5.2.1 i hi
          have kp : ∀ (g : Nat) (r : Chg), isMC g r B → isMC g r (s1 (s1 S5 32 0) 34 0) := fun g r hr => ⟨(congrFun (k5 22 (by decide)) g).trans hr.1, hr.2.1.keep (congrFun (k5 23 (by decide)) g) (congrFun (k5 24 (by decide)) g), (congrFun (k5 25 (by decide)) g).trans hr.2.2.1, hr.2.2.2.imp id (fun z => z.keep (congrFun (k5 26 (by decide)) g) (congrFun (k5 27 (by decide)) g))⟩
          refine ⟨kp 0 _ a1, ?_⟩
          cases hz : q.2.2.2 with
          | none => rw [hz] at a2; exact (f5.1 46 (by decide)).trans a2
          | some r => rw [hz] at a2; exact ⟨(f5.1 46 (by decide)).trans a2.1, kp 1 _ a2.2⟩
        have hca := m_M_changeAll K (d - 1) (by omega) (s1 (s1 S5 32 0) 34 0) J (U &&& x.2) g12 hfo6 q.2.2.1 q.2.2.2 hms (hqo.2.1 h0)
        rw [canV_eq e1 e2 e3, chgV_eq e1 e2 e3, e11] at hca
        refine j_retI (j_callV d_M_run_139 v_M_changeAll l_M_269 rfl rfl hca (by omega) (by decide) (Nat.le_of_ble_eq_true rfl) rfl) rfl ?_
        refine j_goto (tgt := 177) d_M_run_142 rfl ?_
        refine j_top (w := .int (mAns q (U &&& x.2) S.2.1)) (congrArg Value.int (by unfold mAns; rw [if_pos h0]; rfl)) ?_
        refine fin _ _ rfl ((f6.s2 (by decide) _).s1 (by decide) _) h30 rfl h33 (by unfold mRef; rw [if_pos h0]; rfl) (by unfold mMany; rw [if_neg (by omega)]; exact h35) g12 g12b (by unfold mBits; rw [if_pos h0]; rfl) (by unfold mList; rw [if_neg (by omega)]; exact e18) hnl
      · refine j_icmp_neT (tgt := 145) d_M_run_135 rfl (fun z => h0 (by have := (nI_eq (b := 1) (by omega) (by omega)).mp z; omega)) ?_
        refine j_aload_n d_M_run_145 rfl ?_
        refine j_getf d_M_run_146 f_M_167 rfl rfl ?_
        refine j_top (w := .int (nI (q.1 + 1))) (congrArg Value.int h44) ?_
        refine j_iconst (v := 5) d_M_run_149 rfl ?_
        by_cases h4 : q.1 = 4
        · refine j_icmp_neF (tgt := 160) d_M_run_150 rfl (by rw [h4]; rfl) ?_
          refine j_aload_n d_M_run_153 rfl ?_
          have hf : q.2.1 < c := hqo.2.2 h0 (by omega)
          have h45 : (s1 (s1 S5 32 0) 34 0).1 45 = nI q.2.1 := (f5.1 45 (by decide)).trans (hAB.2.2.2 h0 (by omega))
          have hla := m_M_listAll K (d - 1) (by omega) (s1 (s1 S5 32 0) 34 0) J (U &&& x.2) g12 hfo6 q.2.1 hf h45
          have emw : mwl (s1 (s1 S5 32 0) 34 0).2.1 q.2.1 = mwl S.2.1 q.2.1 := by
            funext z
            exact congrFun (mvl_eq e1 e2 e3 e11 q.2.1) _
          rw [emw, e18] at hla
          refine j_retI (j_callV d_M_run_154 v_M_listAll l_M_272 rfl rfl hla (by omega) (by decide) (Nat.le_of_ble_eq_true rfl) rfl) rfl ?_
          refine j_goto (tgt := 177) d_M_run_157 rfl ?_
          refine j_top (w := .int (mAns q (U &&& x.2) S.2.1)) (congrArg Value.int (by unfold mAns; rw [if_neg h0, if_pos h4])) ?_
          refine fin _ _ rfl ((f6.s2 (by decide) _).s1 (by decide) _) h30 rfl h33 (by unfold mRef; rw [if_neg h0]; rfl) (by unfold mMany; rw [if_pos h4]; rfl) g12 g12b (by unfold mBits; rw [if_neg h0]; exact e11) (by unfold mList; rw [if_pos h4]; rfl) hnl
        · refine j_icmp_neT (tgt := 160) d_M_run_150 rfl (fun z => h4 (by have := (nI_eq (b := 5) (by omega) (by omega)).mp z; omega)) ?_
          refine j_aload_n d_M_run_160 rfl ?_
          refine j_getf d_M_run_161 f_M_167 rfl rfl ?_
          refine j_top (w := .int (nI (q.1 + 1))) (congrArg Value.int h44) ?_
          refine j_bipush (v := 6) d_M_run_164 (by decide) ?_
          by_cases h5 : q.1 = 5
          · refine j_icmp_neF (tgt := 173) d_M_run_166 rfl (by rw [h5]; rfl) ?_
            refine j_iload_n d_M_run_169 rfl ?_
            refine j_goto (tgt := 177) d_M_run_170 rfl ?_
            refine j_top (w := .int (mAns q (U &&& x.2) S.2.1)) (congrArg Value.int (by unfold mAns; rw [if_neg h0, if_neg h4, if_pos h5])) ?_
            refine fin _ _ rfl f6 h30 rfl h33 (by unfold mRef; rw [if_neg h0]; rfl) (by unfold mMany; rw [if_neg h4]; exact h35) g12 g12b (by unfold mBits; rw [if_neg h0]; exact e11) (by unfold mList; rw [if_neg h4]; exact e18) hnl
          · refine j_icmp_neT (tgt := 173) d_M_run_166 rfl (fun z => h5 (by have := (nI_eq (b := 6) (by omega) (by omega)).mp z; omega)) ?_
            refine j_aload_n d_M_run_173 rfl ?_
            have hf : q.2.1 < c := hqo.2.2 h0 h5
            have h45 : (s1 (s1 S5 32 0) 34 0).1 45 = nI q.2.1 := (f5.1 45 (by decide)).trans (hAB.2.2.2 h0 h5)
            have hga := m_M_gather K (d - 1) (by omega) (s1 (s1 S5 32 0) 34 0) J (U &&& x.2) g12 hfo6 q.2.1 hf h45
            rw [h44, mvl_eq e1 e2 e3 e11 q.2.1] at hga
            refine j_retI (j_callV d_M_run_174 v_M_gather l_M_275 rfl rfl hga (by omega) (by decide) (Nat.le_of_ble_eq_true rfl) rfl) rfl ?_
            refine j_top (w := .int (mAns q (U &&& x.2) S.2.1)) (congrArg Value.int (by unfold mAns; rw [if_neg h0, if_neg h4, if_neg h5])) ?_
            refine fin _ _ rfl f6 h30 rfl h33 (by unfold mRef; rw [if_neg h0]; rfl) (by unfold mMany; rw [if_neg h4]; exact h35) g12 g12b (by unfold mBits; rw [if_neg h0]; exact e11) (by unfold mList; rw [if_neg h4]; exact e18) hnl
    -- the second loop
    have loop2 : ∀ k i (S3 : jS) (ls : List (Nat × Value)), i + k = 32 → j_lg ls 0 = some (.ref 59) → j_lg ls 2 = some (.int (nI (cntB (bt (U &&& x.2)) 32))) → j_lg ls 3 = some (.int (nI i)) → frZ [47] [12, 28] B S3 → (∀ j, j < i → S3.2.1 12 j = b2i (bt (U &&& x.2) j)) → (∀ j, i ≤ j → S3.2.1 12 j = S.2.1 12 j) → ¬ lackV (U &&& x.2) q.1 = true → jE K M_M_run d 97 ls [] (lay S3 ++ J) (mrQ S J U (.inl (x, q))) 0 0 := by
      intro k
      induction k with
      | zero =>
        intro i S3 ls hi l0 l2 l3 f3 g1 g2 hnl
        have hi : i = 32 := by omega
        subst hi
        refine j_loc' [(0, .ref 59), (2, .int (nI (cntB (bt (U &&& x.2)) 32))), (3, .int (nI 32))] ⟨l0, l2, l3, trivial⟩ ?_
        refine j_iload_n d_M_run_97 rfl ?_
        refine j_bipush (v := 32) d_M_run_98 (by decide) ?_
        refine j_icmp_geT (tgt := 120) d_M_run_100 rfl (show nI 32 ≤ nI 32 from nI_le (by omega) (by omega)) ?_
        exact act S3 _ rfl rfl f3 g1 g2 hnl
      | succ k ih =>
        intro i S3 ls hi l0 l2 l3 f3 g1 g2 hnl
        refine j_loc' [(0, .ref 59), (2, .int (nI (cntB (bt (U &&& x.2)) 32))), (3, .int (nI i))] ⟨l0, l2, l3, trivial⟩ ?_
        refine j_iload_n d_M_run_97 rfl ?_
        refine j_bipush (v := 32) d_M_run_98 (by decide) ?_
        refine j_icmp_geF (tgt := 120) d_M_run_100 rfl (show ¬ nI 32 ≤ nI i from nI_ge (by omega) (by omega)) ?_
        refine j_aload_n d_M_run_103 rfl ?_
        refine j_getf d_M_run_104 f_M_17 rfl rfl ?_
        refine j_iload_n d_M_run_107 rfl ?_
        refine j_aload_n d_M_run_108 rfl ?_
        refine j_iload_n d_M_run_109 rfl ?_
        refine j_ret0 (j_callV d_M_run_110 v_M_isTaken l_M_266 rfl rfl (tk S3 i (by omega) f3) (by omega) (by decide) (Nat.le_of_ble_eq_true rfl) rfl) rfl (fun v h' hq => ?_) (fun k' h' hq => by cases hq.1)
        obtain ⟨hv, S4, rfl, f4⟩ := hq
        cases hv
        refine j_st (st' := [.int (b2i (bt (U &&& x.2) i)), .int (nI i), .ref 62]) rfl ?_
        refine j_zast d_M_run_113 rfl (show i < 32 by omega) (by decide) (b2i_nar _) rfl ?_
        refine j_hp (h' := lay (s2 S4 12 (upd (S4.2.1 12) i (b2i (bt (U &&& x.2) i)))) ++ J) rfl ?_
        refine j_iincN d_M_run_114 rfl (by decide) ?_
        refine j_goto (tgt := 97) d_M_run_117 rfl ?_
        have e12 : S4.2.1 12 = S3.2.1 12 := f4.2.1 12 (by decide)
        refine ih (i + 1) (s2 S4 12 (upd (S4.2.1 12) i (b2i (bt (U &&& x.2) i)))) _ (by omega) rfl rfl rfl ((f3.tr (f4.z.up (by decide) (by decide))).s2 (by decide) _) (fun j hj => ?_) (fun j hj => ?_) hnl
        · show upd (S4.2.1 12) i (b2i (bt (U &&& x.2) i)) j = _
          by_cases ej : j = i
          · rw [ej]; exact if_pos rfl
          · exact (if_neg ej).trans ((congrFun e12 j).trans (g1 j (by omega)))
        · show upd (S4.2.1 12) i (b2i (bt (U &&& x.2) i)) j = _
          exact (if_neg (by omega)).trans ((congrFun e12 j).trans (g2 j (by omega)))
    -- behind the first loop
    have mid : ∀ (S2 : jS) (ls : List (Nat × Value)), j_lg ls 0 = some (.ref 59) → j_lg ls 2 = some (.int (nI (cntB (bt (U &&& x.2)) 32))) → frZ [47] [12, 28] B S2 → S2.2.1 12 = S.2.1 12 → jE K M_M_run d 68 ls [] (lay S2 ++ J) (mrQ S J U (.inl (x, q))) 0 0 := by
      intro S2 ls l0 l2 f2 g12
      have hc32 := cntB_le (bt (U &&& x.2)) 32
      have h44 : S2.1 44 = nI (q.1 + 1) := (f2.1 44 (by decide)).trans hp44
      refine j_loc' [(0, .ref 59), (2, .int (nI (cntB (bt (U &&& x.2)) 32)))] ⟨l0, l2, trivial⟩ ?_
      have go : ¬ lackV (U &&& x.2) q.1 = true → jE K M_M_run d 95 [(0, .ref 59), (2, .int (nI (cntB (bt (U &&& x.2)) 32)))] [] (lay S2 ++ J) (mrQ S J U (.inl (x, q))) 0 0 := by
        intro hnl
        refine j_iconst (v := 0) d_M_run_95 rfl ?_
        refine j_istore_n d_M_run_96 (by decide) ?_
        exact loop2 32 0 S2 _ rfl rfl rfl rfl f2 (fun j hj => by omega) (fun j _ => congrFun g12 j) hnl
      have lck : lackV (U &&& x.2) q.1 = true → jE K M_M_run d 88 [(0, .ref 59), (2, .int (nI (cntB (bt (U &&& x.2)) 32)))] [] (lay S2 ++ J) (mrQ S J U (.inl (x, q))) 0 0 := by
        intro hla
        refine j_aload_n d_M_run_88 rfl ?_
        refine j_iconst (v := 2) d_M_run_89 rfl ?_
        refine j_putf d_M_run_90 f_M_73 rfl (Nat.le_of_ble_eq_true rfl) rfl rfl rfl ?_
        refine j_hp (h' := lay (s1 S2 30 2) ++ J) rfl ?_
        refine j_iconst (v := 0) d_M_run_93 rfl ?_
        refine j_iret rfl d_M_run_94 ⟨s1 S2 30 2, rfl, (fB.tr (f2.up (by decide) (by decide))).s1 (by decide) _, ?_⟩
        show (if lackV (U &&& x.2) q.1 = true then _ else _)
        rw [if_pos hla]
        refine ⟨rfl, fun i hi => ?_, fun i hi => ?_, f2.2.2.trans fB.2.2⟩
        · show va_up S2.1 30 2 i = va_up (va_up S.1 33 (-1)) 30 2 i
          by_cases e30 : i = 30
          · rw [e30]; rfl
          · rw [j_une e30, j_une e30, f2.1 i (fun z => hi ((by decide : ∀ i, i ∈ [47] → i ∈ [36, 37, 38, 39, 40, 41, 42, 43, 44, 45, 46, 47]) i z))]
            show va_up (va_up S1.1 33 (-1)) 30 0 i = _
            rw [j_une e30]
            by_cases e33 : i = 33
            · rw [e33]; rfl
            · rw [j_une e33, j_une e33]
              exact f0.1 i (fun z => hi ((by decide : ∀ i, i ∈ [36, 37, 38, 39, 40, 41, 42, 43, 44, 45, 46] → i ∈ [36, 37, 38, 39, 40, 41, 42, 43, 44, 45, 46, 47]) i z))
        · show S2.2.1 i = S.2.1 i
          by_cases e12 : i = 12
          · rw [e12]; exact g12
          · refine (f2.2.1 i (fun z => ?_)).trans (aB i (fun z => hi ((by decide : ∀ i, i ∈ [19, 20, 21, 22, 23, 24, 25, 26, 27] → i ∈ [19, 20, 21, 22, 23, 24, 25, 26, 27, 28]) i z)))
            rcases List.mem_cons.mp z with z | z
            · exact e12 z
            · exact hi ((by decide : ∀ i, i ∈ [28] → i ∈ [19, 20, 21, 22, 23, 24, 25, 26, 27, 28]) i z)
      refine j_iload_n d_M_run_68 rfl ?_
      by_cases ht : U &&& x.2 = 0
      · refine j_if_neF (tgt := 95) d_M_run_69 rfl (by rw [(cnt0 _).mpr ht]; rfl) ?_
        refine j_aload_n d_M_run_72 rfl ?_
        refine j_getf d_M_run_73 f_M_167 rfl rfl ?_
        refine j_top (w := .int (nI (q.1 + 1))) (congrArg Value.int h44) ?_
        refine j_iconst (v := 2) d_M_run_76 rfl ?_
        by_cases h1 : q.1 = 1
        · refine j_icmp_eqT (tgt := 88) d_M_run_77 rfl (by rw [h1]; rfl) ?_
          exact lck ((lack_iff _ _).mpr ⟨ht, .inl h1⟩)
        · refine j_icmp_eqF (tgt := 88) d_M_run_77 rfl (fun z => h1 (by have := (nI_eq (b := 2) (by omega) (by omega)).mp z; omega)) ?_
          refine j_aload_n d_M_run_80 rfl ?_
          refine j_getf d_M_run_81 f_M_167 rfl rfl ?_
          refine j_top (w := .int (nI (q.1 + 1))) (congrArg Value.int h44) ?_
          refine j_iconst (v := 3) d_M_run_84 rfl ?_
          by_cases h2 : q.1 = 2
          · refine j_icmp_neF (tgt := 95) d_M_run_85 rfl (by rw [h2]; rfl) ?_
            exact lck ((lack_iff _ _).mpr ⟨ht, .inr h2⟩)
          · refine j_icmp_neT (tgt := 95) d_M_run_85 rfl (fun z => h2 (by have := (nI_eq (b := 3) (by omega) (by omega)).mp z; omega)) ?_
            exact go (fun z => by rcases ((lack_iff _ _).mp z).2 with w | w; exact h1 w; exact h2 w)
      · refine j_if_neT (tgt := 95) d_M_run_69 rfl (fun z => ht ((cnt0 _).mp ((nI_eq (b := 0) (by omega) (by omega)).mp z))) ?_
        exact go (fun z => ht ((lack_iff _ _).mp z).1)
    -- the first loop
    have loop1 : ∀ k i (S2 : jS) (ls : List (Nat × Value)), i + k = 32 → j_lg ls 0 = some (.ref 59) → j_lg ls 2 = some (.int (nI (cntB (bt (U &&& x.2)) i))) → j_lg ls 3 = some (.int (nI i)) → frZ [47] [12, 28] B S2 → S2.2.1 12 = S.2.1 12 → jE K M_M_run d 36 ls [] (lay S2 ++ J) (mrQ S J U (.inl (x, q))) 0 0 := by
      intro k
      induction k with
      | zero =>
        intro i S2 ls hi l0 l2 l3 f2 g12
        have hi : i = 32 := by omega
        subst hi
        refine j_loc' [(0, .ref 59), (2, .int (nI (cntB (bt (U &&& x.2)) 32))), (3, .int (nI 32))] ⟨l0, l2, l3, trivial⟩ ?_
        refine j_iload_n d_M_run_36 rfl ?_
        refine j_bipush (v := 32) d_M_run_37 (by decide) ?_
        refine j_icmp_geT (tgt := 68) d_M_run_39 rfl (show nI 32 ≤ nI 32 from nI_le (by omega) (by omega)) ?_
        exact mid S2 _ rfl rfl f2 g12
      | succ k ih =>
        intro i S2 ls hi l0 l2 l3 f2 g12
        refine j_loc' [(0, .ref 59), (2, .int (nI (cntB (bt (U &&& x.2)) i))), (3, .int (nI i))] ⟨l0, l2, l3, trivial⟩ ?_
        refine j_iload_n d_M_run_36 rfl ?_
        refine j_bipush (v := 32) d_M_run_37 (by decide) ?_
        refine j_icmp_geF (tgt := 68) d_M_run_39 rfl (show ¬ nI 32 ≤ nI i from nI_ge (by omega) (by omega)) ?_
        refine j_aload_n d_M_run_42 rfl ?_
        refine j_iload_n d_M_run_43 rfl ?_
        refine j_ret0 (j_callV d_M_run_44 v_M_isTaken l_M_266 rfl rfl (tk S2 i (by omega) f2) (by omega) (by decide) (Nat.le_of_ble_eq_true rfl) rfl) rfl (fun v h' hq => ?_) (fun k' h' hq => by cases hq.1)
        obtain ⟨hv, S4, rfl, f4⟩ := hq
        cases hv
        refine j_st (st' := [.int (b2i (bt (U &&& x.2) i))]) rfl ?_
        have g4 : frZ [47] [12, 28] B S4 := f2.tr (f4.z.up (by decide) (by decide))
        have g124 : S4.2.1 12 = S.2.1 12 := (f4.2.1 12 (by decide)).trans g12
        refine j_istore d_M_run_47 (by decide) ?_
        refine j_iload_n d_M_run_49 rfl ?_
        refine j_iload d_M_run_50 rfl ?_
        cases hb : bt (U &&& x.2) i with
        | true =>
          refine j_if_eqF (tgt := 59) d_M_run_52 rfl (by decide) ?_
          refine j_iconst (v := 1) d_M_run_55 rfl ?_
          refine j_goto (tgt := 60) d_M_run_56 rfl ?_
          refine j_iadd d_M_run_60 ?_
          refine j_istore_n d_M_run_61 (by decide) ?_
          refine j_iincN d_M_run_62 rfl (by decide) ?_
          refine j_goto (tgt := 36) d_M_run_65 rfl ?_
          refine ih (i + 1) S4 _ (by omega) rfl ?_ rfl g4 g124
          show some (Value.int (nI (cntB (bt (U &&& x.2)) i) + 1)) = some (Value.int (nI (cntB (bt (U &&& x.2)) i + (if bt (U &&& x.2) i = true then 1 else 0))))
          rw [hb, if_pos rfl, nI_succ]
        | false =>
          refine j_if_eqT (tgt := 59) d_M_run_52 rfl rfl ?_
          refine j_iconst (v := 0) d_M_run_59 rfl ?_
          refine j_iadd d_M_run_60 ?_
          refine j_istore_n d_M_run_61 (by decide) ?_
          refine j_iincN d_M_run_62 rfl (by decide) ?_
          refine j_goto (tgt := 36) d_M_run_65 rfl ?_
          refine ih (i + 1) S4 _ (by omega) rfl ?_ rfl g4 g124
          show some (Value.int (nI (cntB (bt (U &&& x.2)) i) + 0)) = some (Value.int (nI (cntB (bt (U &&& x.2)) i + (if bt (U &&& x.2) i = true then 1 else 0))))
          rw [hb, if_neg (by decide), Int32.add_zero, Nat.add_zero]
    exact loop1 32 0 B _ rfl rfl rfl rfl (frZ.rf _ _ _) (aB 12 (by decide))
