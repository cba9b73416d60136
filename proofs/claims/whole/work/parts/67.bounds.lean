/-! where a text is wrong is not behind its end -/
def tB (n : Nat) (r : List Tok) : Prop := ∀ t ∈ r, t.2.1 ≤ n
def okR {α : Type} (n : Nat) (y : Rs α) : Prop := match y with
  | .inl (_, r1) => tB n r1
  | .inr p => p ≤ n
theorem tB.hd {n : Nat} {k : Int32} {s e : Nat} {r : List Tok} (h : tB n ((k, s, e) :: r)) : s ≤ n := h _ List.mem_cons_self
theorem tB.tl {n : Nat} {q : Tok} {r : List Tok} (h : tB n (q :: r)) : tB n r := fun t ht => h t (List.mem_cons_of_mem _ ht)
section TB
variable {T N : Nat → Int32} {c n : Nat}
theorem pFld_b {r : List Tok} (h : tB n r) : okR n (pFld T N c r) := by
  unfold pFld
  split
  · exact Nat.zero_le _
  · split
    · split
      · exact h.hd
      · exact h.tl
    · exact h.hd
theorem pOpd_b {r : List Tok} (h : tB n r) : okR n (pOpd T N c r) := by
  unfold pOpd
  split
  · exact Nat.zero_le _
  · split
    · split
      · exact Nat.zero_le _
      · split
        · exact h.tl.tl
        · exact h.tl.hd
    · split
      · exact h.tl
      · have := pFld_b (T := T) (N := N) (c := c) h
        split
        · rename_i hf; rw [hf] at this; exact this
        · rename_i hf; rw [hf] at this; exact this
theorem pCmp_b {r : List Tok} (h : tB n r) : okR n (pCmp T N c r) := by
  unfold pCmp
  have h1 := pOpd_b (T := T) (N := N) (c := c) h
  split
  · rename_i q; rw [q] at h1; exact h1
  · exact Nat.zero_le _
  · rename_i q
    rw [q] at h1
    have h1 : tB n _ := h1
    split
    · have h2 := pOpd_b (T := T) (N := N) (c := c) h1.tl
      split
      · rename_i q2; rw [q2] at h2; exact h2
      · rename_i q2; rw [q2] at h2; exact h2
    · exact h1.hd
theorem pPass_b {x : Int32} {r : List Tok} (h : tB n r) : okR n (pPass x r) := by
  unfold pPass
  split
  · exact Nat.zero_le _
  · split
    · exact h.tl
    · exact h.hd
theorem pSgn_b {x y z : Int32} {r : List Tok} (h : tB n r) : okR n (pSgn x y z r) := by
  unfold pSgn
  split
  · exact Nat.zero_le _
  · split
    · exact h.tl
    · exact h
theorem pChg_b {r : List Tok} (h : tB n r) : okR n (pChg T N c r) := by
  unfold pChg
  have h1 := pFld_b (T := T) (N := N) (c := c) h
  split
  · rename_i q; rw [q] at h1; exact h1
  · rename_i q
    rw [q] at h1
    have h2 := pPass_b (x := 61) (show tB n _ from h1)
    split
    · rename_i q; rw [q] at h2; exact h2
    · rename_i q
      rw [q] at h2
      have h3 := pOpd_b (T := T) (N := N) (c := c) (show tB n _ from h2)
      split
      · rename_i q; rw [q] at h3; exact h3
      · rename_i q
        rw [q] at h3
        have h4 := pSgn_b (x := 43) (y := 45) (z := 42) (show tB n _ from h3)
        split
        · rename_i q; rw [q] at h4; exact h4
        · rename_i q
          rw [q] at h4
          split
          · exact h4
          · have h5 := pOpd_b (T := T) (N := N) (c := c) (show tB n _ from h4)
            split
            · rename_i q; rw [q] at h5; exact h5
            · rename_i q; rw [q] at h5; exact h5
theorem pVerb_b {r : List Tok} (h : tB n r) : okR n (pVerb T r) := by
  unfold pVerb
  split
  · exact Nat.zero_le _
  · split
    · exact h.hd
    · exact h.tl
theorem pAct_b {r : List Tok} (h : tB n r) : okR n (pAct T N c r) := by
  unfold pAct
  have h1 := pVerb_b (T := T) h
  split
  · rename_i q; rw [q] at h1; exact h1
  · rename_i q
    rw [q] at h1
    have h1 : tB n _ := h1
    split
    · have h2 := pChg_b (T := T) (N := N) (c := c) h1
      split
      · rename_i q; rw [q] at h2; exact h2
      · exact Nat.zero_le _
      · rename_i q
        rw [q] at h2
        have h2 : tB n _ := h2
        split
        · have h3 := pChg_b (T := T) (N := N) (c := c) h2.tl
          split
          · rename_i q; rw [q] at h3; exact h3
          · rename_i q; rw [q] at h3; exact h3
        · exact h2
    · split
      · exact h1
      · have h2 := pFld_b (T := T) (N := N) (c := c) h1
        split
        · rename_i q; rw [q] at h2; exact h2
        · rename_i q; rw [q] at h2; exact h2
end TB
def BS (n : Nat) : PR := fun _ r y => tB n r → okR n y
def BL (n : Nat) : PL := fun _ _ r y => tB n r → okR n y
theorem bnd_one {A : Nat → Nat → Int32} {c n : Nat} : Clo1 A c (BS n) (BS n) := by
  refine ⟨?_, ?_, ?_, ?_, ?_, ?_, ?_⟩
  · intro o k s e r _ _ h
    have := pCmp_b (T := A 5) (N := A 0) (c := c) h
    cases hp : pCmp (A 5) (A 0) c ((k, s, e) :: r) with
    | inl q => rw [hp] at this; exact this
    | inr q => rw [hp] at this; exact this
  · intro o k s e r _ _ h; exact h.hd
  · intro o s e r x r1 _ h1 h; exact h1 h.tl
  · intro o s e r p _ h1 h; exact h1 h.tl
  · intro o s e r x s2 e2 r1 _ h1 h; exact tB.tl (show tB n _ from h1 h.tl)
  · intro o s e r x k2 s2 e2 r1 _ h1 _ h; exact tB.hd (show tB n _ from h1 h.tl)
  · intro o s e r p _ h1 h; exact h1 h.tl
theorem bnd_chain {n : Nat} (z w : Int32) (f : Int32 → Int32 → Int32) : CloL z w f (BS n) (BS n) (BL n) := by
  refine ⟨?_, ?_, ?_, ?_, ?_⟩
  · intro o r x r1 y h1 h3 h; exact h3 (h1 h)
  · intro o r p h1 h; exact h1 h
  · intro o x k s e r _ h; exact h
  · intro o x s e r y r1 q h1 h3 h; exact h3 (h1 h.tl)
  · intro o x s e r p h1 h; exact h1 h.tl
theorem stm_b {P4 : PR} {T N : Nat → Int32} {c n : Nat} {r : List Tok} (h4 : ∀ r y, P4 0 r y → tB n r → okR n y) (hr : tB n r) {p : Nat} (h : Stm P4 T N c r (.inr p)) : p ≤ n := by
  have hW : ∀ x r2, Whr P4 T r x r2 → tB n r2 := by
    intro x r2 hw
    rcases hw with ⟨k, s, e, r1, h1, -, h3⟩ | ⟨k, s, e, r1, h1, -, -, h3⟩
    · rw [h1] at hr
      exact h4 _ _ h3 hr.tl
    · rw [h3]; exact hr
  rcases h with ⟨k, s, e, r1, h1, -, h3⟩ | ⟨x, r2, hw, h | ⟨q, k, e, r3, h, -⟩⟩
  · rw [h1] at hr
    exact h4 _ _ h3 hr.tl
  · have := pAct_b (T := T) (N := N) (c := c) (hW x r2 hw)
    rw [h] at this
    exact this
  · have := pAct_b (T := T) (N := N) (c := c) (hW x r2 hw)
    rw [h] at this
    exact tB.hd (show tB n _ from this)
