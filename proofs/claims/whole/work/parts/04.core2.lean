/-! cells of the world -/
theorem j_P1 {D : va_G} {cl : List vw_C} {q : Nat × va_E} {H : Heap} (h : va_at D cl q H) : va_P D cl [q] H := by
  intro k x hx
  cases k with
  | zero => cases hx; exact h
  | succ k => cases hx
theorem jW.at {K : jK} {h : jH} {H : Heap} (hw : jW K h H) {i : Nat} {x : va_E} (hx : j_get h i = some x) : va_at K.2.2.2.1 classes (j_adr K i, j_e K x) H := by
  unfold j_get at hx
  split at hx
  · cases hx
  · rename_i hi
    have h1 := hw.1 (i - 32) x hx
    rw [show j_adr K i = K.2.1 + (i - 32) by simp [j_adr, hi]]
    exact h1
theorem jW.put {K : jK} {h : jH} {H H1 : Heap} (hw : jW K h H) {i : Nat} {x y : va_E} (hx : j_get h i = some x) (hat : va_at K.2.2.2.1 classes (j_adr K i, j_e K y) H1) (hz : H1.size = H.size) (ho : ∀ q : Nat, q ≠ j_adr K i → H1[q]? = H[q]?) : jW K (j_set h i y) H1 := by
  unfold j_get at hx
  split at hx
  · cases hx
  · rename_i hi
    have ha : j_adr K i = K.2.1 + (i - 32) := by simp [j_adr, hi]
    rw [ha] at hat ho
    have hlt : i - 32 < h.length := (List.getElem?_eq_some_iff.mp hx).1
    refine ⟨fun j z hj => ?_, by rw [hz, hw.2.1]; simp [j_set], fun q hq => (ho q (by omega)).trans (hw.2.2 q hq)⟩
    by_cases e : j = i - 32
    · subst e
      have hj' : (h.set (i - 32) y)[i - 32]? = some z := hj
      rw [List.getElem?_set_self hlt] at hj'
      cases hj'
      exact hat
    · have hj' : (h.set (i - 32) y)[j]? = some z := hj
      rw [List.getElem?_set_ne (Ne.symm e)] at hj'
      exact (hw.1 j z hj').kept (ho _ (by show K.2.1 + j ≠ _; omega))
theorem jW.push {K : jK} {h : jH} {H H1 : Heap} (hw : jW K h H) {y : va_E} (hat : va_at K.2.2.2.1 classes (K.2.1 + h.length, j_e K y) H1) (hz : H1.size = H.size + 1) (ho : ∀ q : Nat, q < H.size → H1[q]? = H[q]?) : jW K (h ++ [y]) H1 := by
  have hsz := hw.2.1
  refine ⟨fun j z hj => ?_, by rw [hz, hsz]; simp; omega, fun q hq => (ho q (by omega)).trans (hw.2.2 q hq)⟩
  by_cases e : j < h.length
  · rw [List.getElem?_append_left e] at hj
    exact (hw.1 j z hj).kept (ho _ (by show K.2.1 + j < _; omega))
  · rw [List.getElem?_append_right (by omega)] at hj
    have e2 : j - h.length = 0 := by
      have := (List.getElem?_eq_some_iff.mp hj).1
      simp at this
      omega
    rw [e2] at hj
    cases hj
    rw [show j = h.length by omega]
    exact hat
/-- what the tables say of a field that an instruction names: own: the instruction's class; ci, k: the class and the field by number; its type; final or not -/
def jF (own : String) (idx ci k : Nat) (ty : FieldType) (fin : Bool) : Prop := ∃ (C : String) (T : u_T) (N : Nat) (ty0 : Nat → FieldType), classes[ci]? = some (C, T, N) ∧ k < N ∧ (∀ w ∈ u_ws C T N, w ∈ jt) ∧ (T k).1 = C ∧
  (Cond.fieldLink own idx C (T k).2.1 (T k).2.2.1 ∈ jt ∨ ∃ host, Cond.fieldLinkNest own idx C (T k).2.1 (T k).2.2.1 host ∈ jt) ∧ (∀ k, k < N → parseFieldDescriptor (T k).2.2.1 = some (ty0 k)) ∧ (∀ a, a < N → ∀ b, b < N → a ≠ b → (T a).2.1 ≠ (T b).2.1) ∧ ty0 k = ty ∧ (T k).2.2.2 = fin
section JHEAP
variable {K : jK} {M : jR} {d pc : Nat} {ls : List (Nat × Value)} {st : List Value} {h : jH} {Q : jO → jH → Prop} {mc ms : Nat}
theorem j_getf {idx ci k i : Nat} {ty : FieldType} {fin : Bool} {fs : List Value} {v : Value} (hd : decode M.2.1 pc = .ok (.getfield idx, 3)) (hf : jF M.1.cls idx ci k ty fin) (hx : j_get h i = some (.inr (ci, fs))) (hv : fs[k]? = some v) (kk : jE K M d (pc + 3) ls (v :: st) h Q mc ms) : jE K M d pc ls (.ref i :: st) h Q mc ms := by
  intro p e R s m as bl me c H lo ce sl la hC hc hs hl hw hL
  obtain ⟨C, T, N, ty0, hcl, hk, hin, hdecl, hlink, -⟩ := hf
  have hP : va_P K.2.2.2.1 classes [(j_adr K i, .inr (ci, fs.map (j_v K)))] H := j_P1 (hw.at hx)
  have hv' : (fs.map (j_v K))[k]? = some (j_v K v) := by rw [List.getElem?_map, hv]; rfl
  have hK := hC.2.2.2.2.2.2.2.2.2.2.2.1
  have hts := hC.2.2.2.2.1
  have kk' := kk p e R s m as bl me c H lo ce sl la hC hc hs hl hw hL
  rcases hlink with hlink | ⟨host, hlink⟩
  · exact va_get (ref := C) hC.1 hC.2.1 hts hin hC.2.2.2.1 hK hP 0 rfl hcl k hk (hts _ hlink) (fun x hx => by rw [hdecl] at hx; exact hx) hv' hd kk'
  · exact va_getN (ref := C) hC.1 hC.2.1 hts hin hC.2.2.2.1 hK hP 0 rfl hcl k hk (hts _ hlink) (fun x hx => by rw [hdecl] at hx; exact hx) hv' hd kk'
theorem j_putf {idx ci k i : Nat} {ty : FieldType} {fs : List Value} {v : Value} {h' : jH} (hd : decode M.2.1 pc = .ok (.putfield idx, 3)) (hf : jF M.1.cls idx ci k ty false) (hx : j_get h i = some (.inr (ci, fs))) (hlen : k < fs.length) (hn : narrow ty (j_v K v) = j_v K v) (hfit : fits ty (j_v K v) = true) (hh : j_set h i (.inr (ci, fs.set k v)) = h')
    (kk : jE K M d (pc + 3) ls st h' Q mc ms) : jE K M d pc ls (v :: .ref i :: st) h Q mc ms := by
  subst hh
  intro p e R s m as bl me c H lo ce sl la hC hc hs hl hw hL
  obtain ⟨C, T, N, ty0, hcl, hk, hin, hdecl, hlink, hty, hnm, rfl, hfin⟩ := hf
  have hK := hC.2.2.2.2.2.2.2.2.2.2.2.1
  have hts := hC.2.2.2.2.1
  have hap := va_apart (own := M.1.cls) hts hin ty0 hty hnm hK hcl
  obtain ⟨r, h1, cell, q1, q2, q3, q4⟩ := hw.at hx
  have hr : r = (C, T, N) := Option.some.inj (h1.symm.trans hcl)
  subst hr
  obtain ⟨hS, hfc, kC, hkC, hkind⟩ := hK.1 ci _ hcl
  obtain ⟨cf, kf, fi, f, hi, hsl⟩ := hS k hk
  have hlay := hts _ (hin _ (u_in_lay hk))
  unfold u_lay at hlay
  rw [if_neg (by rw [hfin]; decide)] at hlay
  have hst := (u_facts hfc hkC (u_lays hts hin hk) hi).1
  have h6 := u_store hfc hkC hkind hlay hi (hty k hk) hn hfit
  have hsame : s.fieldFound? C (T k).2.1 (T k).2.2.1 = some (cf, kf, fi, f) := by rw [hdecl] at hi; exact hi
  have hlen' : k < (fs.map (j_v K)).length := by simpa using hlen
  have key : ∀ H' : Heap, H'[j_adr K i]? = some (cell.setSlot f.slot (j_v K v)) → H'.size = H.size → (∀ q, q ≠ j_adr K i → H'[q]? = H[q]?) → W p K.1 e R s m as bl me c H' (lo ++ [⟨j_adr K i, f.slot⟩]) ce sl (jZ K bl s (ce + mc) (sl + ms) Q) (F0 m (pc + 3) la (st.map (j_v K))) := by
    intro H' e1 e2 e3
    refine kk p e R s m as bl me c H' _ ce sl la hC hc hs hl (hw.put hx ?_ e2 e3) ?_
    · rw [hsl] at e1
      refine ⟨_, hcl, ?_⟩
      have := t_OB.to (V := updV (vp_V (fs.map (j_v K))) k (j_v K v)) ⟨_, e1, q2, q3, t_set q4 hap hk (j_v K v)⟩ (fun j _ => vp_updV_set hlen' (j_v K v) j)
      rw [← List.map_set] at this
      exact this
    · intro q hq
      rcases List.mem_append.mp hq with h2 | h2
      · exact hL q h2
      · rw [List.mem_singleton.mp h2]
        show K.2.1 ≤ j_adr K i
        have : ¬ i < 32 := by
          intro hlt
          simp [j_get, hlt] at hx
        simp [j_adr, this]
  rcases hlink with hlink | ⟨host, hlink⟩
  · exact W.putK hC.1 hC.2.1 (f := f) ⟨hC.2.2.2.1, hts _ hlink, ⟨_, _, _, hsame⟩, hst⟩ (by rw [q2]; exact h6) q1 q3 (by rw [hsl]; exact k2_hasslot (q4 k hk)) rfl rfl hd key
  · exact va_WputK hC.1 hC.2.1 (f := f) hC.2.2.2.1 (hts _ hlink) hsame hst (by rw [q2]; exact h6) q1 q3 (by rw [hsl]; exact k2_hasslot (q4 k hk)) rfl rfl hd key
theorem j_putF {idx ci k i : Nat} {ty : FieldType} {fs : List Value} {v : Value} {h' : jH} (hd : decode M.2.1 pc = .ok (.putfield idx, 3)) (hf : jF M.1.cls idx ci k ty true) (hnI : M.1.name = "<init>") (hl0 : ∃ C T N, classes[ci]? = some (C, T, N) ∧ Cond.fieldLink M.1.cls idx C (T k).2.1 (T k).2.2.1 ∈ jt) (hown : ∀ C T N, classes[ci]? = some (C, T, N) → C = M.1.cls) (hx : j_get h i = some (.inr (ci, fs))) (hlen : k < fs.length) (hn : narrow ty (j_v K v) = j_v K v) (hfit : fits ty (j_v K v) = true) (hh : j_set h i (.inr (ci, fs.set k v)) = h')
    (kk : jE K M d (pc + 3) ls st h' Q mc ms) : jE K M d pc ls (v :: .ref i :: st) h Q mc ms := by
  subst hh
  intro p e R s m as bl me c H lo ce sl la hC hc hs hl hw hL
  obtain ⟨C, T, N, ty0, hcl, hk, hin, hdecl, hlink, hty, hnm, rfl, hfin⟩ := hf
  have hCo := hown C T N hcl
  have hK := hC.2.2.2.2.2.2.2.2.2.2.2.1
  have hts := hC.2.2.2.2.1
  have hap := va_apart (own := M.1.cls) hts hin ty0 hty hnm hK hcl
  obtain ⟨r, h1, cell, q1, q2, q3, q4⟩ := hw.at hx
  have hr : r = (C, T, N) := Option.some.inj (h1.symm.trans hcl)
  subst hr
  obtain ⟨hS, hfc, kC, hkC, hkind⟩ := hK.1 ci _ hcl
  obtain ⟨cf, kf, fi, f, hi, hsl⟩ := hS k hk
  have hlay := hts _ (hin _ (u_in_lay hk))
  unfold u_lay at hlay
  rw [if_pos hfin] at hlay
  have hst := (u_facts hfc hkC (u_lays hts hin hk) hi).1
  have hcf : m.cls = cf := by
    obtain ⟨_, _, c', _, _, _, -, -, hf', -, -, -, hown2, -⟩ := Cond.laysFinal_spec hlay
    have e1 : c' = cf := by have := hi.symm.trans hf'; simp at this; exact this.1.symm
    rw [hdecl, hCo] at hown2
    rw [← e1]; exact Option.some.inj (hC.2.2.2.1.symm.trans hown2)
  have h6 := u_fits hfc hkC hkind (Or.inr hlay) hi (hty k hk) hn hfit
  have hsame : s.fieldFound? C (T k).2.1 (T k).2.2.1 = some (cf, kf, fi, f) := by rw [hdecl] at hi; exact hi
  have hlen' : k < (fs.map (j_v K)).length := by simpa using hlen
  obtain ⟨C', T', N', hcl', hlink0⟩ := hl0
  obtain ⟨rfl, rfl, rfl⟩ : C' = C ∧ T' = T ∧ N' = N := by
    have h9 := Option.some.inj (hcl'.symm.trans hcl)
    simp only [Prod.mk.injEq] at h9
    exact h9
  refine W.putFinK hC.1 hC.2.1 hC.2.2.2.1 (hts _ hlink0) hsame hst hcf (hC.2.2.2.2.2.2.2.1.trans hnI) (by rw [q2]; exact h6) q1 q3 (by rw [hsl]; exact k2_hasslot (q4 k hk)) rfl rfl hd ?_
  intro H' e1 e2 e3
  refine kk p e R s m as bl me c H' _ ce sl la hC hc hs hl (hw.put hx ?_ e2 e3) ?_
  · rw [hsl] at e1
    refine ⟨_, hcl, ?_⟩
    have := t_OB.to (V := updV (vp_V (fs.map (j_v K))) k (j_v K v)) ⟨_, e1, q2, q3, t_set q4 hap hk (j_v K v)⟩ (fun j _ => vp_updV_set hlen' (j_v K v) j)
    rw [← List.map_set] at this
    exact this
  · intro q hq
    rcases List.mem_append.mp hq with h2 | h2
    · exact hL q h2
    · rw [List.mem_singleton.mp h2]
      show K.2.1 ≤ j_adr K i
      have : ¬ i < 32 := by
        intro hlt
        simp [j_get, hlt] at hx
      simp [j_adr, this]
theorem j_iald {i n j : Nat} {f : Nat → Int32} (hd : decode M.2.1 pc = .ok (.iaload, 1)) (hx : j_get h i = some (.inl (0, n, .inl f))) (hj : j < n) (hn : n < 2 ^ 31) (kk : jE K M d (pc + 1) ls (.int (f j) :: st) h Q mc ms) : jE K M d pc ls (.int (nI j) :: .ref i :: st) h Q mc ms := by
  intro p e R s m as bl me c H lo ce sl la hC hc hs hl hw hL
  have hP : va_P K.2.2.2.1 classes [(j_adr K i, .inl (K.2.2.2.2.1 0, n, .inl f))] H := j_P1 (hw.at hx)
  have kk' := kk p e R s m as bl me c H lo ce sl la hC hc hs hl hw hL
  refine va_iald hC.1 hC.2.1 hC.2.2.2.2.2.2.2.2.2.2.2.1 hP 0 0 rfl rfl (i := nI j) (vp_in_nI hj hn) hd ?_
  rw [nI_clamp (Nat.lt_trans hj hn)]
  exact kk'
theorem j_cald {i n j : Nat} {f : Nat → Int32} (hd : decode M.2.1 pc = .ok (.caload, 1)) (hx : j_get h i = some (.inl (1, n, .inl f))) (hj : j < n) (hn : n < 2 ^ 31) (kk : jE K M d (pc + 1) ls (.int (f j) :: st) h Q mc ms) : jE K M d pc ls (.int (nI j) :: .ref i :: st) h Q mc ms := by
  intro p e R s m as bl me c H lo ce sl la hC hc hs hl hw hL
  have hP : va_P K.2.2.2.1 classes [(j_adr K i, .inl (K.2.2.2.2.1 1, n, .inl f))] H := j_P1 (hw.at hx)
  have kk' := kk p e R s m as bl me c H lo ce sl la hC hc hs hl hw hL
  refine va_cald hC.1 hC.2.1 hC.2.2.2.2.2.2.2.2.2.2.2.1 hP 0 1 rfl rfl (i := nI j) (vp_in_nI hj hn) hd ?_
  rw [nI_clamp (Nat.lt_trans hj hn)]
  exact kk'
theorem j_zald {i n j : Nat} {f : Nat → Int32} (hd : decode M.2.1 pc = .ok (.baload, 1)) (hx : j_get h i = some (.inl (2, n, .inl f))) (hj : j < n) (hn : n < 2 ^ 31) (kk : jE K M d (pc + 1) ls (.int (f j) :: st) h Q mc ms) : jE K M d pc ls (.int (nI j) :: .ref i :: st) h Q mc ms := by
  intro p e R s m as bl me c H lo ce sl la hC hc hs hl hw hL
  have hP : va_P K.2.2.2.1 classes [(j_adr K i, .inl (K.2.2.2.2.1 2, n, .inl f))] H := j_P1 (hw.at hx)
  have kk' := kk p e R s m as bl me c H lo ce sl la hC hc hs hl hw hL
  refine va_zald hC.1 hC.2.1 hC.2.2.2.2.2.2.2.2.2.2.2.1 hP 0 2 rfl rfl (i := nI j) (vp_in_nI hj hn) hd ?_
  rw [nI_clamp (Nat.lt_trans hj hn)]
  exact kk'
theorem j_lald {i n j : Nat} {f : Nat → Int64} (hd : decode M.2.1 pc = .ok (.laload, 1)) (hx : j_get h i = some (.inl (3, n, .inr (.inl f)))) (hj : j < n) (hn : n < 2 ^ 31) (kk : jE K M d (pc + 1) ls (.long (f j) :: st) h Q mc ms) : jE K M d pc ls (.int (nI j) :: .ref i :: st) h Q mc ms := by
  intro p e R s m as bl me c H lo ce sl la hC hc hs hl hw hL
  have hP : va_P K.2.2.2.1 classes [(j_adr K i, .inl (K.2.2.2.2.1 3, n, .inr (.inl f)))] H := j_P1 (hw.at hx)
  have kk' := kk p e R s m as bl me c H lo ce sl la hC hc hs hl hw hL
  refine va_lald hC.1 hC.2.1 hC.2.2.2.2.2.2.2.2.2.2.2.1 hP 0 3 rfl rfl (i := nI j) (vp_in_nI hj hn) hd ?_
  rw [nI_clamp (Nat.lt_trans hj hn)]
  exact kk'
theorem j_loc {K : jK} {h : jH} {i k : Nat} {x : va_E} {lo : List Loc} (hx : j_get h i = some x) (hL : ∀ q ∈ lo, K.2.1 ≤ q.base) : ∀ q ∈ lo ++ [(⟨j_adr K i, k⟩ : Loc)], K.2.1 ≤ q.base := by
  intro q hq
  rcases List.mem_append.mp hq with h2 | h2
  · exact hL q h2
  · rw [List.mem_singleton.mp h2]
    show K.2.1 ≤ j_adr K i
    have : ¬ i < 32 := by
      intro hlt
      simp [j_get, hlt] at hx
    simp [j_adr, this]
theorem j_iast {i n j : Nat} {f : Nat → Int32} {x : Int32} {h' : jH} (hd : decode M.2.1 pc = .ok (.iastore, 1)) (hx : j_get h i = some (.inl (0, n, .inl f))) (hj : j < n) (hn : n < 2 ^ 31) (hh : j_set h i (.inl (0, n, .inl (upd f j x))) = h') (kk : jE K M d (pc + 1) ls st h' Q mc ms) : jE K M d pc ls (.int x :: .int (nI j) :: .ref i :: st) h Q mc ms := by
  subst hh
  intro p e R s m as bl me c H lo ce sl la hC hc hs hl hw hL
  have hat : H[j_adr K i]? = some (vp_cell (K.2.2.2.2.1 0) (n, .inl f)) := hw.at hx
  have hin : vp_in (nI j) n := vp_in_nI hj hn
  refine W.iast hC.1 hC.2.1 hat (((hC.2.2.2.2.2.2.2.2.2.2.2.1).2 0 _ rfl).1 n (fun j => .int (f j))) (fun q => by cases q) (by show ¬ (_ ∨ (arrV _ _ _).slots.size ≤ _); rw [arrV_size]; exact hin) rfl rfl hd fun H1 e1 z oq => ?_
  refine kk p e R s m as bl me c H1 _ ce sl la hC hc hs hl (hw.put hx ?_ z oq) (j_loc hx hL)
  show H1[j_adr K i]? = some (vp_cell _ _)
  rw [e1]
  rw [vp_cell_i, vp_cell_i, arrV_store, nI_clamp (Nat.lt_trans hj hn)]
  congr 2
  funext q
  by_cases hq : q = j
  · subst hq
    simp [updV, upd]
  · simp [updV, upd, hq]
theorem j_cast {i n j : Nat} {f : Nat → Int32} {x : Int32} {h' : jH} (hd : decode M.2.1 pc = .ok (.castore, 1)) (hx : j_get h i = some (.inl (1, n, .inl f))) (hj : j < n) (hn : n < 2 ^ 31) (hv : narrow .char (.int x) = .int x) (hh : j_set h i (.inl (1, n, .inl (upd f j x))) = h') (kk : jE K M d (pc + 1) ls st h' Q mc ms) : jE K M d pc ls (.int x :: .int (nI j) :: .ref i :: st) h Q mc ms := by
  subst hh
  intro p e R s m as bl me c H lo ce sl la hC hc hs hl hw hL
  have hat : H[j_adr K i]? = some (vp_cell (K.2.2.2.2.1 1) (n, .inl f)) := hw.at hx
  have hin : vp_in (nI j) n := vp_in_nI hj hn
  refine W.cast hC.1 hC.2.1 hat (((hC.2.2.2.2.2.2.2.2.2.2.2.1).2 1 _ rfl).1 n (fun j => .int (f j))) (fun q => by cases q) (by show ¬ (_ ∨ (arrV _ _ _).slots.size ≤ _); rw [arrV_size]; exact hin) rfl rfl hd fun H1 e1 z oq => ?_
  refine kk p e R s m as bl me c H1 _ ce sl la hC hc hs hl (hw.put hx ?_ z oq) (j_loc hx hL)
  show H1[j_adr K i]? = some (vp_cell _ _)
  rw [e1]
  rw [vp_cell_i, vp_cell_i, arrV_store, nI_clamp (Nat.lt_trans hj hn), hv]
  congr 2
  funext q
  by_cases hq : q = j
  · subst hq
    simp [updV, upd]
  · simp [updV, upd, hq]
theorem j_zast {i n j : Nat} {f : Nat → Int32} {x : Int32} {h' : jH} (hd : decode M.2.1 pc = .ok (.bastore, 1)) (hx : j_get h i = some (.inl (2, n, .inl f))) (hj : j < n) (hn : n < 2 ^ 31) (hv : narrow .boolean (.int x) = .int x) (hh : j_set h i (.inl (2, n, .inl (upd f j x))) = h') (kk : jE K M d (pc + 1) ls st h' Q mc ms) : jE K M d pc ls (.int x :: .int (nI j) :: .ref i :: st) h Q mc ms := by
  subst hh
  intro p e R s m as bl me c H lo ce sl la hC hc hs hl hw hL
  have hat : H[j_adr K i]? = some (vp_cell (K.2.2.2.2.1 2) (n, .inl f)) := hw.at hx
  have hin : vp_in (nI j) n := vp_in_nI hj hn
  refine W.zast hC.1 hC.2.1 hat (((hC.2.2.2.2.2.2.2.2.2.2.2.1).2 2 _ rfl).1 n (fun j => .int (f j))) (fun q => by cases q) (by show ¬ (_ ∨ (arrV _ _ _).slots.size ≤ _); rw [arrV_size]; exact hin) rfl rfl hd fun H1 e1 z oq => ?_
  refine kk p e R s m as bl me c H1 _ ce sl la hC hc hs hl (hw.put hx ?_ z oq) (j_loc hx hL)
  show H1[j_adr K i]? = some (vp_cell _ _)
  rw [e1]
  rw [vp_cell_i, vp_cell_i, arrV_store, nI_clamp (Nat.lt_trans hj hn), hv]
  congr 2
  funext q
  by_cases hq : q = j
  · subst hq
    simp [updV, upd]
  · simp [updV, upd, hq]
theorem j_last {i n j : Nat} {f : Nat → Int64} {x : Int64} {h' : jH} (hd : decode M.2.1 pc = .ok (.lastore, 1)) (hx : j_get h i = some (.inl (3, n, .inr (.inl f)))) (hj : j < n) (hn : n < 2 ^ 31) (hh : j_set h i (.inl (3, n, .inr (.inl (vp_updL f j x)))) = h') (kk : jE K M d (pc + 1) ls st h' Q mc ms) : jE K M d pc ls (.long x :: .int (nI j) :: .ref i :: st) h Q mc ms := by
  subst hh
  intro p e R s m as bl me c H lo ce sl la hC hc hs hl hw hL
  have hat : H[j_adr K i]? = some (vp_cell (K.2.2.2.2.1 3) (n, .inr (.inl f))) := hw.at hx
  have hin : vp_in (nI j) n := vp_in_nI hj hn
  refine W.last hC.1 hC.2.1 hat (((hC.2.2.2.2.2.2.2.2.2.2.2.1).2 3 _ rfl).1 n (fun j => .long (f j))) (fun q => by cases q) (by show ¬ (_ ∨ (arrV _ _ _).slots.size ≤ _); rw [arrV_size]; exact hin) rfl rfl hd fun H1 e1 z oq => ?_
  refine kk p e R s m as bl me c H1 _ ce sl la hC hc hs hl (hw.put hx ?_ z oq) (j_loc hx hL)
  show H1[j_adr K i]? = some (vp_cell _ _)
  rw [e1]
  rw [vp_cell_l, vp_cell_l, arrV_store, nI_clamp (Nat.lt_trans hj hn)]
  congr 2
  funext q
  by_cases hq : q = j
  · subst hq
    simp [updV, vp_updL]
  · simp [updV, vp_updL, hq]
theorem j_alen {i n t : Nat} {a : (Nat → Int32) ⊕ (Nat → Int64) ⊕ (Nat → UInt32) ⊕ (Nat → UInt64) ⊕ (Nat → Option Nat)} {ty : FieldType} (ht : (j_ty K)[t]? = some (K.2.2.2.2.1 t, ty)) (hd : decode M.2.1 pc = .ok (.arraylength, 1)) (hx : j_get h i = some (.inl (t, n, a))) (kk : jE K M d (pc + 1) ls (.int (nI n) :: st) h Q mc ms) : jE K M d pc ls (.ref i :: st) h Q mc ms := by
  intro p e R s m as bl me c H lo ce sl la hC hc hs hl hw hL
  have hP : va_P K.2.2.2.1 classes [(j_adr K i, .inl (K.2.2.2.2.1 t, n, a))] H := j_P1 (hw.at hx)
  exact va_alen hC.1 hC.2.1 hC.2.2.2.2.2.2.2.2.2.2.2.1 hP 0 t rfl ht rfl hd (kk p e R s m as bl me c H lo ce sl la hC hc hs hl hw hL)
/-- what the tables say of a class that an instruction makes -/
def jN (own : String) (idx ci N : Nat) (fs : List Value) : Prop := ∃ (C : String) (T : u_T) (ty0 : Nat → FieldType), classes[ci]? = some (C, T, N) ∧ (∀ w ∈ u_ws C T N, w ∈ jt) ∧ (∀ k, k < N → parseFieldDescriptor (T k).2.2.1 = some (ty0 k)) ∧
  Cond.classLink own idx C ∈ jt ∧ Cond.instantiable C N ∈ jt ∧ Cond.initialized C ∈ jt ∧ ∀ j, j < N → defaultValue (ty0 j) = vp_V fs j
theorem j_adr_new (K : jK) (n : Nat) : j_adr K (32 + n) = K.2.1 + n := by
  have : ¬ 32 + n < 32 := by omega
  simp [j_adr, this]
theorem j_new {idx ci N : Nat} {fs : List Value} (hd : decode M.2.1 pc = .ok (.new idx, 3)) (hn : jN M.1.cls idx ci N fs) (hfs : fs.map (j_v K) = fs) (kk : jE K M d (pc + 3) ls (.ref (32 + h.length) :: st) (h ++ [.inr (ci, fs)]) Q mc ms) : jE K M d pc ls st h Q (mc + 1) (ms + N) := by
  intro p e R s m as bl me c H lo ce sl la hC hc hs hl hw hL
  obtain ⟨C, T, ty0, hcl, hin, hty, h1, h2, h3, hdef⟩ := hn
  have hK := hC.2.2.2.2.2.2.2.2.2.2.2.1
  have hts := hC.2.2.2.2.1
  have hKn := hK.1 ci _ hcl
  refine W.newcK hC.1 hC.2.1 hC.2.2.2.1 (hts _ h1) (hts _ h2) (hts _ h3) rfl hd (by omega) (by omega) hKn.2.1 rfl fun H1 kC hkC e1 z1 o1 => ?_
  have hat : va_at K.2.2.2.1 classes (K.2.1 + h.length, j_e K (.inr (ci, fs))) H1 := by
    rw [← hw.2.1]
    refine ⟨_, hcl, ?_⟩
    show t_OB _ _ _ _ _ (vp_V (fs.map (j_v K)))
    rw [hfs]
    exact (u_born ty0 hts hin hKn hkC e1 hty).to hdef
  have hE := kk p e R s m as bl me c H1 lo (ce + 1) (sl + N) la hC (by omega) (by omega) hl (hw.push hat z1 o1) hL
  rw [show ce + 1 + mc = ce + (mc + 1) by omega, show sl + N + ms = sl + (ms + N) by omega] at hE
  have e9 : (.ref (32 + h.length) :: st : List Value).map (j_v K) = .ref H.size :: st.map (j_v K) := by
    show (.ref (j_adr K (32 + h.length)) :: st.map (j_v K) : List Value) = _
    rw [j_adr_new, hw.2.1]
  rw [e9] at hE
  exact hE
theorem j_newa {atype : ArrayType} {t N : Nat} {ty : FieldType} {x : Int32} {a : (Nat → Int32) ⊕ (Nat → Int64) ⊕ (Nat → UInt32) ⊕ (Nat → UInt64) ⊕ (Nat → Option Nat)} (hd : decode M.2.1 pc = .ok (.newarray atype, 2)) (hty : newarray.typeOf atype = ty) (ht : (j_ty K)[t]? = some (K.2.2.2.2.1 t, ty)) (hra : ∀ (U : State) (cA : ClassId), va_RA U cA ty → U.vm.findClass ("[" ++ ty.toString) = some cA) (hw0 : Cond.arrayClass ty ∈ jt)
    (ha : ∀ cA : ClassId, vp_cell cA (N, a) = arrV cA N (fun _ => defaultValue ty)) (hx : ¬ x < 0) (hN : x.toNatClampNeg = N) (hb : N * componentBytes ty ≤ 536870912) (kk : jE K M d (pc + 2) ls (.ref (32 + h.length) :: st) (h ++ [.inl (t, N, a)]) Q mc ms) : jE K M d pc ls (.int x :: st) h Q (mc + 1) (ms + N) := by
  subst hty
  intro p e R s m as bl me c H lo ce sl la hC hc hs hl hw hL
  have hK := hC.2.2.2.2.2.2.2.2.2.2.2.1
  have hts := hC.2.2.2.2.1
  refine va_newaK hC.1 hC.2.1 (hts _ hw0) rfl hd rfl hx hN hb (by omega) (by omega) rfl fun H1 cA e1 z1 o1 hAr hNm => ?_
  have hcA : K.2.2.2.2.1 t = cA := Option.some.inj ((hra _ _ (hK.2 t _ ht).2).symm.trans hNm)
  have hat : va_at K.2.2.2.1 classes (K.2.1 + h.length, j_e K (.inl (t, N, a))) H1 := by
    rw [← hw.2.1]
    show H1[H.size]? = some (vp_cell (K.2.2.2.2.1 t) (N, a))
    rw [ha, hcA]
    exact e1
  have hE := kk p e R s m as bl me c H1 lo (ce + 1) (sl + N) la hC (by omega) (by omega) hl (hw.push hat z1 o1) hL
  rw [show ce + 1 + mc = ce + (mc + 1) by omega, show sl + N + ms = sl + (ms + N) by omega] at hE
  have e9 : (.ref (32 + h.length) :: st : List Value).map (j_v K) = .ref H.size :: st.map (j_v K) := by
    show (.ref (j_adr K (32 + h.length)) :: st.map (j_v K) : List Value) = _
    rw [j_adr_new, hw.2.1]
  rw [e9] at hE
  exact hE
end JHEAP
