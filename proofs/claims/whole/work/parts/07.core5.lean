/-! THROWS: 'throw new X()' as one row; what is caught where -/
section JTHROW
variable {p : Program} {l : Launch} {e : Env} {R : Room} {s : State} {m : MethodId} {args : Array Value} {below : List Frame} {meth : Method} {c : Code} {T : State} {locs : List Loc} {cells slots : Nat}
theorem j_sbn {T U : State} {L : List Loc} {k n : Nat} {fs : List Frame} (h : (T.setFrames fs).sameButNew U L k n) : T.sameButNew U L k n := by
  obtain ⟨h1, h2, h3, h4, h5, h6⟩ := h
  refine ⟨?_, h2, h3, h4, h5, h6⟩
  rw [State.setFrames_setFrames] at h1
  exact h1
/-- the walk from here on, as if the invocation began here -/
theorem j_rebase (X : Stand p l e R s m args below meth c T locs cells slots) (hc : cells ≤ R.cells) (hs : slots ≤ R.slots) :
    Stand p l e { frames := R.frames, cells := R.cells - cells, slots := R.slots - slots, locals := R.locals } (T.setFrames (.invoking m args :: below)) m args below meth c T [] 0 0 := by
  obtain ⟨g₀, hfr⟩ := X.frames_eq
  have hcur : T.cur < T.threads.size := State.cur_lt_of_frames hfr
  have hF : (T.setFrames (.invoking m args :: below)).frames = .invoking m args :: below := State.frames_setFrames _ hcur
  obtain ⟨x, hx, -⟩ := State.frames_cons hfr
  refine ⟨X.admits, X.cas, X.clock, hF, ?_, ?_, X.method', X.code, X.here, X.tail, State.WarmedH.refl _, by rw [State.stackLimits_setFrames], by rw [State.stackBytes_setFrames], ?_⟩
  · have hroom := X.room
    simp only [State.hasRoom, Bool.and_eq_true, decide_eq_true_eq] at hroom ⊢
    obtain ⟨⟨⟨⟨r1, r2, r3, r4, r5, r6⟩, r7⟩, r8⟩, r9⟩ := hroom
    have hloc : (T.setFrames (.invoking m args :: below)).localsInUse = s.localsInUse := by
      rw [State.localsInUse_invoking hF (meth := meth) (c := c) X.method' X.code, State.localsInUse_invoking X.frames X.method X.code]
    rw [hloc, hF, State.stackLimits_setFrames, X.limits, State.stackBytes_setFrames, X.bytes]
    rw [X.frames] at r2 r3
    have hu := X.used
    have hz := X.heapSize
    refine ⟨⟨⟨⟨r1, r2, r3, r4, r5, r6⟩, ?_⟩, ?_⟩, ?_⟩
    · show T.heap.size + (R.cells - cells) ≤ _
      omega
    · show T.slotsUsed + (R.slots - slots) ≤ _
      omega
    · exact X.book
  · have hh := X.hears
    have ha := X.warmed.alike
    rcases below with _ | ⟨y, r⟩
    · simpa [State.hears, ha.method?, State.setFrames] using hh
    · cases y <;> first | exact hh | (simp only [State.hears, State.code?_eq] at hh ⊢; simpa [State.setFrames, ha.method?] using hh)
  · have h1 : (T.setFrames (.invoking m args :: below)).frames = .invoking m args :: below := hF
    obtain ⟨y, hy, -⟩ := State.frames_cons hF
    have h2 := (State.sameButNew.refl (T.setFrames (.invoking m args :: below)) hy).setFrames T.frames (State.cur_lt_of_frames hF)
    rw [State.setFrames_setFrames, State.setFrames_self hx] at h2
    exact h2
end JTHROW
theorem jLS.words {K : jK} {C n d : String} {U : State} (h : jLS K C n d U) (hK : K.2.1 = K.2.2.1.size) (hH : ∀ q : Nat, q < K.2.1 → U.heap[q]? = K.2.2.1[q]?) (A : Array Value) :
    (Cond.laysStatic C n d).before A U = true ∧ (Cond.isRef (.static C n d)).before A U = true := by
  obtain ⟨c, k, i, f, a, cell, h1, h2, h3, h4, h5, h6, h7, h8, h9, h10⟩ := h
  have ha : U.heap[a]? = some cell := by
    rw [hH a (by rw [hK]; exact (Array.getElem?_eq_some_iff.mp h5).1)]
    exact h5
  have hv : ∃ v, cell.slots[f.slot]? = some v ∧ (v = .null ∨ ∃ t, v = .ref t) := by
    rcases h10 with h | ⟨t, h⟩
    · exact ⟨_, h, Or.inl rfl⟩
    · exact ⟨_, h, Or.inr ⟨t, rfl⟩⟩
  obtain ⟨v, hv1, hv2⟩ := hv
  constructor
  · simp [Cond.before, Cond.holds, Cond.value, h1, h2, h3, h4, ha, h6, h7, h8, h9]
  · have he : (Term.static C n d).eval A U none [] U = some v := by
      simp [Term.eval, State.fieldNamed?, h2, h3, h4, ha, h6, hv1]
    rcases hv2 with rfl | ⟨t, rfl⟩ <;> simp [Cond.before, Cond.holds, Cond.value, he]
def j_four : List Cond := [.laysStatic "java/lang/Throwable" "UNASSIGNED_STACK" "[Ljava/lang/StackTraceElement;", .laysStatic "java/lang/Throwable" "SUPPRESSED_SENTINEL" "Ljava/util/List;", .isRef (.static "java/lang/Throwable" "UNASSIGNED_STACK" "[Ljava/lang/StackTraceElement;"), .isRef (.static "java/lang/Throwable" "SUPPRESSED_SENTINEL" "Ljava/util/List;")]
def j_sup : List String := ["java/lang/RuntimeException", "java/lang/Exception"]
/-- what the tables say of 'throw new X()' in the class own: ia the entry of X, ic that of its constructor, k its number -/
def jXT (own : String) (ia ic k : Nat) (X : String) : Prop := (∃ T : u_T, classes[k]? = some (X, T, 0)) ∧ Bundle.fit X = true ∧ Cond.classLink own ia X ∈ jt ∧ Cond.instantiable X 6 ∈ jt ∧ Cond.initialized X ∈ jt ∧ ∀ w ∈ Bundle.ownAtoms0 own ic X j_sup, w ∈ jt ∨ w ∈ j_four
section JTHROW2
variable {K : jK} {M : jR} {d pc : Nat} {ls : List (Nat × Value)} {st : List Value} {h : jH} {Q : jO → jH → Prop} {mc ms : Nat}
theorem j_throw {ia ic k : Nat} {X : String} (hd0 : decode M.2.1 pc = .ok (.new ia, 3)) (hd3 : decode M.2.1 (pc + 3) = .ok (.dup, 1)) (hd4 : decode M.2.1 (pc + 3 + 1) = .ok (.invokespecial ic, 3)) (hd7 : decode M.2.1 (pc + 3 + 1 + 3) = .ok (.athrow, 1)) (hf : jXT M.1.cls ia ic k X) (hh : M.2.2.2.2 = []) (hdd : 6 ≤ d) (hst : (st.map fun v => v.category).sum ≤ 8)
    (hq : Q (.inr k) (h ++ [.inr (k, [])])) : jE K M d pc ls st h Q mc ms := by
  intro p e R s m args below meth c H locs cells slots la hC hc hs hl hw hLo T hT X0
  subst hT
  obtain ⟨⟨TX, hcl⟩, hfit, hclk, hins, hini, hat⟩ := hf
  have hts := hC.2.2.2.2.1
  have hU : jU K s := ⟨fun w hw' => j_okT (j_jt hw') rfl (hts w hw'), hC.2.2.2.2.2.2.2.2.2.2.2.1, hC.2.2.2.2.2.2.2.2.2.2.2.2⟩
  have X' := j_rebase X0 (by omega) (by omega)
  obtain ⟨s', hs'⟩ : ∃ s', s' = T.setFrames (.invoking m args :: below) := ⟨_, rfl⟩
  have hvm' : s'.vm = T.vm := by rw [hs']; rfl
  have hhp' : s'.heap = T.heap := by rw [hs']; rfl
  rw [← hs'] at X'
  have hW' : s.WarmedH s'.vm := by rw [hvm']; exact X0.warmed
  have hU' : jU K s' := hU.warm hW'
  have hts' : ∀ w ∈ jt, w.before args s' = true := fun w hw' => j_okW (j_jt hw') hW' (hts w hw')
  have hown' : s'.vm.findClass M.1.cls = some m.cls := by rw [hW'.alike.findClass]; exact hC.2.2.2.1
  have htr : e.platform.stackTraces = false := Launch.traces_off hU.2.2.1 X0.admits
  have hKn := hU'.2.1.1 k _ hcl
  have hatoms : ∀ a ∈ Bundle.ownAtoms0 M.1.cls ic X j_sup, a.before args s' = true := by
    intro w hw'
    rcases hat w hw' with h1 | h1
    · exact hts' w h1
    · have hHq : ∀ q : Nat, q < K.2.1 → s'.heap[q]? = K.2.2.1[q]? := by rw [hhp']; exact hw.2.2
      have z1 := (hU'.2.2.2.2.2.1).words hU'.2.2.2.1 hHq args
      have z2 := (hU'.2.2.2.2.2.2.1).words hU'.2.2.2.1 hHq args
      simp only [j_four, List.mem_cons, List.not_mem_nil, or_false] at h1
      rcases h1 with rfl | rfl | rfl | rfl
      · exact z1.1
      · exact z2.1
      · exact z1.2
      · exact z2.2
  have hlocks := hC.2.2.2.2.2.2.1
  have hfr := hC.2.2.2.2.2.2.2.2.2.1
  have hlo := hC.2.2.2.2.2.2.2.2.2.2.1
  have hsize : la.size = c.maxLocals := hl.1.trans hC.2.2.1.symm
  have hmr : (F0 m pc la (st.map (j_v K))).monitorRoom = 0 := by first | rfl | simp [JFrame.monitorRoom, F0]
  have hsum : ((st.map (j_v K)).map fun v => v.category).sum ≤ 8 := by
    have := j_roomS (m := m) (la := la) (pc := pc) (K := K) hst
    rw [hmr] at this
    simpa using this
  have hWW : W p K.1 e { frames := R.frames, cells := R.cells - cells, slots := R.slots - slots, locals := R.locals } s' m args below meth c T.heap [] 0 0
      (fun U => U.status = .running ∧ Ended U below (.threw T.heap.size) ∧ s'.WarmedH U.vm ∧ s'.sameButNew ({ U with vm := s'.vm } : State) [] 1 6 ∧ ∃ ce : Cell, U.heap[T.heap.size]? = some ce ∧ s'.vm.findClass X = some ce.cls ∧ ce.vm = .none) (F0 m pc la (st.map (j_v K))) := by
    refine W.newcK hC.1 hC.2.1 hown' (hts' _ hclk) (hts' _ hins) (hts' _ hini) rfl hd0 (by show 0 + 1 ≤ R.cells - cells; omega) (by show 0 + 6 ≤ R.slots - slots; omega) hKn.2.1 rfl fun H1 kC hkC e1 z1 o1 => ?_
    refine lv_dup hC.1 hC.2.1 hd3 rfl ?_
    intro T2 hT2 X2
    obtain ⟨U, u1, u2, u3, u4, u5, ce, u6, u7⟩ := X2.ctorThrow0 hC.1 htr hown' hfit (by decide) hatoms (fun x hx => by cases hx) hKn.2.1 hkC (a := T.heap.size) (by rw [hT2]; exact e1) (by rw [hhp']; exact Nat.le_refl _) (g := F0 m (pc + 3 + 1) la (.ref T.heap.size :: .ref T.heap.size :: st.map (j_v K))) rfl hsize rfl rfl (rest := st.map (j_v K)) rfl
      (by rw [hC.2.1]; exact hd4) (by rw [hC.2.1]; exact hd7) (by rw [hC.2.2.2.2.2.2.2.2.1, hh]; intro x hx; cases hx) (by show 2 + 3 < R.frames; omega) (by
        have : (F0 m (pc + 3 + 1) la (.ref T.heap.size :: .ref T.heap.size :: st.map (j_v K))).monitorRoom = 0 := by first | rfl | simp [JFrame.monitorRoom, F0]
        rw [this]
        simp only [List.map_cons, List.sum_cons, Value.category]
        show 2 * 0 + (1 + ((st.map (j_v K)).map fun v => v.category).sum) + (13 * (2 + 1) + 41) ≤ R.locals
        omega) hlocks
    exact ⟨U, u1, u2, u3, u4, u5, ce, u6, u7.cls, u7.vm⟩
  obtain ⟨U, u1, u2, u3, u4, u5, ce, u6, u7, u8⟩ := hWW T rfl X'
  have hz := u5.2.1
  have hz2 := u5.2.2.1
  have hlt : T.heap.size < U.heap.size := (Array.getElem?_eq_some_iff.mp u6).1
  have hsz : U.heap.size = T.heap.size + 1 := by
    have h3 : U.heap.size ≤ s'.heap.size + 1 := hz2
    rw [hhp'] at h3
    omega
  have hold : ∀ q : Nat, q < T.heap.size → U.heap[q]? = T.heap[q]? := by
    intro q hq
    have hc0 : s'.heap[q]? = some T.heap[q] := by rw [hhp']; exact Array.getElem?_eq_getElem hq
    have h4 := u5.old_cell hc0
    rw [show T.heap[q]? = some T.heap[q] from Array.getElem?_eq_getElem hq]
    exact h4
  have hwU : jW K (h ++ [.inr (k, [])]) U.heap := by
    refine hw.push ?_ hsz hold
    rw [← hw.2.1]
    refine ⟨_, hcl, ce, u6, ?_, u8, fun j hj => absurd hj (Nat.not_lt_zero j)⟩
    exact Option.some.inj (u7.symm.trans hKn.2.1)
  have hTW : T.WarmedH U.vm := by rw [hs'] at u4; exact u4
  have hsame : T.sameButNew ({ U with vm := T.vm } : State) [] 1 6 := by
    rw [hs'] at u5
    exact j_sbn u5
  have hfin := X0.same.trans (hsame.setVm s.vm)
  rw [List.append_nil] at hfin
  exact ⟨U, u1, .threw T.heap.size, .inr k, _, locs, u2, u3, ⟨h.length, by simp, by simp, by rw [hw.2.1]⟩, hq, hwU, State.WarmedH.trans X0.warmed hTW, hfin.mono (by simp only [j_xc]; omega) (by simp only [j_xc]; omega), hLo⟩
end JTHROW2
