/-! METHODS: a contract, how it is proved (jM.of), how it is used (j_pay, and the rows of the calls) -/
def j_code (M : jR) : Cond := match M.2.2.2.2 with
  | [] => .code M.1 M.2.1 M.2.2.1 M.2.2.2.1
  | q :: hs => .codeWith M.1 M.2.1 M.2.2.1 M.2.2.2.1 (q :: hs)
theorem j_code_spec {M : jR} {args : Array Value} {s : State} {m : MethodId} (hn : s.methodNamed? M.1 = some m) (h : (j_code M).before args s = true) :
    ∃ meth c, s.vm.method? m = some meth ∧ meth.code = some c ∧ c.code = M.2.1 ∧ c.maxLocals = M.2.2.1 ∧ meth.sig.returnType = M.2.2.2.1 ∧ meth.locks = false ∧ c.exceptionTable.toList = tableOf M.2.2.2.2 ∧ parseMethodDescriptor M.1.desc = some meth.sig := by
  obtain ⟨y, b, n, r, hs⟩ := M
  cases hs with
  | nil =>
    obtain ⟨meth, c, h1, h2, h3, h4, h5, h6, h7, h8⟩ := Cond.code_spec hn h
    refine ⟨meth, c, h1, h2, h3, h4, h5, h6, ?_, h8⟩
    have h0 : c.exceptionTable.size = 0 := by simpa [Array.isEmpty] using h7
    exact List.eq_nil_of_length_eq_zero (by simpa using h0)
  | cons q hs =>
    obtain ⟨m9, meth, c, hn9, h1, h2, h3, h4, h7, h5, h6, h8⟩ := Cond.codeWith_spec h
    cases hn.symm.trans hn9
    exact ⟨meth, c, h1, h2, h3, h4, h5, h6, by rw [← h7, table_eq], h8⟩
def jM (K : jK) (M : jR) (d : Nat) (av : List Value) (h : jH) (Q : jO → jH → Prop) (mc ms : Nat) : Prop :=
  MetFree K.1 M.1 (headSpec [j_code M] { frames := d, cells := mc + 1, slots := ms + 6, locals := 64 * d })
    (fun a U => a = (av.map (j_v K)).toArray ∧ jW K h U.heap ∧ jU K U) (fun _ _ _ _ _ => True)
    (fun _ st o t => ∃ (mo : jO) (h' : jH) (L : List Loc), j_oc K h' mo o ∧ Q mo h' ∧ jW K h' t.heap ∧ st.WarmedH t.vm ∧ st.sameButNew ({ t with vm := st.vm } : State) L (mc + j_xc mo) (ms + 6 * j_xc mo) ∧ ∀ q ∈ L, K.2.1 ≤ q.base)
theorem j_args (K : jK) : ∀ (av : List Value) (i : Nat), lv_args i (av.map (j_v K)) = (lv_args i av).map (j_l K)
  | [], _ => rfl
  | v :: av, i => by
    show (i, j_v K v) :: lv_args _ _ = (i, j_v K v) :: _
    rw [j_args K av, j_cat]
theorem j_slots (K : jK) (av : List Value) : (lg_sl (av.map (j_v K))).length = (lg_sl av).length := by
  induction av with
  | nil => rfl
  | cons v av ih =>
    simp only [lg_sl, List.map_cons, List.flatMap_cons, List.length_append] at ih ⊢
    rw [ih, j_cat]
    split <;> rfl
section JMETH
variable {K : jK} {M : jR} {d : Nat} {av : List Value} {h : jH} {Q : jO → jH → Prop} {mc ms : Nat}
theorem jM.of (hp : plainFor M.1 = true) (hlen : (lg_sl av).length ≤ M.2.2.1) (k : jE K M d 0 (lv_args 0 av) [] h Q mc ms) : jM K M d av h Q mc ms := by
  refine MetFree.of_bodySF (code := M.2.1) (maxLocals := M.2.2.1) (ret := M.2.2.2.1) hp ?_ ?_
  · intro args s m hpre hn
    obtain ⟨meth, c, h1, h2, h3, h4, h5, h6, -, -⟩ := j_code_spec hn (atoms_spec (ws := [j_code M]) hpre _ List.mem_cons_self)
    exact ⟨meth, c, h1, h2, h3, h4, h5, h6⟩
  · intro p e s m args below meth c s₁ B hml hP _
    obtain ⟨rfl, hw, hU⟩ := hP
    have X := Stand.of_body B
    obtain ⟨meth', c', h1, h2, -, -, -, -, h7, -⟩ := j_code_spec B.named (atoms_spec (ws := [j_code M]) B.pre _ List.mem_cons_self)
    cases B.method.symm.trans h1
    cases X.code.symm.trans h2
    have hh0 : s₁.heap = s.heap := by rw [B.state]; rfl
    have hl := lv_entry (av.map (j_v K)) (n := M.2.2.1) (by rw [j_slots]; exact hlen)
    rw [j_args] at hl
    have hE := k p e _ s m _ below meth c s.heap [] 0 0 _ ⟨B.exec, B.bytes, hml, findClass_of_methodNamed B.named, fun w hw' => j_okT (j_jt hw') rfl (hU.1 w hw'), B.returns, B.notSynchronized, (name_of_methodNamed B.named B.method).1, h7, Nat.le_refl _, Nat.le_refl _, hU.2.1, hU.2.2⟩ (by simp [headSpec]) (by simp [headSpec]) hl hw (fun q hq => by cases hq) s₁ hh0 X
    rw [lg_entry_eq]
    obtain ⟨t, a1, o, mo, h', L, b1, b2, b3, b4, b5, b6, b7, b8⟩ := hE
    refine ⟨t, o, a1, b1, b2, mo, h', L, b3, b4, b5, b6, ?_, b8⟩
    simpa using b7
theorem jM.mono {Q' : jO → jH → Prop} (hQ : ∀ o g, Q o g → Q' o g) (k : jM K M d av h Q mc ms) : jM K M d av h Q' mc ms := by
  intro p e ha hc hk s m args below hf happ hP hK
  obtain ⟨n, o, h1, h2, h3, mo, h', L, b1, b2, b3⟩ := k p e ha hc hk s m args below hf happ hP hK
  exact ⟨n, o, h1, h2, h3, mo, h', L, b1, hQ _ _ b2, b3⟩
variable {p : Program} {e : Env} {R : Room} {s : State} {m : MethodId} {args : Array Value} {below : List Frame} {meth : Method} {c : Code} {U : State} {Ls : List Loc} {c0 s0 : Nat}
/-- a call by contract, from the frame that has popped the arguments: it comes back behind the call, or the note 'is thrown' lies over the frame -/
theorem j_pay (X : Stand p K.1 e R s m args below meth c U Ls c0 s0) (hM : jM K M d av h Q mc ms) (hfr : d + 1 ≤ R.frames) (hlo : 8 + (M.2.2.1 + 11) + 64 * d ≤ R.locals) (hce : c0 + mc + 1 ≤ R.cells) (hsl : s0 + ms + 6 ≤ R.slots)
    {g : JFrame} (hg : g.method = m) (hsize : g.locals.size = c.maxLocals) {ig : Instr} {len : Nat} (hdg : decode c.code g.pc = .ok (ig, len)) (hW : 2 * g.monitorRoom + (g.stack.map fun v => v.category).sum ≤ 8)
    {mk : MethodId} (hn : U.methodNamed? M.1 = some mk) (hcode : (j_code M).before (av.map (j_v K)).toArray U = true) (hinit : (Cond.initialized M.1.cls).before (av.map (j_v K)).toArray U = true) (hw : jW K h U.heap) (hU : jU K U) :
    ∃ (mo : jO) (h' : jH) (L : List Loc) (B : State), Stand p K.1 e R s m args below meth c B (Ls ++ L) (c0 + (mc + j_xc mo)) (s0 + (ms + 6 * j_xc mo)) ∧ Q mo h' ∧ jW K h' B.heap ∧ (∀ q ∈ L, K.2.1 ≤ q.base) ∧
      ((∃ v, mo = .inl v ∧ Steps p.tables e below (doInvoke e (U.setTop g) [] mk (av.map (j_v K)).toArray).1 (B.setTop { g with pc := g.pc + len, stack := (v.map (j_v K)).toList ++ g.stack })) ∨
       (∃ k n, mo = .inr k ∧ h'.length = n + 1 ∧ h'[n]? = some (.inr (k, [])) ∧ Steps p.tables e below (doInvoke e (U.setTop g) [] mk (av.map (j_v K)).toArray).1 ((B.setTop g).pushFrame (.throwing (K.2.1 + n))))) := by
  obtain ⟨methY, cY, hmY, hcY, -, hlY, -, -, -, -⟩ := j_code_spec hn hcode
  obtain ⟨kY, hkY, -⟩ := className_of_methodNamed hn
  have hinitY : kY.init = .initialized := Cond.initialized_spec (findClass_of_methodNamed hn) hkY hinit
  have hat : At U g.method c below := by rw [hg]; exact X.here
  have happ : (headSpec [j_code M] { frames := d, cells := mc + 1, slots := ms + 6, locals := 64 * d }).appliesLoose M.1 e.platform (U.calling g mk (av.map (j_v K)).toArray) = true :=
    Spec.appliesLoose_calling (g := g) hat hdg hn hkY hinitY
      (X.room_calling (g := g) (R' := { frames := d, cells := mc + 1, slots := ms + 6, locals := 64 * d }) hsize hmY hcY hfr (by rw [hlY]; show _ + _ + 64 * d ≤ _; omega) (by show c0 + (mc + 1) ≤ _; omega) (by show s0 + (ms + 6) ≤ _; omega)) (atoms_intro fun w hw => by rw [List.mem_singleton.mp hw]; exact hcode)
  obtain ⟨mid, hmid⟩ := hat.above
  have hfr2 : (U.setTop g).frames = (.java g :: mid) ++ below := by rw [State.frames_setTop' g hat.top, hmid]; rfl
  have hheap : (U.calling g mk (av.map (j_v K)).toArray).heap = U.heap := by simp [State.calling, State.pushFrame, State.setFrames, State.setTop, State.modifyTopJava]
  have hvm : (U.calling g mk (av.map (j_v K)).toArray).vm = U.vm := by simp [State.calling, State.pushFrame, State.setFrames, State.setTop, State.modifyTopJava]
  have hPre : (av.map (j_v K)).toArray = (av.map (j_v K)).toArray ∧ jW K h (U.calling g mk (av.map (j_v K)).toArray).heap ∧ jU K (U.calling g mk (av.map (j_v K)).toArray) :=
    ⟨rfl, by rw [hheap]; exact hw, hU.warm (by rw [hvm]; exact State.WarmedH.refl U)⟩
  obtain ⟨o, s₂, hsteps, -, hend, mo, h', L, q1, q2, q3, q4, q5, q6⟩ := Steps.callFree hM p X.admits X.cas X.clock (acts := []) hfr2 happ hPre trivial
  have q5' : (U.calling g mk (av.map (j_v K)).toArray).sameButNew ({ s₂ with vm := (U.calling g mk (av.map (j_v K)).toArray).vm } : State) L (mc + j_xc mo) (ms + 6 * j_xc mo) := q5
  have hW₂ : (U.calling g mk (av.map (j_v K)).toArray).WarmedH s₂.vm := q4
  rw [State.frames_setTop' g hat.top] at hend
  obtain ⟨e2, r2, r3, r4, r5, r6⟩ := id q5'
  have e3 : s₂ = ({ (U.calling g mk (av.map (j_v K)).toArray).setFrames s₂.frames with heap := s₂.heap, slotsUsed := s₂.slotsUsed } : State).setVm s₂.vm := by
    have : s₂ = ({ s₂ with vm := (U.calling g mk (av.map (j_v K)).toArray).vm } : State).setVm s₂.vm := rfl
    rw [e2] at this
    exact this
  have hW' : U.WarmedH s₂.vm := hW₂
  obtain ⟨g₀, hg0⟩ := Option.isSome_iff_exists.mp hat.top
  obtain ⟨r, hr⟩ := State.topJava?_eq_some.mp hg0
  have hr' : (({ U with heap := s₂.heap, slotsUsed := s₂.slotsUsed } : State).setVm s₂.vm).frames = .java g₀ :: r := hr
  have hsame : U.sameButNew ({ U with heap := s₂.heap, slotsUsed := s₂.slotsUsed } : State) L (mc + j_xc mo) (ms + 6 * j_xc mo) := by
    refine ⟨?_, r2, r3, r4, r5, r6⟩
    obtain ⟨t, ht, -⟩ := State.frames_cons hr
    show ({ U with heap := s₂.heap, slotsUsed := s₂.slotsUsed } : State) = { U.setFrames U.frames with heap := s₂.heap, slotsUsed := s₂.slotsUsed }
    rw [State.setFrames_self ht]
  have hst : Stand p K.1 e R s m args below meth c (({ U with heap := s₂.heap, slotsUsed := s₂.slotsUsed } : State).setVm s₂.vm) (Ls ++ L) (c0 + (mc + j_xc mo)) (s0 + (ms + 6 * j_xc mo)) :=
    ⟨X.admits, X.cas, X.clock, X.frames, X.room, X.hears, X.method, X.code, (X.here.setHeapUsed s₂.heap s₂.slotsUsed).setVm hW'.alike, X.tail, State.WarmedH.trans X.warmed hW', X.limits, X.bytes, X.same.trans (hsame.setVm s.vm)⟩
  refine ⟨mo, h', L, _, hst, q2, q3, q6, ?_⟩
  cases mo with
  | inl v =>
    have q1' : o = .returned (v.map (j_v K)) := q1
    subst q1'
    refine Or.inl ⟨v, rfl, ?_⟩
    obtain ⟨c₂, i₂, len₂, hc₂, hd₂, hf₂⟩ := hend
    have hcc : c₂ = c := by
      have h1 : s₂.code? g.method = U.code? g.method := by
        rw [State.code?_eq, State.code?_eq, hW'.alike.method?]
      exact Option.some.inj (hc₂.symm.trans (h1.trans hat.code))
    subst hcc
    have hlen : len₂ = len := by rw [hdg] at hd₂; cases hd₂; rfl
    subst hlen
    have hs₂ : s₂ = (({ U with heap := s₂.heap, slotsUsed := s₂.slotsUsed } : State).setVm s₂.vm).setTop { g with pc := g.pc + len₂, stack := (v.map (j_v K)).toList ++ g.stack } := by
      refine e3.trans ?_
      rw [hf₂, State.calling_eq hat.top, State.setFrames_setFrames, State.setTop_of_frames _ hr', hr]
      rfl
    rw [← hs₂]
    exact hsteps
  | inr k =>
    obtain ⟨n, n1, n2, rfl⟩ := q1
    refine Or.inr ⟨k, n, rfl, n1, n2, ?_⟩
    have hf₂ : s₂.frames = .throwing (K.2.1 + n) :: .java g :: U.frames.tail := hend
    have hs₂ : s₂ = ((({ U with heap := s₂.heap, slotsUsed := s₂.slotsUsed } : State).setVm s₂.vm).setTop g).pushFrame (.throwing (K.2.1 + n)) := by
      refine e3.trans ?_
      rw [hf₂, State.calling_eq hat.top, State.setFrames_setFrames, State.pushFrame, State.frames_setTop _ hr', State.setTop_of_frames _ hr', State.setFrames_setFrames, hr]
      rfl
    rw [← hs₂]
    exact hsteps
end JMETH
