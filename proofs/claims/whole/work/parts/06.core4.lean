/-! CALLS -/
/-- what the tables say of a method that is called on an object of the class number ci -/
def jMV (M' : jR) (ci n : Nat) : Prop := Cond.instanceMethod M'.1 ∈ jt ∧ Cond.selects M'.1.cls M'.1 M'.1 ∈ jt ∧ j_code M' ∈ jt ∧ Cond.initialized M'.1.cls ∈ jt ∧ (M'.1.cls ≠ "java/lang/invoke/MethodHandle" ∧ M'.1.cls ≠ "java/lang/invoke/VarHandle") ∧ (parseMethodDescriptor M'.1.desc).map (fun d => d.parameters.length) = some n ∧ ∃ (T : u_T) (N : Nat), classes[ci]? = some (M'.1.cls, T, N)
def jMS (M' : jR) (n : Nat) : Prop := Cond.static M'.1 ∈ jt ∧ j_code M' ∈ jt ∧ Cond.initialized M'.1.cls ∈ jt ∧ (M'.1.cls ≠ "java/lang/invoke/MethodHandle" ∧ M'.1.cls ≠ "java/lang/invoke/VarHandle") ∧ (parseMethodDescriptor M'.1.desc).map (fun d => d.parameters.length) = some n
def jMI (M' : jR) (n : Nat) : Prop := Cond.instanceMethod M'.1 ∈ jt ∧ Cond.code M'.1 M'.2.1 M'.2.2.1 none ∈ jt ∧ M'.2.2.2.1 = none ∧ M'.2.2.2.2 = [] ∧ M'.1.name = "<init>" ∧ Cond.initialized M'.1.cls ∈ jt ∧ (M'.1.cls ≠ "java/lang/invoke/MethodHandle" ∧ M'.1.cls ≠ "java/lang/invoke/VarHandle") ∧ (parseMethodDescriptor M'.1.desc).map (fun d => d.parameters.length) = some n
/-- a call from the frame at pc, whose stack is st when the arguments are popped -/
def jCall (K : jK) (M : jR) (d pc : Nat) (ls : List (Nat × Value)) (st0 st : List Value) (h : jH) (Q' : jO → jH → Prop) (mc ms : Nat) : Prop :=
  ∀ (p : Program) (e : Env) (R : Room) (s : State) (m : MethodId) (args : Array Value) (below : List Frame) (meth : Method) (c : Code) (H : Heap) (locs : List Loc) (cells slots : Nat) (la : Array Slot),
    jC K M d p R s m args meth c → cells + mc + 1 ≤ R.cells → slots + ms + 6 ≤ R.slots → lv_has la M.2.2.1 (ls.map (j_l K)) → jW K h H → (∀ q ∈ locs, K.2.1 ≤ q.base) →
    ∀ T : State, T.heap = H → Stand p K.1 e R s m args below meth c T locs cells slots →
    ∃ (mo : jO) (h' : jH) (L : List Loc) (B : State), Stand p K.1 e R s m args below meth c B L (cells + (mc + j_xc mo)) (slots + (ms + 6 * j_xc mo)) ∧ Q' mo h' ∧ jW K h' B.heap ∧ (∀ q ∈ L, K.2.1 ≤ q.base) ∧
      ((∃ v, mo = .inl v ∧ ∀ tg, Steps p.tables e below (B.setTop (F0 m (pc + 3) la ((v.toList ++ st).map (j_v K)))) tg → Steps p.tables e below (T.setTop (F0 m pc la (st0.map (j_v K)))) tg) ∨
       (∃ k n, mo = .inr k ∧ h'.length = n + 1 ∧ h'[n]? = some (.inr (k, [])) ∧ ∀ tg, Steps p.tables e below ((B.setTop (F0 m pc la (st.map (j_v K)))).pushFrame (.throwing (K.2.1 + n))) tg → Steps p.tables e below (T.setTop (F0 m pc la (st0.map (j_v K)))) tg))
section JCALL
variable {K : jK} {M : jR} {d pc : Nat} {ls : List (Nat × Value)} {st st0 av : List Value} {h : jH} {Q Q' : jO → jH → Prop} {mc ms mc' ms' : Nat} {M' : jR} {d' : Nat}
theorem j_roomS {m : MethodId} {la : Array Slot} {pc : Nat} {K : jK} {st : List Value} (hst : (st.map fun v => v.category).sum ≤ 8) : 2 * (F0 m pc la (st.map (j_v K))).monitorRoom + ((F0 m pc la (st.map (j_v K))).stack.map fun v => v.category).sum ≤ 8 := by
  have e : ((st.map (j_v K)).map fun v => v.category) = st.map fun v => v.category := by
    rw [List.map_map]
    congr 1
    funext v
    exact j_cat K v
  show 2 * (F0 m pc la (st.map (j_v K))).monitorRoom + ((st.map (j_v K)).map fun v => v.category).sum ≤ 8
  have hmr : (F0 m pc la (st.map (j_v K))).monitorRoom = 0 := by first | rfl | simp [JFrame.monitorRoom, F0]
  rw [hmr, e]
  omega
theorem j_inv (hM : jM K M' d' av h Q' mc ms) (hd : d' + 1 ≤ d) (hL : M'.2.2.1 ≤ 45) (hst : (st.map fun v => v.category).sum ≤ 8) (hcode : j_code M' ∈ jt) (hini : Cond.initialized M'.1.cls ∈ jt)
    {p : Program} {e : Env} {R : Room} {s : State} {m : MethodId} {args : Array Value} {below : List Frame} {meth : Method} {c : Code} {H : Heap} {locs : List Loc} {cells slots : Nat} {la : Array Slot}
    (hC : jC K M d p R s m args meth c) (hc : cells + mc + 1 ≤ R.cells) (hs : slots + ms + 6 ≤ R.slots) (hl : lv_has la M.2.2.1 (ls.map (j_l K))) (hw : jW K h H) (hLo : ∀ q ∈ locs, K.2.1 ≤ q.base)
    {T : State} (hT : T.heap = H) {vm₁ : Vm} (X₁ : Stand p K.1 e R s m args below meth c (T.setVm vm₁) locs cells slots) {ig : Instr} (hdg : decode c.code pc = .ok (ig, 3)) {mk : MethodId} (hn : s.methodNamed? M'.1 = some mk)
    (hstep : ∀ target, (∀ acts, Steps p.tables e below (doInvoke e ((T.setVm vm₁).setTop (F0 m pc la (st.map (j_v K)))) acts mk (av.map (j_v K)).toArray).1 target) → Steps p.tables e below (T.setTop (F0 m pc la (st0.map (j_v K)))) target) :
    ∃ (mo : jO) (h' : jH) (L : List Loc) (B : State), Stand p K.1 e R s m args below meth c B L (cells + (mc + j_xc mo)) (slots + (ms + 6 * j_xc mo)) ∧ Q' mo h' ∧ jW K h' B.heap ∧ (∀ q ∈ L, K.2.1 ≤ q.base) ∧
      ((∃ v, mo = .inl v ∧ ∀ tg, Steps p.tables e below (B.setTop (F0 m (pc + 3) la ((v.toList ++ st).map (j_v K)))) tg → Steps p.tables e below (T.setTop (F0 m pc la (st0.map (j_v K)))) tg) ∨
       (∃ k n, mo = .inr k ∧ h'.length = n + 1 ∧ h'[n]? = some (.inr (k, [])) ∧ ∀ tg, Steps p.tables e below ((B.setTop (F0 m pc la (st.map (j_v K)))).pushFrame (.throwing (K.2.1 + n))) tg → Steps p.tables e below (T.setTop (F0 m pc la (st0.map (j_v K)))) tg)) := by
  have hts := hC.2.2.2.2.1
  have hU : jU K s := ⟨fun w hw' => j_okT (j_jt hw') rfl (hts w hw'), hC.2.2.2.2.2.2.2.2.2.2.2.1, hC.2.2.2.2.2.2.2.2.2.2.2.2⟩
  have hfr := hC.2.2.2.2.2.2.2.2.2.1
  have hlo := hC.2.2.2.2.2.2.2.2.2.2.1
  have hsize : la.size = c.maxLocals := hl.1.trans hC.2.2.1.symm
  obtain ⟨mo, h', L, B, XB, hq, hwB, hLB, hend⟩ := j_pay X₁ hM (by omega) (by omega) hc hs (g := F0 m pc la (st.map (j_v K))) rfl hsize hdg (j_roomS hst) (X₁.named hn) (j_okW (j_jt hcode) X₁.warmed (hts _ hcode)) (j_okW (j_jt hini) X₁.warmed (hts _ hini)) (by show jW K h T.heap; rw [hT]; exact hw) (hU.warm X₁.warmed)
  refine ⟨mo, h', locs ++ L, B, XB, hq, hwB, ?_, ?_⟩
  · intro q hq
    rcases List.mem_append.mp hq with h2 | h2
    · exact hLo q h2
    · exact hLB q h2
  · rcases hend with ⟨v, rfl, hsteps⟩ | ⟨k, n, rfl, n1, n2, hsteps⟩
    · refine Or.inl ⟨v, rfl, fun tg htg => hstep tg fun acts => ?_⟩
      rw [doInvoke_state]
      refine hsteps.trans ?_
      have e9 : (v.toList ++ st).map (j_v K) = (v.map (j_v K)).toList ++ st.map (j_v K) := by cases v <;> rfl
      rw [e9] at htg
      exact htg
    · refine Or.inr ⟨k, n, rfl, n1, n2, fun tg htg => hstep tg fun acts => ?_⟩
      rw [doInvoke_state]
      exact hsteps.trans htg
theorem j_len {M' : jR} {n : Nat} (h : (parseMethodDescriptor M'.1.desc).map (fun d => d.parameters.length) = some n) {sig : MethodDescriptor} (hs : parseMethodDescriptor M'.1.desc = some sig) : n = sig.parameters.length := by
  rw [hs] at h
  exact (Option.some.inj h).symm
theorem j_callV {idx ci i n : Nat} {as : List Value} {fs : List Value} (hd : decode M.2.1 pc = .ok (.invokevirtual idx, 3)) (hf : jMV M' ci n) (hlink : Cond.methodLink M.1.cls idx M'.1 ∈ jt) (hn : as.length = n) (hx : j_get h i = some (.inr (ci, fs)))
    (hM : jM K M' d' (.ref i :: as) h Q' mc ms) (hdd : d' + 1 ≤ d) (hL : M'.2.2.1 ≤ 45) (hst : (st.map fun v => v.category).sum ≤ 8) (h0 : st0 = as.reverse ++ .ref i :: st) : jCall K M d pc ls st0 st h Q' mc ms := by
  subst h0
  intro p e R s m args below meth c H locs cells slots la hC hc hs hl hw hLo T hT X
  obtain ⟨hinst, hsel, hcode, hini, hy, hpar, T', N, hcl⟩ := hf
  have hts := hC.2.2.2.2.1
  obtain ⟨mk, methM, hnamed, hmethM, hstM, habM⟩ := Cond.instanceMethod_spec (hts _ hinst)
  obtain ⟨methM', cM, hmethM', -, -, -, -, -, -, hsigM⟩ := j_code_spec hnamed (hts _ hcode)
  cases hmethM.symm.trans hmethM'
  obtain ⟨c2, r2, m2, q1, q2, q3, q4, kP, hkP, hkPi⟩ := Cond.selects_spec (hts _ hsel)
  obtain ⟨r, g1, cellB, g2, g3, g4, -⟩ := hw.at hx
  have hcls : s.vm.findClass M'.1.cls = some cellB.cls := by rw [g3]; exact ((hC.2.2.2.2.2.2.2.2.2.2.2.1).1 ci _ hcl).2.1
  cases hcls.symm.trans q1
  cases (State.methodFound?_of_named hnamed hy).symm.trans q2
  cases hnamed.symm.trans q3
  have hselP : selectMethod e.platform s.vm cellB.cls mk = .method mk := by rw [Launch.admits_selectMethod X.admits]; exact q4
  have hdg : decode c.code pc = .ok (.invokevirtual idx, 3) := by rw [hC.2.1]; exact hd
  obtain ⟨vm₁, X₁, hstep₁⟩ := X.invokevirtual hC.1 hC.2.2.2.1 (hts _ hlink) hnamed hmethM hstM hkP hkPi hy (a := j_adr K i) (cell := cellB) (by rw [hT]; exact g2)
    (fun z hz => by rw [g4] at hz; cases hz) hselP hmethM habM hkP hkPi (g := F0 m pc la ((as.reverse ++ .ref i :: st).map (j_v K))) rfl (argsL := as.map (j_v K)) (rest := st.map (j_v K)) (by rw [List.length_map, hn]; exact j_len hpar hsigM)
    (by show (as.reverse ++ .ref i :: st).map (j_v K) = _; rw [List.map_append, List.map_reverse]; rfl) hdg
  exact j_inv hM hdd hL hst hcode hini hC hc hs hl hw hLo hT X₁ hdg hnamed hstep₁
theorem j_callS {idx n : Nat} {as : List Value} (hd : decode M.2.1 pc = .ok (.invokestatic idx, 3)) (hf : jMS M' n) (hlink : Cond.methodLink M.1.cls idx M'.1 ∈ jt) (hn : as.length = n)
    (hM : jM K M' d' as h Q' mc ms) (hdd : d' + 1 ≤ d) (hL : M'.2.2.1 ≤ 45) (hst : (st.map fun v => v.category).sum ≤ 8) (h0 : st0 = as.reverse ++ st) : jCall K M d pc ls st0 st h Q' mc ms := by
  subst h0
  intro p e R s m args below meth c H locs cells slots la hC hc hs hl hw hLo T hT X
  obtain ⟨hstat, hcode, hini, hy, hpar⟩ := hf
  have hts := hC.2.2.2.2.1
  have hcod := hts _ hcode
  obtain ⟨mk, hnamed⟩ : ∃ mk, s.methodNamed? M'.1 = some mk := by
    cases hmk : s.methodNamed? M'.1 with
    | some mk => exact ⟨mk, rfl⟩
    | none =>
      have h9 := hts _ hstat
      simp [Cond.before, Cond.holds, Cond.value, hmk] at h9
  obtain ⟨methM, cM, hmethM, -, -, -, -, -, -, hsigM⟩ := j_code_spec hnamed hcod
  have hstatic : methM.isStatic = true := Cond.static_spec hnamed hmethM (hts _ hstat)
  obtain ⟨kP, hkP, -⟩ := className_of_methodNamed hnamed
  have hinitP : kP.init = .initialized := Cond.initialized_spec (findClass_of_methodNamed hnamed) hkP (hts _ hini)
  have hdg : decode c.code pc = .ok (.invokestatic idx, 3) := by rw [hC.2.1]; exact hd
  obtain ⟨vm₁, X₁, hstep₁⟩ := X.invokestatic hC.1 hC.2.2.2.1 (hts _ hlink) hnamed hmethM hstatic hkP hinitP hy (g := F0 m pc la ((as.reverse ++ st).map (j_v K))) rfl (argsL := as.map (j_v K)) (rest := st.map (j_v K)) (by rw [List.length_map, hn]; exact j_len hpar hsigM)
    (by show (as.reverse ++ st).map (j_v K) = _; rw [List.map_append, List.map_reverse]) hdg
  exact j_inv hM hdd hL hst hcode hini hC hc hs hl hw hLo hT X₁ hdg hnamed hstep₁
theorem j_callI {idx i n : Nat} {as : List Value} (hd : decode M.2.1 pc = .ok (.invokespecial idx, 3)) (hf : jMI M' n) (hlink : Cond.methodLink M.1.cls idx M'.1 ∈ jt) (hn : as.length = n)
    (hM : jM K M' d' (.ref i :: as) h Q' mc ms) (hdd : d' + 1 ≤ d) (hL : M'.2.2.1 ≤ 45) (hst : (st.map fun v => v.category).sum ≤ 8) (h0 : st0 = as.reverse ++ .ref i :: st) : jCall K M d pc ls st0 st h Q' mc ms := by
  subst h0
  intro p e R s m args below meth c H locs cells slots la hC hc hs hl hw hLo T hT X
  obtain ⟨hinst, hcode, hret, hhan, hy1, hini, hy, hpar⟩ := hf
  have hts := hC.2.2.2.2.1
  have hcode' : j_code M' ∈ jt := by
    have : j_code M' = Cond.code M'.1 M'.2.1 M'.2.2.1 none := by
      unfold j_code
      rw [hhan, hret]
    rw [this]
    exact hcode
  have hdg : decode c.code pc = .ok (.invokespecial idx, 3) := by rw [hC.2.1]; exact hd
  have hpl : e.platform.magicAccessors = ({} : Platform).magicAccessors := by rw [X.admits.platform]
  obtain ⟨mk, methM, cM, kP, vm₁, hnamed, hmethM, hcodeM, -, hlocalsM, -, hkP, -, hW₁, hstep₁⟩ := Steps.initColdArgs (e := e) X.here hC.1 X.warmed hpl hC.2.2.2.1 hy1 hy (hts _ hlink) (hts _ hinst) (hts _ hcode) (f := F0 m pc la ((as.reverse ++ .ref i :: st).map (j_v K))) rfl (a := j_adr K i) (argsL := as.map (j_v K)) (rest := st.map (j_v K))
    (fun sig hsig => by rw [List.length_map, hn]; exact j_len hpar hsig) (by show (as.reverse ++ .ref i :: st).map (j_v K) = _; rw [List.map_append, List.map_reverse]; rfl) hdg
  exact j_inv hM hdd hL hst hcode' hini hC hc hs hl hw hLo hT (X.noted hW₁) hdg hnamed hstep₁
/-- behind a call: it came back, or it threw and nothing catches -/
theorem j_ret (hcall : jCall K M d pc ls st0 st h Q' mc' ms') (hh : M.2.2.2.2 = []) (kr : ∀ (v : Option Value) (h' : jH), Q' (.inl v) h' → jE K M d (pc + 3) ls (v.toList ++ st) h' Q mc ms) (kt : ∀ (k : Nat) (h' : jH), Q' (.inr k) h' → Q (.inr k) h') : jE K M d pc ls st0 h Q (mc' + mc) (ms' + ms) := by
  intro p e R s m args below meth c H locs cells slots la hC hc hs hl hw hLo T hT X
  obtain ⟨mo, h', L, B, XB, hq, hwB, hLB, hend⟩ := hcall p e R s m args below meth c H locs cells slots la hC (by omega) (by omega) hl hw hLo T hT X
  rcases hend with ⟨v, rfl, hst⟩ | ⟨k, n, rfl, n1, n2, hst⟩
  · obtain ⟨t, a1, a2⟩ := kr v h' hq p e R s m args below meth c B.heap L _ _ la hC (by simp only [j_xc]; omega) (by simp only [j_xc]; omega) hl hwB hLB B rfl XB
    refine ⟨t, hst t a1, ?_⟩
    obtain ⟨o, mo, h2, L2, b1, b2, b3, b4, b5, b6, b7, b8⟩ := a2
    exact ⟨o, mo, h2, L2, b1, b2, b3, b4, b5, b6, b7.mono (by simp only [j_xc]; omega) (by simp only [j_xc]; omega), b8⟩
  · have hlocks := hC.2.2.2.2.2.2.1
    obtain ⟨w1, w2, w3, w4, w5⟩ := XB.leaveThrown (K.2.1 + n) (g := F0 m pc la (st.map (j_v K))) rfl rfl rfl (by rw [hC.2.2.2.2.2.2.2.2.1, hh]; intro x hx; cases hx) hlocks
    refine ⟨_, hst _ w1, .threw (K.2.1 + n), .inr k, h', L, w2, w3, ⟨n, n1, n2, rfl⟩, kt k h' hq, hwB, w4, w5.mono (by simp only [j_xc]; omega) (by simp only [j_xc]; omega), hLB⟩
/-- behind a call of a method that makes nothing -/
theorem j_ret0 (hcall : jCall K M d pc ls st0 st h Q' 0 0) (hh : M.2.2.2.2 = []) (kr : ∀ (v : Option Value) (h' : jH), Q' (.inl v) h' → jE K M d (pc + 3) ls (v.toList ++ st) h' Q mc ms) (kt : ∀ (k : Nat) (h' : jH), Q' (.inr k) h' → Q (.inr k) h') : jE K M d pc ls st0 h Q mc ms := by
  have := j_ret hcall hh kr kt
  rw [Nat.zero_add, Nat.zero_add] at this
  exact this
end JCALL
