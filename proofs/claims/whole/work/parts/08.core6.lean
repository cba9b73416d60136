/-! CATCHES: the search through a method's own handlers, their classes' entries resolved or not -/
/-- at pc an object of the class tn is caught at hp: each handler of the list covers pc; those ahead name a class that tn isn't -/
def jFd (own tn : String) (pc : Nat) : List (Nat × Nat × Nat × Nat) → Nat → Prop
  | [], _ => False
  | q :: r, hp => (decide (q.1 ≤ pc) && decide (pc < q.2.1)) = true ∧ q.2.2.2 ≠ 0 ∧ ∃ name : String, Cond.classLink own q.2.2.2 name ∈ jt ∧ ((tn = name ∧ q.2.2.1 = hp) ∨ ((tn, name) ∈ jnc ∧ jFd own tn pc r hp))
theorem j_goLink {e : Env} {S : State} {f : JFrame} {a : Addr} {x : ExceptionTableEntry} {t : List ExceptionTableEntry} {c : ClassId} {cell : Cell} {Q : Handler → Pre} {E : CtlPost} {d : Bool} {acts : List Action} (hx : covers x f.pc = true) (h0 : x.catchType ≠ 0)
    (hl : S.vm.ClassLinks e.platform f.method.cls x.catchType c) (hcell : S.heap[a]? = some cell) (hobj : ∀ k, cell.vm ≠ .statics k) (hk : ∃ k, S.vm.classes[cell.cls]? = some k) (hc : ∃ k, S.vm.classes[c]? = some k) :
    wp (findHandler.go f a (x :: t)) Q E e d acts S ↔ (if S.vm.assignable cell.cls c = true then Q (.found x.handlerPc) d acts (S.setVm (S.vm.noted f.method.cls x.catchType (.cls c))) else wp (findHandler.go f a t) Q E e d acts (S.setVm (S.vm.noted f.method.cls x.catchType (.cls c)))) := by
  simp only [covers] at hx
  obtain ⟨g1, g2⟩ := (resolveClass_links e.toSetting hl).op (op := VmOp.resolveClass f.method.cls x.catchType) rfl
  have hal : S.vm.Alike (S.vm.noted f.method.cls x.catchType (.cls c)) := (Vm.Alike.refl S.vm).noted _ _ _
  obtain ⟨k1, hk1⟩ := hk
  obtain ⟨k2, hk2⟩ := hc
  obtain ⟨k1', hk1', -⟩ := hal.2.2 _ _ hk1
  obtain ⟨k2', hk2', -⟩ := hal.2.2 _ _ hk2
  have has : (S.vm.noted f.method.cls x.catchType (.cls c)).assignable cell.cls c = S.vm.assignable cell.cls c := hal.assignable _ _
  cases hfit : S.vm.assignable cell.cls c <;> rw [hfit] at has <;> simp [findHandler.go, hx, h0, g1, g2, hcell, hobj, hk1', hk2', has, VmOp.dirties, VmOp.acts]
theorem j_search {e : Env} {s : State} {args : Array Value} {f : JFrame} {a : Addr} {cell : Cell} {own tn : String} (hpl : e.platform.magicAccessors = ({} : Platform).magicAccessors) (hown : s.vm.findClass own = some f.method.cls) (hts : ∀ w ∈ jt, w.before args s = true) (hnc : ∀ q ∈ jnc, va_Nc q.1 q.2 s)
    (hcls : s.vm.findClass tn = some cell.cls) (hobj : ∀ k, cell.vm ≠ .statics k) : ∀ (t : List (Nat × Nat × Nat × Nat)) (S : State) (hp : Nat), jFd own tn f.pc t hp → s.WarmedH S.vm → S.heap[a]? = some cell →
      ∃ vm', s.WarmedH vm' ∧ ∀ (Q : Handler → Pre) (E : CtlPost) (d : Bool) (acts : List Action), wp (findHandler.go f a (tableOf t)) Q E e d acts S ↔ Q (.found hp) d acts (S.setVm vm')
  | [], _, _, h, _, _ => h.elim
  | q :: r, S, hp, h, hW, hcell => by
    obtain ⟨hcov, h0, name, hlk, hor⟩ := h
    obtain ⟨c, hc, hl⟩ := Cond.classLink_spec hown (hts _ hlk) e.platform hpl
    obtain ⟨dk, _, _, kt, hd, _, _, _, _, hkt, _, hopen⟩ := hl.here
    obtain ⟨kt', hkt', -⟩ := hW.alike.2.2 _ _ hkt
    obtain ⟨k0, hk0, -⟩ := Vm.findClass_spec hcls
    obtain ⟨k0', hk0', -⟩ := hW.alike.2.2 _ _ hk0
    have hWn : s.WarmedH (S.vm.noted f.method.cls q.2.2.2 (.cls c)) := hW.noted hd hopen (State.rightAt_cls hl)
    have key : ∀ (Q : Handler → Pre) (E : CtlPost) (d : Bool) (acts : List Action), wp (findHandler.go f a (tableOf (q :: r))) Q E e d acts S ↔ _ := fun Q E d acts => j_goLink (x := ⟨q.1, q.2.1, q.2.2.1, q.2.2.2⟩) (t := tableOf r) hcov h0 (hW.classLinks hl) hcell hobj ⟨k0', hk0'⟩ ⟨kt', hkt'⟩
    rcases hor with ⟨rfl, rfl⟩ | ⟨hn, hr⟩
    · cases hcls.symm.trans hc
      refine ⟨_, hWn, fun Q E d acts => (key Q E d acts).trans ?_⟩
      rw [if_pos (va_asg _ _)]
    · obtain ⟨c1, t1, f1, f2, f3⟩ := hnc _ hn
      cases hcls.symm.trans f1
      cases hc.symm.trans f2
      obtain ⟨vm', hW', hq⟩ := j_search hpl hown hts hnc hcls hobj r (S.setVm (S.vm.noted f.method.cls q.2.2.2 (.cls c))) hp hr hWn hcell
      refine ⟨vm', hW', fun Q E d acts => (key Q E d acts).trans ?_⟩
      rw [if_neg (by rw [hW.alike.assignable, f3]; decide)]
      exact hq Q E d acts
theorem j_stepCatch {e : Env} {s : State} {a : Addr} {f : JFrame} {r : List Frame} {pc : Nat} {vm' : Vm} (hfind : ∀ (Q : Handler → Pre) (E : CtlPost) (d : Bool) (acts : List Action), wp (findHandler f a) Q E e d acts s ↔ Q (.found pc) d acts (s.setVm vm')) :
    (stepThrowing e s a (.java f :: r)).Is ((s.setVm vm').setFrames (.java { f with pc := pc, stack := [.ref a] } :: r)) [] := by
  simp only [stepThrowing, searchFrame, vmDo]
  generalize hr : Sem.go _ e false [] s = res
  obtain ⟨as, rfl, ha⟩ := Sem.eq_ok_of hr (a := Handler.found pc) (s' := s.setVm vm') (acts' := []) (by simp [hfind _ _ _ _])
  exact ⟨rfl, ha⟩
section JCATCH
variable {K : jK} {M : jR} {d pc : Nat} {ls : List (Nat × Value)} {st st0 : List Value} {h : jH} {Q Q' : jO → jH → Prop} {mc ms mc' ms' : Nat}
theorem j_catStep {p : Program} {l : Launch} {e : Env} {R : Room} {s : State} {m : MethodId} {args : Array Value} {below : List Frame} {meth : Method} {c : Code} {T : State} {locs : List Loc} {cells slots : Nat} (X : Stand p l e R s m args below meth c T locs cells slots) {g : JFrame} (hg : g.method = m) {own tn : String} {hs : List (Nat × Nat × Nat × Nat)} {hp : Nat} (htab : c.exceptionTable.toList = tableOf hs)
    (hown : s.vm.findClass own = some m.cls) (hts : ∀ w ∈ jt, w.before args s = true) (hnc : ∀ q ∈ jnc, va_Nc q.1 q.2 s) {a : Addr} {cell : Cell} (hcell : T.heap[a]? = some cell) (hcls : s.vm.findClass tn = some cell.cls) (hobj : cell.vm.isStatics = false) (hfd : jFd own tn g.pc hs hp) :
    ∃ vm', Stand p l e R s m args below meth c (T.setVm vm') locs cells slots ∧ ∀ tg, Steps p.tables e below ((T.setVm vm').setTop { g with pc := hp, stack := [.ref a] }) tg → Steps p.tables e below ((T.setTop g).pushFrame (.throwing a)) tg := by
  have hpl : e.platform.magicAccessors = ({} : Platform).magicAccessors := by rw [X.admits.platform]
  subst hg
  have hvmT : ((T.setTop g).pushFrame (.throwing a)).vm = T.vm := by simp [State.pushFrame, State.setFrames, State.setTop, State.modifyTopJava]
  have hhpT : ((T.setTop g).pushFrame (.throwing a)).heap = T.heap := by simp [State.pushFrame, State.setFrames, State.setTop, State.modifyTopJava]
  obtain ⟨vm', hW', hq⟩ := j_search (e := e) (a := a) hpl hown hts hnc hcls (VmData.ne_statics_of hobj) hs ((T.setTop g).pushFrame (.throwing a)) hp hfd (by rw [hvmT]; exact X.warmed) (by rw [hhpT]; exact hcell)
  refine ⟨vm', X.noted hW', fun tg htg => ?_⟩
  obtain ⟨hgo, hw⟩ := X.here.throwing a
  refine Steps.head hgo hw ?_
  have hfind : ∀ (Q : Handler → Pre) (E : CtlPost) (d : Bool) (acts : List Action), wp (findHandler g a) Q E e d acts ((T.setTop g).pushFrame (.throwing a)) ↔ Q (.found hp) d acts (((T.setTop g).pushFrame (.throwing a)).setVm vm') := fun Q E d acts => by
    rw [W.findHandler_eq (meth := meth) (code := c) (by rw [hvmT]; exact X.method') X.code, htab]
    exact hq Q E d acts
  rw [stepThread_throwing (frames_entered X.here.top _), (j_stepCatch hfind).1]
  obtain ⟨g₀, hg0⟩ := Option.isSome_iff_exists.mp X.here.top
  obtain ⟨r, hr⟩ := State.topJava?_eq_some.mp hg0
  have hr' : (T.setVm vm').frames = .java g₀ :: r := hr
  have e1 : ∀ (u : State) (F G : List Frame), ((u.setFrames F).setVm vm').setFrames G = (u.setVm vm').setFrames G := fun u F G => by
    have h1 : (u.setFrames F).setVm vm' = (u.setVm vm').setFrames F := rfl
    rw [h1, State.setFrames_setFrames]
  rw [State.setTop_of_frames _ hr'] at htg
  rw [hr, List.tail_cons, State.pushFrame, e1, State.setTop_of_frames _ hr, e1]
  exact htg
/-- behind a call in a method with handlers: it came back, or what it threw is caught -/
theorem j_catch (hcall : jCall K M d pc ls st0 st h Q' mc' ms') (kr : ∀ (v : Option Value) (h' : jH), Q' (.inl v) h' → jE K M d (pc + 3) ls (v.toList ++ st) h' Q mc ms)
    (kt : ∀ (k : Nat) (h' : jH), Q' (.inr k) h' → ∃ (X : String) (T : u_T) (hp : Nat), classes[k]? = some (X, T, 0) ∧ jFd M.1.cls X pc M.2.2.2.2 hp ∧ jE K M d hp ls [.ref (31 + h'.length)] h' Q mc ms) : jE K M d pc ls st0 h Q (mc' + 1 + mc) (ms' + 6 + ms) := by
  intro p e R s m args below meth c H locs cells slots la hC hc hs hl hw hLo T hT X
  obtain ⟨mo, h', L, B, XB, hq, hwB, hLB, hend⟩ := hcall p e R s m args below meth c H locs cells slots la hC (by omega) (by omega) hl hw hLo T hT X
  rcases hend with ⟨v, rfl, hst⟩ | ⟨k, n, rfl, n1, n2, hst⟩
  · obtain ⟨t, a1, a2⟩ := kr v h' hq p e R s m args below meth c B.heap L _ _ la hC (by simp only [j_xc]; omega) (by simp only [j_xc]; omega) hl hwB hLB B rfl XB
    refine ⟨t, hst t a1, ?_⟩
    obtain ⟨o, mo, h2, L2, b1, b2, b3, b4, b5, b6, b7, b8⟩ := a2
    exact ⟨o, mo, h2, L2, b1, b2, b3, b4, b5, b6, b7.mono (by simp only [j_xc]; omega) (by simp only [j_xc]; omega), b8⟩
  · obtain ⟨X9, TX, hp, hcl, hfd, hE⟩ := kt k h' hq
    obtain ⟨r9, g1, cell, g2, g3, g4, -⟩ := hwB.1 n _ n2
    have hK := hC.2.2.2.2.2.2.2.2.2.2.2.1
    have hXs := hC.2.2.2.2.2.2.2.2.2.2.2.2
    obtain ⟨vm', X2, hs2⟩ := j_catStep XB (g := F0 m pc la (st.map (j_v K))) rfl (hs := M.2.2.2.2) (hp := hp) hC.2.2.2.2.2.2.2.2.1 hC.2.2.2.1 hC.2.2.2.2.1 hXs.2.2.1 (a := K.2.1 + n) (cell := cell) (tn := X9) g2 (by rw [g3]; exact (hK.1 k _ hcl).2.1) (by rw [g4]; rfl) hfd
    obtain ⟨t, a1, a2⟩ := hE p e R s m args below meth c B.heap L _ _ la hC (by simp only [j_xc]; omega) (by simp only [j_xc]; omega) hl hwB hLB (B.setVm vm') rfl X2
    have e9 : ([.ref (31 + h'.length)] : List Value).map (j_v K) = [.ref (K.2.1 + n)] := by
      show ([.ref (j_adr K (31 + h'.length))] : List Value) = _
      rw [n1, show 31 + (n + 1) = 32 + n by omega, j_adr_new]
    rw [e9] at a1
    refine ⟨t, hst t (hs2 t a1), ?_⟩
    obtain ⟨o, mo, h2, L2, b1, b2, b3, b4, b5, b6, b7, b8⟩ := a2
    exact ⟨o, mo, h2, L2, b1, b2, b3, b4, b5, b6, b7.mono (by simp only [j_xc]; omega) (by simp only [j_xc]; omega), b8⟩
end JCATCH
