/-! THE MINI MACHINE. A world is a list of cells, told by number: the cell j lies at the address N0 + j, and a reference to it is '.ref (32 + j)'; the numbers below 32 name cells that were there before (constants). Everything later speaks of these numbers alone. -/
abbrev jH : Type := List va_E
/-- how a method ends: it returned, or it threw an object of the class with that number, which is the world's last cell -/
abbrev jO : Type := Option Value ⊕ Nat
/-- launch; first new address; the heap at the law's start; class numbers; array classes; addresses of the constants; the script's length and ints -/
abbrev jK : Type := Launch × Nat × Heap × va_G × (Nat → ClassId) × (Nat → Nat) × Nat × (Nat → Int32)
/-- a method: name, code, locals, result, handlers -/
abbrev jR : Type := MethodName × ByteArray × Nat × Option FieldType × List (Nat × Nat × Nat × Nat)
def j_adr (K : jK) (i : Nat) : Nat := if i < 32 then K.2.2.2.2.2.1 i else K.2.1 + (i - 32)
def j_v (K : jK) (v : Value) : Value := match v with
  | .ref i => .ref (j_adr K i)
  | x => x
def j_l (K : jK) (q : Nat × Value) : Nat × Value := (q.1, j_v K q.2)
def j_e (K : jK) (x : va_E) : va_E := match x with
  | .inl a => .inl (K.2.2.2.2.1 a.1, a.2)
  | .inr o => .inr (o.1, o.2.map (j_v K))
abbrev j_ty (K : jK) : List (ClassId × FieldType) := [(K.2.2.2.2.1 0, .int), (K.2.2.2.2.1 1, .char), (K.2.2.2.2.1 2, .boolean), (K.2.2.2.2.1 3, .long)]
/-! what was there before, and never changes: told by numbers below 32. 0: the script; 1: BitLoom.ACTIONS; 2 to 7: the Actions by ordinal; 8 to 13: their words; 14: "where"; 15: the signs; 16 to 23: the bytes of 8 to 15; 24: the switch's table; 25: the formatter that a check of an index is given (or null) -/
abbrev jA (K : jK) : Nat → Prop := fun q => K.2.1 ≤ q
abbrev j_x (K : jK) (i : Nat) : Nat := K.2.2.2.2.2.1 i
def j_nA : String := "java/lang/IllegalArgumentException"
def j_nN : String := "java/util/NoSuchElementException"
def j_nS : String := "java/lang/IllegalStateException"
def j_nI : String := "java/lang/IndexOutOfBoundsException"
def jnc : List (String × String) := [(j_nS, j_nA), (j_nN, j_nA), (j_nI, j_nA), (j_nA, j_nS), (j_nN, j_nS), (j_nI, j_nS), (j_nA, j_nN), (j_nS, j_nN), (j_nI, j_nN), (j_nA, j_nI), (j_nS, j_nI), (j_nN, j_nI)]
def j_txL : List Nat := [3, 3, 3, 3, 4, 5, 5, 12]
def j_tx : List (List Int32) := [[115, 101, 116], [109, 97, 120], [109, 105, 110], [115, 117, 109], [108, 105, 115, 116], [99, 111, 117, 110, 116], [119, 104, 101, 114, 101], [60, 61, 62, 38, 124, 33, 40, 41, 44, 43, 45, 42]]
def j_sw : List Int32 := [1, 2, 3, 4, 5, 0]
/-- a static that was laid before and holds a reference or null -/
def jLS (K : jK) (C n d : String) (U : State) : Prop := ∃ (c : ClassId) (k : Class) (i : Nat) (f : Field) (a : Nat) (cell : Cell), U.vm.findClass C = some c ∧ U.fieldFound? C n d = some (c, k, i, f) ∧ f.isStatic = true ∧ k.statics = some a ∧ K.2.2.1[a]? = some cell ∧ cell.vm.isStatics = true ∧ cell.cls = c ∧
  f.slot < cell.slots.size ∧ k.staticTypes[f.slot]? = some f.type ∧ (cell.slots[f.slot]? = some .null ∨ ∃ t : Nat, cell.slots[f.slot]? = some (.ref t))
theorem jLS.moved {K : jK} {C n d : String} {u U : State} (hvm : u.vm.Alike U.vm) (h : jLS K C n d u) : jLS K C n d U := by
  obtain ⟨c, k, i, f, a, cell, h1, h2, h3, h4, h5, h6, h7, h8, h9, h10⟩ := h
  obtain ⟨k', hi', he⟩ := State.fieldFound?_setVm hvm h2
  exact ⟨c, k', i, f, a, cell, by rw [hvm.findClass]; exact h1, hi', h3, by rw [he]; exact h4, h5, h6, h7, h8, by rw [he]; exact h9, h10⟩
def jX (K : jK) (U : State) : Prop :=
  K.1.flags = flags0 ∧ K.2.1 = K.2.2.1.size ∧ (∀ q ∈ jnc, va_Nc q.1 q.2 U) ∧ jLS K "java/lang/Throwable" "UNASSIGNED_STACK" "[Ljava/lang/StackTraceElement;" U ∧ jLS K "java/lang/Throwable" "SUPPRESSED_SENTINEL" "Ljava/util/List;" U ∧
  va_Z "java/lang/String" "COMPACT_STRINGS" "Z" (.int 1) (jA K) U K.2.2.1 ∧ (va_Z "jdk/internal/util/Preconditions" "SIOOBE_FORMATTER" "Ljava/util/function/BiFunction;" .null (jA K) U K.2.2.1 ∨ va_Z "jdk/internal/util/Preconditions" "SIOOBE_FORMATTER" "Ljava/util/function/BiFunction;" (.ref (j_x K 25)) (jA K) U K.2.2.1) ∧
  va_Z "BitLoom" "ACTIONS" "[LBitLoom$Action;" (.ref (j_x K 1)) (jA K) U K.2.2.1 ∧ va_T (.object "BitLoom$Action") (j_x K 1) 6 (fun j => .ref (j_x K (2 + j))) (jA K) U K.2.2.1 ∧
  va_En "BitLoom$Action" "LBitLoom$Action;" ["SET", "MAX", "MIN", "SUM", "LIST", "COUNT"] [("java/lang/Enum", "ordinal", "I", [0, 1, 2, 3, 4, 5])] (fun i => j_x K (2 + i)) (jA K) U K.2.2.1 ∧
  (∀ i, i < 6 → va_OF "BitLoom$Action" "word" "Ljava/lang/String;" (.ref (j_x K (8 + i))) (j_x K (2 + i)) (jA K) U K.2.2.1) ∧
  va_Z "BitLoom$1" "$SwitchMap$BitLoom$Action" "[I" (.ref (j_x K 24)) (jA K) U K.2.2.1 ∧ va_T .int (j_x K 24) 6 (fun j => .int (j_sw.getD j 0)) (jA K) U K.2.2.1 ∧
  vk_S 8 j_txL j_tx (fun i => j_x K (8 + i)) (fun i => j_x K (16 + i)) (jA K) U K.2.2.1 ∧ vk_R "BitLoom$Statement" 93 "where" (j_x K 14) U ∧ vk_R "BitLoom$Tokens" 64 "<=>&|!(),+-*" (j_x K 15) U ∧
  va_X (j_x K 0) K.2.2.2.2.2.2.1 K.2.2.2.2.2.2.2 U K.2.2.1 ∧ j_x K 0 < K.2.1
theorem jX.warm {K : jK} {s U : State} (hW : s.WarmedH U.vm) (h : jX K s) : jX K U := by
  have ha := hW.alike
  obtain ⟨h1, h2, h3, h4, h5, h6, h7, h8, h9, h10, h11, h12, h13, h14, h15, h16, h17, h18⟩ := h
  exact ⟨h1, h2, fun q hq => (h3 q hq).moved ha, h4.moved ha, h5.moved ha, h6.moved ha, h7.imp (fun q => q.moved ha) (fun q => q.moved ha), h8.moved ha, h9.moved ha, h10.moved ha, fun i hi => (h11 i hi).moved ha, h12.moved ha, h13.moved ha, h14.moved ha, h15.warm hW, h16.warm hW, h17.moved ha, h18⟩
theorem j_okT {w : Cond} (h : j_ok w = true) {A A' : Array Value} {u U : State} (hv : u.vm = U.vm) (hb : w.before A u = true) : w.before A' U = true := by
  have hU : U = U.setVm u.vm := by rw [hv]; rfl
  cases w
  case arrayClass ty =>
    have e : (Cond.arrayClass ty).before A u = (Cond.arrayClass ty).before A' (U.setVm u.vm) := rfl
    rw [hU, ← e]
    exact hb
  all_goals
    refine va_tabs ?_ hv hb
    simp only [j_ok, Bool.and_eq_true] at h
    first | exact h.1 | rfl
theorem j_okW {w : Cond} (h : j_ok w = true) {A A' : Array Value} {s U : State} (hW : s.WarmedH U.vm) (hb : w.before A s = true) : w.before A' U = true := by
  have key : w.before A (s.setVm U.vm) = true := by
    cases w
    case fieldLinkNest a i b n d hh => exact Cond.fieldLinkNest_warmed hW hb
    case methodLinkNest a i x hh => exact Cond.methodLinkNest_warmed hW hb
    case arrayClass ty => exact Cond.before_shiftedFace (State.Shifted.of_warmed hW) _ rfl hb
    all_goals
      refine Cond.before_shiftedFace (State.Shifted.of_warmed hW) _ ?_ hb
      simp only [j_ok, Bool.and_eq_true] at h
      exact h.2
  exact j_okT h (u := s.setVm U.vm) rfl key
theorem j_jt {w : Cond} (h : w ∈ jt) : j_ok w = true := (List.mem_filter.mp h).2
def jU (K : jK) (U : State) : Prop := (∀ w ∈ jt, w.before #[] U = true) ∧ va_K K.2.2.2.1 classes (j_ty K) U ∧ jX K U
theorem jU.warm {K : jK} {s U : State} (hW : s.WarmedH U.vm) (h : jU K s) : jU K U := ⟨fun w hw => j_okW (j_jt hw) hW (h.1 w hw), h.2.1.moved hW.alike, h.2.2.warm hW⟩
def j_get (h : jH) (i : Nat) : Option va_E := if i < 32 then none else h[i - 32]?
def j_set (h : jH) (i : Nat) (x : va_E) : jH := h.set (i - 32) x
def jW (K : jK) (h : jH) (H : Heap) : Prop := (∀ (j : Nat) (x : va_E), h[j]? = some x → va_at K.2.2.2.1 classes (K.2.1 + j, j_e K x) H) ∧ H.size = K.2.1 + h.length ∧ ∀ q : Nat, q < K.2.1 → H[q]? = K.2.2.1[q]?
def j_oc (K : jK) (h : jH) (mo : jO) (o : Outcome) : Prop := match mo with
  | .inl v => o = .returned (v.map (j_v K))
  | .inr k => ∃ n : Nat, h.length = n + 1 ∧ h[n]? = some (.inr (k, [])) ∧ o = .threw (K.2.1 + n)
def j_xc (mo : jO) : Nat := match mo with
  | .inl _ => 0
  | .inr _ => 1
def jZ (K : jK) (below : List Frame) (s : State) (C S : Nat) (Q : jO → jH → Prop) : State → Prop := fun t =>
  ∃ (o : Outcome) (mo : jO) (h : jH) (L : List Loc), t.status = .running ∧ Ended t below o ∧ j_oc K h mo o ∧ Q mo h ∧ jW K h t.heap ∧ s.WarmedH t.vm ∧ s.sameButNew ({ t with vm := s.vm } : State) L (C + j_xc mo) (S + 6 * j_xc mo) ∧ ∀ q ∈ L, K.2.1 ≤ q.base
def jC (K : jK) (M : jR) (d : Nat) (p : Program) (R : Room) (s : State) (m : MethodId) (args : Array Value) (meth : Method) (c : Code) : Prop :=
  p.tables.exec = Jvm.exec ∧ c.code = M.2.1 ∧ c.maxLocals = M.2.2.1 ∧ s.vm.findClass M.1.cls = some m.cls ∧ (∀ w ∈ jt, w.before args s = true) ∧ meth.sig.returnType = M.2.2.2.1 ∧ meth.locks = false ∧ meth.name = M.1.name ∧ c.exceptionTable.toList = tableOf M.2.2.2.2 ∧ d ≤ R.frames ∧ 64 * d ≤ R.locals ∧ va_K K.2.2.2.1 classes (j_ty K) s ∧ jX K s
/-- from here, with these locals, this stack, this world: the method ends, and Q; at most mc cells of ms slots more are made (a throw makes one more, of six) -/
def jE (K : jK) (M : jR) (d pc : Nat) (ls : List (Nat × Value)) (st : List Value) (h : jH) (Q : jO → jH → Prop) (mc ms : Nat) : Prop :=
  ∀ (p : Program) (e : Env) (R : Room) (s : State) (m : MethodId) (args : Array Value) (below : List Frame) (meth : Method) (c : Code) (H : Heap) (locs : List Loc) (cells slots : Nat) (la : Array Slot),
    jC K M d p R s m args meth c → cells + mc + 1 ≤ R.cells → slots + ms + 6 ≤ R.slots → lv_has la M.2.2.1 (ls.map (j_l K)) → jW K h H → (∀ q ∈ locs, K.2.1 ≤ q.base) →
    W p K.1 e R s m args below meth c H locs cells slots (jZ K below s (cells + mc) (slots + ms) Q) (F0 m pc la (st.map (j_v K)))
theorem j_cat (K : jK) (v : Value) : (j_v K v).category = v.category := by cases v <;> rfl
def j_lg : List (Nat × Value) → Nat → Option Value
  | [], _ => none
  | q :: r, i => if q.1 = i then some q.2 else j_lg r i
theorem j_lg_at {K : jK} {la : Array Slot} {n : Nat} {ls : List (Nat × Value)} (hl : lv_has la n (ls.map (j_l K))) {i : Nat} {v : Value} (h : j_lg ls i = some v) : la[i]? = some (.val (j_v K v)) := by
  have key : ∀ r : List (Nat × Value), j_lg r i = some v → (i, v) ∈ r := by
    intro r
    induction r with
    | nil => intro h; cases h
    | cons q r ih =>
      intro h
      unfold j_lg at h
      split at h
      · rename_i hq
        cases h
        rw [← hq]
        exact List.mem_cons_self
      · exact List.mem_cons_of_mem _ (ih h)
  have hm := key ls h
  exact hl.2.2 (i, j_v K v) (List.mem_map.mpr ⟨(i, v), hm, rfl⟩)
def j_ls (ls : List (Nat × Value)) (i : Nat) (v : Value) : List (Nat × Value) := (i, v) :: ls.filter (fun q => !(q.1 == i) && !(q.1 + 1 == i && q.2.category == 2))
def j_ls2 (ls : List (Nat × Value)) (i : Nat) (v : Value) : List (Nat × Value) := (i, v) :: ls.filter (fun q => !(q.1 == i) && (!(q.1 == i + 1) && !(q.1 + 1 == i && q.2.category == 2)))
theorem j_ls_map (K : jK) (ls : List (Nat × Value)) (i : Nat) (v : Value) : (i, j_v K v) :: (ls.map (j_l K)).filter (fun q => !(q.1 == i) && !(q.1 + 1 == i && q.2.category == 2)) = (j_ls ls i v).map (j_l K) := by
  unfold j_ls
  rw [List.map_cons, List.filter_map]
  have e : ((fun q : Nat × Value => !(q.1 == i) && !(q.1 + 1 == i && q.2.category == 2)) ∘ j_l K) = (fun q : Nat × Value => !(q.1 == i) && !(q.1 + 1 == i && q.2.category == 2)) := by
    funext q
    simp [Function.comp, j_l, j_cat]
  rw [e]
  rfl
theorem j_ls2_map (K : jK) (ls : List (Nat × Value)) (i : Nat) (v : Value) : (i, j_v K v) :: (ls.map (j_l K)).filter (fun q => !(q.1 == i) && (!(q.1 == i + 1) && !(q.1 + 1 == i && q.2.category == 2))) = (j_ls2 ls i v).map (j_l K) := by
  unfold j_ls2
  rw [List.map_cons, List.filter_map]
  have e : ((fun q : Nat × Value => !(q.1 == i) && (!(q.1 == i + 1) && !(q.1 + 1 == i && q.2.category == 2))) ∘ j_l K) = (fun q : Nat × Value => !(q.1 == i) && (!(q.1 == i + 1) && !(q.1 + 1 == i && q.2.category == 2))) := by
    funext q
    simp [Function.comp, j_l, j_cat]
  rw [e]
  rfl
theorem j_mono {p : Program} {l : Launch} {e : Env} {R : Room} {s : State} {m : MethodId} {args : Array Value} {below : List Frame} {meth : Method} {c : Code} {H : Heap} {locs : List Loc} {cells slots : Nat} {Q Q' : State → Prop} {g : JFrame} (hQ : ∀ t, Q t → Q' t)
    (k : W p l e R s m args below meth c H locs cells slots Q g) : W p l e R s m args below meth c H locs cells slots Q' g := fun T hT X => by
  obtain ⟨t, a, b⟩ := k T hT X
  exact ⟨t, a, hQ t b⟩
section JROWS
variable {K : jK} {M : jR} {d pc : Nat} {ls : List (Nat × Value)} {st : List Value} {h : jH} {Q : jO → jH → Prop} {mc ms : Nat}
theorem j_iconst {n : Int} {v : Int32} (hd : decode M.2.1 pc = .ok (.iconst n, 1)) (hv : Int32.ofInt n = v) (k : jE K M d (pc + 1) ls (.int v :: st) h Q mc ms) : jE K M d pc ls (st) h Q mc ms :=
  fun p e R s m as bl me c H lo ce sl la hC hc hs hl hw hL => lv_iconst hC.1 hC.2.1 hd hv (k p e R s m as bl me c H lo ce sl la hC hc hs hl hw hL)
theorem j_bipush {n : Int} {v : Int32} (hd : decode M.2.1 pc = .ok (.bipush n, 2)) (hv : (Int8.ofInt n).toInt32 = v) (k : jE K M d (pc + 2) ls (.int v :: st) h Q mc ms) : jE K M d pc ls (st) h Q mc ms :=
  fun p e R s m as bl me c H lo ce sl la hC hc hs hl hw hL => lv_bipush hC.1 hC.2.1 hd hv (k p e R s m as bl me c H lo ce sl la hC hc hs hl hw hL)
theorem j_sipush {n : Int} {v : Int32} (hd : decode M.2.1 pc = .ok (.sipush n, 3)) (hv : (Int16.ofInt n).toInt32 = v) (k : jE K M d (pc + 3) ls (.int v :: st) h Q mc ms) : jE K M d pc ls (st) h Q mc ms :=
  fun p e R s m as bl me c H lo ce sl la hC hc hs hl hw hL => lv_sipush hC.1 hC.2.1 hd hv (k p e R s m as bl me c H lo ce sl la hC hc hs hl hw hL)
theorem j_lconst {n : Fin 2} {v : Int64} (hd : decode M.2.1 pc = .ok (.lconst n, 1)) (hv : Int64.ofNat (n : Nat) = v) (k : jE K M d (pc + 1) ls (.long v :: st) h Q mc ms) : jE K M d pc ls (st) h Q mc ms :=
  fun p e R s m as bl me c H lo ce sl la hC hc hs hl hw hL => lv_lconst hC.1 hC.2.1 hd hv (k p e R s m as bl me c H lo ce sl la hC hc hs hl hw hL)
theorem j_iload_n {k : Fin 4} {x : Int32} (hd : decode M.2.1 pc = .ok (.iload_n k, 1)) (hg : j_lg ls k = some (.int x)) (k : jE K M d (pc + 1) ls (.int x :: st) h Q mc ms) : jE K M d pc ls (st) h Q mc ms :=
  fun p e R s m as bl me c H lo ce sl la hC hc hs hl hw hL => lv_iload_n hC.1 hC.2.1 hd rfl (j_lg_at hl hg) (k p e R s m as bl me c H lo ce sl la hC hc hs hl hw hL)
theorem j_iload {i : Nat} {x : Int32} (hd : decode M.2.1 pc = .ok (.iload i, 2)) (hg : j_lg ls i = some (.int x)) (k : jE K M d (pc + 2) ls (.int x :: st) h Q mc ms) : jE K M d pc ls (st) h Q mc ms :=
  fun p e R s m as bl me c H lo ce sl la hC hc hs hl hw hL => lv_iload hC.1 hC.2.1 hd (j_lg_at hl hg) (k p e R s m as bl me c H lo ce sl la hC hc hs hl hw hL)
theorem j_istore_n {k : Fin 4} {x : Int32} (hd : decode M.2.1 pc = .ok (.istore_n k, 1)) (hn : (k : Nat) < M.2.2.1) (k : jE K M d (pc + 1) (j_ls ls k (.int x)) st h Q mc ms) : jE K M d pc ls (.int x :: st) h Q mc ms :=
  fun p e R s m as bl me c H lo ce sl la hC hc hs hl hw hL => lv_istore_n hC.1 hC.2.1 hd rfl hl hn (j_ls_map K ls _ (.int x)) (fun la' hl' => k p e R s m as bl me c H lo ce sl la' hC hc hs hl' hw hL)
theorem j_istore {i : Nat} {x : Int32} (hd : decode M.2.1 pc = .ok (.istore i, 2)) (hn : i < M.2.2.1) (k : jE K M d (pc + 2) (j_ls ls i (.int x)) st h Q mc ms) : jE K M d pc ls (.int x :: st) h Q mc ms :=
  fun p e R s m as bl me c H lo ce sl la hC hc hs hl hw hL => lv_istore hC.1 hC.2.1 hd hl hn (j_ls_map K ls _ (.int x)) (fun la' hl' => k p e R s m as bl me c H lo ce sl la' hC hc hs hl' hw hL)
theorem j_lload_n {k : Fin 4} {x : Int64} (hd : decode M.2.1 pc = .ok (.lload_n k, 1)) (hg : j_lg ls k = some (.long x)) (k : jE K M d (pc + 1) ls (.long x :: st) h Q mc ms) : jE K M d pc ls (st) h Q mc ms :=
  fun p e R s m as bl me c H lo ce sl la hC hc hs hl hw hL => lv_lload_n hC.1 hC.2.1 hd rfl (j_lg_at hl hg) (k p e R s m as bl me c H lo ce sl la hC hc hs hl hw hL)
theorem j_lload {i : Nat} {x : Int64} (hd : decode M.2.1 pc = .ok (.lload i, 2)) (hg : j_lg ls i = some (.long x)) (k : jE K M d (pc + 2) ls (.long x :: st) h Q mc ms) : jE K M d pc ls (st) h Q mc ms :=
  fun p e R s m as bl me c H lo ce sl la hC hc hs hl hw hL => lv_lload hC.1 hC.2.1 hd (j_lg_at hl hg) (k p e R s m as bl me c H lo ce sl la hC hc hs hl hw hL)
theorem j_lstore_n {k : Fin 4} {x : Int64} (hd : decode M.2.1 pc = .ok (.lstore_n k, 1)) (hn : (k : Nat) + 1 < M.2.2.1) (k : jE K M d (pc + 1) (j_ls2 ls k (.long x)) st h Q mc ms) : jE K M d pc ls (.long x :: st) h Q mc ms :=
  fun p e R s m as bl me c H lo ce sl la hC hc hs hl hw hL => lv_lstore_n hC.1 hC.2.1 hd rfl hl hn (j_ls2_map K ls _ (.long x)) (fun la' hl' => k p e R s m as bl me c H lo ce sl la' hC hc hs hl' hw hL)
theorem j_lstore {i : Nat} {x : Int64} (hd : decode M.2.1 pc = .ok (.lstore i, 2)) (hn : i + 1 < M.2.2.1) (k : jE K M d (pc + 2) (j_ls2 ls i (.long x)) st h Q mc ms) : jE K M d pc ls (.long x :: st) h Q mc ms :=
  fun p e R s m as bl me c H lo ce sl la hC hc hs hl hw hL => lv_lstore hC.1 hC.2.1 hd hl hn (j_ls2_map K ls _ (.long x)) (fun la' hl' => k p e R s m as bl me c H lo ce sl la' hC hc hs hl' hw hL)
theorem j_aload_n {k : Fin 4} {x : Nat} (hd : decode M.2.1 pc = .ok (.aload_n k, 1)) (hg : j_lg ls k = some (.ref x)) (k : jE K M d (pc + 1) ls (.ref x :: st) h Q mc ms) : jE K M d pc ls (st) h Q mc ms :=
  fun p e R s m as bl me c H lo ce sl la hC hc hs hl hw hL => lv_aload_n hC.1 hC.2.1 hd rfl (j_lg_at hl hg) (k p e R s m as bl me c H lo ce sl la hC hc hs hl hw hL)
theorem j_aload {i : Nat} {x : Nat} (hd : decode M.2.1 pc = .ok (.aload i, 2)) (hg : j_lg ls i = some (.ref x)) (k : jE K M d (pc + 2) ls (.ref x :: st) h Q mc ms) : jE K M d pc ls (st) h Q mc ms :=
  fun p e R s m as bl me c H lo ce sl la hC hc hs hl hw hL => lv_aload hC.1 hC.2.1 hd (j_lg_at hl hg) (k p e R s m as bl me c H lo ce sl la hC hc hs hl hw hL)
theorem j_astore_n {k : Fin 4} {x : Nat} (hd : decode M.2.1 pc = .ok (.astore_n k, 1)) (hn : (k : Nat) < M.2.2.1) (k : jE K M d (pc + 1) (j_ls ls k (.ref x)) st h Q mc ms) : jE K M d pc ls (.ref x :: st) h Q mc ms :=
  fun p e R s m as bl me c H lo ce sl la hC hc hs hl hw hL => lv_astore_n hC.1 hC.2.1 hd rfl hl hn (j_ls_map K ls _ (.ref x)) (fun la' hl' => k p e R s m as bl me c H lo ce sl la' hC hc hs hl' hw hL)
theorem j_astore {i : Nat} {x : Nat} (hd : decode M.2.1 pc = .ok (.astore i, 2)) (hn : i < M.2.2.1) (k : jE K M d (pc + 2) (j_ls ls i (.ref x)) st h Q mc ms) : jE K M d pc ls (.ref x :: st) h Q mc ms :=
  fun p e R s m as bl me c H lo ce sl la hC hc hs hl hw hL => lv_astore hC.1 hC.2.1 hd hl hn (j_ls_map K ls _ (.ref x)) (fun la' hl' => k p e R s m as bl me c H lo ce sl la' hC hc hs hl' hw hL)
theorem j_iadd {x y : Int32} (hd : decode M.2.1 pc = .ok (.iadd, 1)) (k : jE K M d (pc + 1) ls (.int (x + y) :: st) h Q mc ms) : jE K M d pc ls (.int y :: .int x :: st) h Q mc ms :=
  fun p e R s m as bl me c H lo ce sl la hC hc hs hl hw hL => lv_iadd hC.1 hC.2.1 hd (k p e R s m as bl me c H lo ce sl la hC hc hs hl hw hL)
theorem j_isub {x y : Int32} (hd : decode M.2.1 pc = .ok (.isub, 1)) (k : jE K M d (pc + 1) ls (.int (x - y) :: st) h Q mc ms) : jE K M d pc ls (.int y :: .int x :: st) h Q mc ms :=
  fun p e R s m as bl me c H lo ce sl la hC hc hs hl hw hL => lv_isub hC.1 hC.2.1 hd (k p e R s m as bl me c H lo ce sl la hC hc hs hl hw hL)
theorem j_imul {x y : Int32} (hd : decode M.2.1 pc = .ok (.imul, 1)) (k : jE K M d (pc + 1) ls (.int (x * y) :: st) h Q mc ms) : jE K M d pc ls (.int y :: .int x :: st) h Q mc ms :=
  fun p e R s m as bl me c H lo ce sl la hC hc hs hl hw hL => lv_imul hC.1 hC.2.1 hd (k p e R s m as bl me c H lo ce sl la hC hc hs hl hw hL)
theorem j_iand {x y : Int32} (hd : decode M.2.1 pc = .ok (.iand, 1)) (k : jE K M d (pc + 1) ls (.int (x &&& y) :: st) h Q mc ms) : jE K M d pc ls (.int y :: .int x :: st) h Q mc ms :=
  fun p e R s m as bl me c H lo ce sl la hC hc hs hl hw hL => lv_iand hC.1 hC.2.1 hd (k p e R s m as bl me c H lo ce sl la hC hc hs hl hw hL)
theorem j_ior {x y : Int32} (hd : decode M.2.1 pc = .ok (.ior, 1)) (k : jE K M d (pc + 1) ls (.int (x ||| y) :: st) h Q mc ms) : jE K M d pc ls (.int y :: .int x :: st) h Q mc ms :=
  fun p e R s m as bl me c H lo ce sl la hC hc hs hl hw hL => lv_ior hC.1 hC.2.1 hd (k p e R s m as bl me c H lo ce sl la hC hc hs hl hw hL)
theorem j_ixor {x y : Int32} (hd : decode M.2.1 pc = .ok (.ixor, 1)) (k : jE K M d (pc + 1) ls (.int (x ^^^ y) :: st) h Q mc ms) : jE K M d pc ls (.int y :: .int x :: st) h Q mc ms :=
  fun p e R s m as bl me c H lo ce sl la hC hc hs hl hw hL => lv_ixor hC.1 hC.2.1 hd (k p e R s m as bl me c H lo ce sl la hC hc hs hl hw hL)
theorem j_ishl {x y : Int32} (hd : decode M.2.1 pc = .ok (.ishl, 1)) (k : jE K M d (pc + 1) ls (.int (x <<< (y &&& 31)) :: st) h Q mc ms) : jE K M d pc ls (.int y :: .int x :: st) h Q mc ms :=
  fun p e R s m as bl me c H lo ce sl la hC hc hs hl hw hL => lv_ishl hC.1 hC.2.1 hd (k p e R s m as bl me c H lo ce sl la hC hc hs hl hw hL)
theorem j_ishr {x y : Int32} (hd : decode M.2.1 pc = .ok (.ishr, 1)) (k : jE K M d (pc + 1) ls (.int (x >>> (y &&& 31)) :: st) h Q mc ms) : jE K M d pc ls (.int y :: .int x :: st) h Q mc ms :=
  fun p e R s m as bl me c H lo ce sl la hC hc hs hl hw hL => lv_ishr hC.1 hC.2.1 hd (k p e R s m as bl me c H lo ce sl la hC hc hs hl hw hL)
theorem j_iushr {x y : Int32} (hd : decode M.2.1 pc = .ok (.iushr, 1)) (k : jE K M d (pc + 1) ls (.int (x.toUInt32 >>> (y.toUInt32 &&& Int32.toUInt32 31)).toInt32 :: st) h Q mc ms) : jE K M d pc ls (.int y :: .int x :: st) h Q mc ms :=
  fun p e R s m as bl me c H lo ce sl la hC hc hs hl hw hL => lv_iushr hC.1 hC.2.1 hd rfl (k p e R s m as bl me c H lo ce sl la hC hc hs hl hw hL)
theorem j_idiv {x y : Int32} (hd : decode M.2.1 pc = .ok (.idiv, 1)) (hne : ¬ y = 0) (k : jE K M d (pc + 1) ls (.int (x / y) :: st) h Q mc ms) : jE K M d pc ls (.int y :: .int x :: st) h Q mc ms :=
  fun p e R s m as bl me c H lo ce sl la hC hc hs hl hw hL => lv_idiv hC.1 hC.2.1 hd hne (k p e R s m as bl me c H lo ce sl la hC hc hs hl hw hL)
theorem j_irem {x y : Int32} (hd : decode M.2.1 pc = .ok (.irem, 1)) (hne : ¬ y = 0) (k : jE K M d (pc + 1) ls (.int (x - x / y * y) :: st) h Q mc ms) : jE K M d pc ls (.int y :: .int x :: st) h Q mc ms :=
  fun p e R s m as bl me c H lo ce sl la hC hc hs hl hw hL => lv_irem hC.1 hC.2.1 hd hne (k p e R s m as bl me c H lo ce sl la hC hc hs hl hw hL)
theorem j_ineg {x : Int32} (hd : decode M.2.1 pc = .ok (.ineg, 1)) (k : jE K M d (pc + 1) ls (.int (-x) :: st) h Q mc ms) : jE K M d pc ls (.int x :: st) h Q mc ms :=
  fun p e R s m as bl me c H lo ce sl la hC hc hs hl hw hL => lv_ineg hC.1 hC.2.1 hd (k p e R s m as bl me c H lo ce sl la hC hc hs hl hw hL)
theorem j_ladd {x y : Int64} (hd : decode M.2.1 pc = .ok (.ladd, 1)) (k : jE K M d (pc + 1) ls (.long (x + y) :: st) h Q mc ms) : jE K M d pc ls (.long y :: .long x :: st) h Q mc ms :=
  fun p e R s m as bl me c H lo ce sl la hC hc hs hl hw hL => lv_ladd hC.1 hC.2.1 hd (k p e R s m as bl me c H lo ce sl la hC hc hs hl hw hL)
theorem j_lsub {x y : Int64} (hd : decode M.2.1 pc = .ok (.lsub, 1)) (k : jE K M d (pc + 1) ls (.long (x - y) :: st) h Q mc ms) : jE K M d pc ls (.long y :: .long x :: st) h Q mc ms :=
  fun p e R s m as bl me c H lo ce sl la hC hc hs hl hw hL => lv_lsub hC.1 hC.2.1 hd (k p e R s m as bl me c H lo ce sl la hC hc hs hl hw hL)
theorem j_lmul {x y : Int64} (hd : decode M.2.1 pc = .ok (.lmul, 1)) (k : jE K M d (pc + 1) ls (.long (x * y) :: st) h Q mc ms) : jE K M d pc ls (.long y :: .long x :: st) h Q mc ms :=
  fun p e R s m as bl me c H lo ce sl la hC hc hs hl hw hL => lv_lmul hC.1 hC.2.1 hd (k p e R s m as bl me c H lo ce sl la hC hc hs hl hw hL)
theorem j_land {x y : Int64} (hd : decode M.2.1 pc = .ok (.land, 1)) (k : jE K M d (pc + 1) ls (.long (x &&& y) :: st) h Q mc ms) : jE K M d pc ls (.long y :: .long x :: st) h Q mc ms :=
  fun p e R s m as bl me c H lo ce sl la hC hc hs hl hw hL => lv_land hC.1 hC.2.1 hd (k p e R s m as bl me c H lo ce sl la hC hc hs hl hw hL)
theorem j_lor {x y : Int64} (hd : decode M.2.1 pc = .ok (.lor, 1)) (k : jE K M d (pc + 1) ls (.long (x ||| y) :: st) h Q mc ms) : jE K M d pc ls (.long y :: .long x :: st) h Q mc ms :=
  fun p e R s m as bl me c H lo ce sl la hC hc hs hl hw hL => lv_lor hC.1 hC.2.1 hd (k p e R s m as bl me c H lo ce sl la hC hc hs hl hw hL)
theorem j_lxor {x y : Int64} (hd : decode M.2.1 pc = .ok (.lxor, 1)) (k : jE K M d (pc + 1) ls (.long (x ^^^ y) :: st) h Q mc ms) : jE K M d pc ls (.long y :: .long x :: st) h Q mc ms :=
  fun p e R s m as bl me c H lo ce sl la hC hc hs hl hw hL => lv_lxor hC.1 hC.2.1 hd (k p e R s m as bl me c H lo ce sl la hC hc hs hl hw hL)
theorem j_lushr {x : Int64} {y : Int32} (hd : decode M.2.1 pc = .ok (.lushr, 1)) (k : jE K M d (pc + 1) ls (.long (x.toUInt64 >>> (y.toInt64.toUInt64 &&& Int64.toUInt64 63)).toInt64 :: st) h Q mc ms) : jE K M d pc ls (.int y :: .long x :: st) h Q mc ms :=
  fun p e R s m as bl me c H lo ce sl la hC hc hs hl hw hL => lv_lushr hC.1 hC.2.1 hd rfl (k p e R s m as bl me c H lo ce sl la hC hc hs hl hw hL)
theorem j_lshl {x : Int64} {y : Int32} (hd : decode M.2.1 pc = .ok (.lshl, 1)) (k : jE K M d (pc + 1) ls (.long (x <<< (y.toInt64 &&& 63)) :: st) h Q mc ms) : jE K M d pc ls (.int y :: .long x :: st) h Q mc ms :=
  fun p e R s m as bl me c H lo ce sl la hC hc hs hl hw hL => lv_lshl hC.1 hC.2.1 hd rfl (k p e R s m as bl me c H lo ce sl la hC hc hs hl hw hL)
theorem j_lshr {x : Int64} {y : Int32} (hd : decode M.2.1 pc = .ok (.lshr, 1)) (k : jE K M d (pc + 1) ls (.long (x >>> (y.toInt64 &&& 63)) :: st) h Q mc ms) : jE K M d pc ls (.int y :: .long x :: st) h Q mc ms :=
  fun p e R s m as bl me c H lo ce sl la hC hc hs hl hw hL => lv_lshr hC.1 hC.2.1 hd rfl (k p e R s m as bl me c H lo ce sl la hC hc hs hl hw hL)
theorem j_i2l {x : Int32} (hd : decode M.2.1 pc = .ok (.i2l, 1)) (k : jE K M d (pc + 1) ls (.long x.toInt64 :: st) h Q mc ms) : jE K M d pc ls (.int x :: st) h Q mc ms :=
  fun p e R s m as bl me c H lo ce sl la hC hc hs hl hw hL => lv_i2l hC.1 hC.2.1 hd rfl (k p e R s m as bl me c H lo ce sl la hC hc hs hl hw hL)
theorem j_l2i {x : Int64} (hd : decode M.2.1 pc = .ok (.l2i, 1)) (k : jE K M d (pc + 1) ls (.int x.toInt32 :: st) h Q mc ms) : jE K M d pc ls (.long x :: st) h Q mc ms :=
  fun p e R s m as bl me c H lo ce sl la hC hc hs hl hw hL => lv_l2i hC.1 hC.2.1 hd rfl (k p e R s m as bl me c H lo ce sl la hC hc hs hl hw hL)
theorem j_i2b {x : Int32} (hd : decode M.2.1 pc = .ok (.i2b, 1)) (k : jE K M d (pc + 1) ls (.int x.toInt8.toInt32 :: st) h Q mc ms) : jE K M d pc ls (.int x :: st) h Q mc ms :=
  fun p e R s m as bl me c H lo ce sl la hC hc hs hl hw hL => lv_i2b hC.1 hC.2.1 hd rfl (k p e R s m as bl me c H lo ce sl la hC hc hs hl hw hL)
theorem j_i2c {x : Int32} (hd : decode M.2.1 pc = .ok (.i2c, 1)) (k : jE K M d (pc + 1) ls (.int (x.toUInt32 % 65536).toInt32 :: st) h Q mc ms) : jE K M d pc ls (.int x :: st) h Q mc ms :=
  fun p e R s m as bl me c H lo ce sl la hC hc hs hl hw hL => lv_i2c hC.1 hC.2.1 hd rfl (k p e R s m as bl me c H lo ce sl la hC hc hs hl hw hL)
theorem j_dup {v : Value} (hd : decode M.2.1 pc = .ok (.dup, 1)) (hv : v.category = 1) (k : jE K M d (pc + 1) ls (v :: v :: st) h Q mc ms) : jE K M d pc ls (v :: st) h Q mc ms :=
  fun p e R s m as bl me c H lo ce sl la hC hc hs hl hw hL => lv_dup hC.1 hC.2.1 hd ((j_cat K _).trans hv) (k p e R s m as bl me c H lo ce sl la hC hc hs hl hw hL)
theorem j_pop {v : Value} (hd : decode M.2.1 pc = .ok (.pop, 1)) (hv : v.category = 1) (k : jE K M d (pc + 1) ls (st) h Q mc ms) : jE K M d pc ls (v :: st) h Q mc ms :=
  fun p e R s m as bl me c H lo ce sl la hC hc hs hl hw hL => lv_pop hC.1 hC.2.1 hd ((j_cat K _).trans hv) (k p e R s m as bl me c H lo ce sl la hC hc hs hl hw hL)
theorem j_dup_x1 {v w : Value} (hd : decode M.2.1 pc = .ok (.dup_x1, 1)) (hv : v.category = 1) (hw9 : w.category = 1) (k : jE K M d (pc + 1) ls (v :: w :: v :: st) h Q mc ms) : jE K M d pc ls (v :: w :: st) h Q mc ms :=
  fun p e R s m as bl me c H lo ce sl la hC hc hs hl hw hL => lv_dup_x1 hC.1 hC.2.1 hd ((j_cat K _).trans hv) ((j_cat K _).trans hw9) (k p e R s m as bl me c H lo ce sl la hC hc hs hl hw hL)
theorem j_dup_x2 {v w u : Value} (hd : decode M.2.1 pc = .ok (.dup_x2, 1)) (hv : v.category = 1) (hw9 : w.category = 1) (hu : u.category = 1) (k : jE K M d (pc + 1) ls (v :: w :: u :: v :: st) h Q mc ms) : jE K M d pc ls (v :: w :: u :: st) h Q mc ms :=
  fun p e R s m as bl me c H lo ce sl la hC hc hs hl hw hL => lv_dup_x2 hC.1 hC.2.1 hd ((j_cat K _).trans hv) ((j_cat K _).trans hw9) ((j_cat K _).trans hu) (k p e R s m as bl me c H lo ce sl la hC hc hs hl hw hL)
theorem j_dup2 {v w : Value} (hd : decode M.2.1 pc = .ok (.dup2, 1)) (hv : v.category = 1) (hw9 : w.category = 1) (k : jE K M d (pc + 1) ls (v :: w :: v :: w :: st) h Q mc ms) : jE K M d pc ls (v :: w :: st) h Q mc ms :=
  fun p e R s m as bl me c H lo ce sl la hC hc hs hl hw hL => lv_dup2_11 hC.1 hC.2.1 hd ((j_cat K _).trans hv) ((j_cat K _).trans hw9) (k p e R s m as bl me c H lo ce sl la hC hc hs hl hw hL)
theorem j_goto {off : Int} {tgt : Nat} (hd : decode M.2.1 pc = .ok (.goto off, 3)) (ht : (pc : Int) + off = (tgt : Int)) (k : jE K M d tgt ls st h Q mc ms) : jE K M d pc ls st h Q mc ms :=
  fun p e R s m as bl me c H lo ce sl la hC hc hs hl hw hL => lv_goto hC.1 hC.2.1 hd ht (k p e R s m as bl me c H lo ce sl la hC hc hs hl hw hL)
theorem j_if_eq {x : Int32} {off : Int} {tgt : Nat} (hd : decode M.2.1 pc = .ok (.ifCond .eq off, 3)) (ht : (pc : Int) + off = (tgt : Int)) (kt : x = 0 → jE K M d tgt ls st h Q mc ms) (kf : ¬ x = 0 → jE K M d (pc + 3) ls st h Q mc ms) : jE K M d pc ls (.int x :: st) h Q mc ms :=
  fun p e R s m as bl me c H lo ce sl la hC hc hs hl hw hL => lv_if_eq hC.1 hC.2.1 hd ht (fun q => kt q p e R s m as bl me c H lo ce sl la hC hc hs hl hw hL) (fun q => kf q p e R s m as bl me c H lo ce sl la hC hc hs hl hw hL)
theorem j_if_eqT {x : Int32} {off : Int} {tgt : Nat} (hd : decode M.2.1 pc = .ok (.ifCond .eq off, 3)) (ht : (pc : Int) + off = (tgt : Int)) (q : x = 0) (kt : jE K M d tgt ls st h Q mc ms) : jE K M d pc ls (.int x :: st) h Q mc ms := j_if_eq hd ht (fun _ => kt) (fun z => absurd q (by first | exact z | exact fun w => z w | exact not_not_intro z))
theorem j_if_eqF {x : Int32} {off : Int} {tgt : Nat} (hd : decode M.2.1 pc = .ok (.ifCond .eq off, 3)) (ht : (pc : Int) + off = (tgt : Int)) (q : ¬ x = 0) (kf : jE K M d (pc + 3) ls st h Q mc ms) : jE K M d pc ls (.int x :: st) h Q mc ms := j_if_eq hd ht (fun z => absurd q (by first | exact z | exact fun w => w z | exact not_not_intro z)) (fun _ => kf)
theorem j_icmp_eq {x y : Int32} {off : Int} {tgt : Nat} (hd : decode M.2.1 pc = .ok (.if_icmp .eq off, 3)) (ht : (pc : Int) + off = (tgt : Int)) (kt : x = y → jE K M d tgt ls st h Q mc ms) (kf : ¬ x = y → jE K M d (pc + 3) ls st h Q mc ms) : jE K M d pc ls (.int y :: .int x :: st) h Q mc ms :=
  fun p e R s m as bl me c H lo ce sl la hC hc hs hl hw hL => lv_icmp_eq hC.1 hC.2.1 hd ht (fun q => kt q p e R s m as bl me c H lo ce sl la hC hc hs hl hw hL) (fun q => kf q p e R s m as bl me c H lo ce sl la hC hc hs hl hw hL)
theorem j_icmp_eqT {x y : Int32} {off : Int} {tgt : Nat} (hd : decode M.2.1 pc = .ok (.if_icmp .eq off, 3)) (ht : (pc : Int) + off = (tgt : Int)) (q : x = y) (kt : jE K M d tgt ls st h Q mc ms) : jE K M d pc ls (.int y :: .int x :: st) h Q mc ms := j_icmp_eq hd ht (fun _ => kt) (fun z => absurd q (by first | exact z | exact fun w => z w | exact not_not_intro z))
theorem j_icmp_eqF {x y : Int32} {off : Int} {tgt : Nat} (hd : decode M.2.1 pc = .ok (.if_icmp .eq off, 3)) (ht : (pc : Int) + off = (tgt : Int)) (q : ¬ x = y) (kf : jE K M d (pc + 3) ls st h Q mc ms) : jE K M d pc ls (.int y :: .int x :: st) h Q mc ms := j_icmp_eq hd ht (fun z => absurd q (by first | exact z | exact fun w => w z | exact not_not_intro z)) (fun _ => kf)
theorem j_if_ne {x : Int32} {off : Int} {tgt : Nat} (hd : decode M.2.1 pc = .ok (.ifCond .ne off, 3)) (ht : (pc : Int) + off = (tgt : Int)) (kt : ¬ x = 0 → jE K M d tgt ls st h Q mc ms) (kf : x = 0 → jE K M d (pc + 3) ls st h Q mc ms) : jE K M d pc ls (.int x :: st) h Q mc ms :=
  fun p e R s m as bl me c H lo ce sl la hC hc hs hl hw hL => lv_if_ne hC.1 hC.2.1 hd ht (fun q => kt q p e R s m as bl me c H lo ce sl la hC hc hs hl hw hL) (fun q => kf q p e R s m as bl me c H lo ce sl la hC hc hs hl hw hL)
theorem j_if_neT {x : Int32} {off : Int} {tgt : Nat} (hd : decode M.2.1 pc = .ok (.ifCond .ne off, 3)) (ht : (pc : Int) + off = (tgt : Int)) (q : ¬ x = 0) (kt : jE K M d tgt ls st h Q mc ms) : jE K M d pc ls (.int x :: st) h Q mc ms := j_if_ne hd ht (fun _ => kt) (fun z => absurd q (by first | exact z | exact fun w => z w | exact not_not_intro z))
theorem j_if_neF {x : Int32} {off : Int} {tgt : Nat} (hd : decode M.2.1 pc = .ok (.ifCond .ne off, 3)) (ht : (pc : Int) + off = (tgt : Int)) (q : x = 0) (kf : jE K M d (pc + 3) ls st h Q mc ms) : jE K M d pc ls (.int x :: st) h Q mc ms := j_if_ne hd ht (fun z => absurd q (by first | exact z | exact fun w => w z | exact not_not_intro z)) (fun _ => kf)
theorem j_icmp_ne {x y : Int32} {off : Int} {tgt : Nat} (hd : decode M.2.1 pc = .ok (.if_icmp .ne off, 3)) (ht : (pc : Int) + off = (tgt : Int)) (kt : ¬ x = y → jE K M d tgt ls st h Q mc ms) (kf : x = y → jE K M d (pc + 3) ls st h Q mc ms) : jE K M d pc ls (.int y :: .int x :: st) h Q mc ms :=
  fun p e R s m as bl me c H lo ce sl la hC hc hs hl hw hL => lv_icmp_ne hC.1 hC.2.1 hd ht (fun q => kt q p e R s m as bl me c H lo ce sl la hC hc hs hl hw hL) (fun q => kf q p e R s m as bl me c H lo ce sl la hC hc hs hl hw hL)
theorem j_icmp_neT {x y : Int32} {off : Int} {tgt : Nat} (hd : decode M.2.1 pc = .ok (.if_icmp .ne off, 3)) (ht : (pc : Int) + off = (tgt : Int)) (q : ¬ x = y) (kt : jE K M d tgt ls st h Q mc ms) : jE K M d pc ls (.int y :: .int x :: st) h Q mc ms := j_icmp_ne hd ht (fun _ => kt) (fun z => absurd q (by first | exact z | exact fun w => z w | exact not_not_intro z))
theorem j_icmp_neF {x y : Int32} {off : Int} {tgt : Nat} (hd : decode M.2.1 pc = .ok (.if_icmp .ne off, 3)) (ht : (pc : Int) + off = (tgt : Int)) (q : x = y) (kf : jE K M d (pc + 3) ls st h Q mc ms) : jE K M d pc ls (.int y :: .int x :: st) h Q mc ms := j_icmp_ne hd ht (fun z => absurd q (by first | exact z | exact fun w => w z | exact not_not_intro z)) (fun _ => kf)
theorem j_if_lt {x : Int32} {off : Int} {tgt : Nat} (hd : decode M.2.1 pc = .ok (.ifCond .lt off, 3)) (ht : (pc : Int) + off = (tgt : Int)) (kt : x < 0 → jE K M d tgt ls st h Q mc ms) (kf : ¬ x < 0 → jE K M d (pc + 3) ls st h Q mc ms) : jE K M d pc ls (.int x :: st) h Q mc ms :=
  fun p e R s m as bl me c H lo ce sl la hC hc hs hl hw hL => lv_if_lt hC.1 hC.2.1 hd ht (fun q => kt q p e R s m as bl me c H lo ce sl la hC hc hs hl hw hL) (fun q => kf q p e R s m as bl me c H lo ce sl la hC hc hs hl hw hL)
theorem j_if_ltT {x : Int32} {off : Int} {tgt : Nat} (hd : decode M.2.1 pc = .ok (.ifCond .lt off, 3)) (ht : (pc : Int) + off = (tgt : Int)) (q : x < 0) (kt : jE K M d tgt ls st h Q mc ms) : jE K M d pc ls (.int x :: st) h Q mc ms := j_if_lt hd ht (fun _ => kt) (fun z => absurd q (by first | exact z | exact fun w => z w | exact not_not_intro z))
theorem j_if_ltF {x : Int32} {off : Int} {tgt : Nat} (hd : decode M.2.1 pc = .ok (.ifCond .lt off, 3)) (ht : (pc : Int) + off = (tgt : Int)) (q : ¬ x < 0) (kf : jE K M d (pc + 3) ls st h Q mc ms) : jE K M d pc ls (.int x :: st) h Q mc ms := j_if_lt hd ht (fun z => absurd q (by first | exact z | exact fun w => w z | exact not_not_intro z)) (fun _ => kf)
theorem j_icmp_lt {x y : Int32} {off : Int} {tgt : Nat} (hd : decode M.2.1 pc = .ok (.if_icmp .lt off, 3)) (ht : (pc : Int) + off = (tgt : Int)) (kt : x < y → jE K M d tgt ls st h Q mc ms) (kf : ¬ x < y → jE K M d (pc + 3) ls st h Q mc ms) : jE K M d pc ls (.int y :: .int x :: st) h Q mc ms :=
  fun p e R s m as bl me c H lo ce sl la hC hc hs hl hw hL => lv_icmp_lt hC.1 hC.2.1 hd ht (fun q => kt q p e R s m as bl me c H lo ce sl la hC hc hs hl hw hL) (fun q => kf q p e R s m as bl me c H lo ce sl la hC hc hs hl hw hL)
theorem j_icmp_ltT {x y : Int32} {off : Int} {tgt : Nat} (hd : decode M.2.1 pc = .ok (.if_icmp .lt off, 3)) (ht : (pc : Int) + off = (tgt : Int)) (q : x < y) (kt : jE K M d tgt ls st h Q mc ms) : jE K M d pc ls (.int y :: .int x :: st) h Q mc ms := j_icmp_lt hd ht (fun _ => kt) (fun z => absurd q (by first | exact z | exact fun w => z w | exact not_not_intro z))
theorem j_icmp_ltF {x y : Int32} {off : Int} {tgt : Nat} (hd : decode M.2.1 pc = .ok (.if_icmp .lt off, 3)) (ht : (pc : Int) + off = (tgt : Int)) (q : ¬ x < y) (kf : jE K M d (pc + 3) ls st h Q mc ms) : jE K M d pc ls (.int y :: .int x :: st) h Q mc ms := j_icmp_lt hd ht (fun z => absurd q (by first | exact z | exact fun w => w z | exact not_not_intro z)) (fun _ => kf)
theorem j_if_ge {x : Int32} {off : Int} {tgt : Nat} (hd : decode M.2.1 pc = .ok (.ifCond .ge off, 3)) (ht : (pc : Int) + off = (tgt : Int)) (kt : 0 ≤ x → jE K M d tgt ls st h Q mc ms) (kf : ¬ 0 ≤ x → jE K M d (pc + 3) ls st h Q mc ms) : jE K M d pc ls (.int x :: st) h Q mc ms :=
  fun p e R s m as bl me c H lo ce sl la hC hc hs hl hw hL => lv_if_ge hC.1 hC.2.1 hd ht (fun q => kt q p e R s m as bl me c H lo ce sl la hC hc hs hl hw hL) (fun q => kf q p e R s m as bl me c H lo ce sl la hC hc hs hl hw hL)
theorem j_if_geT {x : Int32} {off : Int} {tgt : Nat} (hd : decode M.2.1 pc = .ok (.ifCond .ge off, 3)) (ht : (pc : Int) + off = (tgt : Int)) (q : 0 ≤ x) (kt : jE K M d tgt ls st h Q mc ms) : jE K M d pc ls (.int x :: st) h Q mc ms := j_if_ge hd ht (fun _ => kt) (fun z => absurd q (by first | exact z | exact fun w => z w | exact not_not_intro z))
theorem j_if_geF {x : Int32} {off : Int} {tgt : Nat} (hd : decode M.2.1 pc = .ok (.ifCond .ge off, 3)) (ht : (pc : Int) + off = (tgt : Int)) (q : ¬ 0 ≤ x) (kf : jE K M d (pc + 3) ls st h Q mc ms) : jE K M d pc ls (.int x :: st) h Q mc ms := j_if_ge hd ht (fun z => absurd q (by first | exact z | exact fun w => w z | exact not_not_intro z)) (fun _ => kf)
theorem j_icmp_ge {x y : Int32} {off : Int} {tgt : Nat} (hd : decode M.2.1 pc = .ok (.if_icmp .ge off, 3)) (ht : (pc : Int) + off = (tgt : Int)) (kt : y ≤ x → jE K M d tgt ls st h Q mc ms) (kf : ¬ y ≤ x → jE K M d (pc + 3) ls st h Q mc ms) : jE K M d pc ls (.int y :: .int x :: st) h Q mc ms :=
  fun p e R s m as bl me c H lo ce sl la hC hc hs hl hw hL => lv_icmp_ge hC.1 hC.2.1 hd ht (fun q => kt q p e R s m as bl me c H lo ce sl la hC hc hs hl hw hL) (fun q => kf q p e R s m as bl me c H lo ce sl la hC hc hs hl hw hL)
theorem j_icmp_geT {x y : Int32} {off : Int} {tgt : Nat} (hd : decode M.2.1 pc = .ok (.if_icmp .ge off, 3)) (ht : (pc : Int) + off = (tgt : Int)) (q : y ≤ x) (kt : jE K M d tgt ls st h Q mc ms) : jE K M d pc ls (.int y :: .int x :: st) h Q mc ms := j_icmp_ge hd ht (fun _ => kt) (fun z => absurd q (by first | exact z | exact fun w => z w | exact not_not_intro z))
theorem j_icmp_geF {x y : Int32} {off : Int} {tgt : Nat} (hd : decode M.2.1 pc = .ok (.if_icmp .ge off, 3)) (ht : (pc : Int) + off = (tgt : Int)) (q : ¬ y ≤ x) (kf : jE K M d (pc + 3) ls st h Q mc ms) : jE K M d pc ls (.int y :: .int x :: st) h Q mc ms := j_icmp_ge hd ht (fun z => absurd q (by first | exact z | exact fun w => w z | exact not_not_intro z)) (fun _ => kf)
theorem j_if_gt {x : Int32} {off : Int} {tgt : Nat} (hd : decode M.2.1 pc = .ok (.ifCond .gt off, 3)) (ht : (pc : Int) + off = (tgt : Int)) (kt : 0 < x → jE K M d tgt ls st h Q mc ms) (kf : ¬ 0 < x → jE K M d (pc + 3) ls st h Q mc ms) : jE K M d pc ls (.int x :: st) h Q mc ms :=
  fun p e R s m as bl me c H lo ce sl la hC hc hs hl hw hL => lv_if_gt hC.1 hC.2.1 hd ht (fun q => kt q p e R s m as bl me c H lo ce sl la hC hc hs hl hw hL) (fun q => kf q p e R s m as bl me c H lo ce sl la hC hc hs hl hw hL)
theorem j_if_gtT {x : Int32} {off : Int} {tgt : Nat} (hd : decode M.2.1 pc = .ok (.ifCond .gt off, 3)) (ht : (pc : Int) + off = (tgt : Int)) (q : 0 < x) (kt : jE K M d tgt ls st h Q mc ms) : jE K M d pc ls (.int x :: st) h Q mc ms := j_if_gt hd ht (fun _ => kt) (fun z => absurd q (by first | exact z | exact fun w => z w | exact not_not_intro z))
theorem j_if_gtF {x : Int32} {off : Int} {tgt : Nat} (hd : decode M.2.1 pc = .ok (.ifCond .gt off, 3)) (ht : (pc : Int) + off = (tgt : Int)) (q : ¬ 0 < x) (kf : jE K M d (pc + 3) ls st h Q mc ms) : jE K M d pc ls (.int x :: st) h Q mc ms := j_if_gt hd ht (fun z => absurd q (by first | exact z | exact fun w => w z | exact not_not_intro z)) (fun _ => kf)
theorem j_icmp_gt {x y : Int32} {off : Int} {tgt : Nat} (hd : decode M.2.1 pc = .ok (.if_icmp .gt off, 3)) (ht : (pc : Int) + off = (tgt : Int)) (kt : y < x → jE K M d tgt ls st h Q mc ms) (kf : ¬ y < x → jE K M d (pc + 3) ls st h Q mc ms) : jE K M d pc ls (.int y :: .int x :: st) h Q mc ms :=
  fun p e R s m as bl me c H lo ce sl la hC hc hs hl hw hL => lv_icmp_gt hC.1 hC.2.1 hd ht (fun q => kt q p e R s m as bl me c H lo ce sl la hC hc hs hl hw hL) (fun q => kf q p e R s m as bl me c H lo ce sl la hC hc hs hl hw hL)
theorem j_icmp_gtT {x y : Int32} {off : Int} {tgt : Nat} (hd : decode M.2.1 pc = .ok (.if_icmp .gt off, 3)) (ht : (pc : Int) + off = (tgt : Int)) (q : y < x) (kt : jE K M d tgt ls st h Q mc ms) : jE K M d pc ls (.int y :: .int x :: st) h Q mc ms := j_icmp_gt hd ht (fun _ => kt) (fun z => absurd q (by first | exact z | exact fun w => z w | exact not_not_intro z))
theorem j_icmp_gtF {x y : Int32} {off : Int} {tgt : Nat} (hd : decode M.2.1 pc = .ok (.if_icmp .gt off, 3)) (ht : (pc : Int) + off = (tgt : Int)) (q : ¬ y < x) (kf : jE K M d (pc + 3) ls st h Q mc ms) : jE K M d pc ls (.int y :: .int x :: st) h Q mc ms := j_icmp_gt hd ht (fun z => absurd q (by first | exact z | exact fun w => w z | exact not_not_intro z)) (fun _ => kf)
theorem j_if_le {x : Int32} {off : Int} {tgt : Nat} (hd : decode M.2.1 pc = .ok (.ifCond .le off, 3)) (ht : (pc : Int) + off = (tgt : Int)) (kt : x ≤ 0 → jE K M d tgt ls st h Q mc ms) (kf : ¬ x ≤ 0 → jE K M d (pc + 3) ls st h Q mc ms) : jE K M d pc ls (.int x :: st) h Q mc ms :=
  fun p e R s m as bl me c H lo ce sl la hC hc hs hl hw hL => lv_if_le hC.1 hC.2.1 hd ht (fun q => kt q p e R s m as bl me c H lo ce sl la hC hc hs hl hw hL) (fun q => kf q p e R s m as bl me c H lo ce sl la hC hc hs hl hw hL)
theorem j_if_leT {x : Int32} {off : Int} {tgt : Nat} (hd : decode M.2.1 pc = .ok (.ifCond .le off, 3)) (ht : (pc : Int) + off = (tgt : Int)) (q : x ≤ 0) (kt : jE K M d tgt ls st h Q mc ms) : jE K M d pc ls (.int x :: st) h Q mc ms := j_if_le hd ht (fun _ => kt) (fun z => absurd q (by first | exact z | exact fun w => z w | exact not_not_intro z))
theorem j_if_leF {x : Int32} {off : Int} {tgt : Nat} (hd : decode M.2.1 pc = .ok (.ifCond .le off, 3)) (ht : (pc : Int) + off = (tgt : Int)) (q : ¬ x ≤ 0) (kf : jE K M d (pc + 3) ls st h Q mc ms) : jE K M d pc ls (.int x :: st) h Q mc ms := j_if_le hd ht (fun z => absurd q (by first | exact z | exact fun w => w z | exact not_not_intro z)) (fun _ => kf)
theorem j_icmp_le {x y : Int32} {off : Int} {tgt : Nat} (hd : decode M.2.1 pc = .ok (.if_icmp .le off, 3)) (ht : (pc : Int) + off = (tgt : Int)) (kt : x ≤ y → jE K M d tgt ls st h Q mc ms) (kf : ¬ x ≤ y → jE K M d (pc + 3) ls st h Q mc ms) : jE K M d pc ls (.int y :: .int x :: st) h Q mc ms :=
  fun p e R s m as bl me c H lo ce sl la hC hc hs hl hw hL => lv_icmp_le hC.1 hC.2.1 hd ht (fun q => kt q p e R s m as bl me c H lo ce sl la hC hc hs hl hw hL) (fun q => kf q p e R s m as bl me c H lo ce sl la hC hc hs hl hw hL)
theorem j_icmp_leT {x y : Int32} {off : Int} {tgt : Nat} (hd : decode M.2.1 pc = .ok (.if_icmp .le off, 3)) (ht : (pc : Int) + off = (tgt : Int)) (q : x ≤ y) (kt : jE K M d tgt ls st h Q mc ms) : jE K M d pc ls (.int y :: .int x :: st) h Q mc ms := j_icmp_le hd ht (fun _ => kt) (fun z => absurd q (by first | exact z | exact fun w => z w | exact not_not_intro z))
theorem j_icmp_leF {x y : Int32} {off : Int} {tgt : Nat} (hd : decode M.2.1 pc = .ok (.if_icmp .le off, 3)) (ht : (pc : Int) + off = (tgt : Int)) (q : ¬ x ≤ y) (kf : jE K M d (pc + 3) ls st h Q mc ms) : jE K M d pc ls (.int y :: .int x :: st) h Q mc ms := j_icmp_le hd ht (fun z => absurd q (by first | exact z | exact fun w => w z | exact not_not_intro z)) (fun _ => kf)
theorem j_lg_mem {ls : List (Nat × Value)} {i : Nat} {v : Value} (h : j_lg ls i = some v) : (i, v) ∈ ls := by
  induction ls with
  | nil => cases h
  | cons q r ih =>
    unfold j_lg at h
    split at h
    · rename_i hq
      cases h
      rw [← hq]
      exact List.mem_cons_self
    · exact List.mem_cons_of_mem _ (ih h)
theorem j_iinc {i : Nat} {n : Int} {x v : Int32} (hd : decode M.2.1 pc = .ok (.iinc i n, 3)) (hg : j_lg ls i = some (.int x)) (hv : x + Int32.ofInt n = v) (hn : i < M.2.2.1) (k : jE K M d (pc + 3) (j_ls ls i (.int v)) st h Q mc ms) : jE K M d pc ls st h Q mc ms := by
  intro p e R s m as bl me c H lo ce sl la hC hc hs hl hw hL
  obtain ⟨k0, hk0⟩ := List.getElem?_of_mem (List.mem_map.mpr ⟨(i, .int x), j_lg_mem hg, rfl⟩ : (j_l K (i, .int x)) ∈ ls.map (j_l K))
  exact lv_iinc hC.1 hC.2.1 hd hl (k := k0) (x := x) hk0 hv hn (j_ls_map K ls i (.int v)) (fun la' hl' => k p e R s m as bl me c H lo ce sl la' hC hc hs hl' hw hL)
/-- the top of the stack under another name -/
theorem j_top {v w : Value} (hv : v = w) (k : jE K M d pc ls (w :: st) h Q mc ms) : jE K M d pc ls (v :: st) h Q mc ms := hv ▸ k
theorem j_st {st' : List Value} (hv : st = st') (k : jE K M d pc ls st' h Q mc ms) : jE K M d pc ls st h Q mc ms := hv ▸ k
theorem j_lsr {ls' : List (Nat × Value)} (hv : ls = ls') (k : jE K M d pc ls' st h Q mc ms) : jE K M d pc ls st h Q mc ms := hv ▸ k
theorem j_hp {h' : jH} (hv : h = h') (k : jE K M d pc ls st h' Q mc ms) : jE K M d pc ls st h Q mc ms := hv ▸ k
/-- fewer locals, in any order -/
theorem j_few {ls' : List (Nat × Value)} (hs : ∀ q ∈ ls', j_lg ls q.1 = some q.2) (k : jE K M d pc ls' st h Q mc ms) : jE K M d pc ls st h Q mc ms :=
  fun p e R s m as bl me c H lo ce sl la hC hc hs' hl hw hL => k p e R s m as bl me c H lo ce sl la hC hc hs' ⟨hl.1, hl.2.1, fun q hq => by
    obtain ⟨r, hr, rfl⟩ := List.mem_map.mp hq
    exact j_lg_at hl (hs r hr)⟩ hw hL
theorem j_wide {mc' ms' : Nat} {Q' : jO → jH → Prop} (h1 : mc' ≤ mc) (h2 : ms' ≤ ms) (hQ : ∀ o g, Q' o g → Q o g) (k : jE K M d pc ls st h Q' mc' ms') : jE K M d pc ls st h Q mc ms :=
  fun p e R s m as bl me c H lo ce sl la hC hc hs hl hw hL => j_mono (fun t => by
    rintro ⟨o, mo, h', L, a1, a2, a3, a4, a5, a6, a7, a8⟩
    exact ⟨o, mo, h', L, a1, a2, a3, hQ _ _ a4, a5, a6, a7.mono (by omega) (by omega), a8⟩) (k p e R s m as bl me c H lo ce sl la hC (by omega) (by omega) hl hw hL)
/-! returns -/
theorem j_iret {v : Int32} (hr : M.2.2.2.1 = some .int) (hd : decode M.2.1 pc = .ok (.ireturn, 1)) (hq : Q (.inl (some (.int v))) h) : jE K M d pc ls [.int v] h Q mc ms := by
  intro p e R s m as bl me c H lo ce sl la hC hc hs hl hw hL
  have hlocks := hC.2.2.2.2.2.2.1
  refine j_mono ?_ (W.iret (Qc := fun _ _ o t => o = .returned (some (.int v)) ∧ t.heap = H) (free := fun q => K.2.1 ≤ q) hC.1 hC.2.1 (hC.2.2.2.2.2.1.trans hr) (fun t ht _ => ⟨rfl, ht⟩) hL hd hlocks)
  rintro t ⟨o, h1, h2, ⟨rfl, hh⟩, L, ⟨-, hW, hsame⟩, hL'⟩
  exact ⟨_, .inl (some (.int v)), h, L, h1, h2, rfl, hq, hh ▸ hw, hW, hsame.mono (by simp [j_xc]) (by simp [j_xc]), hL'⟩
theorem j_zret {v : Int32} {ty : FieldType} (hr : M.2.2.2.1 = some ty) (hn : narrow ty (.int v) = .int v) (hd : decode M.2.1 pc = .ok (.ireturn, 1)) (hq : Q (.inl (some (.int v))) h) : jE K M d pc ls [.int v] h Q mc ms := by
  intro p e R s m as bl me c H lo ce sl la hC hc hs hl hw hL
  have hlocks := hC.2.2.2.2.2.2.1
  refine j_mono ?_ (W.zret (Qc := fun _ _ o t => o = .returned (some (.int v)) ∧ t.heap = H) (free := fun q => K.2.1 ≤ q) hC.1 hC.2.1 (hC.2.2.2.2.2.1.trans hr) hn (fun t ht _ => ⟨rfl, ht⟩) hL hd hlocks)
  rintro t ⟨o, h1, h2, ⟨rfl, hh⟩, L, ⟨-, hW, hsame⟩, hL'⟩
  exact ⟨_, .inl (some (.int v)), h, L, h1, h2, rfl, hq, hh ▸ hw, hW, hsame.mono (by simp [j_xc]) (by simp [j_xc]), hL'⟩
theorem j_vret (hr : M.2.2.2.1 = none) (hd : decode M.2.1 pc = .ok (.return_, 1)) (hq : Q (.inl none) h) : jE K M d pc ls [] h Q mc ms := by
  intro p e R s m as bl me c H lo ce sl la hC hc hs hl hw hL
  have hlocks := hC.2.2.2.2.2.2.1
  refine j_mono ?_ (W.vret (Qc := fun _ _ o t => o = .returned none ∧ t.heap = H) (free := fun q => K.2.1 ≤ q) hC.1 hC.2.1 (hC.2.2.2.2.2.1.trans hr) (fun t ht _ => ⟨rfl, ht⟩) hL hd hlocks)
  rintro t ⟨o, h1, h2, ⟨rfl, hh⟩, L, ⟨-, hW, hsame⟩, hL'⟩
  exact ⟨_, .inl none, h, L, h1, h2, rfl, hq, hh ▸ hw, hW, hsame.mono (by simp [j_xc]) (by simp [j_xc]), hL'⟩
theorem j_aret {i : Nat} {rt : FieldType} (hr : M.2.2.2.1 = some rt) (hrt : (∃ n, rt = .object n) ∨ ∃ t, rt = .array t) (hd : decode M.2.1 pc = .ok (.areturn, 1)) (hq : Q (.inl (some (.ref i))) h) : jE K M d pc ls [.ref i] h Q mc ms := by
  intro p e R s m as bl me c H lo ce sl la hC hc hs hl hw hL
  have hlocks := hC.2.2.2.2.2.2.1
  refine j_mono ?_ (W.aret (Qc := fun _ _ o t => o = .returned (some (.ref (j_adr K i))) ∧ t.heap = H) (free := fun q => K.2.1 ≤ q) hC.1 hC.2.1 (hC.2.2.2.2.2.1.trans hr) hrt (Or.inr ⟨_, rfl⟩) (fun t ht _ => ⟨rfl, ht⟩) hL hd hlocks)
  rintro t ⟨o, h1, h2, ⟨rfl, hh⟩, L, ⟨-, hW, hsame⟩, hL'⟩
  exact ⟨_, .inl (some (.ref i)), h, L, h1, h2, rfl, hq, hh ▸ hw, hW, hsame.mono (by simp [j_xc]) (by simp [j_xc]), hL'⟩
end JROWS
