/-! the law from its entry: what the Statement gives of the start, told as K -/
def R_law : String := "BitLoomLaw"
def lw_P (b : Addr) (xs : List Int32) (args : Array Value) (s : State) : Prop := args = #[.ref b] ∧ s.IntsAt b xs ∧ xs.length ≤ 2560 ∧ (Jvm.Cond.and given_1 narrow_1).before args s = true
def lw_Q (_ : Array Value) (s : State) (o : Outcome) (t : State) : Prop := o = .returned (some (.int 1)) ∧ Framed s o t [] 601024 7293034
def lw_Z (below : List Frame) (a : Array Value) (s : State) : State → Prop := fun t => ∃ o, t.status = .running ∧ Ended t below o ∧ lw_Q a s o t
def lw_At (p : Program) (s : State) (m : MethodId) (meth : Method) (c : Code) (b L : Nat) (xs : Nat → Int32) : Prop :=
  p.tables.exec = Jvm.exec ∧ c.code = code ∧ meth.sig.returnType = ret ∧ c.maxLocals = 7 ∧ s.vm.findClass R_law = some m.cls ∧ (∀ w ∈ lw_tbl, w.before #[Value.ref b] s = true) ∧ va_X b L xs s s.heap ∧ b < s.heap.size ∧ meth.locks = false ∧ (Jvm.Cond.and given_1 narrow_1).before #[Value.ref b] s = true
def jtm (i : Nat) : Term := match i with
  | 0 => .string "BitLoom$Action" 46
  | 1 => .string "BitLoom$Action" 52
  | 2 => .string "BitLoom$Action" 55
  | 3 => .string "BitLoom$Action" 58
  | 4 => .string "BitLoom$Action" 61
  | 5 => .string "BitLoom$Action" 64
  | 6 => .string "BitLoom$Statement" 93
  | _ => .string "BitLoom$Tokens" 64
theorem arr_known {args : Array Value} {s : State} {ty : FieldType} (h : (Cond.arrayClass ty).before args s = true) (hra : ∀ cA : ClassId, s.vm.findClass ("[" ++ ty.toString) = some cA → va_RA s cA ty) : ∃ cA : ClassId, ArrOfT s cA ty ∧ va_RA s cA ty := by
  obtain ⟨cA, kA, comp, h1, h2, h3⟩ := Cond.arrayClass_spec h
  exact ⟨cA, fun n z => ⟨fun k h => (by cases h), kA, h2, comp, h3⟩, hra cA h1⟩
theorem lt6 {P : Nat → Prop} (h0 : P 0) (h1 : P 1) (h2 : P 2) (h3 : P 3) (h4 : P 4) (h5 : P 5) : ∀ i, i < 6 → P i := fun i hi => by
  rcases (by omega : i = 0 ∨ i = 1 ∨ i = 2 ∨ i = 3 ∨ i = 4 ∨ i = 5) with rfl | rfl | rfl | rfl | rfl | rfl <;> assumption
theorem lt8 {P : Nat → Prop} (h0 : P 0) (h1 : P 1) (h2 : P 2) (h3 : P 3) (h4 : P 4) (h5 : P 5) (h6 : P 6) (h7 : P 7) : ∀ i, i < 8 → P i := fun i hi => by
  rcases (by omega : i = 0 ∨ i = 1 ∨ i = 2 ∨ i = 3 ∨ i = 4 ∨ i = 5 ∨ i = 6 ∨ i = 7) with rfl | rfl | rfl | rfl | rfl | rfl | rfl | rfl <;> assumption
theorem jLS_of {K : jK} {args : Array Value} {s : State} (hK : K.2.2.1 = s.heap) {C n d : String} (hl : (Cond.laysStatic C n d).before args s = true) (h : (Cond.isRef (.static C n d)).before args s = true) : jLS K C n d s := by
  obtain ⟨c, k, i, f, a, cell, hc, hi, hst, ha, hcell, hs, hcls, hlt, hty⟩ := Cond.laysStatic_spec hl
  cases hv : (Term.static C n d).eval args s none [] s with
  | none => simp [Cond.before, Cond.holds, Cond.value, hv] at h
  | some w =>
    simp only [Cond.before, Cond.holds, Cond.value, hv] at h
    obtain ⟨hst', a', cell', ha', hcell', -, hslot⟩ := Term.static_spec hi hv
    cases ha.symm.trans ha'
    cases hcell.symm.trans hcell'
    refine ⟨c, k, i, f, a, cell, hc, hi, hst, ha, by rw [hK]; exact hcell, hs, hcls, hlt, hty, ?_⟩
    cases w with
    | null => exact .inl hslot
    | ref t => exact .inr ⟨t, hslot⟩
    | _ => simp at h
theorem va_T_ext {ty : FieldType} {t N : Nat} {f g : Nat → Value} {A : Nat → Prop} {U : State} {H : Heap} (h : va_T ty t N f A U H) (e : ∀ j, j < N → f j = g j) : va_T ty t N g A U H := by
  obtain ⟨cell, h1, h2, h3, h4, h5, h6, h7⟩ := h
  exact ⟨cell, h1, h2, h3, h4, h5, fun j hj => by rw [h6 j hj, e j hj], h7⟩
theorem va_En_ext {E d : String} {nm : List String} {F : List (String × String × String × List Int32)} {ad ad' : Nat → Nat} {A : Nat → Prop} {U : State} {H : Heap} (h : va_En E d nm F ad A U H) (e : ∀ i, i < nm.length → ad i = ad' i) : va_En E d nm F ad' A U H :=
  ⟨fun i hi => by rw [← e i hi]; exact h.1 i hi, fun i j hi hj q => h.2 i j hi hj (by rw [e i hi, e j hj]; exact q)⟩
theorem vk_S_ext {N : Nat} {len : List Nat} {byt : List (List Int32)} {a v a' v' : Nat → Nat} {A : Nat → Prop} {U : State} {H : Heap} (h : vk_S N len byt a v A U H) (e : ∀ i, i < N → a i = a' i) (e2 : ∀ i, i < N → v i = v' i) : vk_S N len byt a' v' A U H :=
  ⟨fun i hi => by rw [← e i hi, ← e2 i hi]; exact h.1 i hi, fun i j hi hj q => h.2 i j hi hj (by rw [e i hi, e j hj]; exact q)⟩
/-- the constants' addresses -/
def xAd (b t1 t24 t25 : Nat) (ad adK adV : Nat → Nat) (i : Nat) : Nat := if i = 0 then b else if i = 1 then t1 else if i < 8 then ad (i - 2) else if i < 16 then adK (i - 8) else if i < 24 then adV (i - 16) else if i = 24 then t24 else t25
section XAD
variable (b t1 t24 t25 : Nat) (ad adK adV : Nat → Nat)
theorem xAd_e {i : Nat} (hi : i < 6) : ad i = xAd b t1 t24 t25 ad adK adV (2 + i) := by
  unfold xAd
  rw [if_neg (by omega), if_neg (by omega), if_pos (by omega), show 2 + i - 2 = i by omega]
theorem xAd_k {i : Nat} (hi : i < 8) : adK i = xAd b t1 t24 t25 ad adK adV (8 + i) := by
  unfold xAd
  rw [if_neg (by omega), if_neg (by omega), if_neg (by omega), if_pos (by omega), show 8 + i - 8 = i by omega]
theorem xAd_v {i : Nat} (hi : i < 8) : adV i = xAd b t1 t24 t25 ad adK adV (16 + i) := by
  unfold xAd
  rw [if_neg (by omega), if_neg (by omega), if_neg (by omega), if_neg (by omega), if_pos (by omega), show 16 + i - 16 = i by omega]
end XAD
set_option maxHeartbeats 4000000 in
theorem jK_start {p : Program} {s : State} {m : MethodId} {meth : Method} {c : Code} (l : Launch) (hfl : l.flags = flags0) {b L : Nat} {xs : Nat → Int32} (C0 : lw_At p s m meth c b L xs) : ∃ K : jK, K.1 = l ∧ K.2.1 = s.heap.size ∧ K.2.2.1 = s.heap ∧ j_x K 0 = b ∧ scL K = L ∧ scX K = xs ∧ va_K K.2.2.2.1 classes (j_ty K) s ∧ jX K s := by
  obtain ⟨hexec, hcode, hret, hml, hown, hts, hX, hbl, hlocks, hgv⟩ := C0
  have hs := flat_of_before _ hgv
  have hA : ∀ a : Nat, a < s.heap.size → ¬ (fun q : Nat => s.heap.size ≤ q) a := fun a h => Nat.not_le.mpr h
  have ht : ∀ (i : Nat) (w : Cond), tables_1[i]? = some w → w.before #[Value.ref b] s = true := fun i w h => hts w (List.mem_append_right _ (List.mem_of_getElem? h))
  have hjt : ∀ w ∈ jt, w.before #[Value.ref b] s = true := fun w hw => hts w (List.mem_filter.mp hw).1
  obtain ⟨c0, i0, k0⟩ := u_known hjt in_B (ht 29 (.instantiable "BitLoom" 7) (by decide +kernel))
  obtain ⟨c1, i1, k1⟩ := u_known hjt in_F (ht 37 (.instantiable "BitLoom$Fields" 6) (by decide +kernel))
  obtain ⟨c2, i2, k2⟩ := u_known hjt in_W (ht 65 (.instantiable "BitLoom$Words" 3) (by decide +kernel))
  obtain ⟨c3, i3, k3⟩ := u_known hjt in_T (ht 81 (.instantiable "BitLoom$Text" 2) (by decide +kernel))
  obtain ⟨c4, i4, k4⟩ := u_known hjt in_K (ht 100 (.instantiable "BitLoom$Tokens" 6) (by decide +kernel))
  obtain ⟨c5, i5, k5⟩ := u_known hjt in_O (ht 131 (.instantiable "BitLoom$Operand" 3) (by decide +kernel))
  obtain ⟨c6, i6, k6⟩ := u_known hjt in_P (ht 125 (.instantiable "BitLoom$Pair" 3) (by decide +kernel))
  obtain ⟨c7, i7, k7⟩ := u_known hjt in_C (ht 160 (.instantiable "BitLoom$Change" 3) (by decide +kernel))
  obtain ⟨c8, i8, k8⟩ := u_known hjt in_S (ht 94 (.instantiable "BitLoom$Statement" 11) (by decide +kernel))
  obtain ⟨c9, i9, k9⟩ := u_known hjt in_M (ht 911 (.instantiable "BitLoomModel" 38) (by decide +kernel))
  obtain ⟨c10, i10, k10⟩ := u_known (C := R_XA) (T := T_XA) (N := 0) hjt (fun w hw => by cases hw) (ht 338 (.instantiable "java/lang/IllegalArgumentException" 6) (by decide +kernel))
  obtain ⟨c11, i11, k11⟩ := u_known (C := R_XN) (T := T_XN) (N := 0) hjt (fun w hw => by cases hw) (ht 437 (.instantiable "java/util/NoSuchElementException" 6) (by decide +kernel))
  obtain ⟨c12, i12, k12⟩ := u_known (C := R_XS) (T := T_XS) (N := 0) hjt (fun w hw => by cases hw) (ht 406 (.instantiable "java/lang/IllegalStateException" 6) (by decide +kernel))
  obtain ⟨c13, i13, k13⟩ := u_known (C := R_XI) (T := T_XI) (N := 0) hjt (fun w hw => by cases hw) (ht 896 (.instantiable "java/lang/IndexOutOfBoundsException" 6) (by decide +kernel))
  obtain ⟨a0, r0, q0⟩ := arr_known (ht 62 (.arrayClass .int) (by decide +kernel)) (fun cA h => h)
  obtain ⟨a1, r1, q1⟩ := arr_known (ht 61 (.arrayClass .char) (by decide +kernel)) (fun cA h => h)
  obtain ⟨a2, r2, q2⟩ := arr_known (ht 63 (.arrayClass .boolean) (by decide +kernel)) (fun cA h => h)
  obtain ⟨a3, r3, q3⟩ := arr_known (ht 1260 (.arrayClass .long) (by decide +kernel)) (fun cA h => h)
  have hdif : ∀ i, i < 6 → ∀ j, j < 6 → i ≠ j → (Cond.not (.eq (.static "BitLoom$Action" (["SET", "MAX", "MIN", "SUM", "LIST", "COUNT"].getD i "") "LBitLoom$Action;") (.static "BitLoom$Action" (["SET", "MAX", "MIN", "SUM", "LIST", "COUNT"].getD j "") "LBitLoom$Action;"))).before #[Value.ref b] s = true ∨ (Cond.not (.eq (.static "BitLoom$Action" (["SET", "MAX", "MIN", "SUM", "LIST", "COUNT"].getD j "") "LBitLoom$Action;") (.static "BitLoom$Action" (["SET", "MAX", "MIN", "SUM", "LIST", "COUNT"].getD i "") "LBitLoom$Action;"))).before #[Value.ref b] s = true :=
    lt6 (lt6 (fun h => absurd rfl h) (fun _ => .inl (hs _ (by decide +kernel))) (fun _ => .inl (hs _ (by decide +kernel))) (fun _ => .inl (hs _ (by decide +kernel))) (fun _ => .inl (hs _ (by decide +kernel))) (fun _ => .inr (hs _ (by decide +kernel)))) (lt6 (fun _ => .inr (hs _ (by decide +kernel))) (fun h => absurd rfl h) (fun _ => .inl (hs _ (by decide +kernel))) (fun _ => .inl (hs _ (by decide +kernel))) (fun _ => .inl (hs _ (by decide +kernel))) (fun _ => .inr (hs _ (by decide +kernel)))) (lt6 (fun _ => .inr (hs _ (by decide +kernel))) (fun _ => .inr (hs _ (by decide +kernel))) (fun h => absurd rfl h) (fun _ => .inl (hs _ (by decide +kernel))) (fun _ => .inl (hs _ (by decide +kernel))) (fun _ => .inr (hs _ (by decide +kernel)))) (lt6 (fun _ => .inr (hs _ (by decide +kernel))) (fun _ => .inr (hs _ (by decide +kernel))) (fun _ => .inr (hs _ (by decide +kernel))) (fun h => absurd rfl h) (fun _ => .inl (hs _ (by decide +kernel))) (fun _ => .inr (hs _ (by decide +kernel)))) (lt6 (fun _ => .inr (hs _ (by decide +kernel))) (fun _ => .inr (hs _ (by decide +kernel))) (fun _ => .inr (hs _ (by decide +kernel))) (fun _ => .inr (hs _ (by decide +kernel))) (fun h => absurd rfl h) (fun _ => .inr (hs _ (by decide +kernel)))) (lt6 (fun _ => .inl (hs _ (by decide +kernel))) (fun _ => .inl (hs _ (by decide +kernel))) (fun _ => .inl (hs _ (by decide +kernel))) (fun _ => .inl (hs _ (by decide +kernel))) (fun _ => .inl (hs _ (by decide +kernel))) (fun h => absurd rfl h))
  obtain ⟨ad, hEn, hEv⟩ := va_Enof2 (A := fun q : Nat => s.heap.size ≤ q) (E := "BitLoom$Action") (d := "LBitLoom$Action;") (nm := ["SET", "MAX", "MIN", "SUM", "LIST", "COUNT"]) (F := [("java/lang/Enum", "ordinal", "I", [0, 1, 2, 3, 4, 5])]) (lt6 (ht 792 (.laysStatic "BitLoom$Action" "SET" "LBitLoom$Action;") (by decide +kernel)) (ht 806 (.laysStatic "BitLoom$Action" "MAX" "LBitLoom$Action;") (by decide +kernel)) (ht 808 (.laysStatic "BitLoom$Action" "MIN" "LBitLoom$Action;") (by decide +kernel)) (ht 1267 (.laysStatic "BitLoom$Action" "SUM" "LBitLoom$Action;") (by decide +kernel)) (ht 1268 (.laysStatic "BitLoom$Action" "LIST" "LBitLoom$Action;") (by decide +kernel)) (ht 180 (.laysStatic "BitLoom$Action" "COUNT" "LBitLoom$Action;") (by decide +kernel))) (ht 11 (.initialized "BitLoom$Action") (by decide +kernel)) (lt6 (hs _ (by decide +kernel)) (hs _ (by decide +kernel)) (hs _ (by decide +kernel)) (hs _ (by decide +kernel)) (hs _ (by decide +kernel)) (hs _ (by decide +kernel))) (fun q hq => by
    rw [List.mem_singleton.mp hq]
    exact lt6 (hs _ (by decide +kernel)) (hs _ (by decide +kernel)) (hs _ (by decide +kernel)) (hs _ (by decide +kernel)) (hs _ (by decide +kernel)) (hs _ (by decide +kernel))) (fun i j hi hj => hdif i hi j hj) hA
  have sne : ∀ i, i < 8 → ∀ j, j < 8 → i ≠ j → (Cond.not (Cond.eq (jtm i) (jtm j))).before #[Value.ref b] s = true ∨ (Cond.not (Cond.eq (jtm j) (jtm i))).before #[Value.ref b] s = true :=
    lt8 (lt8 (fun h => absurd rfl h) (fun _ => .inl (hs _ (by decide +kernel))) (fun _ => .inl (hs _ (by decide +kernel))) (fun _ => .inl (hs _ (by decide +kernel))) (fun _ => .inl (hs _ (by decide +kernel))) (fun _ => .inr (hs _ (by decide +kernel))) (fun _ => .inr (hs _ (by decide +kernel))) (fun _ => .inr (hs _ (by decide +kernel)))) (lt8 (fun _ => .inr (hs _ (by decide +kernel))) (fun h => absurd rfl h) (fun _ => .inl (hs _ (by decide +kernel))) (fun _ => .inl (hs _ (by decide +kernel))) (fun _ => .inl (hs _ (by decide +kernel))) (fun _ => .inr (hs _ (by decide +kernel))) (fun _ => .inr (hs _ (by decide +kernel))) (fun _ => .inr (hs _ (by decide +kernel)))) (lt8 (fun _ => .inr (hs _ (by decide +kernel))) (fun _ => .inr (hs _ (by decide +kernel))) (fun h => absurd rfl h) (fun _ => .inl (hs _ (by decide +kernel))) (fun _ => .inl (hs _ (by decide +kernel))) (fun _ => .inr (hs _ (by decide +kernel))) (fun _ => .inr (hs _ (by decide +kernel))) (fun _ => .inr (hs _ (by decide +kernel)))) (lt8 (fun _ => .inr (hs _ (by decide +kernel))) (fun _ => .inr (hs _ (by decide +kernel))) (fun _ => .inr (hs _ (by decide +kernel))) (fun h => absurd rfl h) (fun _ => .inl (hs _ (by decide +kernel))) (fun _ => .inr (hs _ (by decide +kernel))) (fun _ => .inr (hs _ (by decide +kernel))) (fun _ => .inr (hs _ (by decide +kernel)))) (lt8 (fun _ => .inr (hs _ (by decide +kernel))) (fun _ => .inr (hs _ (by decide +kernel))) (fun _ => .inr (hs _ (by decide +kernel))) (fun _ => .inr (hs _ (by decide +kernel))) (fun h => absurd rfl h) (fun _ => .inr (hs _ (by decide +kernel))) (fun _ => .inr (hs _ (by decide +kernel))) (fun _ => .inr (hs _ (by decide +kernel)))) (lt8 (fun _ => .inl (hs _ (by decide +kernel))) (fun _ => .inl (hs _ (by decide +kernel))) (fun _ => .inl (hs _ (by decide +kernel))) (fun _ => .inl (hs _ (by decide +kernel))) (fun _ => .inl (hs _ (by decide +kernel))) (fun h => absurd rfl h) (fun _ => .inr (hs _ (by decide +kernel))) (fun _ => .inr (hs _ (by decide +kernel)))) (lt8 (fun _ => .inl (hs _ (by decide +kernel))) (fun _ => .inl (hs _ (by decide +kernel))) (fun _ => .inl (hs _ (by decide +kernel))) (fun _ => .inl (hs _ (by decide +kernel))) (fun _ => .inl (hs _ (by decide +kernel))) (fun _ => .inl (hs _ (by decide +kernel))) (fun h => absurd rfl h) (fun _ => .inr (hs _ (by decide +kernel)))) (lt8 (fun _ => .inl (hs _ (by decide +kernel))) (fun _ => .inl (hs _ (by decide +kernel))) (fun _ => .inl (hs _ (by decide +kernel))) (fun _ => .inl (hs _ (by decide +kernel))) (fun _ => .inl (hs _ (by decide +kernel))) (fun _ => .inl (hs _ (by decide +kernel))) (fun _ => .inl (hs _ (by decide +kernel))) (fun h => absurd rfl h))
  obtain ⟨adK, adV, hSt, hSv⟩ := vk_Sof (A := fun q : Nat => s.heap.size ≤ q) (args := #[Value.ref b]) (s := s) (N := 8) (tm := jtm) (len := j_txL) (byt := j_tx) (lt8 (by decide) (by decide) (by decide) (by decide) (by decide) (by decide) (by decide) (by decide)) (lt8 (hs _ (by decide +kernel)) (hs _ (by decide +kernel)) (hs _ (by decide +kernel)) (hs _ (by decide +kernel)) (hs _ (by decide +kernel)) (hs _ (by decide +kernel)) (hs _ (by decide +kernel)) (hs _ (by decide +kernel))) (lt8 (hs _ (by decide +kernel)) (hs _ (by decide +kernel)) (hs _ (by decide +kernel)) (hs _ (by decide +kernel)) (hs _ (by decide +kernel)) (hs _ (by decide +kernel)) (hs _ (by decide +kernel)) (hs _ (by decide +kernel))) (lt8 (hs _ (by decide +kernel)) (hs _ (by decide +kernel)) (hs _ (by decide +kernel)) (hs _ (by decide +kernel)) (hs _ (by decide +kernel)) (hs _ (by decide +kernel)) (hs _ (by decide +kernel)) (hs _ (by decide +kernel))) (lt8 (hs _ (by decide +kernel)) (hs _ (by decide +kernel)) (hs _ (by decide +kernel)) (hs _ (by decide +kernel)) (hs _ (by decide +kernel)) (hs _ (by decide +kernel)) (hs _ (by decide +kernel)) (hs _ (by decide +kernel)))
    (lt8 (fun j hj => by
      have hj : j < 3 := hj
      rcases (by omega : j = 0 ∨ j = 1 ∨ j = 2) with rfl | rfl | rfl
      · exact (hs _ (by decide +kernel))
      · exact (hs _ (by decide +kernel))
      · exact (hs _ (by decide +kernel))) (fun j hj => by
      have hj : j < 3 := hj
      rcases (by omega : j = 0 ∨ j = 1 ∨ j = 2) with rfl | rfl | rfl
      · exact (hs _ (by decide +kernel))
      · exact (hs _ (by decide +kernel))
      · exact (hs _ (by decide +kernel))) (fun j hj => by
      have hj : j < 3 := hj
      rcases (by omega : j = 0 ∨ j = 1 ∨ j = 2) with rfl | rfl | rfl
      · exact (hs _ (by decide +kernel))
      · exact (hs _ (by decide +kernel))
      · exact (hs _ (by decide +kernel))) (fun j hj => by
      have hj : j < 3 := hj
      rcases (by omega : j = 0 ∨ j = 1 ∨ j = 2) with rfl | rfl | rfl
      · exact (hs _ (by decide +kernel))
      · exact (hs _ (by decide +kernel))
      · exact (hs _ (by decide +kernel))) (fun j hj => by
      have hj : j < 4 := hj
      rcases (by omega : j = 0 ∨ j = 1 ∨ j = 2 ∨ j = 3) with rfl | rfl | rfl | rfl
      · exact (hs _ (by decide +kernel))
      · exact (hs _ (by decide +kernel))
      · exact (hs _ (by decide +kernel))
      · exact (hs _ (by decide +kernel))) (fun j hj => by
      have hj : j < 5 := hj
      rcases (by omega : j = 0 ∨ j = 1 ∨ j = 2 ∨ j = 3 ∨ j = 4) with rfl | rfl | rfl | rfl | rfl
      · exact (hs _ (by decide +kernel))
      · exact (hs _ (by decide +kernel))
      · exact (hs _ (by decide +kernel))
      · exact (hs _ (by decide +kernel))
      · exact (hs _ (by decide +kernel))) (fun j hj => by
      have hj : j < 5 := hj
      rcases (by omega : j = 0 ∨ j = 1 ∨ j = 2 ∨ j = 3 ∨ j = 4) with rfl | rfl | rfl | rfl | rfl
      · exact (hs _ (by decide +kernel))
      · exact (hs _ (by decide +kernel))
      · exact (hs _ (by decide +kernel))
      · exact (hs _ (by decide +kernel))
      · exact (hs _ (by decide +kernel))) (fun j hj => by
      have hj : j < 12 := hj
      rcases (by omega : j = 0 ∨ j = 1 ∨ j = 2 ∨ j = 3 ∨ j = 4 ∨ j = 5 ∨ j = 6 ∨ j = 7 ∨ j = 8 ∨ j = 9 ∨ j = 10 ∨ j = 11) with rfl | rfl | rfl | rfl | rfl | rfl | rfl | rfl | rfl | rfl | rfl | rfl
      · exact (hs _ (by decide +kernel))
      · exact (hs _ (by decide +kernel))
      · exact (hs _ (by decide +kernel))
      · exact (hs _ (by decide +kernel))
      · exact (hs _ (by decide +kernel))
      · exact (hs _ (by decide +kernel))
      · exact (hs _ (by decide +kernel))
      · exact (hs _ (by decide +kernel))
      · exact (hs _ (by decide +kernel))
      · exact (hs _ (by decide +kernel))
      · exact (hs _ (by decide +kernel))
      · exact (hs _ (by decide +kernel)))) (fun i j hi hj => sne i hi j hj) hA
  obtain ⟨t1, e1, hT1⟩ := va_Tof (A := fun q : Nat => s.heap.size ≤ q) (args := #[Value.ref b]) (s := s) (tm := .static "BitLoom" "ACTIONS" "[LBitLoom$Action;") (ty := .object "BitLoom$Action") (N := 6) (f := fun j => .ref (ad j)) (by omega) (hs _ (by decide +kernel)) (va_eqt (z := 6) (hs _ (by decide +kernel))) (lt6 (va_eqv (hs _ (by decide +kernel)) (hEv 0 (by decide))) (va_eqv (hs _ (by decide +kernel)) (hEv 1 (by decide))) (va_eqv (hs _ (by decide +kernel)) (hEv 2 (by decide))) (va_eqv (hs _ (by decide +kernel)) (hEv 3 (by decide))) (va_eqv (hs _ (by decide +kernel)) (hEv 4 (by decide))) (va_eqv (hs _ (by decide +kernel)) (hEv 5 (by decide)))) hA
  obtain ⟨t24, e24, hT24⟩ := va_Tof (A := fun q : Nat => s.heap.size ≤ q) (args := #[Value.ref b]) (s := s) (tm := .static "BitLoom$1" "$SwitchMap$BitLoom$Action" "[I") (ty := .int) (N := 6) (f := fun j => .int (j_sw.getD j 0)) (by omega) (hs _ (by decide +kernel)) (va_eqt (z := 6) (hs _ (by decide +kernel))) (lt6 (va_eqt (hs _ (by decide +kernel))) (va_eqt (hs _ (by decide +kernel))) (va_eqt (hs _ (by decide +kernel))) (va_eqt (hs _ (by decide +kernel))) (va_eqt (hs _ (by decide +kernel))) (va_eqt (hs _ (by decide +kernel)))) hA
  have hZ1 := va_Zref (A := fun q : Nat => s.heap.size ≤ q) (ht 786 (.laysStatic "BitLoom" "ACTIONS" "[LBitLoom$Action;") (by decide +kernel)) (ht 1 (.initialized "BitLoom") (by decide +kernel)) e1 hA
  have hZ24 := va_Zref (A := fun q : Nat => s.heap.size ≤ q) (ht 822 (.laysStatic "BitLoom$1" "$SwitchMap$BitLoom$Action" "[I") (by decide +kernel)) (ht 26 (.initialized "BitLoom$1") (by decide +kernel)) e24 hA
  have hZc := va_Zof (A := fun q : Nat => s.heap.size ≤ q) (ht 589 (.laysStatic "java/lang/String" "COMPACT_STRINGS" "Z") (by decide +kernel)) (ht 20 (.initialized "java/lang/String") (by decide +kernel)) (va_eqi (z := 1) (hs _ (by decide +kernel))) hA
  obtain ⟨t25, hZ25⟩ : ∃ t25 : Nat, va_Z "jdk/internal/util/Preconditions" "SIOOBE_FORMATTER" "Ljava/util/function/BiFunction;" .null (fun q : Nat => s.heap.size ≤ q) s s.heap ∨ va_Z "jdk/internal/util/Preconditions" "SIOOBE_FORMATTER" "Ljava/util/function/BiFunction;" (.ref t25) (fun q : Nat => s.heap.size ≤ q) s s.heap := by
    rcases va_Zqof (A := fun q : Nat => s.heap.size ≤ q) (ht 632 (.laysStatic "jdk/internal/util/Preconditions" "SIOOBE_FORMATTER" "Ljava/util/function/BiFunction;") (by decide +kernel)) (ht 24 (.initialized "jdk/internal/util/Preconditions") (by decide +kernel)) (hs _ (by decide +kernel)) hA with h | ⟨t, h⟩
    · exact ⟨0, .inl h⟩
    · exact ⟨t, .inr h⟩
  have hW : ∀ i, i < 6 → va_OF "BitLoom$Action" "word" "Ljava/lang/String;" (.ref (adK i)) (ad i) (fun q : Nat => s.heap.size ≤ q) s s.heap :=
    lt6 (vk_OFof (hEv 0 (by decide)) (va_eqv (hs _ (by decide +kernel)) (hSv 0 (by decide))) hA) (vk_OFof (hEv 1 (by decide)) (va_eqv (hs _ (by decide +kernel)) (hSv 1 (by decide))) hA) (vk_OFof (hEv 2 (by decide)) (va_eqv (hs _ (by decide +kernel)) (hSv 2 (by decide))) hA) (vk_OFof (hEv 3 (by decide)) (va_eqv (hs _ (by decide +kernel)) (hSv 3 (by decide))) hA) (vk_OFof (hEv 4 (by decide)) (va_eqv (hs _ (by decide +kernel)) (hSv 4 (by decide))) hA) (vk_OFof (hEv 5 (by decide)) (va_eqv (hs _ (by decide +kernel)) (hSv 5 (by decide))) hA)
  have hR14 := vk_R.of (a := adK 6) (ht 663 (.stringRef "BitLoom$Statement" 93 "where") (by decide +kernel)) (hSv 6 (by decide))
  have hR15 := vk_R.of (a := adK 7) (ht 575 (.stringRef "BitLoom$Tokens" 64 "<=>&|!(),+-*") (by decide +kernel)) (hSv 7 (by decide))
  refine ⟨(l, s.heap.size, s.heap, (fun c => [c0, c1, c2, c3, c4, c5, c6, c7, c8, c9, c10, c11, c12, c13].getD c c0, fun c => [i0, i1, i2, i3, i4, i5, i6, i7, i8, i9, i10, i11, i12, i13].getD c i0), fun t => [a0, a1, a2, a3].getD t a0, xAd b t1 t24 t25 ad adK adV, L, xs), rfl, rfl, rfl, rfl, rfl, rfl, ⟨?_, ?_⟩, ?_⟩
  · intro cc q hq
    have hlt : cc < 14 := (List.getElem?_eq_some_iff.mp hq).1
    rcases (by omega : cc = 0 ∨ cc = 1 ∨ cc = 2 ∨ cc = 3 ∨ cc = 4 ∨ cc = 5 ∨ cc = 6 ∨ cc = 7 ∨ cc = 8 ∨ cc = 9 ∨ cc = 10 ∨ cc = 11 ∨ cc = 12 ∨ cc = 13) with rfl | rfl | rfl | rfl | rfl | rfl | rfl | rfl | rfl | rfl | rfl | rfl | rfl | rfl
    · cases hq; exact k0
    · cases hq; exact k1
    · cases hq; exact k2
    · cases hq; exact k3
    · cases hq; exact k4
    · cases hq; exact k5
    · cases hq; exact k6
    · cases hq; exact k7
    · cases hq; exact k8
    · cases hq; exact k9
    · cases hq; exact k10
    · cases hq; exact k11
    · cases hq; exact k12
    · cases hq; exact k13
  · intro k q hk
    have hlt : k < 4 := (List.getElem?_eq_some_iff.mp hk).1
    rcases (by omega : k = 0 ∨ k = 1 ∨ k = 2 ∨ k = 3) with rfl | rfl | rfl | rfl
    · cases hk; exact ⟨r0, q0⟩
    · cases hk; exact ⟨r1, q1⟩
    · cases hk; exact ⟨r2, q2⟩
    · cases hk; exact ⟨r3, q3⟩
  · refine ⟨hfl, rfl, List.forall_mem_cons.mpr ⟨va_Nc.of (hs _ (by decide +kernel)), List.forall_mem_cons.mpr ⟨va_Nc.of (hs _ (by decide +kernel)), List.forall_mem_cons.mpr ⟨va_Nc.of (hs _ (by decide +kernel)), List.forall_mem_cons.mpr ⟨va_Nc.of (hs _ (by decide +kernel)), List.forall_mem_cons.mpr ⟨va_Nc.of (hs _ (by decide +kernel)), List.forall_mem_cons.mpr ⟨va_Nc.of (hs _ (by decide +kernel)), List.forall_mem_cons.mpr ⟨va_Nc.of (hs _ (by decide +kernel)), List.forall_mem_cons.mpr ⟨va_Nc.of (hs _ (by decide +kernel)), List.forall_mem_cons.mpr ⟨va_Nc.of (hs _ (by decide +kernel)), List.forall_mem_cons.mpr ⟨va_Nc.of (hs _ (by decide +kernel)), List.forall_mem_cons.mpr ⟨va_Nc.of (hs _ (by decide +kernel)), List.forall_mem_cons.mpr ⟨va_Nc.of (hs _ (by decide +kernel)), fun _ h => absurd h List.not_mem_nil⟩⟩⟩⟩⟩⟩⟩⟩⟩⟩⟩⟩, jLS_of rfl (ht 364 (.laysStatic "java/lang/Throwable" "UNASSIGNED_STACK" "[Ljava/lang/StackTraceElement;") (by decide +kernel)) (hs _ (by decide +kernel)), jLS_of rfl (ht 366 (.laysStatic "java/lang/Throwable" "SUPPRESSED_SENTINEL" "Ljava/util/List;") (by decide +kernel)) (hs _ (by decide +kernel)), hZc, hZ25, hZ1, va_T_ext hT1 (fun j hj => congrArg Value.ref (xAd_e b t1 t24 t25 ad adK adV hj)), va_En_ext hEn (fun i hi => xAd_e b t1 t24 t25 ad adK adV hi), fun i hi => ?_, hZ24, hT24, vk_S_ext hSt (fun i hi => xAd_k b t1 t24 t25 ad adK adV hi) (fun i hi => xAd_v b t1 t24 t25 ad adK adV hi), hR14, hR15, hX, hbl⟩
    have := hW i hi
    rw [xAd_k b t1 t24 t25 ad adK adV (show i < 8 by omega), xAd_e b t1 t24 t25 ad adK adV hi] at this
    exact this
