/-! rows on what was there before: statics, constants, the text of Strings -/
theorem j_hq {K : jK} {h : jH} {H : Heap} {s : State} (hw : jW K h H) (hX : jX K s) : ∀ a : Nat, a < K.2.2.1.size → ¬ jA K a → H[a]? = K.2.2.1[a]? := fun a h1 h2 => hw.2.2 a (Nat.lt_of_not_le h2)
theorem j_adx (K : jK) {i : Nat} (hi : i < 32) : j_adr K i = j_x K i := by simp [j_adr, hi]
theorem j_vx (K : jK) {i : Nat} (hi : i < 32) : j_v K (.ref i) = .ref (j_x K i) := by show Value.ref (j_adr K i) = _; rw [j_adx K hi]
section JEXT
variable {K : jK} {M : jR} {d pc : Nat} {ls : List (Nat × Value)} {st st0 : List Value} {h : jH} {Q Q' : jO → jH → Prop} {mc ms : Nat} {M' : jR} {d' : Nat}
theorem j_getx {idx i : Nat} {o n de : String} {v : Value} (hd : decode M.2.1 pc = .ok (.getfield idx, 3)) (hlink : Cond.fieldLink M.1.cls idx o n de ∈ jt) (hE : ∀ s, jX K s → va_OF o n de (j_v K v) (j_adr K i) (jA K) s K.2.2.1) (kk : jE K M d (pc + 3) ls (v :: st) h Q mc ms) : jE K M d pc ls (.ref i :: st) h Q mc ms := by
  intro p e R s m as bl me c H lo ce sl la hC hc hs hl hw hL
  have hX := hC.2.2.2.2.2.2.2.2.2.2.2.2
  obtain ⟨cf, k, fi, f, cell, h1, h2, h3, h4, h5, h6⟩ := (hE s hX).kept (j_hq hw hX)
  exact W.getf hC.1 hC.2.1 hC.2.2.2.1 (hC.2.2.2.2.1 _ hlink) h1 h2 h3 h4 (v := j_v K v) h5 rfl rfl hd (kk p e R s m as bl me c H lo ce sl la hC hc hs hl hw hL)
theorem j_gets {idx : Nat} {C n de : String} {v : Value} (hd : decode M.2.1 pc = .ok (.getstatic idx, 3)) (hlink : Cond.fieldLink M.1.cls idx C n de ∈ jt ∨ ∃ host, Cond.fieldLinkNest M.1.cls idx C n de host ∈ jt) (hZ : ∀ s, jX K s → va_Z C n de (j_v K v) (jA K) s K.2.2.1) (kk : jE K M d (pc + 3) ls (v :: st) h Q mc ms) : jE K M d pc ls st h Q mc ms := by
  intro p e R s m as bl me c H lo ce sl la hC hc hs hl hw hL
  have hX := hC.2.2.2.2.2.2.2.2.2.2.2.2
  obtain ⟨cf, kf, fi, f, a, cell, h1, h2, h3, h4, h5, h6, h7, h8⟩ := (hZ s hX).kept (j_hq hw hX)
  have kk' := kk p e R s m as bl me c H lo ce sl la hC hc hs hl hw hL
  rcases hlink with hl0 | ⟨host, hl0⟩
  · exact W.gets hC.1 hC.2.1 hC.2.2.2.1 (hC.2.2.2.2.1 _ hl0) h1 h2 h3 h4 h5 (fun e => by rw [e] at h6; cases h6) (v := j_v K v) h7 (g := F0 m pc la (st.map (j_v K))) rfl hd kk'
  · exact va_WgetsN hC.1 hC.2.1 hC.2.2.2.1 (hC.2.2.2.2.1 _ hl0) h1 h2 h3 h4 h5 (fun e => by rw [e] at h6; cases h6) (v := j_v K v) h7 (g := F0 m pc la (st.map (j_v K))) rfl hd kk'
theorem j_xlen {i N : Nat} {ty : FieldType} {f : Nat → Value} (hd : decode M.2.1 pc = .ok (.arraylength, 1)) (hT : ∀ s, jX K s → va_T ty (j_adr K i) N f (jA K) s K.2.2.1) (kk : jE K M d (pc + 1) ls (.int (nI N) :: st) h Q mc ms) : jE K M d pc ls (.ref i :: st) h Q mc ms := by
  intro p e R s m as bl me c H lo ce sl la hC hc hs hl hw hL
  have hX := hC.2.2.2.2.2.2.2.2.2.2.2.2
  obtain ⟨cell, h1, h2, h3, h4, h5, h6, h7⟩ := (hT s hX).kept (j_hq hw hX)
  exact W.alen (n := nI N) hC.1 hC.2.1 h1 h2 h5 rfl rfl hd (kk p e R s m as bl me c H lo ce sl la hC hc hs hl hw hL)
theorem j_xin {cell : Cell} {j N : Nat} (hj : j < N) (hN : N < 2 ^ 31) (h4 : N ≤ cell.slots.size) : ¬ (nI j < 0 ∨ cell.slots.size ≤ (nI j).toNatClampNeg) := by
  rw [nI_clamp (Nat.lt_trans hj hN)]
  rintro (q | q)
  · exact nI_pos (Nat.lt_trans hj hN) q
  · omega
theorem j_xbald {i N j : Nat} {f : Nat → Value} {x : Int32} (hd : decode M.2.1 pc = .ok (.baload, 1)) (hT : ∀ s, jX K s → va_T .byte (j_adr K i) N f (jA K) s K.2.2.1) (hj : j < N) (hN : N < 2 ^ 31) (hv : f j = .int x) (kk : jE K M d (pc + 1) ls (.int x :: st) h Q mc ms) : jE K M d pc ls (.int (nI j) :: .ref i :: st) h Q mc ms := by
  intro p e R s m as bl me c H lo ce sl la hC hc hs hl hw hL
  have hX := hC.2.2.2.2.2.2.2.2.2.2.2.2
  obtain ⟨cell, h1, h2, h3, h4, h5, h6, h7⟩ := (hT s hX).kept (j_hq hw hX)
  exact W.bald (v := .int x) hC.1 hC.2.1 h1 h2 h3 (j_xin hj hN h4) (by rw [nI_clamp (Nat.lt_trans hj hN), h6 j hj, hv]) rfl rfl hd (kk p e R s m as bl me c H lo ce sl la hC hc hs hl hw hL)
theorem j_xiald {i N j : Nat} {f : Nat → Value} {x : Int32} (hd : decode M.2.1 pc = .ok (.iaload, 1)) (hT : ∀ s, jX K s → va_T .int (j_adr K i) N f (jA K) s K.2.2.1) (hj : j < N) (hN : N < 2 ^ 31) (hv : f j = .int x) (kk : jE K M d (pc + 1) ls (.int x :: st) h Q mc ms) : jE K M d pc ls (.int (nI j) :: .ref i :: st) h Q mc ms := by
  intro p e R s m as bl me c H lo ce sl la hC hc hs hl hw hL
  have hX := hC.2.2.2.2.2.2.2.2.2.2.2.2
  obtain ⟨cell, h1, h2, h3, h4, h5, h6, h7⟩ := (hT s hX).kept (j_hq hw hX)
  exact W.iald (v := .int x) hC.1 hC.2.1 h1 h2 h3 (j_xin hj hN h4) (by rw [nI_clamp (Nat.lt_trans hj hN), h6 j hj, hv]) rfl rfl hd (kk p e R s m as bl me c H lo ce sl la hC hc hs hl hw hL)
theorem j_xaald {i N j : Nat} {C : String} {f : Nat → Value} {v : Value} (hd : decode M.2.1 pc = .ok (.aaload, 1)) (hT : ∀ s, jX K s → va_T (.object C) (j_adr K i) N f (jA K) s K.2.2.1) (hj : j < N) (hN : N < 2 ^ 31) (hv : f j = j_v K v) (kk : jE K M d (pc + 1) ls (v :: st) h Q mc ms) : jE K M d pc ls (.int (nI j) :: .ref i :: st) h Q mc ms := by
  intro p e R s m as bl me c H lo ce sl la hC hc hs hl hw hL
  have hX := hC.2.2.2.2.2.2.2.2.2.2.2.2
  obtain ⟨cell, h1, h2, h3, h4, h5, h6, h7⟩ := (hT s hX).kept (j_hq hw hX)
  exact W.aald (v := j_v K v) (ty := .object C) hC.1 hC.2.1 h1 h2 rfl h3 (j_xin hj hN h4) (by rw [nI_clamp (Nat.lt_trans hj hN), h6 j hj, hv]) rfl rfl hd (kk p e R s m as bl me c H lo ce sl la hC hc hs hl hw hL)
theorem j_ldcs {idx i : Nat} {tx : String} (hd : decode M.2.1 pc = .ok (.ldc idx, 2)) (hR : ∀ s, jX K s → vk_R M.1.cls idx tx (j_adr K i) s) (kk : jE K M d (pc + 2) ls (.ref i :: st) h Q mc ms) : jE K M d pc ls st h Q mc ms := by
  intro p e R s m as bl me c H lo ce sl la hC hc hs hl hw hL
  have hX := hC.2.2.2.2.2.2.2.2.2.2.2.2
  exact va_ldcS hC.1 hC.2.1 hC.2.2.2.1 (hR s hX) hd (kk p e R s m as bl me c H lo ce sl la hC hc hs hl hw hL)
/-- two references that are compared -/
theorem j_acmp_eqT {i : Nat} {off : Int} {tgt : Nat} (hd : decode M.2.1 pc = .ok (.if_acmp .eq off, 3)) (ht : (pc : Int) + off = (tgt : Int)) (kt : jE K M d tgt ls st h Q mc ms) : jE K M d pc ls (.ref i :: .ref i :: st) h Q mc ms := by
  intro p e R s m as bl me c H lo ce sl la hC hc hs hl hw hL
  exact lv_acmp_eq (rx := some (j_adr K i)) (ry := some (j_adr K i)) hC.1 hC.2.1 hd ht (fun _ => kt p e R s m as bl me c H lo ce sl la hC hc hs hl hw hL) (fun q => absurd rfl q)
theorem j_acmp_eqF {i j : Nat} {off : Int} {tgt : Nat} (hd : decode M.2.1 pc = .ok (.if_acmp .eq off, 3)) (ht : (pc : Int) + off = (tgt : Int)) (hne : ∀ s, jX K s → j_adr K i ≠ j_adr K j) (kf : jE K M d (pc + 3) ls st h Q mc ms) : jE K M d pc ls (.ref j :: .ref i :: st) h Q mc ms := by
  intro p e R s m as bl me c H lo ce sl la hC hc hs hl hw hL
  have hX := hC.2.2.2.2.2.2.2.2.2.2.2.2
  exact lv_acmp_eq (rx := some (j_adr K i)) (ry := some (j_adr K j)) hC.1 hC.2.1 hd ht (fun q => absurd (Option.some.inj q) (hne s hX)) (fun _ => kf p e R s m as bl me c H lo ce sl la hC hc hs hl hw hL)
theorem j_acmp_neF {i : Nat} {off : Int} {tgt : Nat} (hd : decode M.2.1 pc = .ok (.if_acmp .ne off, 3)) (ht : (pc : Int) + off = (tgt : Int)) (kf : jE K M d (pc + 3) ls st h Q mc ms) : jE K M d pc ls (.ref i :: .ref i :: st) h Q mc ms := by
  intro p e R s m as bl me c H lo ce sl la hC hc hs hl hw hL
  exact lv_acmp_ne (rx := some (j_adr K i)) (ry := some (j_adr K i)) hC.1 hC.2.1 hd ht (fun q => absurd rfl q) (fun _ => kf p e R s m as bl me c H lo ce sl la hC hc hs hl hw hL)
theorem j_acmp_neT {i j : Nat} {off : Int} {tgt : Nat} (hd : decode M.2.1 pc = .ok (.if_acmp .ne off, 3)) (ht : (pc : Int) + off = (tgt : Int)) (hne : ∀ s, jX K s → j_adr K i ≠ j_adr K j) (kt : jE K M d tgt ls st h Q mc ms) : jE K M d pc ls (.ref j :: .ref i :: st) h Q mc ms := by
  intro p e R s m as bl me c H lo ce sl la hC hc hs hl hw hL
  have hX := hC.2.2.2.2.2.2.2.2.2.2.2.2
  exact lv_acmp_ne (rx := some (j_adr K i)) (ry := some (j_adr K j)) hC.1 hC.2.1 hd ht (fun _ => kt p e R s m as bl me c H lo ce sl la hC hc hs hl hw hL) (fun q => absurd (Option.some.inj q) (hne s hX))
/-- a call on an object that was there before -/
def jMX (M' : jR) (n : Nat) : Prop := Cond.instanceMethod M'.1 ∈ jt ∧ Cond.selects M'.1.cls M'.1 M'.1 ∈ jt ∧ j_code M' ∈ jt ∧ Cond.initialized M'.1.cls ∈ jt ∧ (M'.1.cls ≠ "java/lang/invoke/MethodHandle" ∧ M'.1.cls ≠ "java/lang/invoke/VarHandle") ∧ (parseMethodDescriptor M'.1.desc).map (fun d => d.parameters.length) = some n
theorem j_callX {idx i n : Nat} {as : List Value} (hd : decode M.2.1 pc = .ok (.invokevirtual idx, 3)) (hf : jMX M' n) (hlink : Cond.methodLink M.1.cls idx M'.1 ∈ jt) (hn : as.length = n) (hO : ∀ s, jX K s → va_O M'.1.cls (j_adr K i) (jA K) s K.2.2.1)
    (hM : jM K M' d' (.ref i :: as) h Q' mc ms) (hdd : d' + 1 ≤ d) (hL : M'.2.2.1 ≤ 45) (hst : (st.map fun v => v.category).sum ≤ 8) (h0 : st0 = as.reverse ++ .ref i :: st) : jCall K M d pc ls st0 st h Q' mc ms := by
  subst h0
  intro p e R s m args below meth c H locs cells slots la hC hc hs hl hw hLo T hT X
  obtain ⟨hinst, hsel, hcode, hini, hy, hpar⟩ := hf
  have hts := hC.2.2.2.2.1
  have hX := hC.2.2.2.2.2.2.2.2.2.2.2.2
  obtain ⟨mk, methM, hnamed, hmethM, hstM, habM⟩ := Cond.instanceMethod_spec (hts _ hinst)
  obtain ⟨methM', cM, hmethM', -, -, -, -, -, -, hsigM⟩ := j_code_spec hnamed (hts _ hcode)
  cases hmethM.symm.trans hmethM'
  obtain ⟨c2, r2, m2, q1, q2, q3, q4, kP, hkP, hkPi⟩ := Cond.selects_spec (hts _ hsel)
  obtain ⟨cellB, g2, g4, hcls, -⟩ := (hO s hX).kept (j_hq hw hX)
  cases hcls.symm.trans q1
  cases (State.methodFound?_of_named hnamed hy).symm.trans q2
  cases hnamed.symm.trans q3
  have hselP : selectMethod e.platform s.vm cellB.cls mk = .method mk := by rw [Launch.admits_selectMethod X.admits]; exact q4
  have hdg : decode c.code pc = .ok (.invokevirtual idx, 3) := by rw [hC.2.1]; exact hd
  obtain ⟨vm₁, X₁, hstep₁⟩ := X.invokevirtual hC.1 hC.2.2.2.1 (hts _ hlink) hnamed hmethM hstM hkP hkPi hy (a := j_adr K i) (cell := cellB) (by rw [hT]; exact g2)
    (fun z hz => by rw [hz] at g4; cases g4) hselP hmethM habM hkP hkPi (g := F0 m pc la ((as.reverse ++ .ref i :: st).map (j_v K))) rfl (argsL := as.map (j_v K)) (rest := st.map (j_v K)) (by rw [List.length_map, hn]; exact j_len hpar hsigM)
    (by show (as.reverse ++ .ref i :: st).map (j_v K) = _; rw [List.map_append, List.map_reverse]; rfl) hdg
  exact j_inv hM hdd hL hst hcode hini hC hc hs hl hw hLo hT X₁ hdg hnamed hstep₁
end JEXT
/-! the Strings 8 to 15 -/
theorem x_strO (K : jK) {i : Nat} (hi : i < 8) (s : State) (hX : jX K s) : va_O "java/lang/String" (j_adr K (8 + i)) (jA K) s K.2.2.1 := by
  obtain ⟨h1, h2, h3, h4, h5, h6, h7, h8, h9, h10, h11, h12, h13, h14, h15, h16, h17, h18⟩ := hX
  rw [j_adx K (by omega)]
  exact (h14.1 i hi).1
theorem x_strC (K : jK) {i : Nat} (hi : i < 8) (s : State) (hX : jX K s) : va_OF "java/lang/String" "coder" "B" (j_v K (.int 0)) (j_adr K (8 + i)) (jA K) s K.2.2.1 := by
  obtain ⟨h1, h2, h3, h4, h5, h6, h7, h8, h9, h10, h11, h12, h13, h14, h15, h16, h17, h18⟩ := hX
  rw [j_adx K (by omega)]
  exact (h14.1 i hi).2.1
theorem x_strV (K : jK) {i : Nat} (hi : i < 8) (s : State) (hX : jX K s) : va_OF "java/lang/String" "value" "[B" (j_v K (.ref (16 + i))) (j_adr K (8 + i)) (jA K) s K.2.2.1 := by
  obtain ⟨h1, h2, h3, h4, h5, h6, h7, h8, h9, h10, h11, h12, h13, h14, h15, h16, h17, h18⟩ := hX
  rw [j_adx K (by omega), j_vx K (by omega)]
  exact (h14.1 i hi).2.2.1
theorem x_strB (K : jK) {i : Nat} (hi : i < 8) (s : State) (hX : jX K s) : va_T .byte (j_adr K (16 + i)) (j_txL.getD i 0) (fun j => .int ((j_tx.getD i []).getD j 0)) (jA K) s K.2.2.1 := by
  obtain ⟨h1, h2, h3, h4, h5, h6, h7, h8, h9, h10, h11, h12, h13, h14, h15, h16, h17, h18⟩ := hX
  rw [j_adx K (by omega)]
  exact (h14.1 i hi).2.2.2
theorem x_cmp (K : jK) (s : State) (hX : jX K s) : va_Z "java/lang/String" "COMPACT_STRINGS" "Z" (j_v K (.int 1)) (jA K) s K.2.2.1 := hX.2.2.2.2.2.1
