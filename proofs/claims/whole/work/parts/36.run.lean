/-! Enum.ordinal; BitLoom.carryOut, run -/
section JUP
variable {K : jK} {M M' : jR} {d d' pc : Nat} {ls : List (Nat × Value)} {st st0 : List Value} {h : jH} {Q Q' : jO → jH → Prop} {mc ms : Nat}
theorem j_tabIn {dflt lo hi : Int} {offs : Array Int} {len : Nat} {x : Int32} {off : Int} {tgt : Nat} (hd : decode M.2.1 pc = .ok (.tableswitch dflt lo hi offs, len)) (h1 : ¬ x.toInt < lo) (h2 : ¬ hi < x.toInt) (ho : offs[(x.toInt - lo).toNat]? = some off) (ht : (pc : Int) + off = (tgt : Int)) (k : jE K M d tgt ls st h Q mc ms) : jE K M d pc ls (.int x :: st) h Q mc ms :=
  fun p e R s m as bl me c H lo ce sl la hC hc hs hl hw hL => lv_tableIn hC.1 hC.2.1 hd h1 h2 ho ht (k p e R s m as bl me c H lo ce sl la hC hc hs hl hw hL)
theorem j_tabOut {dflt lo hi : Int} {offs : Array Int} {len : Nat} {x : Int32} {tgt : Nat} (hd : decode M.2.1 pc = .ok (.tableswitch dflt lo hi offs, len)) (h1 : x.toInt < lo ∨ hi < x.toInt) (ht : (pc : Int) + dflt = (tgt : Int)) (k : jE K M d tgt ls st h Q mc ms) : jE K M d pc ls (.int x :: st) h Q mc ms :=
  fun p e R s m as bl me c H lo ce sl la hC hc hs hl hw hL => lv_tableOut hC.1 hC.2.1 hd h1 ht (k p e R s m as bl me c H lo ce sl la hC hc hs hl hw hL)
/-- a call of an inherited method on an object that was there before -/
def jMU (M' : jR) (x : MethodName) (C : String) (n : Nat) : Prop := Cond.instanceMethod M'.1 ∈ jt ∧ Cond.selects C x M'.1 ∈ jt ∧ Cond.sameMethod x.cls M'.1.cls x.name x.desc ∈ jt ∧ M'.1 = ⟨M'.1.cls, x.name, x.desc⟩ ∧ j_code M' ∈ jt ∧ Cond.initialized M'.1.cls ∈ jt ∧ (M'.1.cls ≠ "java/lang/invoke/MethodHandle" ∧ M'.1.cls ≠ "java/lang/invoke/VarHandle") ∧ (parseMethodDescriptor M'.1.desc).map (fun d => d.parameters.length) = some n
theorem j_callU {idx i n : Nat} {as : List Value} {x : MethodName} {C : String} (hd : decode M.2.1 pc = .ok (.invokevirtual idx, 3)) (hf : jMU M' x C n) (hlink : Cond.methodLink M.1.cls idx x ∈ jt) (hn : as.length = n) (hO : ∀ s, jX K s → va_O C (j_adr K i) (jA K) s K.2.2.1)
    (hM : jM K M' d' (.ref i :: as) h Q' mc ms) (hdd : d' + 1 ≤ d) (hL : M'.2.2.1 ≤ 45) (hst : (st.map fun v => v.category).sum ≤ 8) (h0 : st0 = as.reverse ++ .ref i :: st) : jCall K M d pc ls st0 st h Q' mc ms := by
  subst h0
  intro p e R s m args below meth c H locs cells slots la hC hc hs hl hw hLo T hT X
  obtain ⟨hinst, hsel, hsame, hnm, hcode, hini, hy, hpar⟩ := hf
  have hts := hC.2.2.2.2.1
  have hX := hC.2.2.2.2.2.2.2.2.2.2.2.2
  obtain ⟨mk, methM, hnamed, hmethM, hstM, habM⟩ := Cond.instanceMethod_spec (hts _ hinst)
  obtain ⟨methM', cM, hmethM', -, -, -, -, -, -, hsigM⟩ := j_code_spec hnamed (hts _ hcode)
  cases hmethM.symm.trans hmethM'
  obtain ⟨c2, r2, m2, q1, q2, q3, q4, kP, hkP, hkPi⟩ := Cond.selects_spec (hts _ hsel)
  obtain ⟨cn, ck, r1, hcn, hck, hni, hfd, hn1⟩ := Cond.sameMethod_found (hts _ hsame)
  rw [← hnm] at hn1
  obtain ⟨cellB, g2, g4, hcls, -⟩ := (hO s hX).kept (j_hq hw hX)
  cases hcls.symm.trans q1
  cases hfd.symm.trans q2
  cases hnamed.symm.trans q3
  cases hnamed.symm.trans hn1
  have hselP : selectMethod e.platform s.vm cellB.cls mk = .method mk := by rw [Launch.admits_selectMethod X.admits]; exact q4
  have hdg : decode c.code pc = .ok (.invokevirtual idx, 3) := by rw [hC.2.1]; exact hd
  obtain ⟨vm₁, X₁, hstep₁⟩ := X.invokevirtualUp hC.1 hC.2.2.2.1 (hts _ hlink) (hts _ hsame) hy (by rw [← hnm]; exact hnamed) hmethM hstM (a := j_adr K i) (cell := cellB) (by rw [hT]; exact g2)
    (fun z hz => by rw [hz] at g4; cases g4) hselP hmethM habM hkP hkPi (g := F0 m pc la ((as.reverse ++ .ref i :: st).map (j_v K))) rfl (argsL := as.map (j_v K)) (rest := st.map (j_v K)) (by rw [List.length_map, hn]; exact j_len hpar hsigM)
    (by show (as.reverse ++ .ref i :: st).map (j_v K) = _; rw [List.map_append, List.map_reverse]; rfl) hdg
  exact j_inv hM hdd hL hst hcode hini hC hc hs hl hw hLo hT X₁ hdg hnamed hstep₁
end JUP
theorem z_E_7 : Cond.fieldLink "java/lang/Enum" 7 "java/lang/Enum" "ordinal" "I" ∈ jt := j_in 1265 (by decide +kernel) rfl
theorem z_B_181 : Cond.fieldLink "BitLoom" 181 "BitLoom$1" "$SwitchMap$BitLoom$Action" "[I" ∈ jt := j_in 821 (by decide +kernel) rfl
theorem l_B_190 : Cond.methodLink "BitLoom" 190 ⟨"BitLoom$Action", "ordinal", "()I"⟩ ∈ jt := j_in 827 (by decide +kernel) rfl
theorem xu_ordinal : jMU M_JEnum_ordinal ⟨"BitLoom$Action", "ordinal", "()I"⟩ "BitLoom$Action" 0 := ⟨j_in 831 (by decide +kernel) rfl, j_in 830 (by decide +kernel) rfl, j_in 828 (by decide +kernel) rfl, rfl, j_in 832 (by decide +kernel) rfl, j_in 10 (by decide +kernel) rfl, ⟨by decide, by decide⟩, by decide +kernel⟩
theorem m_ordinal (K : jK) (d : Nat) (h : jH) {i : Nat} (hi : i < 6) : jM K M_JEnum_ordinal d [.ref (2 + i)] h (rI (nI i) h) 0 0 := by
  refine jM.of (by decide +kernel) (Nat.le_of_ble_eq_true rfl) ?_
  refine j_aload_n d_JEnum_ordinal_0 rfl ?_
  refine j_getx d_JEnum_ordinal_1 z_E_7 (x_actR K hi) ?_
  exact j_iret rfl d_JEnum_ordinal_4 ⟨rfl, rfl⟩
theorem x_swZ (K : jK) (s : State) (hX : jX K s) : va_Z "BitLoom$1" "$SwitchMap$BitLoom$Action" "[I" (j_v K (.ref 24)) (jA K) s K.2.2.1 := by
  obtain ⟨h1, h2, h3, h4, h5, h6, h7, h8, h9, h10, h11, h12, h13, h14, h15, h16, h17, h18⟩ := hX
  rw [j_vx K (by omega)]
  exact h12
theorem x_swT (K : jK) (s : State) (hX : jX K s) : va_T .int (j_adr K 24) 6 (fun j => .int (j_sw.getD j 0)) (jA K) s K.2.2.1 := by
  obtain ⟨h1, h2, h3, h4, h5, h6, h7, h8, h9, h10, h11, h12, h13, h14, h15, h16, h17, h18⟩ := hX
  rw [j_adx K (by omega)]
  exact h13
/-- what is carried out: the answer, and the state behind it -/
def carV (q : Act) (x : Int32) (S : jS) : Int32 := if q.1 = 0 then nI (chL (canV S.2.1 q.2.2.1 q.2.2.2) (chgV S.2.1 q.2.2.1 q.2.2.2) x 32 0 (S.2.1 4) 0 0).2.2 else if q.1 = 1 then fldL maxJ x (fun w => fvl S.2.1 q.2.1 w) 32 0 (-512) else if q.1 = 2 then fldL minJ x (fun w => fvl S.2.1 q.2.1 w) 32 0 1023 else if q.1 = 3 then fldL (fun a b => a + b) x (fun w => fvl S.2.1 q.2.1 w) 32 0 0
  else if q.1 = 4 then nI (lstL (wvl S.2.1 q.2.1) x 32 0 0 (S.2.1 9)).2 else bcJ x
def carS (q : Act) (x : Int32) (S : jS) : jS := if q.1 = 0 then s1 (s2 S 4 (chL (canV S.2.1 q.2.2.1 q.2.2.2) (chgV S.2.1 q.2.2.1 q.2.2.2) x 32 0 (S.2.1 4) 0 0).1) 1 (chL (canV S.2.1 q.2.2.1 q.2.2.2) (chgV S.2.1 q.2.2.1 q.2.2.2) x 32 0 (S.2.1 4) 0 0).2.1
  else if q.1 = 4 then s1 (s2 (s1 S 1 0) 9 (lstL (wvl S.2.1 q.2.1) x 32 0 0 (S.2.1 9)).1) 0 (nI (lstL (wvl S.2.1 q.2.1) x 32 0 0 (S.2.1 9)).2) else s1 S 1 0
theorem s1_s1 (S : jS) (i : Nat) (u v : Int32) : s1 (s1 S i u) i v = s1 S i v := by
  show ((va_up (va_up S.1 i u) i v, S.2) : jS) = (va_up S.1 i v, S.2)
  congr 1
  funext j
  unfold va_up
  split <;> rfl
theorem m_B_carryOut (K : jK) (d : Nat) (hd : 6 ≤ d) (S : jS) (J : jH) (q : Act) (x : Int32) (hS : S.2.2.2.2 = 2 + q.1) (hq : aIs q S) : jM K M_B_carryOut d [.ref 32, .int x] (lay S ++ J) (rI (carV q x S) (lay (carS q x S) ++ J)) 0 0 := by
  refine jM.of (by decide) (Nat.le_of_ble_eq_true rfl) ?_
  obtain ⟨v, f, c1, c2⟩ := q
  have hv : v < 6 := hq.1
  have hS : S.2.2.2.2 = 2 + v := hS
  refine j_aload_n d_B_carryOut_0 rfl ?_
  refine j_getf d_B_carryOut_1 f_B_35 rfl rfl ?_
  refine j_retI (j_callV d_B_carryOut_4 v_S_subject l_B_178 rfl rfl (m_S_subject K (d - 1) S J) (by omega) (by decide) (Nat.le_of_ble_eq_true rfl) rfl) rfl ?_
  refine j_istore_n d_B_carryOut_7 (by decide) ?_
  refine j_aload_n d_B_carryOut_8 rfl ?_
  refine j_iconst (v := 0) d_B_carryOut_9 rfl ?_
  refine j_putf d_B_carryOut_10 f_B_165 rfl (Nat.le_of_ble_eq_true rfl) rfl rfl rfl ?_
  refine j_hp (h' := lay (s1 S 1 0) ++ J) rfl ?_
  refine j_gets d_B_carryOut_13 (.inl z_B_181) (x_swZ K) ?_
  refine j_aload_n d_B_carryOut_16 rfl ?_
  refine j_getf d_B_carryOut_17 f_B_35 rfl rfl ?_
  refine j_retR (j_callV d_B_carryOut_20 v_S_action l_B_186 rfl rfl (m_S_action K (d - 1) (s1 S 1 0) J) (by omega) (by decide) (Nat.le_of_ble_eq_true rfl) rfl) rfl ?_
  refine j_top (w := .ref (2 + v)) (congrArg Value.ref hS) ?_
  refine j_retI (j_callU d_B_carryOut_23 xu_ordinal l_B_190 rfl (x_actO K hv) (m_ordinal K (d - 1) _ hv) (by omega) (by decide) (Nat.le_of_ble_eq_true rfl) rfl) rfl ?_
  refine j_xiald (x := j_sw.getD v 0) d_B_carryOut_26 (x_swT K) hv (by decide) rfl ?_
  refine j_loc' [(0, .ref 32), (1, .int x), (2, .int (S.1 8))] ⟨rfl, rfl, rfl, trivial⟩ ?_
  by_cases h0 : v = 0
  · subst h0
    refine j_tabIn (tgt := 60) d_B_carryOut_27 (by decide) (by decide) rfl rfl ?_
    refine j_aload_n d_B_carryOut_60 rfl ?_
    refine j_iload_n d_B_carryOut_61 rfl ?_
    refine j_retI (j_callV d_B_carryOut_62 v_B_changeAll l_B_195 rfl rfl (m_B_changeAll K (d - 1) (by omega) (s1 S 1 0) J x c1 c2 (hq.2.1 rfl)) (by omega) (by decide) (Nat.le_of_ble_eq_true rfl) rfl) rfl ?_
    refine j_iret rfl d_B_carryOut_65 ⟨rfl, ?_⟩
    exact congrArg (fun z => lay z ++ J) (s1_s1 (s2 S 4 (chL (canV S.2.1 c1 c2) (chgV S.2.1 c1 c2) x 32 0 (S.2.1 4) 0 0).1) 1 0 _)
  · by_cases h5 : v = 5
    · subst h5
      refine j_tabOut (tgt := 94) d_B_carryOut_27 (by decide) rfl ?_
      refine j_iload_n d_B_carryOut_94 rfl ?_
      refine j_retI (j_callS d_B_carryOut_95 s_JInteger_bitCount l_B_123 rfl (m_JInteger_bitCount K (d - 1) _ x) (by omega) (by decide) (Nat.le_of_ble_eq_true rfl) rfl) rfl ?_
      exact j_iret rfl d_B_carryOut_98 ⟨rfl, rfl⟩
    · obtain ⟨hf, h8⟩ := hq.2.2 h0 h5
      have hf : f < 6 := hf
      refine j_lsr (ls' := [(0, .ref 32), (1, .int x), (2, .int (nI f))]) (by rw [h8]) ?_
      by_cases h1 : v = 1
      · subst h1
        refine j_tabIn (tgt := 66) d_B_carryOut_27 (by decide) (by decide) rfl rfl ?_
        refine j_aload_n d_B_carryOut_66 rfl ?_
        refine j_iload_n d_B_carryOut_67 rfl ?_
        refine j_iload_n d_B_carryOut_68 rfl ?_
        refine j_retI (j_callV d_B_carryOut_69 v_B_greatest l_B_198 rfl rfl (m_B_greatest K (d - 1) (by omega) (s1 S 1 0) J f hf x) (by omega) (by decide) (Nat.le_of_ble_eq_true rfl) rfl) rfl ?_
        exact j_iret rfl d_B_carryOut_72 ⟨rfl, rfl⟩
      · by_cases h2 : v = 2
        · subst h2
          refine j_tabIn (tgt := 73) d_B_carryOut_27 (by decide) (by decide) rfl rfl ?_
          refine j_aload_n d_B_carryOut_73 rfl ?_
          refine j_iload_n d_B_carryOut_74 rfl ?_
          refine j_iload_n d_B_carryOut_75 rfl ?_
          refine j_retI (j_callV d_B_carryOut_76 v_B_least l_B_201 rfl rfl (m_B_least K (d - 1) (by omega) (s1 S 1 0) J f hf x) (by omega) (by decide) (Nat.le_of_ble_eq_true rfl) rfl) rfl ?_
          exact j_iret rfl d_B_carryOut_79 ⟨rfl, rfl⟩
        · by_cases h3 : v = 3
          · subst h3
            refine j_tabIn (tgt := 80) d_B_carryOut_27 (by decide) (by decide) rfl rfl ?_
            refine j_aload_n d_B_carryOut_80 rfl ?_
            refine j_iload_n d_B_carryOut_81 rfl ?_
            refine j_iload_n d_B_carryOut_82 rfl ?_
            refine j_retI (j_callV d_B_carryOut_83 v_B_total l_B_204 rfl rfl (m_B_total K (d - 1) (by omega) (s1 S 1 0) J f hf x) (by omega) (by decide) (Nat.le_of_ble_eq_true rfl) rfl) rfl ?_
            exact j_iret rfl d_B_carryOut_86 ⟨rfl, rfl⟩
          · have h4 : v = 4 := by omega
            subst h4
            refine j_tabIn (tgt := 87) d_B_carryOut_27 (by decide) (by decide) rfl rfl ?_
            refine j_aload_n d_B_carryOut_87 rfl ?_
            refine j_iload_n d_B_carryOut_88 rfl ?_
            refine j_iload_n d_B_carryOut_89 rfl ?_
            refine j_retI (j_callV d_B_carryOut_90 v_B_listAll l_B_207 rfl rfl (m_B_listAll K (d - 1) (by omega) (s1 S 1 0) J f hf x) (by omega) (by decide) (Nat.le_of_ble_eq_true rfl) rfl) rfl ?_
            exact j_iret rfl d_B_carryOut_93 ⟨rfl, rfl⟩
def endS (q : Act) (t : Int32) (S : jS) : jS := s1 (s2 (s1 (carS q t S) 5 t) 4 (ovF ((carS q t S).2.1 4) (-1) (-16777216) 0 32)) 6 0
def runQ (P4 : PR) (n c : Nat) (S : jS) (J : jH) : jO → jH → Prop := fun o h => ∃ y, Stm P4 (S.2.1 5) (S.2.1 0) c (tokL (S.2.1 5) n 0) y ∧ (match y with
  | .inl (x, q) => ∃ S', frR S S' ∧ S'.1 10 = -1 ∧ aIs q S' ∧ (if lackV (S.1 4 &&& x.2) q.1 = true then o = .inr 11 ∧ h = lay S' ++ J ++ [.inr (11, [])] else o = .inl (some (.int (carV q (S.1 4 &&& x.2) S'))) ∧ h = lay (endS q (S.1 4 &&& x.2) S') ++ J)
  | .inr p => o = .inr 10 ∧ ∃ S', h = lay S' ++ J ++ [.inr (10, [])] ∧ frR S S' ∧ S'.1 10 = nI p)
theorem m_B_run (K : jK) (d : Nat) (hd : 41 ≤ d) (S : jS) (J : jH) (n c : Nat) (hn : S.1 6 = nI n) (h100 : n ≤ 100) (hc : chOk (S.2.1 5)) (ht : txOk (S.2.1 5) n) (hf : S.1 2 = nI c) (h6 : c ≤ 6) {P1 P2 P4 : PR} {P3 P5 : PL}
    (h1 : Clo1 S.2.1 c P1 P4) (h2 : CloL 38 2 (fun a b => a &&& b) P1 P2 P3) (h3 : CloL 124 1 (fun a b => a ||| b) P2 P4 P5) : jM K M_B_run d [.ref 32] (lay S ++ J) (runQ P4 n c S J) 0 0 := by
  refine jM.of (by decide) (Nat.le_of_ble_eq_true rfl) ?_
  refine j_aload_n d_B_run_0 rfl ?_
  refine j_getf d_B_run_1 f_B_35 rfl rfl ?_
  refine j_ret0 (j_callV d_B_run_4 v_S_read l_B_149 rfl rfl (m_S_read K (d - 1) (by omega) S J n c hn h100 hc ht hf h6 h1 h2 h3 (fun f6 f7 f8 => h1)) (by omega) (by decide) (Nat.le_of_ble_eq_true rfl) rfl) rfl (fun v0 g0 hq => ?_) (fun k0 g0 hq => ?_)
  rotate_left
  · obtain ⟨y, hy, hq⟩ := hq
    refine ⟨y, hy, ?_⟩
    split at hq
    · cases hq.1
    · obtain ⟨h0, S', h5, h6, h7⟩ := hq
      exact ⟨h0, S', h5, h6, h7⟩
  obtain ⟨y, hy, hq⟩ := hq
  split at hq
  rotate_left
  · cases hq.1
  rename_i x q
  obtain ⟨h0, S', rfl, hfr, hac, h10, h9, hq⟩ := hq
  cases h0
  refine j_st (st' := []) rfl ?_
  refine j_aload_n d_B_run_7 rfl ?_
  refine j_getf d_B_run_8 f_B_35 rfl rfl ?_
  refine j_retI (j_callV d_B_run_11 v_S_lacksWord l_B_152 rfl rfl (m_S_lacksWord K (d - 1) S' J q.1 hq.1 hac) (by omega) (by decide) (Nat.le_of_ble_eq_true rfl) rfl) rfl ?_
  rw [h9]
  refine j_if_eq (tgt := 25) d_B_run_14 rfl (fun h14 => ?_) (fun h14 => ?_)
  · refine j_aload_n d_B_run_25 rfl ?_
    refine j_getf d_B_run_26 f_B_35 rfl rfl ?_
    refine j_retI (j_callV d_B_run_29 v_S_taken l_B_155 rfl rfl (m_S_taken K (d - 1) S' J) (by omega) (by decide) (Nat.le_of_ble_eq_true rfl) rfl) rfl ?_
    refine j_top (w := .int (S.1 4 &&& x.2)) (congrArg Value.int h9) ?_
    refine j_istore_n d_B_run_32 (by decide) ?_
    refine j_aload_n d_B_run_33 rfl ?_
    refine j_iload_n d_B_run_34 rfl ?_
    refine j_retI (j_callV d_B_run_35 v_B_carryOut l_B_158 rfl rfl (m_B_carryOut K (d - 1) (by omega) S' J q (S.1 4 &&& x.2) hac hq) (by omega) (by decide) (Nat.le_of_ble_eq_true rfl) rfl) rfl ?_
    refine j_istore_n d_B_run_38 (by decide) ?_
    refine j_aload_n d_B_run_39 rfl ?_
    refine j_getf d_B_run_40 f_B_19 rfl rfl ?_
    refine j_iload_n d_B_run_43 rfl ?_
    refine j_retV (j_callV d_B_run_44 v_W_respondOnly l_B_120 rfl rfl (m_W_respondOnly K (d - 1) (carS q (S.1 4 &&& x.2) S') J (S.1 4 &&& x.2)) (by omega) (by decide) (Nat.le_of_ble_eq_true rfl) rfl) rfl ?_
    refine j_aload_n d_B_run_47 rfl ?_
    refine j_getf d_B_run_48 f_B_19 rfl rfl ?_
    refine j_iconst (v := -1) d_B_run_51 rfl ?_
    refine j_ldc d_B_run_52 c_B_161 ?_
    refine j_iconst (v := 0) d_B_run_54 rfl ?_
    refine j_retV (j_callV d_B_run_55 v_W_overwrite l_B_129 rfl rfl (m_W_overwrite K (d - 1) (by omega) (s1 (carS q (S.1 4 &&& x.2) S') 5 (S.1 4 &&& x.2)) J (-1) (-16777216) 0) (by omega) (by decide) (Nat.le_of_ble_eq_true rfl) rfl) rfl ?_
    refine j_aload_n d_B_run_58 rfl ?_
    refine j_getf d_B_run_59 f_B_26 rfl rfl ?_
    refine j_retV (j_callV d_B_run_62 v_T_clear l_B_146 rfl rfl (m_T_clear K (d - 1) _ J) (by omega) (by decide) (Nat.le_of_ble_eq_true rfl) rfl) rfl ?_
    refine j_iload_n d_B_run_65 rfl ?_
    refine j_iret rfl d_B_run_66 ⟨.inl (x, q), hy, S', hfr, h10, hq, ?_⟩
    rw [if_neg (by rw [b2i_ze h14]; decide)]
    exact ⟨rfl, rfl⟩
  · refine j_throw d_B_run_17 d_B_run_20 d_B_run_21 d_B_run_24 x_B_73 rfl (by omega) (Nat.le_of_ble_eq_true rfl) ⟨.inl (x, q), hy, S', hfr, h10, hq, ?_⟩
    rw [if_pos (b2i_ne h14)]
    exact ⟨rfl, rfl⟩
