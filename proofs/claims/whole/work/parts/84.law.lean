/-! BitLoomLaw.law: one step, and the loop -/
abbrev scL (K : jK) : Nat := K.2.2.2.2.2.2.1
abbrev scX (K : jK) : Nat → Int32 := K.2.2.2.2.2.2.2
section JSCR
variable {K : jK} {M : jR} {d pc : Nat} {ls : List (Nat × Value)} {st : List Value} {h : jH} {Q : jO → jH → Prop} {mc ms : Nat}
theorem j_scr {H : Heap} {s : State} (hw : jW K h H) (hX : jX K s) : va_X (j_adr K 0) (scL K) (scX K) s H := by
  obtain ⟨h1, h2, h3, h4, h5, h6, h7, h8, h9, h10, h11, h12, h13, h14, h15, h16, h17, h18⟩ := hX
  rw [j_adx K (by omega)]
  exact h17.kept (hw.2.2 _ h18)
theorem j_slen (hd : decode M.2.1 pc = .ok (.arraylength, 1)) (kk : jE K M d (pc + 1) ls (.int (nI (scL K)) :: st) h Q mc ms) : jE K M d pc ls (.ref 0 :: st) h Q mc ms := by
  intro p e R s m as bl me c H lo ce sl la hC hc hs hl hw hL
  obtain ⟨scr, g1, g2, g3, g4, g5⟩ := j_scr hw hC.2.2.2.2.2.2.2.2.2.2.2.2
  exact W.alen (n := nI (scL K)) hC.1 hC.2.1 g1 g2 (by rw [g4] <;> rfl) rfl rfl hd (kk p e R s m as bl me c H lo ce sl la hC hc hs hl hw hL)
theorem j_sald {j : Nat} (hd : decode M.2.1 pc = .ok (.iaload, 1)) (hj : j < scL K) (hN : scL K < 2 ^ 31) (kk : jE K M d (pc + 1) ls (.int (scX K j) :: st) h Q mc ms) : jE K M d pc ls (.int (nI j) :: .ref 0 :: st) h Q mc ms := by
  intro p e R s m as bl me c H lo ce sl la hC hc hs hl hw hL
  obtain ⟨scr, g1, g2, g3, g4, g5⟩ := j_scr hw hC.2.2.2.2.2.2.2.2.2.2.2.2
  exact W.iald (v := .int (scX K j)) hC.1 hC.2.1 g1 g2 g3 (j_xin hj hN (by omega)) (by rw [nI_clamp (Nat.lt_trans hj hN), g5 j hj]) rfl rfl hd (kk p e R s m as bl me c H lo ce sl la hC hc hs hl hw hL)
/-- more room than is needed -/
theorem j_more {a b : Nat} (k : jE K M d pc ls st h Q mc ms) : jE K M d pc ls st h Q (mc + a) (ms + b) := by
  intro p e R s m args below meth c H locs cells slots la hC hc hs hl hw hLo
  refine j_mono (fun t ht => ?_) (k p e R s m args below meth c H locs cells slots la hC (by omega) (by omega) hl hw hLo)
  obtain ⟨o, mo, h2, L2, b1, b2, b3, b4, b5, b6, b7, b8⟩ := ht
  exact ⟨o, mo, h2, L2, b1, b2, b3, b4, b5, b6, b7.mono (by omega) (by omega), b8⟩
theorem j_retW {st0 : List Value} {Q' : jO → jH → Prop} {mc' ms' : Nat} (hcall : jCall K M d pc ls st0 st h Q' mc' ms') (hh : M.2.2.2.2 = []) (kr : ∀ (v : Option Value) (h' : jH), Q' (.inl v) h' → jE K M d (pc + 3) ls (v.toList ++ st) h' Q mc ms) (kt : ∀ (k : Nat) (h' : jH), Q' (.inr k) h' → Q (.inr k) h') : jE K M d pc ls st0 h Q (mc + mc') (ms + ms') := by
  rw [Nat.add_comm mc mc', Nat.add_comm ms ms']
  exact j_ret hcall hh kr kt
end JSCR
theorem lcmp_self (x : Int64) : lg_cmp x x = 0 := by
  unfold lg_cmp
  simp
def laQ : jO → jH → Prop := fun o _ => o = .inl (some (.int 1))
/-- behind a step: the next -/
def lGo (K : jK) (d k i : Nat) : Prop := ∀ (S2 : jS) (J2 : jH) (ls : List (Nat × Value)), j_lg ls 0 = some (.ref 0) → j_lg ls 1 = some (.ref 32) → j_lg ls 2 = some (.ref 59) → j_lg ls 3 = some (.ref 79) → j_lg ls 4 = some (.int (nI i)) → Inv S2 → jE K M_L_law d 878 ls [] (lay S2 ++ J2) laQ k (6 * k)
theorem law_field (K : jK) (d : Nat) (hd : 61 ≤ d) (S : jS) (J : jH) (hI : Inv S) (i k : Nat) (hi : i + 5 ≤ scL K) (hL : scL K ≤ 2560) (hgo : lGo K d k i) : jE K M_L_law d 116 [(0, .ref 0), (1, .ref 32), (2, .ref 59), (3, .ref 79), (4, .int (nI i))] [] (lay S ++ J) laQ (k + 1) (6 * k + 6) := by
  by_cases hz : scX K (i + 4) = 0
  · refine j_aload_n d_L_law_116 rfl ?_
    refine j_aload_n d_L_law_117 rfl ?_
    refine j_iload d_L_law_118 rfl ?_
    refine j_iconst (v := 1) d_L_law_120 rfl ?_
    refine j_iadd d_L_law_121 ?_
    refine j_top (w := .int (nI (i + 1))) (congrArg Value.int (nI_add i 1)) ?_
    refine j_sald d_L_law_122 (by omega) (by omega) ?_
    refine j_i2c d_L_law_123 ?_
    refine j_aload_n d_L_law_124 rfl ?_
    refine j_iload d_L_law_125 rfl ?_
    refine j_iconst (v := 2) d_L_law_127 rfl ?_
    refine j_iadd d_L_law_128 ?_
    refine j_top (w := .int (nI (i + 2))) (congrArg Value.int (nI_add i 2)) ?_
    refine j_sald d_L_law_129 (by omega) (by omega) ?_
    refine j_aload_n d_L_law_130 rfl ?_
    refine j_iload d_L_law_131 rfl ?_
    refine j_iconst (v := 3) d_L_law_133 rfl ?_
    refine j_iadd d_L_law_134 ?_
    refine j_top (w := .int (nI (i + 3))) (congrArg Value.int (nI_add i 3)) ?_
    refine j_sald d_L_law_135 (by omega) (by omega) ?_
    refine j_aload_n d_L_law_136 rfl ?_
    refine j_iload d_L_law_137 rfl ?_
    refine j_iconst (v := 4) d_L_law_139 rfl ?_
    refine j_iadd d_L_law_140 ?_
    refine j_top (w := .int (nI (i + 4))) (congrArg Value.int (nI_add i 4)) ?_
    refine j_sald d_L_law_141 (by omega) (by omega) ?_
    refine j_if_eqT (tgt := 149) d_L_law_142 rfl hz ?_
    refine j_iconst (v := 0) d_L_law_149 rfl ?_
    refine j_retW (j_callS d_L_law_150 s_L_field l_L_60 rfl (op_field K (d - 1) (by omega) S J hI ((scX K (i + 1)).toUInt32 % 65536).toInt32 (scX K (i + 2)) (scX K (i + 3)) 0 (pk_nc _) rfl) (by omega) (by decide) (Nat.le_of_ble_eq_true rfl) rfl) rfl (fun v hh hq => ?_) (fun x hh hq => by obtain ⟨kc, S1, J1, h0, -⟩ := hq; cases h0)
    obtain ⟨kc, S1, J1, h0, rfl, hM⟩ := hq
    cases h0
    refine j_st (st' := [.int kc]) rfl ?_
    refine j_istore d_L_law_153 (by decide) ?_
    refine j_aload_n d_L_law_155 rfl ?_
    refine j_aload_n d_L_law_156 rfl ?_
    refine j_iload d_L_law_157 rfl ?_
    refine j_iconst (v := 1) d_L_law_159 rfl ?_
    refine j_iadd d_L_law_160 ?_
    refine j_top (w := .int (nI (i + 1))) (congrArg Value.int (nI_add i 1)) ?_
    refine j_sald d_L_law_161 (by omega) (by omega) ?_
    refine j_i2c d_L_law_162 ?_
    refine j_aload_n d_L_law_163 rfl ?_
    refine j_iload d_L_law_164 rfl ?_
    refine j_iconst (v := 2) d_L_law_166 rfl ?_
    refine j_iadd d_L_law_167 ?_
    refine j_top (w := .int (nI (i + 2))) (congrArg Value.int (nI_add i 2)) ?_
    refine j_sald d_L_law_168 (by omega) (by omega) ?_
    refine j_aload_n d_L_law_169 rfl ?_
    refine j_iload d_L_law_170 rfl ?_
    refine j_iconst (v := 3) d_L_law_172 rfl ?_
    refine j_iadd d_L_law_173 ?_
    refine j_top (w := .int (nI (i + 3))) (congrArg Value.int (nI_add i 3)) ?_
    refine j_sald d_L_law_174 (by omega) (by omega) ?_
    refine j_aload_n d_L_law_175 rfl ?_
    refine j_iload d_L_law_176 rfl ?_
    refine j_iconst (v := 4) d_L_law_178 rfl ?_
    refine j_iadd d_L_law_179 ?_
    refine j_top (w := .int (nI (i + 4))) (congrArg Value.int (nI_add i 4)) ?_
    refine j_sald d_L_law_180 (by omega) (by omega) ?_
    refine j_if_eqT (tgt := 188) d_L_law_181 rfl hz ?_
    refine j_iconst (v := 0) d_L_law_188 rfl ?_
    refine j_ret0 (j_callV d_L_law_189 v_M_field l_L_65 rfl rfl hM (by omega) (by decide) (Nat.le_of_ble_eq_true rfl) rfl) rfl (fun v hh hq => ?_) (fun x hh hq => by obtain ⟨S2, h0, -⟩ := hq; cases h0)
    obtain ⟨S2, h0, rfl, h30, hI2⟩ := hq
    cases h0
    refine j_st (st' := []) rfl ?_
    refine j_aload_n d_L_law_192 rfl ?_
    refine j_retI (j_callV d_L_law_193 v_M_thrown l_L_66 rfl rfl (m_M_thrown K (d - 1) S2 J1) (by omega) (by decide) (Nat.le_of_ble_eq_true rfl) rfl) rfl ?_
    refine j_iload d_L_law_196 rfl ?_
    refine j_icmp_eqT (tgt := 203) d_L_law_198 rfl h30 ?_
    refine j_goto (tgt := 878) d_L_law_203 rfl ?_
    exact hgo S2 J1 _ rfl rfl rfl rfl rfl hI2
  · refine j_aload_n d_L_law_116 rfl ?_
    refine j_aload_n d_L_law_117 rfl ?_
    refine j_iload d_L_law_118 rfl ?_
    refine j_iconst (v := 1) d_L_law_120 rfl ?_
    refine j_iadd d_L_law_121 ?_
    refine j_top (w := .int (nI (i + 1))) (congrArg Value.int (nI_add i 1)) ?_
    refine j_sald d_L_law_122 (by omega) (by omega) ?_
    refine j_i2c d_L_law_123 ?_
    refine j_aload_n d_L_law_124 rfl ?_
    refine j_iload d_L_law_125 rfl ?_
    refine j_iconst (v := 2) d_L_law_127 rfl ?_
    refine j_iadd d_L_law_128 ?_
    refine j_top (w := .int (nI (i + 2))) (congrArg Value.int (nI_add i 2)) ?_
    refine j_sald d_L_law_129 (by omega) (by omega) ?_
    refine j_aload_n d_L_law_130 rfl ?_
    refine j_iload d_L_law_131 rfl ?_
    refine j_iconst (v := 3) d_L_law_133 rfl ?_
    refine j_iadd d_L_law_134 ?_
    refine j_top (w := .int (nI (i + 3))) (congrArg Value.int (nI_add i 3)) ?_
    refine j_sald d_L_law_135 (by omega) (by omega) ?_
    refine j_aload_n d_L_law_136 rfl ?_
    refine j_iload d_L_law_137 rfl ?_
    refine j_iconst (v := 4) d_L_law_139 rfl ?_
    refine j_iadd d_L_law_140 ?_
    refine j_top (w := .int (nI (i + 4))) (congrArg Value.int (nI_add i 4)) ?_
    refine j_sald d_L_law_141 (by omega) (by omega) ?_
    refine j_if_eqF (tgt := 149) d_L_law_142 rfl hz ?_
    refine j_iconst (v := 1) d_L_law_145 rfl ?_
    refine j_goto (tgt := 150) d_L_law_146 rfl ?_
    refine j_retW (j_callS d_L_law_150 s_L_field l_L_60 rfl (op_field K (d - 1) (by omega) S J hI ((scX K (i + 1)).toUInt32 % 65536).toInt32 (scX K (i + 2)) (scX K (i + 3)) 1 (pk_nc _) rfl) (by omega) (by decide) (Nat.le_of_ble_eq_true rfl) rfl) rfl (fun v hh hq => ?_) (fun x hh hq => by obtain ⟨kc, S1, J1, h0, -⟩ := hq; cases h0)
    obtain ⟨kc, S1, J1, h0, rfl, hM⟩ := hq
    cases h0
    refine j_st (st' := [.int kc]) rfl ?_
    refine j_istore d_L_law_153 (by decide) ?_
    refine j_aload_n d_L_law_155 rfl ?_
    refine j_aload_n d_L_law_156 rfl ?_
    refine j_iload d_L_law_157 rfl ?_
    refine j_iconst (v := 1) d_L_law_159 rfl ?_
    refine j_iadd d_L_law_160 ?_
    refine j_top (w := .int (nI (i + 1))) (congrArg Value.int (nI_add i 1)) ?_
    refine j_sald d_L_law_161 (by omega) (by omega) ?_
    refine j_i2c d_L_law_162 ?_
    refine j_aload_n d_L_law_163 rfl ?_
    refine j_iload d_L_law_164 rfl ?_
    refine j_iconst (v := 2) d_L_law_166 rfl ?_
    refine j_iadd d_L_law_167 ?_
    refine j_top (w := .int (nI (i + 2))) (congrArg Value.int (nI_add i 2)) ?_
    refine j_sald d_L_law_168 (by omega) (by omega) ?_
    refine j_aload_n d_L_law_169 rfl ?_
    refine j_iload d_L_law_170 rfl ?_
    refine j_iconst (v := 3) d_L_law_172 rfl ?_
    refine j_iadd d_L_law_173 ?_
    refine j_top (w := .int (nI (i + 3))) (congrArg Value.int (nI_add i 3)) ?_
    refine j_sald d_L_law_174 (by omega) (by omega) ?_
    refine j_aload_n d_L_law_175 rfl ?_
    refine j_iload d_L_law_176 rfl ?_
    refine j_iconst (v := 4) d_L_law_178 rfl ?_
    refine j_iadd d_L_law_179 ?_
    refine j_top (w := .int (nI (i + 4))) (congrArg Value.int (nI_add i 4)) ?_
    refine j_sald d_L_law_180 (by omega) (by omega) ?_
    refine j_if_eqF (tgt := 188) d_L_law_181 rfl hz ?_
    refine j_iconst (v := 1) d_L_law_184 rfl ?_
    refine j_goto (tgt := 189) d_L_law_185 rfl ?_
    refine j_ret0 (j_callV d_L_law_189 v_M_field l_L_65 rfl rfl hM (by omega) (by decide) (Nat.le_of_ble_eq_true rfl) rfl) rfl (fun v hh hq => ?_) (fun x hh hq => by obtain ⟨S2, h0, -⟩ := hq; cases h0)
    obtain ⟨S2, h0, rfl, h30, hI2⟩ := hq
    cases h0
    refine j_st (st' := []) rfl ?_
    refine j_aload_n d_L_law_192 rfl ?_
    refine j_retI (j_callV d_L_law_193 v_M_thrown l_L_66 rfl rfl (m_M_thrown K (d - 1) S2 J1) (by omega) (by decide) (Nat.le_of_ble_eq_true rfl) rfl) rfl ?_
    refine j_iload d_L_law_196 rfl ?_
    refine j_icmp_eqT (tgt := 203) d_L_law_198 rfl h30 ?_
    refine j_goto (tgt := 878) d_L_law_203 rfl ?_
    exact hgo S2 J1 _ rfl rfl rfl rfl rfl hI2
theorem law_insert (K : jK) (d : Nat) (hd : 61 ≤ d) (S : jS) (J : jH) (hI : Inv S) (i k : Nat) (hi : i + 5 ≤ scL K) (hL : scL K ≤ 2560) (hgo : lGo K d k i) : jE K M_L_law d 206 [(0, .ref 0), (1, .ref 32), (2, .ref 59), (3, .ref 79), (4, .int (nI i))] [] (lay S ++ J) laQ (k + 1) (6 * k + 6) := by
  refine j_aload_n d_L_law_206 rfl ?_
  refine j_aload_n d_L_law_207 rfl ?_
  refine j_retW (j_callS d_L_law_208 s_L_insert l_L_69 rfl (op_insert K (d - 1) (by omega) S J hI ) (by omega) (by decide) (Nat.le_of_ble_eq_true rfl) rfl) rfl (fun v hh hq => ?_) (fun x hh hq => by obtain ⟨kc, S1, J1, h0, -⟩ := hq; cases h0)
  obtain ⟨kc, S1, J1, h0, rfl, hM⟩ := hq
  cases h0
  refine j_st (st' := [.int kc]) rfl ?_
  refine j_istore d_L_law_211 (by decide) ?_
  refine j_aload_n d_L_law_213 rfl ?_
  refine j_ret0 (j_callV d_L_law_214 v_M_insert l_L_72 rfl rfl hM (by omega) (by decide) (Nat.le_of_ble_eq_true rfl) rfl) rfl (fun v hh hq => ?_) (fun x hh hq => by obtain ⟨b, S2, h0, -⟩ := hq; cases h0)
  obtain ⟨b, S2, h0, rfl, h30, hb, hP, hI2⟩ := hq
  cases h0
  refine j_st (st' := [.int b]) rfl ?_
  refine j_istore d_L_law_217 (by decide) ?_
  refine j_aload_n d_L_law_219 rfl ?_
  refine j_retI (j_callV d_L_law_220 v_M_thrown l_L_66 rfl rfl (m_M_thrown K (d - 1) S2 J1) (by omega) (by decide) (Nat.le_of_ble_eq_true rfl) rfl) rfl ?_
  refine j_iload d_L_law_223 rfl ?_
  refine j_icmp_eqT (tgt := 230) d_L_law_225 rfl h30 ?_
  refine j_iload d_L_law_230 rfl ?_
  by_cases hk : kc = 0
  · refine j_if_neF (tgt := 247) d_L_law_232 rfl hk ?_
    refine j_aload_n d_L_law_235 rfl ?_
    refine j_iconst (v := 0) d_L_law_236 rfl ?_
    refine j_lald (j := 0) d_L_law_237 rfl (by omega) (by decide) ?_
    refine j_top (w := .long b.toInt64) (congrArg Value.long (hb hk)) ?_
    refine j_iload d_L_law_238 rfl ?_
    refine j_i2l d_L_law_240 ?_
    refine j_lcmp d_L_law_241 ?_
    refine j_if_eqT (tgt := 247) d_L_law_242 rfl (lcmp_self _) ?_
    refine j_goto (tgt := 878) d_L_law_247 rfl ?_
    exact hgo S2 J1 _ rfl rfl rfl rfl rfl hI2
  · refine j_if_neT (tgt := 247) d_L_law_232 rfl hk ?_
    refine j_goto (tgt := 878) d_L_law_247 rfl ?_
    exact hgo S2 J1 _ rfl rfl rfl rfl rfl hI2
theorem law_remove (K : jK) (d : Nat) (hd : 61 ≤ d) (S : jS) (J : jH) (hI : Inv S) (i k : Nat) (hi : i + 5 ≤ scL K) (hL : scL K ≤ 2560) (hgo : lGo K d k i) : jE K M_L_law d 250 [(0, .ref 0), (1, .ref 32), (2, .ref 59), (3, .ref 79), (4, .int (nI i))] [] (lay S ++ J) laQ (k + 1) (6 * k + 6) := by
  refine j_aload_n d_L_law_250 rfl ?_
  refine j_aload_n d_L_law_251 rfl ?_
  refine j_iload d_L_law_252 rfl ?_
  refine j_iconst (v := 1) d_L_law_254 rfl ?_
  refine j_iadd d_L_law_255 ?_
  refine j_top (w := .int (nI (i + 1))) (congrArg Value.int (nI_add i 1)) ?_
  refine j_sald d_L_law_256 (by omega) (by omega) ?_
  refine j_retW (j_callS d_L_law_257 s_L_remove l_L_73 rfl (op_remove K (d - 1) (by omega) S J hI (scX K (i + 1))) (by omega) (by decide) (Nat.le_of_ble_eq_true rfl) rfl) rfl (fun v hh hq => ?_) (fun x hh hq => by obtain ⟨kc, S1, J1, h0, -⟩ := hq; cases h0)
  obtain ⟨kc, S1, J1, h0, rfl, hM⟩ := hq
  cases h0
  refine j_st (st' := [.int kc]) rfl ?_
  refine j_istore d_L_law_260 (by decide) ?_
  refine j_aload_n d_L_law_262 rfl ?_
  refine j_aload_n d_L_law_263 rfl ?_
  refine j_iload d_L_law_264 rfl ?_
  refine j_iconst (v := 1) d_L_law_266 rfl ?_
  refine j_iadd d_L_law_267 ?_
  refine j_top (w := .int (nI (i + 1))) (congrArg Value.int (nI_add i 1)) ?_
  refine j_sald d_L_law_268 (by omega) (by omega) ?_
  refine j_ret0 (j_callV d_L_law_269 v_M_remove l_L_76 rfl rfl hM (by omega) (by decide) (Nat.le_of_ble_eq_true rfl) rfl) rfl (fun v hh hq => ?_) (fun x hh hq => by obtain ⟨S2, h0, -⟩ := hq; cases h0)
  obtain ⟨S2, h0, rfl, h30, hI2⟩ := hq
  cases h0
  refine j_st (st' := []) rfl ?_
  refine j_aload_n d_L_law_272 rfl ?_
  refine j_retI (j_callV d_L_law_273 v_M_thrown l_L_66 rfl rfl (m_M_thrown K (d - 1) S2 J1) (by omega) (by decide) (Nat.le_of_ble_eq_true rfl) rfl) rfl ?_
  refine j_iload d_L_law_276 rfl ?_
  refine j_icmp_eqT (tgt := 283) d_L_law_278 rfl h30 ?_
  refine j_goto (tgt := 878) d_L_law_283 rfl ?_
  exact hgo S2 J1 _ rfl rfl rfl rfl rfl hI2
theorem law_put (K : jK) (d : Nat) (hd : 61 ≤ d) (S : jS) (J : jH) (hI : Inv S) (i k : Nat) (hi : i + 5 ≤ scL K) (hL : scL K ≤ 2560) (hgo : lGo K d k i) : jE K M_L_law d 286 [(0, .ref 0), (1, .ref 32), (2, .ref 59), (3, .ref 79), (4, .int (nI i))] [] (lay S ++ J) laQ (k + 1) (6 * k + 6) := by
  refine j_aload_n d_L_law_286 rfl ?_
  refine j_aload_n d_L_law_287 rfl ?_
  refine j_iload d_L_law_288 rfl ?_
  refine j_iconst (v := 1) d_L_law_290 rfl ?_
  refine j_iadd d_L_law_291 ?_
  refine j_top (w := .int (nI (i + 1))) (congrArg Value.int (nI_add i 1)) ?_
  refine j_sald d_L_law_292 (by omega) (by omega) ?_
  refine j_aload_n d_L_law_293 rfl ?_
  refine j_iload d_L_law_294 rfl ?_
  refine j_iconst (v := 2) d_L_law_296 rfl ?_
  refine j_iadd d_L_law_297 ?_
  refine j_top (w := .int (nI (i + 2))) (congrArg Value.int (nI_add i 2)) ?_
  refine j_sald d_L_law_298 (by omega) (by omega) ?_
  refine j_i2c d_L_law_299 ?_
  refine j_aload_n d_L_law_300 rfl ?_
  refine j_iload d_L_law_301 rfl ?_
  refine j_iconst (v := 3) d_L_law_303 rfl ?_
  refine j_iadd d_L_law_304 ?_
  refine j_top (w := .int (nI (i + 3))) (congrArg Value.int (nI_add i 3)) ?_
  refine j_sald d_L_law_305 (by omega) (by omega) ?_
  refine j_retW (j_callS d_L_law_306 s_L_put l_L_77 rfl (op_put K (d - 1) (by omega) S J hI (scX K (i + 1)) ((scX K (i + 2)).toUInt32 % 65536).toInt32 (scX K (i + 3))) (by omega) (by decide) (Nat.le_of_ble_eq_true rfl) rfl) rfl (fun v hh hq => ?_) (fun x hh hq => by obtain ⟨kc, S1, J1, h0, -⟩ := hq; cases h0)
  obtain ⟨kc, S1, J1, h0, rfl, hM⟩ := hq
  cases h0
  refine j_st (st' := [.int kc]) rfl ?_
  refine j_istore d_L_law_309 (by decide) ?_
  refine j_aload_n d_L_law_311 rfl ?_
  refine j_aload_n d_L_law_312 rfl ?_
  refine j_iload d_L_law_313 rfl ?_
  refine j_iconst (v := 1) d_L_law_315 rfl ?_
  refine j_iadd d_L_law_316 ?_
  refine j_top (w := .int (nI (i + 1))) (congrArg Value.int (nI_add i 1)) ?_
  refine j_sald d_L_law_317 (by omega) (by omega) ?_
  refine j_aload_n d_L_law_318 rfl ?_
  refine j_iload d_L_law_319 rfl ?_
  refine j_iconst (v := 2) d_L_law_321 rfl ?_
  refine j_iadd d_L_law_322 ?_
  refine j_top (w := .int (nI (i + 2))) (congrArg Value.int (nI_add i 2)) ?_
  refine j_sald d_L_law_323 (by omega) (by omega) ?_
  refine j_i2c d_L_law_324 ?_
  refine j_aload_n d_L_law_325 rfl ?_
  refine j_iload d_L_law_326 rfl ?_
  refine j_iconst (v := 3) d_L_law_328 rfl ?_
  refine j_iadd d_L_law_329 ?_
  refine j_top (w := .int (nI (i + 3))) (congrArg Value.int (nI_add i 3)) ?_
  refine j_sald d_L_law_330 (by omega) (by omega) ?_
  refine j_ret0 (j_callV d_L_law_331 v_M_put l_L_80 rfl rfl hM (by omega) (by decide) (Nat.le_of_ble_eq_true rfl) rfl) rfl (fun v hh hq => ?_) (fun x hh hq => by obtain ⟨S2, h0, -⟩ := hq; cases h0)
  obtain ⟨S2, h0, rfl, h30, hI2⟩ := hq
  cases h0
  refine j_st (st' := []) rfl ?_
  refine j_aload_n d_L_law_334 rfl ?_
  refine j_retI (j_callV d_L_law_335 v_M_thrown l_L_66 rfl rfl (m_M_thrown K (d - 1) S2 J1) (by omega) (by decide) (Nat.le_of_ble_eq_true rfl) rfl) rfl ?_
  refine j_iload d_L_law_338 rfl ?_
  refine j_icmp_eqT (tgt := 345) d_L_law_340 rfl h30 ?_
  refine j_goto (tgt := 878) d_L_law_345 rfl ?_
  exact hgo S2 J1 _ rfl rfl rfl rfl rfl hI2
theorem law_get (K : jK) (d : Nat) (hd : 61 ≤ d) (S : jS) (J : jH) (hI : Inv S) (i k : Nat) (hi : i + 5 ≤ scL K) (hL : scL K ≤ 2560) (hgo : lGo K d k i) : jE K M_L_law d 348 [(0, .ref 0), (1, .ref 32), (2, .ref 59), (3, .ref 79), (4, .int (nI i))] [] (lay S ++ J) laQ (k + 1) (6 * k + 6) := by
  refine j_aload_n d_L_law_348 rfl ?_
  refine j_aload_n d_L_law_349 rfl ?_
  refine j_iload d_L_law_350 rfl ?_
  refine j_iconst (v := 1) d_L_law_352 rfl ?_
  refine j_iadd d_L_law_353 ?_
  refine j_top (w := .int (nI (i + 1))) (congrArg Value.int (nI_add i 1)) ?_
  refine j_sald d_L_law_354 (by omega) (by omega) ?_
  refine j_aload_n d_L_law_355 rfl ?_
  refine j_iload d_L_law_356 rfl ?_
  refine j_iconst (v := 2) d_L_law_358 rfl ?_
  refine j_iadd d_L_law_359 ?_
  refine j_top (w := .int (nI (i + 2))) (congrArg Value.int (nI_add i 2)) ?_
  refine j_sald d_L_law_360 (by omega) (by omega) ?_
  refine j_i2c d_L_law_361 ?_
  refine j_aload_n d_L_law_362 rfl ?_
  refine j_retW (j_callS d_L_law_363 s_L_get l_L_81 rfl (op_get K (d - 1) (by omega) S J hI (scX K (i + 1)) ((scX K (i + 2)).toUInt32 % 65536).toInt32) (by omega) (by decide) (Nat.le_of_ble_eq_true rfl) rfl) rfl (fun v hh hq => ?_) (fun x hh hq => by obtain ⟨kc, S1, J1, h0, -⟩ := hq; cases h0)
  obtain ⟨kc, S1, J1, h0, rfl, hM⟩ := hq
  cases h0
  refine j_st (st' := [.int kc]) rfl ?_
  refine j_istore d_L_law_366 (by decide) ?_
  refine j_aload_n d_L_law_368 rfl ?_
  refine j_aload_n d_L_law_369 rfl ?_
  refine j_iload d_L_law_370 rfl ?_
  refine j_iconst (v := 1) d_L_law_372 rfl ?_
  refine j_iadd d_L_law_373 ?_
  refine j_top (w := .int (nI (i + 1))) (congrArg Value.int (nI_add i 1)) ?_
  refine j_sald d_L_law_374 (by omega) (by omega) ?_
  refine j_aload_n d_L_law_375 rfl ?_
  refine j_iload d_L_law_376 rfl ?_
  refine j_iconst (v := 2) d_L_law_378 rfl ?_
  refine j_iadd d_L_law_379 ?_
  refine j_top (w := .int (nI (i + 2))) (congrArg Value.int (nI_add i 2)) ?_
  refine j_sald d_L_law_380 (by omega) (by omega) ?_
  refine j_i2c d_L_law_381 ?_
  refine j_ret0 (j_callV d_L_law_382 v_M_get l_L_84 rfl rfl hM (by omega) (by decide) (Nat.le_of_ble_eq_true rfl) rfl) rfl (fun v hh hq => ?_) (fun x hh hq => by obtain ⟨b, S2, h0, -⟩ := hq; cases h0)
  obtain ⟨b, S2, h0, rfl, h30, hb, hP, hI2⟩ := hq
  cases h0
  refine j_st (st' := [.int b]) rfl ?_
  refine j_istore d_L_law_385 (by decide) ?_
  refine j_aload_n d_L_law_387 rfl ?_
  refine j_retI (j_callV d_L_law_388 v_M_thrown l_L_66 rfl rfl (m_M_thrown K (d - 1) S2 J1) (by omega) (by decide) (Nat.le_of_ble_eq_true rfl) rfl) rfl ?_
  refine j_iload d_L_law_391 rfl ?_
  refine j_icmp_eqT (tgt := 398) d_L_law_393 rfl h30 ?_
  refine j_iload d_L_law_398 rfl ?_
  by_cases hk : kc = 0
  · refine j_if_neF (tgt := 415) d_L_law_400 rfl hk ?_
    refine j_aload_n d_L_law_403 rfl ?_
    refine j_iconst (v := 0) d_L_law_404 rfl ?_
    refine j_lald (j := 0) d_L_law_405 rfl (by omega) (by decide) ?_
    refine j_top (w := .long b.toInt64) (congrArg Value.long (hb hk)) ?_
    refine j_iload d_L_law_406 rfl ?_
    refine j_i2l d_L_law_408 ?_
    refine j_lcmp d_L_law_409 ?_
    refine j_if_eqT (tgt := 415) d_L_law_410 rfl (lcmp_self _) ?_
    refine j_goto (tgt := 878) d_L_law_415 rfl ?_
    exact hgo S2 J1 _ rfl rfl rfl rfl rfl hI2
  · refine j_if_neT (tgt := 415) d_L_law_400 rfl hk ?_
    refine j_goto (tgt := 878) d_L_law_415 rfl ?_
    exact hgo S2 J1 _ rfl rfl rfl rfl rfl hI2
theorem law_bit (K : jK) (d : Nat) (hd : 61 ≤ d) (S : jS) (J : jH) (hI : Inv S) (i k : Nat) (hi : i + 5 ≤ scL K) (hL : scL K ≤ 2560) (hgo : lGo K d k i) : jE K M_L_law d 418 [(0, .ref 0), (1, .ref 32), (2, .ref 59), (3, .ref 79), (4, .int (nI i))] [] (lay S ++ J) laQ (k + 1) (6 * k + 6) := by
  refine j_aload_n d_L_law_418 rfl ?_
  refine j_aload_n d_L_law_419 rfl ?_
  refine j_iload d_L_law_420 rfl ?_
  refine j_iconst (v := 1) d_L_law_422 rfl ?_
  refine j_iadd d_L_law_423 ?_
  refine j_top (w := .int (nI (i + 1))) (congrArg Value.int (nI_add i 1)) ?_
  refine j_sald d_L_law_424 (by omega) (by omega) ?_
  refine j_aload_n d_L_law_425 rfl ?_
  refine j_iload d_L_law_426 rfl ?_
  refine j_iconst (v := 2) d_L_law_428 rfl ?_
  refine j_iadd d_L_law_429 ?_
  refine j_top (w := .int (nI (i + 2))) (congrArg Value.int (nI_add i 2)) ?_
  refine j_sald d_L_law_430 (by omega) (by omega) ?_
  refine j_aload_n d_L_law_431 rfl ?_
  refine j_retW (j_callS d_L_law_432 s_L_bit l_L_85 rfl (op_bit K (d - 1) (by omega) S J hI (scX K (i + 1)) (scX K (i + 2))) (by omega) (by decide) (Nat.le_of_ble_eq_true rfl) rfl) rfl (fun v hh hq => ?_) (fun x hh hq => by obtain ⟨kc, S1, J1, h0, -⟩ := hq; cases h0)
  obtain ⟨kc, S1, J1, h0, rfl, hM⟩ := hq
  cases h0
  refine j_st (st' := [.int kc]) rfl ?_
  refine j_istore d_L_law_435 (by decide) ?_
  refine j_aload_n d_L_law_437 rfl ?_
  refine j_aload_n d_L_law_438 rfl ?_
  refine j_iload d_L_law_439 rfl ?_
  refine j_iconst (v := 1) d_L_law_441 rfl ?_
  refine j_iadd d_L_law_442 ?_
  refine j_top (w := .int (nI (i + 1))) (congrArg Value.int (nI_add i 1)) ?_
  refine j_sald d_L_law_443 (by omega) (by omega) ?_
  refine j_aload_n d_L_law_444 rfl ?_
  refine j_iload d_L_law_445 rfl ?_
  refine j_iconst (v := 2) d_L_law_447 rfl ?_
  refine j_iadd d_L_law_448 ?_
  refine j_top (w := .int (nI (i + 2))) (congrArg Value.int (nI_add i 2)) ?_
  refine j_sald d_L_law_449 (by omega) (by omega) ?_
  refine j_ret0 (j_callV d_L_law_450 v_M_bit l_L_88 rfl rfl hM (by omega) (by decide) (Nat.le_of_ble_eq_true rfl) rfl) rfl (fun v hh hq => ?_) (fun x hh hq => by obtain ⟨b, S2, h0, -⟩ := hq; cases h0)
  obtain ⟨b, S2, h0, rfl, h30, hb, hP, hI2⟩ := hq
  cases h0
  refine j_st (st' := [.int b]) rfl ?_
  refine j_istore d_L_law_453 (by decide) ?_
  refine j_aload_n d_L_law_455 rfl ?_
  refine j_retI (j_callV d_L_law_456 v_M_thrown l_L_66 rfl rfl (m_M_thrown K (d - 1) S2 J1) (by omega) (by decide) (Nat.le_of_ble_eq_true rfl) rfl) rfl ?_
  refine j_iload d_L_law_459 rfl ?_
  refine j_icmp_eqT (tgt := 466) d_L_law_461 rfl h30 ?_
  refine j_iload d_L_law_466 rfl ?_
  by_cases hk : kc = 0
  · refine j_if_neF (tgt := 490) d_L_law_468 rfl hk ?_
    refine j_aload_n d_L_law_471 rfl ?_
    refine j_iconst (v := 0) d_L_law_472 rfl ?_
    refine j_lald (j := 0) d_L_law_473 rfl (by omega) (by decide) ?_
    refine j_top (w := .long b.toInt64) (congrArg Value.long (hb hk)) ?_
    refine j_iload d_L_law_474 rfl ?_
    rcases hP with rfl | rfl
    · refine j_if_eqT (tgt := 483) d_L_law_476 rfl rfl ?_
      refine j_lconst (v := 0) d_L_law_483 rfl ?_
      refine j_lcmp d_L_law_484 ?_
      refine j_if_eqT (tgt := 490) d_L_law_485 rfl (lcmp_self _) ?_
      refine j_goto (tgt := 878) d_L_law_490 rfl ?_
      exact hgo S2 J1 _ rfl rfl rfl rfl rfl hI2
    · refine j_if_eqF (tgt := 483) d_L_law_476 rfl (by decide) ?_
      refine j_lconst (v := 1) d_L_law_479 rfl ?_
      refine j_goto (tgt := 484) d_L_law_480 rfl ?_
      refine j_lcmp d_L_law_484 ?_
      refine j_if_eqT (tgt := 490) d_L_law_485 rfl (lcmp_self _) ?_
      refine j_goto (tgt := 878) d_L_law_490 rfl ?_
      exact hgo S2 J1 _ rfl rfl rfl rfl rfl hI2
  · refine j_if_neT (tgt := 490) d_L_law_468 rfl hk ?_
    refine j_goto (tgt := 878) d_L_law_490 rfl ?_
    exact hgo S2 J1 _ rfl rfl rfl rfl rfl hI2
theorem law_search (K : jK) (d : Nat) (hd : 61 ≤ d) (S : jS) (J : jH) (hI : Inv S) (i k : Nat) (hi : i + 5 ≤ scL K) (hL : scL K ≤ 2560) (hgo : lGo K d k i) : jE K M_L_law d 493 [(0, .ref 0), (1, .ref 32), (2, .ref 59), (3, .ref 79), (4, .int (nI i))] [] (lay S ++ J) laQ (k + 1) (6 * k + 6) := by
  by_cases hz : scX K (i + 3) = 0
  · refine j_aload_n d_L_law_493 rfl ?_
    refine j_aload_n d_L_law_494 rfl ?_
    refine j_iload d_L_law_495 rfl ?_
    refine j_iconst (v := 1) d_L_law_497 rfl ?_
    refine j_iadd d_L_law_498 ?_
    refine j_top (w := .int (nI (i + 1))) (congrArg Value.int (nI_add i 1)) ?_
    refine j_sald d_L_law_499 (by omega) (by omega) ?_
    refine j_aload_n d_L_law_500 rfl ?_
    refine j_iload d_L_law_501 rfl ?_
    refine j_iconst (v := 2) d_L_law_503 rfl ?_
    refine j_iadd d_L_law_504 ?_
    refine j_top (w := .int (nI (i + 2))) (congrArg Value.int (nI_add i 2)) ?_
    refine j_sald d_L_law_505 (by omega) (by omega) ?_
    refine j_aload_n d_L_law_506 rfl ?_
    refine j_iload d_L_law_507 rfl ?_
    refine j_iconst (v := 3) d_L_law_509 rfl ?_
    refine j_iadd d_L_law_510 ?_
    refine j_top (w := .int (nI (i + 3))) (congrArg Value.int (nI_add i 3)) ?_
    refine j_sald d_L_law_511 (by omega) (by omega) ?_
    refine j_if_eqT (tgt := 519) d_L_law_512 rfl hz ?_
    refine j_iconst (v := 0) d_L_law_519 rfl ?_
    refine j_more (a := 1) (b := 6) ?_
    refine j_ret0 (j_callV d_L_law_520 v_B_search l_L_89 rfl rfl (op_search K (d - 1) (by omega) S J hI (scX K (i + 1)) (scX K (i + 2)) 0) (by omega) (by decide) (Nat.le_of_ble_eq_true rfl) rfl) rfl (fun v hh hq => ?_) (fun x hh hq => by obtain ⟨w, S1, h0, -⟩ := hq; cases h0)
    obtain ⟨w, S1, h0, rfl, hM⟩ := hq
    cases h0
    refine j_st (st' := [.int w]) rfl ?_
    refine j_aload_n d_L_law_523 rfl ?_
    refine j_aload_n d_L_law_524 rfl ?_
    refine j_iload d_L_law_525 rfl ?_
    refine j_iconst (v := 1) d_L_law_527 rfl ?_
    refine j_iadd d_L_law_528 ?_
    refine j_top (w := .int (nI (i + 1))) (congrArg Value.int (nI_add i 1)) ?_
    refine j_sald d_L_law_529 (by omega) (by omega) ?_
    refine j_aload_n d_L_law_530 rfl ?_
    refine j_iload d_L_law_531 rfl ?_
    refine j_iconst (v := 2) d_L_law_533 rfl ?_
    refine j_iadd d_L_law_534 ?_
    refine j_top (w := .int (nI (i + 2))) (congrArg Value.int (nI_add i 2)) ?_
    refine j_sald d_L_law_535 (by omega) (by omega) ?_
    refine j_aload_n d_L_law_536 rfl ?_
    refine j_iload d_L_law_537 rfl ?_
    refine j_iconst (v := 3) d_L_law_539 rfl ?_
    refine j_iadd d_L_law_540 ?_
    refine j_top (w := .int (nI (i + 3))) (congrArg Value.int (nI_add i 3)) ?_
    refine j_sald d_L_law_541 (by omega) (by omega) ?_
    refine j_if_eqT (tgt := 549) d_L_law_542 rfl hz ?_
    refine j_iconst (v := 0) d_L_law_549 rfl ?_
    refine j_ret0 (j_callV d_L_law_550 v_M_search l_L_93 rfl rfl hM (by omega) (by decide) (Nat.le_of_ble_eq_true rfl) rfl) rfl (fun v hh hq => ?_) (fun x hh hq => by obtain ⟨S2, h0, -⟩ := hq; cases h0)
    obtain ⟨S2, h0, rfl, hI2⟩ := hq
    cases h0
    refine j_st (st' := [.int w, .int w]) rfl ?_
    refine j_icmp_eqT (tgt := 878) d_L_law_553 rfl rfl ?_
    exact hgo S2 J _ rfl rfl rfl rfl rfl hI2
  · refine j_aload_n d_L_law_493 rfl ?_
    refine j_aload_n d_L_law_494 rfl ?_
    refine j_iload d_L_law_495 rfl ?_
    refine j_iconst (v := 1) d_L_law_497 rfl ?_
    refine j_iadd d_L_law_498 ?_
    refine j_top (w := .int (nI (i + 1))) (congrArg Value.int (nI_add i 1)) ?_
    refine j_sald d_L_law_499 (by omega) (by omega) ?_
    refine j_aload_n d_L_law_500 rfl ?_
    refine j_iload d_L_law_501 rfl ?_
    refine j_iconst (v := 2) d_L_law_503 rfl ?_
    refine j_iadd d_L_law_504 ?_
    refine j_top (w := .int (nI (i + 2))) (congrArg Value.int (nI_add i 2)) ?_
    refine j_sald d_L_law_505 (by omega) (by omega) ?_
    refine j_aload_n d_L_law_506 rfl ?_
    refine j_iload d_L_law_507 rfl ?_
    refine j_iconst (v := 3) d_L_law_509 rfl ?_
    refine j_iadd d_L_law_510 ?_
    refine j_top (w := .int (nI (i + 3))) (congrArg Value.int (nI_add i 3)) ?_
    refine j_sald d_L_law_511 (by omega) (by omega) ?_
    refine j_if_eqF (tgt := 519) d_L_law_512 rfl hz ?_
    refine j_iconst (v := 1) d_L_law_515 rfl ?_
    refine j_goto (tgt := 520) d_L_law_516 rfl ?_
    refine j_more (a := 1) (b := 6) ?_
    refine j_ret0 (j_callV d_L_law_520 v_B_search l_L_89 rfl rfl (op_search K (d - 1) (by omega) S J hI (scX K (i + 1)) (scX K (i + 2)) 1) (by omega) (by decide) (Nat.le_of_ble_eq_true rfl) rfl) rfl (fun v hh hq => ?_) (fun x hh hq => by obtain ⟨w, S1, h0, -⟩ := hq; cases h0)
    obtain ⟨w, S1, h0, rfl, hM⟩ := hq
    cases h0
    refine j_st (st' := [.int w]) rfl ?_
    refine j_aload_n d_L_law_523 rfl ?_
    refine j_aload_n d_L_law_524 rfl ?_
    refine j_iload d_L_law_525 rfl ?_
    refine j_iconst (v := 1) d_L_law_527 rfl ?_
    refine j_iadd d_L_law_528 ?_
    refine j_top (w := .int (nI (i + 1))) (congrArg Value.int (nI_add i 1)) ?_
    refine j_sald d_L_law_529 (by omega) (by omega) ?_
    refine j_aload_n d_L_law_530 rfl ?_
    refine j_iload d_L_law_531 rfl ?_
    refine j_iconst (v := 2) d_L_law_533 rfl ?_
    refine j_iadd d_L_law_534 ?_
    refine j_top (w := .int (nI (i + 2))) (congrArg Value.int (nI_add i 2)) ?_
    refine j_sald d_L_law_535 (by omega) (by omega) ?_
    refine j_aload_n d_L_law_536 rfl ?_
    refine j_iload d_L_law_537 rfl ?_
    refine j_iconst (v := 3) d_L_law_539 rfl ?_
    refine j_iadd d_L_law_540 ?_
    refine j_top (w := .int (nI (i + 3))) (congrArg Value.int (nI_add i 3)) ?_
    refine j_sald d_L_law_541 (by omega) (by omega) ?_
    refine j_if_eqF (tgt := 549) d_L_law_542 rfl hz ?_
    refine j_iconst (v := 1) d_L_law_545 rfl ?_
    refine j_goto (tgt := 550) d_L_law_546 rfl ?_
    refine j_ret0 (j_callV d_L_law_550 v_M_search l_L_93 rfl rfl hM (by omega) (by decide) (Nat.le_of_ble_eq_true rfl) rfl) rfl (fun v hh hq => ?_) (fun x hh hq => by obtain ⟨S2, h0, -⟩ := hq; cases h0)
    obtain ⟨S2, h0, rfl, hI2⟩ := hq
    cases h0
    refine j_st (st' := [.int w, .int w]) rfl ?_
    refine j_icmp_eqT (tgt := 878) d_L_law_553 rfl rfl ?_
    exact hgo S2 J _ rfl rfl rfl rfl rfl hI2
theorem law_multi (K : jK) (d : Nat) (hd : 61 ≤ d) (S : jS) (J : jH) (hI : Inv S) (i k : Nat) (hi : i + 5 ≤ scL K) (hL : scL K ≤ 2560) (hgo : lGo K d k i) : jE K M_L_law d 558 [(0, .ref 0), (1, .ref 32), (2, .ref 59), (3, .ref 79), (4, .int (nI i))] [] (lay S ++ J) laQ (k + 1) (6 * k + 6) := by
  refine j_aload_n d_L_law_558 rfl ?_
  refine j_aload_n d_L_law_559 rfl ?_
  refine j_iload d_L_law_560 rfl ?_
  refine j_iconst (v := 1) d_L_law_562 rfl ?_
  refine j_iadd d_L_law_563 ?_
  refine j_top (w := .int (nI (i + 1))) (congrArg Value.int (nI_add i 1)) ?_
  refine j_sald d_L_law_564 (by omega) (by omega) ?_
  refine j_aload_n d_L_law_565 rfl ?_
  refine j_iload d_L_law_566 rfl ?_
  refine j_iconst (v := 2) d_L_law_568 rfl ?_
  refine j_iadd d_L_law_569 ?_
  refine j_top (w := .int (nI (i + 2))) (congrArg Value.int (nI_add i 2)) ?_
  refine j_sald d_L_law_570 (by omega) (by omega) ?_
  refine j_retW (j_callS d_L_law_571 s_L_multi l_L_94 rfl (op_multi K (d - 1) (by omega) S J hI (scX K (i + 1)) (scX K (i + 2))) (by omega) (by decide) (Nat.le_of_ble_eq_true rfl) rfl) rfl (fun v hh hq => ?_) (fun x hh hq => by obtain ⟨kc, S1, J1, h0, -⟩ := hq; cases h0)
  obtain ⟨kc, S1, J1, h0, rfl, hM⟩ := hq
  cases h0
  refine j_st (st' := [.int kc]) rfl ?_
  refine j_istore d_L_law_574 (by decide) ?_
  refine j_aload_n d_L_law_576 rfl ?_
  refine j_aload_n d_L_law_577 rfl ?_
  refine j_iload d_L_law_578 rfl ?_
  refine j_iconst (v := 1) d_L_law_580 rfl ?_
  refine j_iadd d_L_law_581 ?_
  refine j_top (w := .int (nI (i + 1))) (congrArg Value.int (nI_add i 1)) ?_
  refine j_sald d_L_law_582 (by omega) (by omega) ?_
  refine j_aload_n d_L_law_583 rfl ?_
  refine j_iload d_L_law_584 rfl ?_
  refine j_iconst (v := 2) d_L_law_586 rfl ?_
  refine j_iadd d_L_law_587 ?_
  refine j_top (w := .int (nI (i + 2))) (congrArg Value.int (nI_add i 2)) ?_
  refine j_sald d_L_law_588 (by omega) (by omega) ?_
  refine j_ret0 (j_callV d_L_law_589 v_M_multi l_L_97 rfl rfl hM (by omega) (by decide) (Nat.le_of_ble_eq_true rfl) rfl) rfl (fun v hh hq => ?_) (fun x hh hq => by obtain ⟨S2, h0, -⟩ := hq; cases h0)
  obtain ⟨S2, h0, rfl, h30, hI2⟩ := hq
  cases h0
  refine j_st (st' := []) rfl ?_
  refine j_aload_n d_L_law_592 rfl ?_
  refine j_retI (j_callV d_L_law_593 v_M_thrown l_L_66 rfl rfl (m_M_thrown K (d - 1) S2 J1) (by omega) (by decide) (Nat.le_of_ble_eq_true rfl) rfl) rfl ?_
  refine j_iload d_L_law_596 rfl ?_
  refine j_icmp_eqT (tgt := 603) d_L_law_598 rfl h30 ?_
  refine j_goto (tgt := 878) d_L_law_603 rfl ?_
  exact hgo S2 J1 _ rfl rfl rfl rfl rfl hI2
theorem law_responds (K : jK) (d : Nat) (hd : 61 ≤ d) (S : jS) (J : jH) (hI : Inv S) (i k : Nat) (hi : i + 5 ≤ scL K) (hL : scL K ≤ 2560) (hgo : lGo K d k i) : jE K M_L_law d 606 [(0, .ref 0), (1, .ref 32), (2, .ref 59), (3, .ref 79), (4, .int (nI i))] [] (lay S ++ J) laQ (k + 1) (6 * k + 6) := by
  refine j_aload_n d_L_law_606 rfl ?_
  refine j_aload_n d_L_law_607 rfl ?_
  refine j_iload d_L_law_608 rfl ?_
  refine j_iconst (v := 1) d_L_law_610 rfl ?_
  refine j_iadd d_L_law_611 ?_
  refine j_top (w := .int (nI (i + 1))) (congrArg Value.int (nI_add i 1)) ?_
  refine j_sald d_L_law_612 (by omega) (by omega) ?_
  refine j_aload_n d_L_law_613 rfl ?_
  refine j_retW (j_callS d_L_law_614 s_L_responds l_L_98 rfl (op_responds K (d - 1) (by omega) S J hI (scX K (i + 1))) (by omega) (by decide) (Nat.le_of_ble_eq_true rfl) rfl) rfl (fun v hh hq => ?_) (fun x hh hq => by obtain ⟨kc, S1, J1, h0, -⟩ := hq; cases h0)
  obtain ⟨kc, S1, J1, h0, rfl, hM⟩ := hq
  cases h0
  refine j_st (st' := [.int kc]) rfl ?_
  refine j_istore d_L_law_617 (by decide) ?_
  refine j_aload_n d_L_law_619 rfl ?_
  refine j_aload_n d_L_law_620 rfl ?_
  refine j_iload d_L_law_621 rfl ?_
  refine j_iconst (v := 1) d_L_law_623 rfl ?_
  refine j_iadd d_L_law_624 ?_
  refine j_top (w := .int (nI (i + 1))) (congrArg Value.int (nI_add i 1)) ?_
  refine j_sald d_L_law_625 (by omega) (by omega) ?_
  refine j_ret0 (j_callV d_L_law_626 v_M_responds l_L_101 rfl rfl hM (by omega) (by decide) (Nat.le_of_ble_eq_true rfl) rfl) rfl (fun v hh hq => ?_) (fun x hh hq => by obtain ⟨b, S2, h0, -⟩ := hq; cases h0)
  obtain ⟨b, S2, h0, rfl, h30, hb, hP, hI2⟩ := hq
  cases h0
  refine j_st (st' := [.int b]) rfl ?_
  refine j_istore d_L_law_629 (by decide) ?_
  refine j_aload_n d_L_law_631 rfl ?_
  refine j_retI (j_callV d_L_law_632 v_M_thrown l_L_66 rfl rfl (m_M_thrown K (d - 1) S2 J1) (by omega) (by decide) (Nat.le_of_ble_eq_true rfl) rfl) rfl ?_
  refine j_iload d_L_law_635 rfl ?_
  refine j_icmp_eqT (tgt := 642) d_L_law_637 rfl h30 ?_
  refine j_iload d_L_law_642 rfl ?_
  by_cases hk : kc = 0
  · refine j_if_neF (tgt := 666) d_L_law_644 rfl hk ?_
    refine j_aload_n d_L_law_647 rfl ?_
    refine j_iconst (v := 0) d_L_law_648 rfl ?_
    refine j_lald (j := 0) d_L_law_649 rfl (by omega) (by decide) ?_
    refine j_top (w := .long b.toInt64) (congrArg Value.long (hb hk)) ?_
    refine j_iload d_L_law_650 rfl ?_
    rcases hP with rfl | rfl
    · refine j_if_eqT (tgt := 659) d_L_law_652 rfl rfl ?_
      refine j_lconst (v := 0) d_L_law_659 rfl ?_
      refine j_lcmp d_L_law_660 ?_
      refine j_if_eqT (tgt := 666) d_L_law_661 rfl (lcmp_self _) ?_
      refine j_goto (tgt := 878) d_L_law_666 rfl ?_
      exact hgo S2 J1 _ rfl rfl rfl rfl rfl hI2
    · refine j_if_eqF (tgt := 659) d_L_law_652 rfl (by decide) ?_
      refine j_lconst (v := 1) d_L_law_655 rfl ?_
      refine j_goto (tgt := 660) d_L_law_656 rfl ?_
      refine j_lcmp d_L_law_660 ?_
      refine j_if_eqT (tgt := 666) d_L_law_661 rfl (lcmp_self _) ?_
      refine j_goto (tgt := 878) d_L_law_666 rfl ?_
      exact hgo S2 J1 _ rfl rfl rfl rfl rfl hI2
  · refine j_if_neT (tgt := 666) d_L_law_644 rfl hk ?_
    refine j_goto (tgt := 878) d_L_law_666 rfl ?_
    exact hgo S2 J1 _ rfl rfl rfl rfl rfl hI2
theorem law_first (K : jK) (d : Nat) (hd : 61 ≤ d) (S : jS) (J : jH) (hI : Inv S) (i k : Nat) (hi : i + 5 ≤ scL K) (hL : scL K ≤ 2560) (hgo : lGo K d k i) : jE K M_L_law d 669 [(0, .ref 0), (1, .ref 32), (2, .ref 59), (3, .ref 79), (4, .int (nI i))] [] (lay S ++ J) laQ (k + 1) (6 * k + 6) := by
  refine j_aload_n d_L_law_669 rfl ?_
  refine j_more (a := 1) (b := 6) ?_
  refine j_ret0 (j_callV d_L_law_670 v_B_first l_L_102 rfl rfl (op_first K (d - 1) (by omega) S J hI ) (by omega) (by decide) (Nat.le_of_ble_eq_true rfl) rfl) rfl (fun v hh hq => ?_) (fun x hh hq => by obtain ⟨w, S1, h0, -⟩ := hq; cases h0)
  obtain ⟨w, S1, h0, rfl, hM⟩ := hq
  cases h0
  refine j_st (st' := [.int w]) rfl ?_
  refine j_aload_n d_L_law_673 rfl ?_
  refine j_ret0 (j_callV d_L_law_674 v_M_first l_L_105 rfl rfl hM (by omega) (by decide) (Nat.le_of_ble_eq_true rfl) rfl) rfl (fun v hh hq => ?_) (fun x hh hq => by obtain ⟨S2, h0, -⟩ := hq; cases h0)
  obtain ⟨S2, h0, rfl, hI2⟩ := hq
  cases h0
  refine j_st (st' := [.int w, .int w]) rfl ?_
  refine j_icmp_eqT (tgt := 878) d_L_law_677 rfl rfl ?_
  exact hgo S2 J _ rfl rfl rfl rfl rfl hI2
theorem law_write (K : jK) (d : Nat) (hd : 61 ≤ d) (S : jS) (J : jH) (hI : Inv S) (i k : Nat) (hi : i + 5 ≤ scL K) (hL : scL K ≤ 2560) (hgo : lGo K d k i) : jE K M_L_law d 682 [(0, .ref 0), (1, .ref 32), (2, .ref 59), (3, .ref 79), (4, .int (nI i))] [] (lay S ++ J) laQ (k + 1) (6 * k + 6) := by
  refine j_aload_n d_L_law_682 rfl ?_
  refine j_aload_n d_L_law_683 rfl ?_
  refine j_iload d_L_law_684 rfl ?_
  refine j_iconst (v := 1) d_L_law_686 rfl ?_
  refine j_iadd d_L_law_687 ?_
  refine j_top (w := .int (nI (i + 1))) (congrArg Value.int (nI_add i 1)) ?_
  refine j_sald d_L_law_688 (by omega) (by omega) ?_
  refine j_i2l d_L_law_689 ?_
  refine j_bipush (v := 32) d_L_law_690 (by decide) ?_
  refine j_lshl d_L_law_692 ?_
  refine j_aload_n d_L_law_693 rfl ?_
  refine j_iload d_L_law_694 rfl ?_
  refine j_iconst (v := 2) d_L_law_696 rfl ?_
  refine j_iadd d_L_law_697 ?_
  refine j_top (w := .int (nI (i + 2))) (congrArg Value.int (nI_add i 2)) ?_
  refine j_sald d_L_law_698 (by omega) (by omega) ?_
  refine j_i2l d_L_law_699 ?_
  refine j_ldc2 d_L_law_700 c_L_106 ?_
  refine j_land d_L_law_703 ?_
  refine j_lor d_L_law_704 ?_
  refine j_more (a := 1) (b := 6) ?_
  refine j_ret0 (j_callV d_L_law_705 v_B_write l_L_108 rfl rfl (op_write K (d - 1) (by omega) S J hI _) (by omega) (by decide) (Nat.le_of_ble_eq_true rfl) rfl) rfl (fun v hh hq => ?_) (fun x hh hq => by obtain ⟨w, S1, h0, -⟩ := hq; cases h0)
  obtain ⟨w, S1, h0, rfl, hM⟩ := hq
  cases h0
  refine j_st (st' := [.int w]) rfl ?_
  refine j_aload_n d_L_law_708 rfl ?_
  refine j_aload_n d_L_law_709 rfl ?_
  refine j_iload d_L_law_710 rfl ?_
  refine j_iconst (v := 1) d_L_law_712 rfl ?_
  refine j_iadd d_L_law_713 ?_
  refine j_top (w := .int (nI (i + 1))) (congrArg Value.int (nI_add i 1)) ?_
  refine j_sald d_L_law_714 (by omega) (by omega) ?_
  refine j_i2l d_L_law_715 ?_
  refine j_bipush (v := 32) d_L_law_716 (by decide) ?_
  refine j_lshl d_L_law_718 ?_
  refine j_aload_n d_L_law_719 rfl ?_
  refine j_iload d_L_law_720 rfl ?_
  refine j_iconst (v := 2) d_L_law_722 rfl ?_
  refine j_iadd d_L_law_723 ?_
  refine j_top (w := .int (nI (i + 2))) (congrArg Value.int (nI_add i 2)) ?_
  refine j_sald d_L_law_724 (by omega) (by omega) ?_
  refine j_i2l d_L_law_725 ?_
  refine j_ldc2 d_L_law_726 c_L_106 ?_
  refine j_land d_L_law_729 ?_
  refine j_lor d_L_law_730 ?_
  refine j_ret0 (j_callV d_L_law_731 v_M_write l_L_112 rfl rfl hM (by omega) (by decide) (Nat.le_of_ble_eq_true rfl) rfl) rfl (fun v hh hq => ?_) (fun x hh hq => by obtain ⟨S2, h0, -⟩ := hq; cases h0)
  obtain ⟨S2, h0, rfl, hI2⟩ := hq
  cases h0
  refine j_st (st' := [.int w, .int w]) rfl ?_
  refine j_icmp_eqT (tgt := 878) d_L_law_734 rfl rfl ?_
  exact hgo S2 J _ rfl rfl rfl rfl rfl hI2
theorem law_wipe (K : jK) (d : Nat) (hd : 61 ≤ d) (S : jS) (J : jH) (hI : Inv S) (i k : Nat) (hi : i + 5 ≤ scL K) (hL : scL K ≤ 2560) (hgo : lGo K d k i) : jE K M_L_law d 739 [(0, .ref 0), (1, .ref 32), (2, .ref 59), (3, .ref 79), (4, .int (nI i))] [] (lay S ++ J) laQ (k + 1) (6 * k + 6) := by
  refine j_aload_n d_L_law_739 rfl ?_
  refine j_more (a := 1) (b := 6) ?_
  refine j_ret0 (j_callV d_L_law_740 v_B_wipe l_L_113 rfl rfl (op_wipe K (d - 1) (by omega) S J hI ) (by omega) (by decide) (Nat.le_of_ble_eq_true rfl) rfl) rfl (fun v hh hq => ?_) (fun x hh hq => by obtain ⟨w, S1, h0, -⟩ := hq; cases h0)
  obtain ⟨w, S1, h0, rfl, hM⟩ := hq
  cases h0
  refine j_st (st' := [.int w]) rfl ?_
  refine j_aload_n d_L_law_743 rfl ?_
  refine j_ret0 (j_callV d_L_law_744 v_M_wipe l_L_116 rfl rfl hM (by omega) (by decide) (Nat.le_of_ble_eq_true rfl) rfl) rfl (fun v hh hq => ?_) (fun x hh hq => by obtain ⟨S2, h0, -⟩ := hq; cases h0)
  obtain ⟨S2, h0, rfl, hI2⟩ := hq
  cases h0
  refine j_st (st' := [.int w, .int w]) rfl ?_
  refine j_icmp_eqT (tgt := 878) d_L_law_747 rfl rfl ?_
  exact hgo S2 J _ rfl rfl rfl rfl rfl hI2
theorem law_run (K : jK) (d : Nat) (hd : 61 ≤ d) (S : jS) (J : jH) (hI : Inv S) (i k : Nat) (hi : i + 5 ≤ scL K) (hL : scL K ≤ 2560) (hgo : lGo K d k i) : jE K M_L_law d 752 [(0, .ref 0), (1, .ref 32), (2, .ref 59), (3, .ref 79), (4, .int (nI i))] [] (lay S ++ J) laQ (k + 1) (6 * k + 6) := by
  refine j_aload_n d_L_law_752 rfl ?_
  refine j_aload_n d_L_law_753 rfl ?_
  refine j_retW (j_callS d_L_law_754 s_L_run l_L_117 rfl (op_run K (d - 1) (by omega) S J hI ) (by omega) (by decide) (Nat.le_of_ble_eq_true rfl) rfl) rfl (fun v hh hq => ?_) (fun x hh hq => by obtain ⟨kc, S1, J1, h0, -⟩ := hq; cases h0)
  obtain ⟨kc, S1, J1, h0, rfl, hM⟩ := hq
  cases h0
  refine j_st (st' := [.int kc]) rfl ?_
  refine j_istore d_L_law_757 (by decide) ?_
  refine j_aload_n d_L_law_759 rfl ?_
  refine j_ret0 (j_callV d_L_law_760 v_M_run l_L_119 rfl rfl hM (by omega) (by decide) (Nat.le_of_ble_eq_true rfl) rfl) rfl (fun v hh hq => ?_) (fun x hh hq => by obtain ⟨b, S2, h0, -⟩ := hq; cases h0)
  obtain ⟨b, S2, h0, rfl, h30, hb, hP, hI2⟩ := hq
  cases h0
  refine j_st (st' := [.int b]) rfl ?_
  refine j_istore d_L_law_763 (by decide) ?_
  refine j_aload_n d_L_law_765 rfl ?_
  refine j_retI (j_callV d_L_law_766 v_M_thrown l_L_66 rfl rfl (m_M_thrown K (d - 1) S2 J1) (by omega) (by decide) (Nat.le_of_ble_eq_true rfl) rfl) rfl ?_
  refine j_iload d_L_law_769 rfl ?_
  refine j_icmp_eqT (tgt := 776) d_L_law_771 rfl h30 ?_
  refine j_iload d_L_law_776 rfl ?_
  by_cases hk : kc = 0
  · refine j_if_neF (tgt := 793) d_L_law_778 rfl hk ?_
    refine j_aload_n d_L_law_781 rfl ?_
    refine j_iconst (v := 0) d_L_law_782 rfl ?_
    refine j_lald (j := 0) d_L_law_783 rfl (by omega) (by decide) ?_
    refine j_top (w := .long b.toInt64) (congrArg Value.long (hb hk)) ?_
    refine j_iload d_L_law_784 rfl ?_
    refine j_i2l d_L_law_786 ?_
    refine j_lcmp d_L_law_787 ?_
    refine j_if_eqT (tgt := 793) d_L_law_788 rfl (lcmp_self _) ?_
    refine j_goto (tgt := 878) d_L_law_793 rfl ?_
    exact hgo S2 J1 _ rfl rfl rfl rfl rfl hI2
  · refine j_if_neT (tgt := 793) d_L_law_778 rfl hk ?_
    refine j_goto (tgt := 878) d_L_law_793 rfl ?_
    exact hgo S2 J1 _ rfl rfl rfl rfl rfl hI2
theorem law_place (K : jK) (d : Nat) (hd : 61 ≤ d) (S : jS) (J : jH) (hI : Inv S) (i k : Nat) (hi : i + 5 ≤ scL K) (hL : scL K ≤ 2560) (hgo : lGo K d k i) : jE K M_L_law d 796 [(0, .ref 0), (1, .ref 32), (2, .ref 59), (3, .ref 79), (4, .int (nI i))] [] (lay S ++ J) laQ (k + 1) (6 * k + 6) := by
  refine j_aload_n d_L_law_796 rfl ?_
  refine j_more (a := 1) (b := 6) ?_
  refine j_ret0 (j_callV d_L_law_797 v_B_place l_L_120 rfl rfl (op_place K (d - 1) (by omega) S J hI ) (by omega) (by decide) (Nat.le_of_ble_eq_true rfl) rfl) rfl (fun v hh hq => ?_) (fun x hh hq => by obtain ⟨w, S1, h0, -⟩ := hq; cases h0)
  obtain ⟨w, S1, h0, rfl, hM⟩ := hq
  cases h0
  refine j_st (st' := [.int w]) rfl ?_
  refine j_aload_n d_L_law_800 rfl ?_
  refine j_ret0 (j_callV d_L_law_801 v_M_place l_L_123 rfl rfl hM (by omega) (by decide) (Nat.le_of_ble_eq_true rfl) rfl) rfl (fun v hh hq => ?_) (fun x hh hq => by obtain ⟨S2, h0, -⟩ := hq; cases h0)
  obtain ⟨S2, h0, rfl, hI2⟩ := hq
  cases h0
  refine j_st (st' := [.int w, .int w]) rfl ?_
  refine j_icmp_eqT (tgt := 878) d_L_law_804 rfl rfl ?_
  exact hgo S2 J _ rfl rfl rfl rfl rfl hI2
theorem law_refused (K : jK) (d : Nat) (hd : 61 ≤ d) (S : jS) (J : jH) (hI : Inv S) (i k : Nat) (hi : i + 5 ≤ scL K) (hL : scL K ≤ 2560) (hgo : lGo K d k i) : jE K M_L_law d 809 [(0, .ref 0), (1, .ref 32), (2, .ref 59), (3, .ref 79), (4, .int (nI i))] [] (lay S ++ J) laQ (k + 1) (6 * k + 6) := by
  refine j_aload_n d_L_law_809 rfl ?_
  refine j_more (a := 1) (b := 6) ?_
  refine j_ret0 (j_callV d_L_law_810 v_B_refused l_L_124 rfl rfl (op_refused K (d - 1) (by omega) S J hI ) (by omega) (by decide) (Nat.le_of_ble_eq_true rfl) rfl) rfl (fun v hh hq => ?_) (fun x hh hq => by obtain ⟨w, S1, h0, -⟩ := hq; cases h0)
  obtain ⟨w, S1, h0, rfl, hM⟩ := hq
  cases h0
  refine j_st (st' := [.int w]) rfl ?_
  refine j_aload_n d_L_law_813 rfl ?_
  refine j_ret0 (j_callV d_L_law_814 v_M_refused l_L_127 rfl rfl hM (by omega) (by decide) (Nat.le_of_ble_eq_true rfl) rfl) rfl (fun v hh hq => ?_) (fun x hh hq => by obtain ⟨S2, h0, -⟩ := hq; cases h0)
  obtain ⟨S2, h0, rfl, hI2⟩ := hq
  cases h0
  refine j_st (st' := [.int w, .int w]) rfl ?_
  refine j_icmp_eqT (tgt := 878) d_L_law_817 rfl rfl ?_
  exact hgo S2 J _ rfl rfl rfl rfl rfl hI2
theorem law_listed (K : jK) (d : Nat) (hd : 61 ≤ d) (S : jS) (J : jH) (hI : Inv S) (i k : Nat) (hi : i + 5 ≤ scL K) (hL : scL K ≤ 2560) (hgo : lGo K d k i) : jE K M_L_law d 822 [(0, .ref 0), (1, .ref 32), (2, .ref 59), (3, .ref 79), (4, .int (nI i))] [] (lay S ++ J) laQ (k + 1) (6 * k + 6) := by
  refine j_aload_n d_L_law_822 rfl ?_
  refine j_aload_n d_L_law_823 rfl ?_
  refine j_iload d_L_law_824 rfl ?_
  refine j_iconst (v := 1) d_L_law_826 rfl ?_
  refine j_iadd d_L_law_827 ?_
  refine j_top (w := .int (nI (i + 1))) (congrArg Value.int (nI_add i 1)) ?_
  refine j_sald d_L_law_828 (by omega) (by omega) ?_
  refine j_aload_n d_L_law_829 rfl ?_
  refine j_retW (j_callS d_L_law_830 s_L_listed l_L_128 rfl (op_listed K (d - 1) (by omega) S J hI (scX K (i + 1))) (by omega) (by decide) (Nat.le_of_ble_eq_true rfl) rfl) rfl (fun v hh hq => ?_) (fun x hh hq => by obtain ⟨kc, S1, J1, h0, -⟩ := hq; cases h0)
  obtain ⟨kc, S1, J1, h0, rfl, hM⟩ := hq
  cases h0
  refine j_st (st' := [.int kc]) rfl ?_
  refine j_istore d_L_law_833 (by decide) ?_
  refine j_aload_n d_L_law_835 rfl ?_
  refine j_aload_n d_L_law_836 rfl ?_
  refine j_iload d_L_law_837 rfl ?_
  refine j_iconst (v := 1) d_L_law_839 rfl ?_
  refine j_iadd d_L_law_840 ?_
  refine j_top (w := .int (nI (i + 1))) (congrArg Value.int (nI_add i 1)) ?_
  refine j_sald d_L_law_841 (by omega) (by omega) ?_
  refine j_ret0 (j_callV d_L_law_842 v_M_listed l_L_130 rfl rfl hM (by omega) (by decide) (Nat.le_of_ble_eq_true rfl) rfl) rfl (fun v hh hq => ?_) (fun x hh hq => by obtain ⟨b, S2, h0, -⟩ := hq; cases h0)
  obtain ⟨b, S2, h0, rfl, h30, hb, hP, hI2⟩ := hq
  cases h0
  refine j_st (st' := [.int b]) rfl ?_
  refine j_istore d_L_law_845 (by decide) ?_
  refine j_aload_n d_L_law_847 rfl ?_
  refine j_retI (j_callV d_L_law_848 v_M_thrown l_L_66 rfl rfl (m_M_thrown K (d - 1) S2 J1) (by omega) (by decide) (Nat.le_of_ble_eq_true rfl) rfl) rfl ?_
  refine j_iload d_L_law_851 rfl ?_
  refine j_icmp_eqT (tgt := 858) d_L_law_853 rfl h30 ?_
  refine j_iload d_L_law_858 rfl ?_
  by_cases hk : kc = 0
  · refine j_if_neF (tgt := 875) d_L_law_860 rfl hk ?_
    refine j_aload_n d_L_law_863 rfl ?_
    refine j_iconst (v := 0) d_L_law_864 rfl ?_
    refine j_lald (j := 0) d_L_law_865 rfl (by omega) (by decide) ?_
    refine j_top (w := .long b.toInt64) (congrArg Value.long (hb hk)) ?_
    refine j_iload d_L_law_866 rfl ?_
    refine j_i2l d_L_law_868 ?_
    refine j_lcmp d_L_law_869 ?_
    refine j_if_eqT (tgt := 875) d_L_law_870 rfl (lcmp_self _) ?_
    refine j_goto (tgt := 878) d_L_law_875 rfl ?_
    exact hgo S2 J1 _ rfl rfl rfl rfl rfl hI2
  · refine j_if_neT (tgt := 875) d_L_law_860 rfl hk ?_
    refine j_goto (tgt := 878) d_L_law_875 rfl ?_
    exact hgo S2 J1 _ rfl rfl rfl rfl rfl hI2
theorem gt5 {i L : Nat} (hi : i ≤ 2560) (hL : L ≤ 2560) : nI L - nI 5 < nI i ↔ L < i + 5 := by
  rw [Int32.lt_iff_toInt_lt, pk_sub_toInt (by omega) (by omega), nI_toInt (by omega)]
  omega
theorem law_loop (K : jK) (d : Nat) (hd : 61 ≤ d) (hL : scL K ≤ 2560) : ∀ (k i : Nat) (S : jS) (J : jH) (ls : List (Nat × Value)), i + 5 * k ≤ scL K → scL K < i + 5 * k + 5 → Inv S → j_lg ls 0 = some (.ref 0) → j_lg ls 1 = some (.ref 32) → j_lg ls 2 = some (.ref 59) → j_lg ls 3 = some (.ref 79) → j_lg ls 4 = some (.int (nI i)) → jE K M_L_law d 23 ls [] (lay S ++ J) laQ k (6 * k) := by
  intro k
  induction k with
  | zero =>
    intro i S J ls h1 h2 hI l0 l1 l2 l3 l4
    refine j_loc' [(0, .ref 0), (1, .ref 32), (2, .ref 59), (3, .ref 79), (4, .int (nI i))] ⟨l0, l1, l2, l3, l4, trivial⟩ ?_
    refine j_iload d_L_law_23 rfl ?_
    refine j_aload_n d_L_law_25 rfl ?_
    refine j_slen d_L_law_26 ?_
    refine j_iconst (v := 5) d_L_law_27 rfl ?_
    refine j_isub d_L_law_28 ?_
    refine j_icmp_gtT (tgt := 884) d_L_law_29 rfl ((gt5 (by omega) hL).mpr (by omega)) ?_
    refine j_iconst (v := 1) d_L_law_884 rfl ?_
    exact j_zret rfl rfl d_L_law_885 rfl
  | succ k ih =>
    intro i S J ls h1 h2 hI l0 l1 l2 l3 l4
    have hi : i + 5 ≤ scL K := by omega
    have hgo : lGo K d k i := by
      intro S2 J2 ls l0 l1 l2 l3 l4 hI2
      refine j_loc' [(0, .ref 0), (1, .ref 32), (2, .ref 59), (3, .ref 79), (4, .int (nI i))] ⟨l0, l1, l2, l3, l4, trivial⟩ ?_
      refine j_iinc d_L_law_878 rfl (show nI i + Int32.ofInt 5 = nI (i + 5) from nI_add i 5) (by decide) ?_
      refine j_goto (tgt := 23) d_L_law_881 rfl ?_
      exact ih (i + 5) S2 J2 _ (by omega) (by omega) hI2 rfl rfl rfl rfl rfl
    refine j_loc' [(0, .ref 0), (1, .ref 32), (2, .ref 59), (3, .ref 79), (4, .int (nI i))] ⟨l0, l1, l2, l3, l4, trivial⟩ ?_
    refine j_iload d_L_law_23 rfl ?_
    refine j_aload_n d_L_law_25 rfl ?_
    refine j_slen d_L_law_26 ?_
    refine j_iconst (v := 5) d_L_law_27 rfl ?_
    refine j_isub d_L_law_28 ?_
    refine j_icmp_gtF (tgt := 884) d_L_law_29 rfl (fun q => by have := (gt5 (by omega) hL).mp q; omega) ?_
    refine j_aload_n d_L_law_32 rfl ?_
    refine j_iload d_L_law_33 rfl ?_
    refine j_sald d_L_law_35 (by omega) (by omega) ?_
    refine j_bipush (v := 15) d_L_law_36 (by decide) ?_
    refine j_iand d_L_law_38 ?_
    obtain ⟨j, hj, hjv⟩ := pk_andE (scX K i) (m := 15) 4 (by decide)
    refine j_top (w := .int (nI j)) (congrArg Value.int hjv) ?_
    have hj : j < 16 := hj
    show jE K M_L_law d 39 [(0, .ref 0), (1, .ref 32), (2, .ref 59), (3, .ref 79), (4, .int (nI i))] [.int (nI j)] (lay S ++ J) laQ (k + 1) (6 * k + 6)
    rcases (by omega : j = 0 ∨ j = 1 ∨ j = 2 ∨ j = 3 ∨ j = 4 ∨ j = 5 ∨ j = 6 ∨ j = 7 ∨ j = 8 ∨ j = 9 ∨ j = 10 ∨ j = 11 ∨ j = 12 ∨ j = 13 ∨ j = 14 ∨ j = 15) with rfl | rfl | rfl | rfl | rfl | rfl | rfl | rfl | rfl | rfl | rfl | rfl | rfl | rfl | rfl | rfl
    · refine j_tabIn (tgt := 116) d_L_law_39 (by decide) (by decide) rfl rfl ?_
      exact law_field K d hd S J hI i k hi hL hgo
    · refine j_tabIn (tgt := 206) d_L_law_39 (by decide) (by decide) rfl rfl ?_
      exact law_insert K d hd S J hI i k hi hL hgo
    · refine j_tabIn (tgt := 250) d_L_law_39 (by decide) (by decide) rfl rfl ?_
      exact law_remove K d hd S J hI i k hi hL hgo
    · refine j_tabIn (tgt := 286) d_L_law_39 (by decide) (by decide) rfl rfl ?_
      exact law_put K d hd S J hI i k hi hL hgo
    · refine j_tabIn (tgt := 348) d_L_law_39 (by decide) (by decide) rfl rfl ?_
      exact law_get K d hd S J hI i k hi hL hgo
    · refine j_tabIn (tgt := 418) d_L_law_39 (by decide) (by decide) rfl rfl ?_
      exact law_bit K d hd S J hI i k hi hL hgo
    · refine j_tabIn (tgt := 493) d_L_law_39 (by decide) (by decide) rfl rfl ?_
      exact law_search K d hd S J hI i k hi hL hgo
    · refine j_tabIn (tgt := 558) d_L_law_39 (by decide) (by decide) rfl rfl ?_
      exact law_multi K d hd S J hI i k hi hL hgo
    · refine j_tabIn (tgt := 606) d_L_law_39 (by decide) (by decide) rfl rfl ?_
      exact law_responds K d hd S J hI i k hi hL hgo
    · refine j_tabIn (tgt := 669) d_L_law_39 (by decide) (by decide) rfl rfl ?_
      exact law_first K d hd S J hI i k hi hL hgo
    · refine j_tabIn (tgt := 682) d_L_law_39 (by decide) (by decide) rfl rfl ?_
      exact law_write K d hd S J hI i k hi hL hgo
    · refine j_tabIn (tgt := 739) d_L_law_39 (by decide) (by decide) rfl rfl ?_
      exact law_wipe K d hd S J hI i k hi hL hgo
    · refine j_tabIn (tgt := 752) d_L_law_39 (by decide) (by decide) rfl rfl ?_
      exact law_run K d hd S J hI i k hi hL hgo
    · refine j_tabIn (tgt := 796) d_L_law_39 (by decide) (by decide) rfl rfl ?_
      exact law_place K d hd S J hI i k hi hL hgo
    · refine j_tabIn (tgt := 809) d_L_law_39 (by decide) (by decide) rfl rfl ?_
      exact law_refused K d hd S J hI i k hi hL hgo
    · refine j_tabIn (tgt := 822) d_L_law_39 (by decide) (by decide) rfl rfl ?_
      exact law_listed K d hd S J hI i k hi hL hgo
