/-! BitLoomModel.scan -/
theorem tEnd_stop (P : Int32 → Bool) (T : Nat → Int32) : ∀ (k i : Nat), tEnd P T k i = i + 0 → 0 < k → P (T i) = false
  | 0, i, _, h => absurd h (by omega)
  | k + 1, i, h, _ => by
    unfold tEnd at h
    by_cases hp : P (T i) = true
    · rw [if_pos hp] at h
      have := tEnd_ge P T k (i + 1)
      omega
    · exact Bool.eq_false_iff.mpr hp
theorem tEnd_more (P : Int32 → Bool) (T : Nat → Int32) : ∀ (k i : Nat), i < tEnd P T k i → 0 < k ∧ P (T i) = true ∧ tEnd P T k i = tEnd P T (k - 1) (i + 1)
  | 0, i, h => by unfold tEnd at h; omega
  | k + 1, i, h => by
    by_cases hp : P (T i) = true
    · refine ⟨by omega, hp, ?_⟩
      rw [tEnd, if_pos hp]
      rfl
    · unfold tEnd at h
      rw [if_neg hp] at h
      omega
theorem sg_fin : ∀ m : Fin 127, sgM (nI m.val) = isSg (nI m.val) := by decide +kernel
/-- a word's letters, packed -/
def ltL (T : Nat → Int32) (s : Nat) : Nat → Nat → Int64 → Int64
  | 0, _, v => v
  | k + 1, j, v => ltL T s k (j + 1) (if j < 7 then (v <<< ((8 : Int32).toInt64 &&& 63)) ||| (T (s + j)).toInt64 else -1)
abbrev scS (S : jS) (kd b e am : Int32) (lt : Int64) : jS := s3 (s1 (s1 (s1 (s1 S 36 kd) 37 b) 38 e) 39 am) lt
/-- what the scanner finds behind p -/
def Scn (T : Nat → Int32) (n p : Nat) (kd : Int32) (b e : Nat) (am : Int32) (lt : Int64) : Prop := ∃ (k : Int32) (e1 : Nat) (r : List Tok), tokL T n p = (k, b, e1) :: r ∧ b ≤ n ∧ e ≤ n ∧ (
  (k = 46 ∧ kd = 0 ∧ b = n ∧ r = [] ∧ am = 0) ∨
  (k = 97 ∧ kd = 1 ∧ b < n ∧ e = e1 ∧ b < e ∧ am = 0 ∧ lt = ltL T b (e - b) 0 0 ∧ r = tokL T n e1) ∨
  (k = 48 ∧ kd = 2 ∧ b < n ∧ e = e1 ∧ am = numV T (e1 - b) b 0 ∧ r = tokL T n e1) ∨
  (k = T b ∧ isSg k = true ∧ isL k = false ∧ isD k = false ∧ kd = 3 ∧ b < n ∧ e = e1 ∧ am = 0 ∧ r = tokL T n e1) ∨
  (k = 63 ∧ kd = 4))
def scnQ (S : jS) (J : jH) (T : Nat → Int32) (n p : Nat) : jO → jH → Prop := fun o h => o = .inl none ∧ ∃ (kd : Int32) (b e : Nat) (am : Int32) (lt : Int64), h = lay (scS S kd (nI b) (nI e) am lt) ++ J ∧ Scn T n p kd b e am lt
theorem m_M_scan (K : jK) (d : Nat) (hd : 1 ≤ d) (S : jS) (J : jH) (n p : Nat) (hn : S.1 32 = nI n) (h100 : n ≤ 100) (hp : p ≤ n) (hc : chOk (S.2.1 17)) (ht : txOk (S.2.1 17) n) : jM K M_M_scan d [.ref 59, .int (nI p)] (lay S ++ J) (scnQ S J (S.2.1 17) n p) 0 0 := by
  refine jM.of (by decide) (Nat.le_of_ble_eq_true rfl) ?_
  have see : ∀ (S1 : jS) (i : Nat), S1.1 32 = nI n → S1.2.1 17 = S.2.1 17 → i ≤ n → jM K M_M_see (d - 1) [.ref 59, .int (nI i)] (lay S1 ++ J) (rI (if i < n then S.2.1 17 i else 0) (lay S1 ++ J)) 0 0 := by
    intro S1 i h1 h2 hi
    have := m_M_see K (d - 1) S1 J n i h1 h100 (by omega) (by rw [h2]; exact hc)
    rw [h2] at this
    exact this
  -- the word's loop
  have word : ∀ (b : Nat), b < n → ∀ k i (lt : Int64) (ls : List (Nat × Value)), j_lg ls 0 = some (.ref 59) → b ≤ i → i + k = tEnd isL (S.2.1 17) (n - i) i → i ≤ n → b < i + k → ltL (S.2.1 17) b k (i - b) lt = ltL (S.2.1 17) b (tEnd isL (S.2.1 17) (n - i) i - b) 0 0 → (∃ r, tokL (S.2.1 17) n p = (97, b, tEnd isL (S.2.1 17) (n - i) i) :: r ∧ r = tokL (S.2.1 17) n (tEnd isL (S.2.1 17) (n - i) i)) →
      jE K M_M_scan d 119 ls [] (lay (scS S 1 (nI b) (nI i) 0 lt) ++ J) (scnQ S J (S.2.1 17) n p) 0 0 := by
    intro b hb k
    induction k with
    | zero =>
      intro i lt ls l0 hbi hk hin hlt hL hr
      have hend := tEnd_stop isL (S.2.1 17) (n - i) i hk.symm
      refine j_aload_n d_M_scan_119 l0 ?_
      refine j_aload_n d_M_scan_120 l0 ?_
      refine j_getf d_M_scan_121 f_M_112 rfl rfl ?_
      refine j_retI (j_callV d_M_scan_124 v_M_see l_M_108 rfl rfl (see (scS S 1 (nI b) (nI i) 0 lt) i hn rfl hin) (by omega) (by decide) (Nat.le_of_ble_eq_true rfl) rfl) rfl ?_
      refine j_retI (j_callS d_M_scan_127 s_M_isLetter l_M_122 rfl (m_M_isLetter K (d - 1) _ _) (by omega) (by decide) (Nat.le_of_ble_eq_true rfl) rfl) rfl ?_
      have hz : b2i (btw 97 (if i < n then S.2.1 17 i else 0) 122) = 0 := by
        by_cases hi : i < n
        · rw [if_pos hi, show btw 97 (S.2.1 17 i) 122 = false from hend (by omega)]; rfl
        · rw [if_neg hi]; rfl
      refine j_if_eqT (tgt := 305) d_M_scan_130 rfl hz ?_
      obtain ⟨r, hr1, hr2⟩ := hr
      rw [← hk] at hr1 hr2 hL
      refine j_vret rfl d_M_scan_305 ⟨rfl, 1, b, i, 0, lt, rfl, 97, i + 0, r, hr1, by omega, hin, .inr (.inl ⟨rfl, rfl, hb, rfl, by omega, rfl, ?_, hr2⟩)⟩
      exact hL
    | succ k ih =>
      intro i lt ls l0 hbi hk hin hlt hL hr
      obtain ⟨hi, hTi, hnx⟩ := tEnd_more isL (S.2.1 17) (n - i) i (show i < tEnd isL (S.2.1 17) (n - i) i by omega)
      have hi' : i < n := by omega
      refine j_aload_n d_M_scan_119 l0 ?_
      refine j_aload_n d_M_scan_120 l0 ?_
      refine j_getf d_M_scan_121 f_M_112 rfl rfl ?_
      refine j_retI (j_callV d_M_scan_124 v_M_see l_M_108 rfl rfl (see (scS S 1 (nI b) (nI i) 0 lt) i hn rfl hin) (by omega) (by decide) (Nat.le_of_ble_eq_true rfl) rfl) rfl ?_
      rw [if_pos hi']
      refine j_retI (j_callS d_M_scan_127 s_M_isLetter l_M_122 rfl (m_M_isLetter K (d - 1) _ _) (by omega) (by decide) (Nat.le_of_ble_eq_true rfl) rfl) rfl ?_
      refine j_if_eqF (tgt := 305) d_M_scan_130 rfl (by rw [show btw 97 (S.2.1 17 i) 122 = true from hTi]; decide) ?_
      refine j_aload_n d_M_scan_133 l0 ?_
      refine j_aload_n d_M_scan_134 l0 ?_
      refine j_getf d_M_scan_135 f_M_112 rfl rfl ?_
      refine j_aload_n d_M_scan_138 l0 ?_
      refine j_getf d_M_scan_139 f_M_105 rfl rfl ?_
      refine j_isub d_M_scan_142 ?_
      refine j_top (w := .int (nI (i - b))) (by show Value.int (nI i - nI b) = _; rw [pk_sub hbi]) ?_
      have en : tEnd isL (S.2.1 17) (n - (i + 1)) (i + 1) = tEnd isL (S.2.1 17) (n - i) i := by
        rw [show n - (i + 1) = n - i - 1 by omega]
        exact hnx.symm
      have step : ∀ (lt' : Int64), ltL (S.2.1 17) b k (i - b + 1) lt' = ltL (S.2.1 17) b (tEnd isL (S.2.1 17) (n - i) i - b) 0 0 → jE K M_M_scan d 171 ls [.long lt', .ref 59] (lay (scS S 1 (nI b) (nI i) 0 lt) ++ J) (scnQ S J (S.2.1 17) n p) 0 0 := by
        intro lt' hl'
        refine j_putf d_M_scan_171 f_M_118 rfl (Nat.le_of_ble_eq_true rfl) rfl rfl rfl ?_
        refine j_aload_n d_M_scan_174 l0 ?_
        refine j_dup d_M_scan_175 rfl ?_
        refine j_getf d_M_scan_176 f_M_112 rfl rfl ?_
        refine j_iconst (v := 1) d_M_scan_179 rfl ?_
        refine j_iadd d_M_scan_180 ?_
        refine j_top (w := .int (nI (i + 1))) (by rw [nI_succ]; rfl) ?_
        refine j_putf d_M_scan_181 f_M_112 rfl (Nat.le_of_ble_eq_true rfl) rfl rfl rfl ?_
        refine j_hp (h' := lay (scS S 1 (nI b) (nI (i + 1)) 0 lt') ++ J) rfl ?_
        refine j_goto (tgt := 119) d_M_scan_184 rfl ?_
        refine ih (i + 1) lt' ls l0 (by omega) (by rw [en]; omega) (by omega) (by omega) (by rw [en, show i + 1 - b = i - b + 1 by omega]; exact hl') (by rw [en]; exact hr)
      rw [ltL] at hL
      refine j_bipush (v := 7) d_M_scan_143 (by decide) ?_
      by_cases h7 : i - b < 7
      · rw [if_pos h7, show b + (i - b) = i by omega] at hL
        refine j_icmp_geF (tgt := 168) d_M_scan_145 rfl (show ¬ nI 7 ≤ nI (i - b) from nI_ge (by omega) (by omega)) ?_
        refine j_aload_n d_M_scan_148 l0 ?_
        refine j_getf d_M_scan_149 f_M_118 rfl rfl ?_
        refine j_bipush (v := 8) d_M_scan_152 (by decide) ?_
        refine j_lshl d_M_scan_154 ?_
        refine j_aload_n d_M_scan_155 l0 ?_
        refine j_aload_n d_M_scan_156 l0 ?_
        refine j_getf d_M_scan_157 f_M_112 rfl rfl ?_
        refine j_retI (j_callV d_M_scan_160 v_M_see l_M_108 rfl rfl (see (scS S 1 (nI b) (nI i) 0 lt) i hn rfl hin) (by omega) (by decide) (Nat.le_of_ble_eq_true rfl) rfl) rfl ?_
        rw [if_pos hi']
        refine j_i2l d_M_scan_163 ?_
        refine j_lor d_M_scan_164 ?_
        refine j_goto (tgt := 171) d_M_scan_165 rfl ?_
        exact step _ hL
      · rw [if_neg h7] at hL
        refine j_icmp_geT (tgt := 168) d_M_scan_145 rfl (show nI 7 ≤ nI (i - b) from nI_le (by omega) (by omega)) ?_
        refine j_ldc2 d_M_scan_168 c_M_135 ?_
        exact step _ hL
  -- the number's loop
  have numb : ∀ (b E : Nat), b < n → E ≤ n → b < E → tEnd isD (S.2.1 17) (n - b) b = E → tokL (S.2.1 17) n p = ((if E - b ≤ 3 then 48 else 63), b, E) :: tokL (S.2.1 17) n E → ∀ k i (am : Int32) (ls : List (Nat × Value)), j_lg ls 0 = some (.ref 59) → b ≤ i → i + k = E → tEnd isD (S.2.1 17) (n - i) i = E → (E - b ≤ 3 → numV (S.2.1 17) k i am = numV (S.2.1 17) (E - b) b 0) →
      jE K M_M_scan d 195 ls [] (lay (scS S 2 (nI b) (nI i) am 0) ++ J) (scnQ S J (S.2.1 17) n p) 0 0 := by
    intro b E hb hEn hbE hE0 hr k
    induction k with
    | zero =>
      intro i am ls l0 hbi hk hE hL
      have hin : i ≤ n := by omega
      have hend := tEnd_stop isD (S.2.1 17) (n - i) i (by omega)
      refine j_aload_n d_M_scan_195 l0 ?_
      refine j_aload_n d_M_scan_196 l0 ?_
      refine j_getf d_M_scan_197 f_M_112 rfl rfl ?_
      refine j_retI (j_callV d_M_scan_200 v_M_see l_M_108 rfl rfl (see (scS S 2 (nI b) (nI i) am 0) i hn rfl hin) (by omega) (by decide) (Nat.le_of_ble_eq_true rfl) rfl) rfl ?_
      refine j_retI (j_callS d_M_scan_203 s_M_isDigit l_M_126 rfl (m_M_isDigit K (d - 1) _ _) (by omega) (by decide) (Nat.le_of_ble_eq_true rfl) rfl) rfl ?_
      have hz : b2i (btw 48 (if i < n then S.2.1 17 i else 0) 57) = 0 := by
        by_cases hi : i < n
        · rw [if_pos hi, show btw 48 (S.2.1 17 i) 57 = false from hend (by omega)]; rfl
        · rw [if_neg hi]; rfl
      refine j_if_eqT (tgt := 262) d_M_scan_206 rfl hz ?_
      refine j_aload_n d_M_scan_262 l0 ?_
      refine j_aload_n d_M_scan_263 l0 ?_
      refine j_getf d_M_scan_264 f_M_112 rfl rfl ?_
      refine j_aload_n d_M_scan_267 l0 ?_
      refine j_getf d_M_scan_268 f_M_105 rfl rfl ?_
      refine j_isub d_M_scan_271 ?_
      refine j_top (w := .int (nI (i - b))) (by show Value.int (nI i - nI b) = _; rw [pk_sub hbi]) ?_
      refine j_iconst (v := 3) d_M_scan_272 rfl ?_
      have hiE : i = E := by omega
      subst hiE
      by_cases h3 : i - b ≤ 3
      · refine j_icmp_leT (tgt := 280) d_M_scan_273 rfl (show nI (i - b) ≤ nI 3 from nI_le (by omega) (by omega)) ?_
        refine j_iconst (v := 2) d_M_scan_280 rfl ?_
        refine j_putf d_M_scan_281 f_M_132 rfl (Nat.le_of_ble_eq_true rfl) rfl rfl rfl ?_
        refine j_goto (tgt := 305) d_M_scan_284 rfl ?_
        rw [if_pos h3] at hr
        exact j_vret rfl d_M_scan_305 ⟨rfl, 2, b, i, am, 0, rfl, 48, i, _, hr, by omega, hin, .inr (.inr (.inl ⟨rfl, rfl, hb, rfl, hL h3, rfl⟩))⟩
      · refine j_icmp_leF (tgt := 280) d_M_scan_273 rfl (show ¬ nI (i - b) ≤ nI 3 from nI_ge (by omega) (by omega)) ?_
        refine j_iconst (v := 4) d_M_scan_276 rfl ?_
        refine j_goto (tgt := 281) d_M_scan_277 rfl ?_
        refine j_putf d_M_scan_281 f_M_132 rfl (Nat.le_of_ble_eq_true rfl) rfl rfl rfl ?_
        refine j_goto (tgt := 305) d_M_scan_284 rfl ?_
        rw [if_neg h3] at hr
        exact j_vret rfl d_M_scan_305 ⟨rfl, 4, b, i, am, 0, rfl, 63, i, _, hr, by omega, hin, .inr (.inr (.inr (.inr ⟨rfl, rfl⟩)))⟩
    | succ k ih =>
      intro i am ls l0 hbi hk hE hL
      have hin : i ≤ n := by omega
      obtain ⟨hi, hTi, hnx⟩ := tEnd_more isD (S.2.1 17) (n - i) i (show i < tEnd isD (S.2.1 17) (n - i) i by omega)
      have hi' : i < n := by omega
      refine j_aload_n d_M_scan_195 l0 ?_
      refine j_aload_n d_M_scan_196 l0 ?_
      refine j_getf d_M_scan_197 f_M_112 rfl rfl ?_
      refine j_retI (j_callV d_M_scan_200 v_M_see l_M_108 rfl rfl (see (scS S 2 (nI b) (nI i) am 0) i hn rfl hin) (by omega) (by decide) (Nat.le_of_ble_eq_true rfl) rfl) rfl ?_
      rw [if_pos hi']
      refine j_retI (j_callS d_M_scan_203 s_M_isDigit l_M_126 rfl (m_M_isDigit K (d - 1) _ _) (by omega) (by decide) (Nat.le_of_ble_eq_true rfl) rfl) rfl ?_
      refine j_if_eqF (tgt := 262) d_M_scan_206 rfl (by rw [show btw 48 (S.2.1 17 i) 57 = true from hTi]; decide) ?_
      refine j_aload_n d_M_scan_209 l0 ?_
      refine j_aload_n d_M_scan_210 l0 ?_
      refine j_getf d_M_scan_211 f_M_112 rfl rfl ?_
      refine j_aload_n d_M_scan_214 l0 ?_
      refine j_getf d_M_scan_215 f_M_105 rfl rfl ?_
      refine j_isub d_M_scan_218 ?_
      refine j_top (w := .int (nI (i - b))) (by show Value.int (nI i - nI b) = _; rw [pk_sub hbi]) ?_
      have en : tEnd isD (S.2.1 17) (n - (i + 1)) (i + 1) = E := by
        rw [show n - (i + 1) = n - i - 1 by omega]
        exact hnx.symm.trans hE
      have step : ∀ (am' : Int32), (E - b ≤ 3 → numV (S.2.1 17) k (i + 1) am' = numV (S.2.1 17) (E - b) b 0) → jE K M_M_scan d 246 ls [.int am', .ref 59] (lay (scS S 2 (nI b) (nI i) am 0) ++ J) (scnQ S J (S.2.1 17) n p) 0 0 := by
        intro am' hl'
        refine j_putf d_M_scan_246 f_M_115 rfl (Nat.le_of_ble_eq_true rfl) rfl rfl rfl ?_
        refine j_aload_n d_M_scan_249 l0 ?_
        refine j_dup d_M_scan_250 rfl ?_
        refine j_getf d_M_scan_251 f_M_112 rfl rfl ?_
        refine j_iconst (v := 1) d_M_scan_254 rfl ?_
        refine j_iadd d_M_scan_255 ?_
        refine j_top (w := .int (nI (i + 1))) (by rw [nI_succ]; rfl) ?_
        refine j_putf d_M_scan_256 f_M_112 rfl (Nat.le_of_ble_eq_true rfl) rfl rfl rfl ?_
        refine j_hp (h' := lay (scS S 2 (nI b) (nI (i + 1)) am' 0) ++ J) rfl ?_
        refine j_goto (tgt := 195) d_M_scan_259 rfl ?_
        exact ih (i + 1) am' ls l0 (by omega) (by omega) en hl'
      refine j_iconst (v := 3) d_M_scan_219 rfl ?_
      by_cases h3 : i - b < 3
      · refine j_icmp_geF (tgt := 245) d_M_scan_220 rfl (show ¬ nI 3 ≤ nI (i - b) from nI_ge (by omega) (by omega)) ?_
        refine j_bipush (v := 10) d_M_scan_223 (by decide) ?_
        refine j_aload_n d_M_scan_225 l0 ?_
        refine j_getf d_M_scan_226 f_M_115 rfl rfl ?_
        refine j_imul d_M_scan_229 ?_
        refine j_aload_n d_M_scan_230 l0 ?_
        refine j_aload_n d_M_scan_231 l0 ?_
        refine j_getf d_M_scan_232 f_M_112 rfl rfl ?_
        refine j_retI (j_callV d_M_scan_235 v_M_see l_M_108 rfl rfl (see (scS S 2 (nI b) (nI i) am 0) i hn rfl hin) (by omega) (by decide) (Nat.le_of_ble_eq_true rfl) rfl) rfl ?_
        rw [if_pos hi']
        refine j_iadd d_M_scan_238 ?_
        refine j_bipush (v := 48) d_M_scan_239 (by decide) ?_
        refine j_isub d_M_scan_241 ?_
        refine j_goto (tgt := 246) d_M_scan_242 rfl ?_
        refine step _ (fun q => ?_)
        have := hL q
        rw [numV] at this
        rw [← this]
        congr 1
        show 10 * am + S.2.1 17 i - 48 = 10 * am + (S.2.1 17 i - 48)
        rw [Int32.sub_eq_add_neg, Int32.sub_eq_add_neg, Int32.add_assoc]
      · refine j_icmp_geT (tgt := 245) d_M_scan_220 rfl (show nI 3 ≤ nI (i - b) from nI_le (by omega) (by omega)) ?_
        refine j_iconst (v := 0) d_M_scan_245 rfl ?_
        exact step 0 (fun q => absurd q (by omega))
  -- from the first that is no blank
  have main : ∀ (b : Nat), b ≤ n → tokL (S.2.1 17) n p = tokL (S.2.1 17) n b → (b < n → ¬ S.2.1 17 b = 32) → jE K M_M_scan d 31 [(0, .ref 59), (1, .int (nI p))] [] (lay (s1 S 37 (nI b)) ++ J) (scnQ S J (S.2.1 17) n p) 0 0 := by
    intro b hb hpb hnb
    refine j_aload_n d_M_scan_31 rfl ?_
    refine j_aload_n d_M_scan_32 rfl ?_
    refine j_getf d_M_scan_33 f_M_105 rfl rfl ?_
    refine j_putf d_M_scan_36 f_M_112 rfl (Nat.le_of_ble_eq_true rfl) rfl rfl rfl ?_
    refine j_aload_n d_M_scan_39 rfl ?_
    refine j_iconst (v := 0) d_M_scan_40 rfl ?_
    refine j_putf d_M_scan_41 f_M_115 rfl (Nat.le_of_ble_eq_true rfl) rfl rfl rfl ?_
    refine j_aload_n d_M_scan_44 rfl ?_
    refine j_lconst (v := 0) d_M_scan_45 rfl ?_
    refine j_putf d_M_scan_46 f_M_118 rfl (Nat.le_of_ble_eq_true rfl) rfl rfl rfl ?_
    refine j_hp (h' := lay (scS S (S.1 36) (nI b) (nI b) 0 0) ++ J) rfl ?_
    refine j_aload_n d_M_scan_49 rfl ?_
    refine j_aload_n d_M_scan_50 rfl ?_
    refine j_getf d_M_scan_51 f_M_105 rfl rfl ?_
    refine j_retI (j_callV d_M_scan_54 v_M_see l_M_108 rfl rfl (see (scS S (S.1 36) (nI b) (nI b) 0 0) b hn rfl hb) (by omega) (by decide) (Nat.le_of_ble_eq_true rfl) rfl) rfl ?_
    refine j_istore_n d_M_scan_57 (by decide) ?_
    refine j_aload_n d_M_scan_58 rfl ?_
    refine j_aload_n d_M_scan_59 rfl ?_
    refine j_getf d_M_scan_60 f_M_105 rfl rfl ?_
    refine j_aload_n d_M_scan_63 rfl ?_
    refine j_getf d_M_scan_64 f_M_102 rfl rfl ?_
    refine j_top (w := .int (nI n)) (congrArg Value.int hn) ?_
    by_cases hbn : b < n
    · rw [if_pos hbn]
      obtain ⟨mm, hm1, hm2, hm3⟩ := ht b hbn
      have hsg : sgM (S.2.1 17 b) = isSg (S.2.1 17 b) := by rw [hm3]; exact sg_fin ⟨mm, by omega⟩
      rw [tokL_tok _ hbn (hnb hbn)] at hpb
      refine j_icmp_ltT (tgt := 74) d_M_scan_67 rfl (Int32.not_le.mp (nI_ge (by omega) (by omega))) ?_
      refine j_iload_n d_M_scan_74 rfl ?_
      refine j_retI (j_callS d_M_scan_75 s_M_isLetter l_M_122 rfl (m_M_isLetter K (d - 1) _ _) (by omega) (by decide) (Nat.le_of_ble_eq_true rfl) rfl) rfl ?_
      by_cases hl : isL (S.2.1 17 b) = true
      · refine j_if_eqF (tgt := 85) d_M_scan_78 rfl (by rw [show btw 97 (S.2.1 17 b) 122 = true from hl]; decide) ?_
        refine j_iconst (v := 1) d_M_scan_81 rfl ?_
        refine j_goto (tgt := 108) d_M_scan_82 rfl ?_
        refine j_putf d_M_scan_108 f_M_132 rfl (Nat.le_of_ble_eq_true rfl) rfl rfl rfl ?_
        refine j_hp (h' := lay (scS S 1 (nI b) (nI b) 0 0) ++ J) rfl ?_
        refine j_aload_n d_M_scan_111 rfl ?_
        refine j_getf d_M_scan_112 f_M_132 rfl rfl ?_
        refine j_iconst (v := 1) d_M_scan_115 rfl ?_
        refine j_icmp_neF (tgt := 187) d_M_scan_116 rfl rfl ?_
        have eE : tokE (S.2.1 17) n b = tEnd isL (S.2.1 17) (n - b) b := by unfold tokE; rw [if_pos hl]
        have eK : tokK (S.2.1 17) n b = 97 := by unfold tokK; rw [if_pos hl]
        have g1 := tokE_gt (S.2.1 17) hbn
        rw [eE] at g1
        rw [eE, eK] at hpb
        exact word b hbn (tEnd isL (S.2.1 17) (n - b) b - b) b 0 _ rfl (Nat.le_refl _) (by omega) hb (by omega) (by rw [Nat.sub_self]) ⟨_, hpb, rfl⟩
      · have hl' : isL (S.2.1 17 b) = false := Bool.eq_false_iff.mpr hl
        refine j_if_eqT (tgt := 85) d_M_scan_78 rfl (by rw [show btw 97 (S.2.1 17 b) 122 = false from hl']; rfl) ?_
        refine j_iload_n d_M_scan_85 rfl ?_
        refine j_retI (j_callS d_M_scan_86 s_M_isDigit l_M_126 rfl (m_M_isDigit K (d - 1) _ _) (by omega) (by decide) (Nat.le_of_ble_eq_true rfl) rfl) rfl ?_
        by_cases hdg : isD (S.2.1 17 b) = true
        · refine j_if_eqF (tgt := 96) d_M_scan_89 rfl (by rw [show btw 48 (S.2.1 17 b) 57 = true from hdg]; decide) ?_
          refine j_iconst (v := 2) d_M_scan_92 rfl ?_
          refine j_goto (tgt := 108) d_M_scan_93 rfl ?_
          refine j_putf d_M_scan_108 f_M_132 rfl (Nat.le_of_ble_eq_true rfl) rfl rfl rfl ?_
          refine j_hp (h' := lay (scS S 2 (nI b) (nI b) 0 0) ++ J) rfl ?_
          refine j_aload_n d_M_scan_111 rfl ?_
          refine j_getf d_M_scan_112 f_M_132 rfl rfl ?_
          refine j_iconst (v := 1) d_M_scan_115 rfl ?_
          refine j_icmp_neT (tgt := 187) d_M_scan_116 rfl (show ¬ (2 : Int32) = 1 by decide) ?_
          refine j_aload_n d_M_scan_187 rfl ?_
          refine j_getf d_M_scan_188 f_M_132 rfl rfl ?_
          refine j_iconst (v := 2) d_M_scan_191 rfl ?_
          refine j_icmp_neF (tgt := 287) d_M_scan_192 rfl rfl ?_
          have eE : tokE (S.2.1 17) n b = tEnd isD (S.2.1 17) (n - b) b := by unfold tokE; rw [if_neg hl, if_pos hdg]
          have eK : tokK (S.2.1 17) n b = if tEnd isD (S.2.1 17) (n - b) b - b ≤ 3 then 48 else 63 := by unfold tokK; rw [if_neg hl, if_pos hdg, eE]
          have g1 := tokE_gt (S.2.1 17) hbn
          have g2 := tokE_le (S.2.1 17) hbn
          rw [eE] at g1 g2
          rw [eE, eK] at hpb
          exact numb b (tEnd isD (S.2.1 17) (n - b) b) hbn g2 g1 rfl hpb (tEnd isD (S.2.1 17) (n - b) b - b) b 0 _ rfl (Nat.le_refl _) (by omega) rfl (fun _ => rfl)
        · have hdg' : isD (S.2.1 17 b) = false := Bool.eq_false_iff.mpr hdg
          have eE : tokE (S.2.1 17) n b = b + 1 := by unfold tokE; rw [if_neg hl, if_neg hdg]
          refine j_if_eqT (tgt := 96) d_M_scan_89 rfl (by rw [show btw 48 (S.2.1 17 b) 57 = false from hdg']; rfl) ?_
          refine j_iload_n d_M_scan_96 rfl ?_
          refine j_retI (j_callS d_M_scan_97 s_M_isSign l_M_129 rfl (m_M_isSign K (d - 1) _ _) (by omega) (by decide) (Nat.le_of_ble_eq_true rfl) rfl) rfl ?_
          rw [hsg]
          by_cases hs : isSg (S.2.1 17 b) = true
          · rw [hs]
            refine j_if_eqF (tgt := 107) d_M_scan_100 rfl (by decide) ?_
            refine j_iconst (v := 3) d_M_scan_103 rfl ?_
            refine j_goto (tgt := 108) d_M_scan_104 rfl ?_
            refine j_putf d_M_scan_108 f_M_132 rfl (Nat.le_of_ble_eq_true rfl) rfl rfl rfl ?_
            refine j_hp (h' := lay (scS S 3 (nI b) (nI b) 0 0) ++ J) rfl ?_
            refine j_aload_n d_M_scan_111 rfl ?_
            refine j_getf d_M_scan_112 f_M_132 rfl rfl ?_
            refine j_iconst (v := 1) d_M_scan_115 rfl ?_
            refine j_icmp_neT (tgt := 187) d_M_scan_116 rfl (show ¬ (3 : Int32) = 1 by decide) ?_
            refine j_aload_n d_M_scan_187 rfl ?_
            refine j_getf d_M_scan_188 f_M_132 rfl rfl ?_
            refine j_iconst (v := 2) d_M_scan_191 rfl ?_
            refine j_icmp_neT (tgt := 287) d_M_scan_192 rfl (show ¬ (3 : Int32) = 2 by decide) ?_
            refine j_aload_n d_M_scan_287 rfl ?_
            refine j_getf d_M_scan_288 f_M_132 rfl rfl ?_
            refine j_iconst (v := 3) d_M_scan_291 rfl ?_
            refine j_icmp_neF (tgt := 305) d_M_scan_292 rfl rfl ?_
            refine j_aload_n d_M_scan_295 rfl ?_
            refine j_dup d_M_scan_296 rfl ?_
            refine j_getf d_M_scan_297 f_M_112 rfl rfl ?_
            refine j_iconst (v := 1) d_M_scan_300 rfl ?_
            refine j_iadd d_M_scan_301 ?_
            refine j_top (w := .int (nI (b + 1))) (by rw [nI_succ]; rfl) ?_
            refine j_putf d_M_scan_302 f_M_112 rfl (Nat.le_of_ble_eq_true rfl) rfl rfl rfl ?_
            have eK : tokK (S.2.1 17) n b = S.2.1 17 b := by unfold tokK; rw [if_neg hl, if_neg hdg, if_pos hs]
            rw [eE, eK] at hpb
            exact j_vret rfl d_M_scan_305 ⟨rfl, 3, b, b + 1, 0, 0, rfl, S.2.1 17 b, b + 1, _, hpb, hb, by omega, .inr (.inr (.inr (.inl ⟨rfl, hs, hl', hdg', rfl, hbn, rfl, rfl, rfl⟩)))⟩
          · have hs' : isSg (S.2.1 17 b) = false := Bool.eq_false_iff.mpr hs
            rw [hs']
            refine j_if_eqT (tgt := 107) d_M_scan_100 rfl rfl ?_
            refine j_iconst (v := 4) d_M_scan_107 rfl ?_
            refine j_putf d_M_scan_108 f_M_132 rfl (Nat.le_of_ble_eq_true rfl) rfl rfl rfl ?_
            refine j_hp (h' := lay (scS S 4 (nI b) (nI b) 0 0) ++ J) rfl ?_
            refine j_aload_n d_M_scan_111 rfl ?_
            refine j_getf d_M_scan_112 f_M_132 rfl rfl ?_
            refine j_iconst (v := 1) d_M_scan_115 rfl ?_
            refine j_icmp_neT (tgt := 187) d_M_scan_116 rfl (show ¬ (4 : Int32) = 1 by decide) ?_
            refine j_aload_n d_M_scan_187 rfl ?_
            refine j_getf d_M_scan_188 f_M_132 rfl rfl ?_
            refine j_iconst (v := 2) d_M_scan_191 rfl ?_
            refine j_icmp_neT (tgt := 287) d_M_scan_192 rfl (show ¬ (4 : Int32) = 2 by decide) ?_
            refine j_aload_n d_M_scan_287 rfl ?_
            refine j_getf d_M_scan_288 f_M_132 rfl rfl ?_
            refine j_iconst (v := 3) d_M_scan_291 rfl ?_
            refine j_icmp_neT (tgt := 305) d_M_scan_292 rfl (show ¬ (4 : Int32) = 3 by decide) ?_
            have eK : tokK (S.2.1 17) n b = 63 := by unfold tokK; rw [if_neg hl, if_neg hdg, if_neg hs]
            rw [eE, eK] at hpb
            exact j_vret rfl d_M_scan_305 ⟨rfl, 4, b, b, 0, 0, rfl, 63, b + 1, _, hpb, hb, hb, .inr (.inr (.inr (.inr ⟨rfl, rfl⟩)))⟩
    · have hbn2 : b = n := by omega
      subst hbn2
      rw [tokL_end _ (Nat.le_refl _)] at hpb
      refine j_icmp_ltF (tgt := 74) d_M_scan_67 rfl (Int32.not_lt.mpr (nI_le (by omega) (by omega))) ?_
      refine j_iconst (v := 0) d_M_scan_70 rfl ?_
      refine j_goto (tgt := 108) d_M_scan_71 rfl ?_
      refine j_putf d_M_scan_108 f_M_132 rfl (Nat.le_of_ble_eq_true rfl) rfl rfl rfl ?_
      refine j_hp (h' := lay (scS S 0 (nI b) (nI b) 0 0) ++ J) rfl ?_
      refine j_aload_n d_M_scan_111 rfl ?_
      refine j_getf d_M_scan_112 f_M_132 rfl rfl ?_
      refine j_iconst (v := 1) d_M_scan_115 rfl ?_
      refine j_icmp_neT (tgt := 187) d_M_scan_116 rfl (show ¬ (0 : Int32) = 1 by decide) ?_
      refine j_aload_n d_M_scan_187 rfl ?_
      refine j_getf d_M_scan_188 f_M_132 rfl rfl ?_
      refine j_iconst (v := 2) d_M_scan_191 rfl ?_
      refine j_icmp_neT (tgt := 287) d_M_scan_192 rfl (show ¬ (0 : Int32) = 2 by decide) ?_
      refine j_aload_n d_M_scan_287 rfl ?_
      refine j_getf d_M_scan_288 f_M_132 rfl rfl ?_
      refine j_iconst (v := 3) d_M_scan_291 rfl ?_
      refine j_icmp_neT (tgt := 305) d_M_scan_292 rfl (show ¬ (0 : Int32) = 3 by decide) ?_
      exact j_vret rfl d_M_scan_305 ⟨rfl, 0, b, b, 0, 0, rfl, 46, b, [], hpb, hb, hb, .inl ⟨rfl, rfl, rfl, rfl, rfl⟩⟩
  have skip : ∀ k i, i + k = n → tokL (S.2.1 17) n p = tokL (S.2.1 17) n i → jE K M_M_scan d 5 [(0, .ref 59), (1, .int (nI p))] [] (lay (s1 S 37 (nI i)) ++ J) (scnQ S J (S.2.1 17) n p) 0 0 := by
    intro k
    induction k with
    | zero =>
      intro i hi hpi
      refine j_aload_n d_M_scan_5 rfl ?_
      refine j_aload_n d_M_scan_6 rfl ?_
      refine j_getf d_M_scan_7 f_M_105 rfl rfl ?_
      refine j_retI (j_callV d_M_scan_10 v_M_see l_M_108 rfl rfl (see (s1 S 37 (nI i)) i hn rfl (by omega)) (by omega) (by decide) (Nat.le_of_ble_eq_true rfl) rfl) rfl ?_
      rw [if_neg (by omega)]
      refine j_bipush (v := 32) d_M_scan_13 (by decide) ?_
      refine j_icmp_neT (tgt := 31) d_M_scan_15 rfl (by decide) ?_
      exact main i (by omega) hpi (fun q => absurd q (by omega))
    | succ k ih =>
      intro i hi hpi
      refine j_aload_n d_M_scan_5 rfl ?_
      refine j_aload_n d_M_scan_6 rfl ?_
      refine j_getf d_M_scan_7 f_M_105 rfl rfl ?_
      refine j_retI (j_callV d_M_scan_10 v_M_see l_M_108 rfl rfl (see (s1 S 37 (nI i)) i hn rfl (by omega)) (by omega) (by decide) (Nat.le_of_ble_eq_true rfl) rfl) rfl ?_
      rw [if_pos (by omega)]
      refine j_bipush (v := 32) d_M_scan_13 (by decide) ?_
      by_cases h32 : S.2.1 17 i = 32
      · refine j_icmp_neF (tgt := 31) d_M_scan_15 rfl h32 ?_
        refine j_aload_n d_M_scan_18 rfl ?_
        refine j_dup d_M_scan_19 rfl ?_
        refine j_getf d_M_scan_20 f_M_105 rfl rfl ?_
        refine j_iconst (v := 1) d_M_scan_23 rfl ?_
        refine j_iadd d_M_scan_24 ?_
        refine j_top (w := .int (nI (i + 1))) (by rw [nI_succ]; rfl) ?_
        refine j_putf d_M_scan_25 f_M_105 rfl (Nat.le_of_ble_eq_true rfl) rfl rfl rfl ?_
        refine j_hp (h' := lay (s1 S 37 (nI (i + 1))) ++ J) rfl ?_
        refine j_goto (tgt := 5) d_M_scan_28 rfl ?_
        exact ih (i + 1) (by omega) (by rw [hpi, tokL_blank _ (by omega) h32])
      · refine j_icmp_neT (tgt := 31) d_M_scan_15 rfl h32 ?_
        exact main i (by omega) hpi (fun _ => h32)
  refine j_aload_n d_M_scan_0 rfl ?_
  refine j_iload_n d_M_scan_1 rfl ?_
  refine j_putf d_M_scan_2 f_M_105 rfl (Nat.le_of_ble_eq_true rfl) rfl rfl rfl ?_
  refine j_hp (h' := lay (s1 S 37 (nI p)) ++ J) rfl ?_
  exact skip (n - p) p (by omega) rfl
