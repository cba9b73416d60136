/-! BitLoom$Fields, its other methods -/
theorem b2i_nar (b : Bool) : narrow .boolean (.int (b2i b)) = .int (b2i b) := by cases b <;> rfl
theorem b01_nar0 : narrow .boolean (.int 0) = .int 0 := rfl
theorem b01_nar1 : narrow .boolean (.int 1) = .int 1 := rfl
def newNm (f : Nat → Int32) (n : Nat) (c : Int32) : Int32 := if c < 97 then 0 else if 122 < c then 0 else if ixOf f c n 0 = -1 then 1 else 0
theorem m_F_isNewName (K : jK) (d : Nat) (hd : 1 ≤ d) (S : jS) (J : jH) (c : Int32) (n : Nat) (hn : S.1 2 = nI n) (h6 : n ≤ 6) : jM K M_F_isNewName d [.ref 33, .int c] (lay S ++ J) (rI (newNm (S.2.1 0) n c) (lay S ++ J)) 0 0 := by
  refine jM.of (by decide) (Nat.le_of_ble_eq_true rfl) ?_
  refine j_iload_n d_F_isNewName_0 rfl ?_
  refine j_bipush (v := 97) d_F_isNewName_1 (by decide) ?_
  refine j_icmp_lt (tgt := 25) d_F_isNewName_3 rfl (fun h3 => ?_) (fun h3 => ?_)
  · refine j_iconst (v := 0) d_F_isNewName_25 rfl ?_
    exact j_zret rfl rfl d_F_isNewName_26 ⟨by first | (simp only [newNm, h3, ↓reduceIte]; done) | (simp [newNm, h3]; done), rfl⟩
  · refine j_iload_n d_F_isNewName_6 rfl ?_
    refine j_bipush (v := 122) d_F_isNewName_7 (by decide) ?_
    refine j_icmp_gt (tgt := 25) d_F_isNewName_9 rfl (fun h9 => ?_) (fun h9 => ?_)
    · refine j_iconst (v := 0) d_F_isNewName_25 rfl ?_
      exact j_zret rfl rfl d_F_isNewName_26 ⟨by first | (simp only [newNm, h3, h9, ↓reduceIte]; done) | (simp [newNm, h3, h9]; done), rfl⟩
    · refine j_aload_n d_F_isNewName_12 rfl ?_
      refine j_iload_n d_F_isNewName_13 rfl ?_
      refine j_retI (j_callV d_F_isNewName_14 v_F_indexOf l_F_30 rfl rfl (m_F_indexOf K (d - 1) S J c n hn h6) (by omega) (by decide) (Nat.le_of_ble_eq_true rfl) rfl) rfl ?_
      refine j_iconst (v := -1) d_F_isNewName_17 rfl ?_
      refine j_icmp_ne (tgt := 25) d_F_isNewName_18 rfl (fun h18 => ?_) (fun h18 => ?_)
      · refine j_iconst (v := 0) d_F_isNewName_25 rfl ?_
        exact j_zret rfl rfl d_F_isNewName_26 ⟨by first | (simp only [newNm, h3, h9, h18, ↓reduceIte]; done) | (simp [newNm, h3, h9, h18]; done), rfl⟩
      · refine j_iconst (v := 1) d_F_isNewName_21 rfl ?_
        refine j_goto (tgt := 26) d_F_isNewName_22 rfl ?_
        exact j_zret rfl rfl d_F_isNewName_26 ⟨by first | (simp only [newNm, h3, h9, h18, ↓reduceIte]; done) | (simp [newNm, h3, h9, h18]; done), rfl⟩
def grd (a w : Int32) : Int32 := ((1 <<< (w &&& 31)) - 1) <<< (a &&& 31)
def opnG (cov a w : Int32) : Int32 := if a < 0 then 0 else if 24 ≤ a then 0 else if w < 1 then 0 else if w ≤ 10 then (if 24 < a + w then 0 else if cov &&& grd a w = 0 then 1 else 0) else 0
theorem m_F_isOpenGround (K : jK) (d : Nat) (hd : 1 ≤ d) (S : jS) (J : jH) (a w : Int32) : jM K M_F_isOpenGround d [.ref 33, .int a, .int w] (lay S ++ J) (rI (opnG (S.1 3) a w) (lay S ++ J)) 0 0 := by
  refine jM.of (by decide) (Nat.le_of_ble_eq_true rfl) ?_
  refine j_iload_n d_F_isOpenGround_0 rfl ?_
  refine j_if_lt (tgt := 21) d_F_isOpenGround_1 rfl (fun h1 => ?_) (fun h1 => ?_)
  · refine j_iconst (v := 0) d_F_isOpenGround_21 rfl ?_
    exact j_zret rfl rfl d_F_isOpenGround_22 ⟨by first | (simp only [opnG, grd, h1, ↓reduceIte]; done) | (simp [opnG, grd, h1]; done), rfl⟩
  · refine j_iload_n d_F_isOpenGround_4 rfl ?_
    refine j_bipush (v := 24) d_F_isOpenGround_5 (by decide) ?_
    refine j_icmp_ge (tgt := 21) d_F_isOpenGround_7 rfl (fun h7 => ?_) (fun h7 => ?_)
    · refine j_iconst (v := 0) d_F_isOpenGround_21 rfl ?_
      exact j_zret rfl rfl d_F_isOpenGround_22 ⟨by first | (simp only [opnG, grd, h1, h7, ↓reduceIte]; done) | (simp [opnG, grd, h1, h7]; done), rfl⟩
    · refine j_iload_n d_F_isOpenGround_10 rfl ?_
      refine j_iconst (v := 1) d_F_isOpenGround_11 rfl ?_
      refine j_icmp_lt (tgt := 21) d_F_isOpenGround_12 rfl (fun h12 => ?_) (fun h12 => ?_)
      · refine j_iconst (v := 0) d_F_isOpenGround_21 rfl ?_
        exact j_zret rfl rfl d_F_isOpenGround_22 ⟨by first | (simp only [opnG, grd, h1, h7, h12, ↓reduceIte]; done) | (simp [opnG, grd, h1, h7, h12]; done), rfl⟩
      · refine j_iload_n d_F_isOpenGround_15 rfl ?_
        refine j_bipush (v := 10) d_F_isOpenGround_16 (by decide) ?_
        refine j_icmp_le (tgt := 23) d_F_isOpenGround_18 rfl (fun h18 => ?_) (fun h18 => ?_)
        · refine j_iload_n d_F_isOpenGround_23 rfl ?_
          refine j_iload_n d_F_isOpenGround_24 rfl ?_
          refine j_iadd d_F_isOpenGround_25 ?_
          refine j_bipush (v := 24) d_F_isOpenGround_26 (by decide) ?_
          refine j_icmp_gt (tgt := 48) d_F_isOpenGround_28 rfl (fun h28 => ?_) (fun h28 => ?_)
          · refine j_iconst (v := 0) d_F_isOpenGround_48 rfl ?_
            exact j_zret rfl rfl d_F_isOpenGround_49 ⟨by first | (simp only [opnG, grd, h1, h7, h12, h18, h28, ↓reduceIte]; done) | (simp [opnG, grd, h1, h7, h12, h18, h28]; done), rfl⟩
          · refine j_aload_n d_F_isOpenGround_31 rfl ?_
            refine j_getf d_F_isOpenGround_32 f_F_34 rfl rfl ?_
            refine j_iload_n d_F_isOpenGround_35 rfl ?_
            refine j_iload_n d_F_isOpenGround_36 rfl ?_
            refine j_retI (j_callS d_F_isOpenGround_37 s_F_ground l_F_37 rfl (m_F_ground K (d - 1) _ a w) (by omega) (by decide) (Nat.le_of_ble_eq_true rfl) rfl) rfl ?_
            refine j_iand d_F_isOpenGround_40 ?_
            refine j_if_ne (tgt := 48) d_F_isOpenGround_41 rfl (fun h41 => ?_) (fun h41 => ?_)
            · refine j_iconst (v := 0) d_F_isOpenGround_48 rfl ?_
              exact j_zret rfl rfl d_F_isOpenGround_49 ⟨by first | (simp only [opnG, grd, h1, h7, h12, h18, h28, h41, ↓reduceIte]; done) | (simp [opnG, grd, h1, h7, h12, h18, h28, h41]; done), rfl⟩
            · refine j_iconst (v := 1) d_F_isOpenGround_44 rfl ?_
              refine j_goto (tgt := 49) d_F_isOpenGround_45 rfl ?_
              exact j_zret rfl rfl d_F_isOpenGround_49 ⟨by first | (simp only [opnG, grd, h1, h7, h12, h18, h28, h41, ↓reduceIte]; done) | (simp [opnG, grd, h1, h7, h12, h18, h28, h41]; done), rfl⟩
        · refine j_iconst (v := 0) d_F_isOpenGround_21 rfl ?_
          exact j_zret rfl rfl d_F_isOpenGround_22 ⟨by first | (simp only [opnG, grd, h1, h7, h12, h18, ↓reduceIte]; done) | (simp [opnG, grd, h1, h7, h12, h18]; done), rfl⟩
theorem m_F_append (K : jK) (d : Nat) (hd : 1 ≤ d) (S : jS) (J : jH) (c a w z : Int32) (n : Nat) (hn : S.1 2 = nI n) (h6 : n < 6) (hc : narrow .char (.int c) = .int c) (hz : narrow .boolean (.int z) = .int z) : jM K M_F_append d [.ref 33, .int c, .int a, .int w, .int z] (lay S ++ J) (rV (lay (s1 (s1 (s2 (s2 (s2 (s2 S 0 (upd (S.2.1 0) n c)) 1 (upd (S.2.1 1) n a)) 2 (upd (S.2.1 2) n w)) 3 (upd (S.2.1 3) n z)) 2 (nI (n + 1))) 3 (S.1 3 ||| grd a w)) ++ J)) 0 0 := by
  refine jM.of (by decide) (Nat.le_of_ble_eq_true rfl) ?_
  refine j_aload_n d_F_append_0 rfl ?_
  refine j_getf d_F_append_1 f_F_9 rfl rfl ?_
  refine j_aload_n d_F_append_4 rfl ?_
  refine j_getf d_F_append_5 f_F_26 rfl rfl ?_
  refine j_top (w := .int (nI n)) (by first | rw [hn] | exact congrArg Value.int hn) ?_
  refine j_iload_n d_F_append_8 rfl ?_
  refine j_cast d_F_append_9 rfl h6 (by decide) hc rfl ?_
  refine j_aload_n d_F_append_10 rfl ?_
  refine j_getf d_F_append_11 f_F_15 rfl rfl ?_
  refine j_aload_n d_F_append_14 rfl ?_
  refine j_getf d_F_append_15 f_F_26 rfl rfl ?_
  refine j_top (w := .int (nI n)) (by first | rw [hn] | exact congrArg Value.int hn) ?_
  refine j_iload_n d_F_append_18 rfl ?_
  refine j_iast d_F_append_19 rfl h6 (by decide) rfl ?_
  refine j_aload_n d_F_append_20 rfl ?_
  refine j_getf d_F_append_21 f_F_19 rfl rfl ?_
  refine j_aload_n d_F_append_24 rfl ?_
  refine j_getf d_F_append_25 f_F_26 rfl rfl ?_
  refine j_top (w := .int (nI n)) (by first | rw [hn] | exact congrArg Value.int hn) ?_
  refine j_iload_n d_F_append_28 rfl ?_
  refine j_iast d_F_append_29 rfl h6 (by decide) rfl ?_
  refine j_aload_n d_F_append_30 rfl ?_
  refine j_getf d_F_append_31 f_F_22 rfl rfl ?_
  refine j_aload_n d_F_append_34 rfl ?_
  refine j_getf d_F_append_35 f_F_26 rfl rfl ?_
  refine j_top (w := .int (nI n)) (by first | rw [hn] | exact congrArg Value.int hn) ?_
  refine j_iload d_F_append_38 rfl ?_
  refine j_zast d_F_append_40 rfl h6 (by decide) hz rfl ?_
  refine j_aload_n d_F_append_41 rfl ?_
  refine j_dup d_F_append_42 rfl ?_
  refine j_getf d_F_append_43 f_F_26 rfl rfl ?_
  refine j_top (w := .int (nI n)) (by first | rw [hn] | exact congrArg Value.int hn) ?_
  refine j_iconst (v := 1) d_F_append_46 rfl ?_
  refine j_iadd d_F_append_47 ?_
  refine j_top (w := .int (nI (n + 1))) (by rw [nI_succ]) ?_
  refine j_putf d_F_append_48 f_F_26 rfl (Nat.le_of_ble_eq_true rfl) rfl rfl rfl ?_
  refine j_aload_n d_F_append_51 rfl ?_
  refine j_dup d_F_append_52 rfl ?_
  refine j_getf d_F_append_53 f_F_34 rfl rfl ?_
  refine j_iload_n d_F_append_56 rfl ?_
  refine j_iload_n d_F_append_57 rfl ?_
  refine j_retI (j_callS d_F_append_58 s_F_ground l_F_37 rfl (m_F_ground K (d - 1) _ a w) (by omega) (by decide) (Nat.le_of_ble_eq_true rfl) rfl) rfl ?_
  refine j_ior d_F_append_61 ?_
  refine j_putf d_F_append_62 f_F_34 rfl (Nat.le_of_ble_eq_true rfl) rfl rfl rfl ?_
  exact j_vret rfl d_F_append_65 ⟨rfl, rfl⟩
def vlow (w z : Int32) : Int32 := if z = 0 then 0 else -(((1 : Int32) <<< (w &&& 31)) >>> ((1 : Int32) &&& 31))
def vfit (w z v : Int32) : Int32 := if v < vlow w z then 0 else if vlow w z + ((1 : Int32) <<< (w &&& 31)) ≤ v then 0 else 1
theorem m_F_fits (K : jK) (d : Nat) (S : jS) (J : jH) (f : Nat) (v : Int32) (hf : f < 6) : jM K M_F_fits d [.ref 33, .int (nI f), .int v] (lay S ++ J) (rI (vfit (S.2.1 2 f) (S.2.1 3 f) v) (lay S ++ J)) 0 0 := by
  refine jM.of (by decide) (Nat.le_of_ble_eq_true rfl) ?_
  refine j_iconst (v := 1) d_F_fits_0 rfl ?_
  refine j_aload_n d_F_fits_1 rfl ?_
  refine j_getf d_F_fits_2 f_F_19 rfl rfl ?_
  refine j_iload_n d_F_fits_5 rfl ?_
  refine j_iald d_F_fits_6 rfl hf (by decide) ?_
  refine j_ishl d_F_fits_7 ?_
  refine j_istore_n d_F_fits_8 (by decide) ?_
  refine j_aload_n d_F_fits_9 rfl ?_
  refine j_getf d_F_fits_10 f_F_22 rfl rfl ?_
  refine j_iload_n d_F_fits_13 rfl ?_
  refine j_zald d_F_fits_14 rfl hf (by decide) ?_
  refine j_if_eq (tgt := 25) d_F_fits_15 rfl (fun h15 => ?_) (fun h15 => ?_)
  · refine j_iconst (v := 0) d_F_fits_25 rfl ?_
    refine j_istore d_F_fits_26 (by decide) ?_
    refine j_iload_n d_F_fits_28 rfl ?_
    refine j_iload d_F_fits_29 rfl ?_
    refine j_icmp_lt (tgt := 46) d_F_fits_31 rfl (fun h31 => ?_) (fun h31 => ?_)
    · refine j_iconst (v := 0) d_F_fits_46 rfl ?_
      exact j_zret rfl rfl d_F_fits_47 ⟨by first | (simp only [vfit, vlow, h15, h31, ↓reduceIte]; done) | (simp [vfit, vlow, h15, h31]; done), rfl⟩
    · refine j_iload_n d_F_fits_34 rfl ?_
      refine j_iload d_F_fits_35 rfl ?_
      refine j_iload_n d_F_fits_37 rfl ?_
      refine j_iadd d_F_fits_38 ?_
      refine j_icmp_ge (tgt := 46) d_F_fits_39 rfl (fun h39 => ?_) (fun h39 => ?_)
      · refine j_iconst (v := 0) d_F_fits_46 rfl ?_
        exact j_zret rfl rfl d_F_fits_47 ⟨by first | (simp only [vfit, vlow, h15, h31, h39, ↓reduceIte]; done) | (simp [vfit, vlow, h15, h31, h39]; done), rfl⟩
      · refine j_iconst (v := 1) d_F_fits_42 rfl ?_
        refine j_goto (tgt := 47) d_F_fits_43 rfl ?_
        exact j_zret rfl rfl d_F_fits_47 ⟨by first | (simp only [vfit, vlow, h15, h31, h39, ↓reduceIte]; done) | (simp [vfit, vlow, h15, h31, h39]; done), rfl⟩
  · refine j_iload_n d_F_fits_18 rfl ?_
    refine j_iconst (v := 1) d_F_fits_19 rfl ?_
    refine j_ishr d_F_fits_20 ?_
    refine j_ineg d_F_fits_21 ?_
    refine j_goto (tgt := 26) d_F_fits_22 rfl ?_
    refine j_istore d_F_fits_26 (by decide) ?_
    refine j_iload_n d_F_fits_28 rfl ?_
    refine j_iload d_F_fits_29 rfl ?_
    refine j_icmp_lt (tgt := 46) d_F_fits_31 rfl (fun h31 => ?_) (fun h31 => ?_)
    · refine j_iconst (v := 0) d_F_fits_46 rfl ?_
      exact j_zret rfl rfl d_F_fits_47 ⟨by first | (simp only [vfit, vlow, h15, h31, ↓reduceIte]; done) | (simp [vfit, vlow, h15, h31]; done), rfl⟩
    · refine j_iload_n d_F_fits_34 rfl ?_
      refine j_iload d_F_fits_35 rfl ?_
      refine j_iload_n d_F_fits_37 rfl ?_
      refine j_iadd d_F_fits_38 ?_
      refine j_icmp_ge (tgt := 46) d_F_fits_39 rfl (fun h39 => ?_) (fun h39 => ?_)
      · refine j_iconst (v := 0) d_F_fits_46 rfl ?_
        exact j_zret rfl rfl d_F_fits_47 ⟨by first | (simp only [vfit, vlow, h15, h31, h39, ↓reduceIte]; done) | (simp [vfit, vlow, h15, h31, h39]; done), rfl⟩
      · refine j_iconst (v := 1) d_F_fits_42 rfl ?_
        refine j_goto (tgt := 47) d_F_fits_43 rfl ?_
        exact j_zret rfl rfl d_F_fits_47 ⟨by first | (simp only [vfit, vlow, h15, h31, h39, ↓reduceIte]; done) | (simp [vfit, vlow, h15, h31, h39]; done), rfl⟩
def vraw (a w b : Int32) : Int32 := (b.toUInt32 >>> (a.toUInt32 &&& Int32.toUInt32 31)).toInt32 &&& ((1 <<< (w &&& 31)) - 1)
def vval (a w z b : Int32) : Int32 := if z = 0 then vraw a w b else if vraw a w b < (1 <<< (w &&& 31)) >>> ((1 : Int32) &&& 31) then vraw a w b else vraw a w b - (1 <<< (w &&& 31))
theorem m_F_valueIn (K : jK) (d : Nat) (S : jS) (J : jH) (f : Nat) (b : Int32) (hf : f < 6) : jM K M_F_valueIn d [.ref 33, .int (nI f), .int b] (lay S ++ J) (rI (vval (S.2.1 1 f) (S.2.1 2 f) (S.2.1 3 f) b) (lay S ++ J)) 0 0 := by
  refine jM.of (by decide) (Nat.le_of_ble_eq_true rfl) ?_
  refine j_iconst (v := 1) d_F_valueIn_0 rfl ?_
  refine j_aload_n d_F_valueIn_1 rfl ?_
  refine j_getf d_F_valueIn_2 f_F_19 rfl rfl ?_
  refine j_iload_n d_F_valueIn_5 rfl ?_
  refine j_iald d_F_valueIn_6 rfl hf (by decide) ?_
  refine j_ishl d_F_valueIn_7 ?_
  refine j_istore_n d_F_valueIn_8 (by decide) ?_
  refine j_iload_n d_F_valueIn_9 rfl ?_
  refine j_aload_n d_F_valueIn_10 rfl ?_
  refine j_getf d_F_valueIn_11 f_F_15 rfl rfl ?_
  refine j_iload_n d_F_valueIn_14 rfl ?_
  refine j_iald d_F_valueIn_15 rfl hf (by decide) ?_
  refine j_iushr d_F_valueIn_16 ?_
  refine j_iload_n d_F_valueIn_17 rfl ?_
  refine j_iconst (v := 1) d_F_valueIn_18 rfl ?_
  refine j_isub d_F_valueIn_19 ?_
  refine j_iand d_F_valueIn_20 ?_
  refine j_istore d_F_valueIn_21 (by decide) ?_
  refine j_aload_n d_F_valueIn_23 rfl ?_
  refine j_getf d_F_valueIn_24 f_F_22 rfl rfl ?_
  refine j_iload_n d_F_valueIn_27 rfl ?_
  refine j_zald d_F_valueIn_28 rfl hf (by decide) ?_
  refine j_if_eq (tgt := 47) d_F_valueIn_29 rfl (fun h29 => ?_) (fun h29 => ?_)
  · refine j_iload d_F_valueIn_47 rfl ?_
    exact j_iret rfl d_F_valueIn_49 ⟨by rw [vval, if_pos h29]; rfl, rfl⟩
  · refine j_iload d_F_valueIn_32 rfl ?_
    refine j_iload_n d_F_valueIn_34 rfl ?_
    refine j_iconst (v := 1) d_F_valueIn_35 rfl ?_
    refine j_ishr d_F_valueIn_36 ?_
    refine j_icmp_lt (tgt := 47) d_F_valueIn_37 rfl (fun h37 => ?_) (fun h37 => ?_)
    · refine j_iload d_F_valueIn_47 rfl ?_
      exact j_iret rfl d_F_valueIn_49 ⟨by first | (rw [vval, if_pos h29]; done) | (rw [vval, if_neg h29, if_pos h37]; done) | (rw [vval, if_neg h29, if_neg h37]; done) | (simp [vval, vraw, h29, h37]), rfl⟩
    · refine j_iload d_F_valueIn_40 rfl ?_
      refine j_iload_n d_F_valueIn_42 rfl ?_
      refine j_isub d_F_valueIn_43 ?_
      refine j_goto (tgt := 49) d_F_valueIn_44 rfl ?_
      exact j_iret rfl d_F_valueIn_49 ⟨by first | (rw [vval, if_pos h29]; done) | (rw [vval, if_neg h29, if_pos h37]; done) | (rw [vval, if_neg h29, if_neg h37]; done) | (simp [vval, vraw, h29, h37]), rfl⟩
def vput (a w b v : Int32) : Int32 := (b &&& (grd a w ^^^ (-1))) ||| ((v <<< (a &&& 31)) &&& grd a w)
theorem m_F_withValue (K : jK) (d : Nat) (hd : 1 ≤ d) (S : jS) (J : jH) (f : Nat) (b v : Int32) (hf : f < 6) : jM K M_F_withValue d [.ref 33, .int (nI f), .int b, .int v] (lay S ++ J) (rI (vput (S.2.1 1 f) (S.2.1 2 f) b v) (lay S ++ J)) 0 0 := by
  refine jM.of (by decide) (Nat.le_of_ble_eq_true rfl) ?_
  refine j_aload_n d_F_withValue_0 rfl ?_
  refine j_getf d_F_withValue_1 f_F_15 rfl rfl ?_
  refine j_iload_n d_F_withValue_4 rfl ?_
  refine j_iald d_F_withValue_5 rfl hf (by decide) ?_
  refine j_aload_n d_F_withValue_6 rfl ?_
  refine j_getf d_F_withValue_7 f_F_19 rfl rfl ?_
  refine j_iload_n d_F_withValue_10 rfl ?_
  refine j_iald d_F_withValue_11 rfl hf (by decide) ?_
  refine j_retI (j_callS d_F_withValue_12 s_F_ground l_F_37 rfl (m_F_ground K (d - 1) _ _ _) (by omega) (by decide) (Nat.le_of_ble_eq_true rfl) rfl) rfl ?_
  refine j_istore d_F_withValue_15 (by decide) ?_
  refine j_iload_n d_F_withValue_17 rfl ?_
  refine j_iload d_F_withValue_18 rfl ?_
  refine j_iconst (v := -1) d_F_withValue_20 rfl ?_
  refine j_ixor d_F_withValue_21 ?_
  refine j_iand d_F_withValue_22 ?_
  refine j_iload_n d_F_withValue_23 rfl ?_
  refine j_aload_n d_F_withValue_24 rfl ?_
  refine j_getf d_F_withValue_25 f_F_15 rfl rfl ?_
  refine j_iload_n d_F_withValue_28 rfl ?_
  refine j_iald d_F_withValue_29 rfl hf (by decide) ?_
  refine j_ishl d_F_withValue_30 ?_
  refine j_iload d_F_withValue_31 rfl ?_
  refine j_iand d_F_withValue_33 ?_
  refine j_ior d_F_withValue_34 ?_
  exact j_iret rfl d_F_withValue_35 ⟨rfl, rfl⟩
