/-! BitLoomLaw: the ten that call the class and catch -/
abbrev oS (S : jS) (v : Int64) : jS := s4 S (vp_updL S.2.2.2.1 0 v)
theorem m_L_field (K : jK) (d : Nat) (hd : 1 ≤ d) (S : jS) (J : jH) (c a w z : Int32) (Q' Q : jO → jH → Prop) (hB : jM K M_B_field (d - 1) [.ref 32, .int c, .int a, .int w, .int z] (lay S ++ J) Q' 0 0) (hr : ∀ v h, Q' (.inl v) h → v = none ∧ Q (.inl (some (.int 0))) h) (ht : ∀ x h, Q' (.inr x) h → (x = 10 ∧ Q (.inl (some (.int 1))) h) ∨ (x = 12 ∧ Q (.inl (some (.int 2))) h)) : jM K M_L_field d [.ref 32, .int c, .int a, .int w, .int z] (lay S ++ J) Q 1 6 := by
  refine jM.of (by decide) (Nat.le_of_ble_eq_true rfl) ?_
  refine j_aload_n d_L_field_0 rfl ?_
  refine j_iload_n d_L_field_1 rfl ?_
  refine j_iload_n d_L_field_2 rfl ?_
  refine j_iload_n d_L_field_3 rfl ?_
  refine j_iload d_L_field_4 rfl ?_
  refine j_catch (mc := 0) (ms := 0) (mc' := 0) (ms' := 0) (j_callV d_L_field_6 v_B_field l_L_7 rfl rfl hB (by omega) (by decide) (Nat.le_of_ble_eq_true rfl) rfl) (fun v h hq => ?_) (fun x h hq => ?_)
  · obtain ⟨rfl, hq2⟩ := hr v h hq
    refine j_st (st' := []) rfl ?_
    refine j_goto (tgt := 20) d_L_field_9 rfl ?_
    refine j_iconst (v := 0) d_L_field_20 rfl ?_
    exact j_iret rfl d_L_field_21 hq2
  · rcases ht x h hq with ⟨rfl, hq2⟩ | ⟨rfl, hq2⟩
    · refine ⟨_, _, 12, rfl, ⟨rfl, by decide, _, k_L_13, .inl ⟨rfl, rfl⟩⟩, ?_⟩
      refine j_astore d_L_field_12 (by decide) ?_
      refine j_iconst (v := 1) d_L_field_14 rfl ?_
      exact j_iret rfl d_L_field_15 hq2
    · refine ⟨_, _, 16, rfl, ⟨rfl, by decide, _, k_L_13, .inr ⟨by decide +kernel, ⟨rfl, by decide, _, k_L_15, .inl ⟨rfl, rfl⟩⟩⟩⟩, ?_⟩
      refine j_astore d_L_field_16 (by decide) ?_
      refine j_iconst (v := 2) d_L_field_18 rfl ?_
      exact j_iret rfl d_L_field_19 hq2
theorem m_L_insert (K : jK) (d : Nat) (hd : 1 ≤ d) (S : jS) (J : jH)  (Q' Q : jO → jH → Prop) (hB : jM K M_B_insert (d - 1) [.ref 32] (lay S ++ J) Q' 0 0) (hr : ∀ v h, Q' (.inl v) h → ∃ (i : Int32) (S1 : jS) (J1 : jH), v = some (.int i) ∧ h = lay S1 ++ J1 ∧ Q (.inl (some (.int 0))) (lay (oS S1 i.toInt64) ++ J1)) (ht : ∀ x h, Q' (.inr x) h → (x = 11 ∧ Q (.inl (some (.int 1))) h)) : jM K M_L_insert d [.ref 32, .ref 79] (lay S ++ J) Q 1 6 := by
  refine jM.of (by decide) (Nat.le_of_ble_eq_true rfl) ?_
  refine j_aload_n d_L_insert_0 rfl ?_
  refine j_iconst (v := 0) d_L_insert_1 rfl ?_
  refine j_aload_n d_L_insert_2 rfl ?_
  refine j_catch (mc := 0) (ms := 0) (mc' := 0) (ms' := 0) (j_callV d_L_insert_3 v_B_insert l_L_17 rfl rfl hB (by omega) (by decide) (Nat.le_of_ble_eq_true rfl) rfl) (fun v h hq => ?_) (fun x h hq => ?_)
  · obtain ⟨i, S1, J1, rfl, rfl, hq2⟩ := hr v h hq
    refine j_st (st' := [.int i, .int 0, .ref 79]) rfl ?_
    refine j_i2l d_L_insert_6 ?_
    refine j_last (j := 0) d_L_insert_7 rfl (by omega) (by decide) rfl ?_
    refine j_hp (h' := lay (oS S1 i.toInt64) ++ J1) rfl ?_
    refine j_goto (tgt := 14) d_L_insert_8 rfl ?_
    refine j_iconst (v := 0) d_L_insert_14 rfl ?_
    exact j_iret rfl d_L_insert_15 hq2
  · obtain ⟨rfl, hq2⟩ := ht x h hq
    refine ⟨_, _, 11, rfl, ⟨rfl, by decide, _, k_L_21, .inl ⟨rfl, rfl⟩⟩, ?_⟩
    refine j_astore_n d_L_insert_11 (by decide) ?_
    refine j_iconst (v := 1) d_L_insert_12 rfl ?_
    exact j_iret rfl d_L_insert_13 hq2
theorem m_L_remove (K : jK) (d : Nat) (hd : 1 ≤ d) (S : jS) (J : jH) (w : Int32) (Q' Q : jO → jH → Prop) (hB : jM K M_B_remove (d - 1) [.ref 32, .int w] (lay S ++ J) Q' 0 0) (hr : ∀ v h, Q' (.inl v) h → v = none ∧ Q (.inl (some (.int 0))) h) (ht : ∀ x h, Q' (.inr x) h → (x = 10 ∧ Q (.inl (some (.int 1))) h) ∨ (x = 11 ∧ Q (.inl (some (.int 2))) h)) : jM K M_L_remove d [.ref 32, .int w] (lay S ++ J) Q 1 6 := by
  refine jM.of (by decide) (Nat.le_of_ble_eq_true rfl) ?_
  refine j_aload_n d_L_remove_0 rfl ?_
  refine j_iload_n d_L_remove_1 rfl ?_
  refine j_catch (mc := 0) (ms := 0) (mc' := 0) (ms' := 0) (j_callV d_L_remove_2 v_B_remove l_L_23 rfl rfl hB (by omega) (by decide) (Nat.le_of_ble_eq_true rfl) rfl) (fun v h hq => ?_) (fun x h hq => ?_)
  · obtain ⟨rfl, hq2⟩ := hr v h hq
    refine j_st (st' := []) rfl ?_
    refine j_goto (tgt := 14) d_L_remove_5 rfl ?_
    refine j_iconst (v := 0) d_L_remove_14 rfl ?_
    exact j_iret rfl d_L_remove_15 hq2
  · rcases ht x h hq with ⟨rfl, hq2⟩ | ⟨rfl, hq2⟩
    · refine ⟨_, _, 8, rfl, ⟨rfl, by decide, _, k_L_13, .inl ⟨rfl, rfl⟩⟩, ?_⟩
      refine j_astore_n d_L_remove_8 (by decide) ?_
      refine j_iconst (v := 1) d_L_remove_9 rfl ?_
      exact j_iret rfl d_L_remove_10 hq2
    · refine ⟨_, _, 11, rfl, ⟨rfl, by decide, _, k_L_13, .inr ⟨by decide +kernel, ⟨rfl, by decide, _, k_L_21, .inl ⟨rfl, rfl⟩⟩⟩⟩, ?_⟩
      refine j_astore_n d_L_remove_11 (by decide) ?_
      refine j_iconst (v := 2) d_L_remove_12 rfl ?_
      exact j_iret rfl d_L_remove_13 hq2
theorem m_L_put (K : jK) (d : Nat) (hd : 1 ≤ d) (S : jS) (J : jH) (w c v : Int32) (Q' Q : jO → jH → Prop) (hB : jM K M_B_put (d - 1) [.ref 32, .int w, .int c, .int v] (lay S ++ J) Q' 0 0) (hr : ∀ v h, Q' (.inl v) h → v = none ∧ Q (.inl (some (.int 0))) h) (ht : ∀ x h, Q' (.inr x) h → (x = 10 ∧ Q (.inl (some (.int 1))) h) ∨ (x = 11 ∧ Q (.inl (some (.int 2))) h) ∨ (x = 12 ∧ Q (.inl (some (.int 3))) h)) : jM K M_L_put d [.ref 32, .int w, .int c, .int v] (lay S ++ J) Q 1 6 := by
  refine jM.of (by decide) (Nat.le_of_ble_eq_true rfl) ?_
  refine j_aload_n d_L_put_0 rfl ?_
  refine j_iload_n d_L_put_1 rfl ?_
  refine j_iload_n d_L_put_2 rfl ?_
  refine j_iload_n d_L_put_3 rfl ?_
  refine j_catch (mc := 0) (ms := 0) (mc' := 0) (ms' := 0) (j_callV d_L_put_4 v_B_put l_L_27 rfl rfl hB (by omega) (by decide) (Nat.le_of_ble_eq_true rfl) rfl) (fun v h hq => ?_) (fun x h hq => ?_)
  · obtain ⟨rfl, hq2⟩ := hr v h hq
    refine j_st (st' := []) rfl ?_
    refine j_goto (tgt := 22) d_L_put_7 rfl ?_
    refine j_iconst (v := 0) d_L_put_22 rfl ?_
    exact j_iret rfl d_L_put_23 hq2
  · rcases ht x h hq with ⟨rfl, hq2⟩ | ⟨rfl, hq2⟩ | ⟨rfl, hq2⟩
    · refine ⟨_, _, 10, rfl, ⟨rfl, by decide, _, k_L_13, .inl ⟨rfl, rfl⟩⟩, ?_⟩
      refine j_astore d_L_put_10 (by decide) ?_
      refine j_iconst (v := 1) d_L_put_12 rfl ?_
      exact j_iret rfl d_L_put_13 hq2
    · refine ⟨_, _, 14, rfl, ⟨rfl, by decide, _, k_L_13, .inr ⟨by decide +kernel, ⟨rfl, by decide, _, k_L_21, .inl ⟨rfl, rfl⟩⟩⟩⟩, ?_⟩
      refine j_astore d_L_put_14 (by decide) ?_
      refine j_iconst (v := 2) d_L_put_16 rfl ?_
      exact j_iret rfl d_L_put_17 hq2
    · refine ⟨_, _, 18, rfl, ⟨rfl, by decide, _, k_L_13, .inr ⟨by decide +kernel, ⟨rfl, by decide, _, k_L_21, .inr ⟨by decide +kernel, ⟨rfl, by decide, _, k_L_15, .inl ⟨rfl, rfl⟩⟩⟩⟩⟩⟩, ?_⟩
      refine j_astore d_L_put_18 (by decide) ?_
      refine j_iconst (v := 3) d_L_put_20 rfl ?_
      exact j_iret rfl d_L_put_21 hq2
theorem m_L_get (K : jK) (d : Nat) (hd : 1 ≤ d) (S : jS) (J : jH) (w c : Int32) (Q' Q : jO → jH → Prop) (hB : jM K M_B_get (d - 1) [.ref 32, .int w, .int c] (lay S ++ J) Q' 0 0) (hr : ∀ v h, Q' (.inl v) h → ∃ (i : Int32) (S1 : jS) (J1 : jH), v = some (.int i) ∧ h = lay S1 ++ J1 ∧ Q (.inl (some (.int 0))) (lay (oS S1 i.toInt64) ++ J1)) (ht : ∀ x h, Q' (.inr x) h → (x = 10 ∧ Q (.inl (some (.int 1))) h) ∨ (x = 11 ∧ Q (.inl (some (.int 2))) h)) : jM K M_L_get d [.ref 32, .int w, .int c, .ref 79] (lay S ++ J) Q 1 6 := by
  refine jM.of (by decide) (Nat.le_of_ble_eq_true rfl) ?_
  refine j_aload_n d_L_get_0 rfl ?_
  refine j_iconst (v := 0) d_L_get_1 rfl ?_
  refine j_aload_n d_L_get_2 rfl ?_
  refine j_iload_n d_L_get_3 rfl ?_
  refine j_iload_n d_L_get_4 rfl ?_
  refine j_catch (mc := 0) (ms := 0) (mc' := 0) (ms' := 0) (j_callV d_L_get_5 v_B_get l_L_31 rfl rfl hB (by omega) (by decide) (Nat.le_of_ble_eq_true rfl) rfl) (fun v h hq => ?_) (fun x h hq => ?_)
  · obtain ⟨i, S1, J1, rfl, rfl, hq2⟩ := hr v h hq
    refine j_st (st' := [.int i, .int 0, .ref 79]) rfl ?_
    refine j_i2l d_L_get_8 ?_
    refine j_last (j := 0) d_L_get_9 rfl (by omega) (by decide) rfl ?_
    refine j_hp (h' := lay (oS S1 i.toInt64) ++ J1) rfl ?_
    refine j_goto (tgt := 21) d_L_get_10 rfl ?_
    refine j_iconst (v := 0) d_L_get_21 rfl ?_
    exact j_iret rfl d_L_get_22 hq2
  · rcases ht x h hq with ⟨rfl, hq2⟩ | ⟨rfl, hq2⟩
    · refine ⟨_, _, 13, rfl, ⟨rfl, by decide, _, k_L_13, .inl ⟨rfl, rfl⟩⟩, ?_⟩
      refine j_astore d_L_get_13 (by decide) ?_
      refine j_iconst (v := 1) d_L_get_15 rfl ?_
      exact j_iret rfl d_L_get_16 hq2
    · refine ⟨_, _, 17, rfl, ⟨rfl, by decide, _, k_L_13, .inr ⟨by decide +kernel, ⟨rfl, by decide, _, k_L_21, .inl ⟨rfl, rfl⟩⟩⟩⟩, ?_⟩
      refine j_astore d_L_get_17 (by decide) ?_
      refine j_iconst (v := 2) d_L_get_19 rfl ?_
      exact j_iret rfl d_L_get_20 hq2
theorem m_L_bit (K : jK) (d : Nat) (hd : 1 ≤ d) (S : jS) (J : jH) (w k : Int32) (Q' Q : jO → jH → Prop) (hB : jM K M_B_bit (d - 1) [.ref 32, .int w, .int k] (lay S ++ J) Q' 0 0) (hr : ∀ v h, Q' (.inl v) h → ∃ (b : Bool) (S1 : jS) (J1 : jH), v = some (.int (b2i b)) ∧ h = lay S1 ++ J1 ∧ Q (.inl (some (.int 0))) (lay (oS S1 (b2i b).toInt64) ++ J1)) (ht : ∀ x h, Q' (.inr x) h → (x = 10 ∧ Q (.inl (some (.int 1))) h)) : jM K M_L_bit d [.ref 32, .int w, .int k, .ref 79] (lay S ++ J) Q 1 6 := by
  refine jM.of (by decide) (Nat.le_of_ble_eq_true rfl) ?_
  refine j_aload_n d_L_bit_0 rfl ?_
  refine j_iconst (v := 0) d_L_bit_1 rfl ?_
  refine j_aload_n d_L_bit_2 rfl ?_
  refine j_iload_n d_L_bit_3 rfl ?_
  refine j_iload_n d_L_bit_4 rfl ?_
  refine j_catch (mc := 0) (ms := 0) (mc' := 0) (ms' := 0) (j_callV d_L_bit_5 v_B_bit l_L_35 rfl rfl hB (by omega) (by decide) (Nat.le_of_ble_eq_true rfl) rfl) (fun v h hq => ?_) (fun x h hq => ?_)
  · obtain ⟨b, S1, J1, rfl, rfl, hq2⟩ := hr v h hq
    refine j_st (st' := [.int (b2i b), .int 0, .ref 79]) rfl ?_
    cases b with
    | true =>
      refine j_if_eqF (tgt := 15) d_L_bit_8 rfl (by decide) ?_
      refine j_lconst (v := 1) d_L_bit_11 rfl ?_
      refine j_goto (tgt := 16) d_L_bit_12 rfl ?_
      refine j_last (j := 0) d_L_bit_16 rfl (by omega) (by decide) rfl ?_
      refine j_hp (h' := lay (oS S1 (b2i true).toInt64) ++ J1) rfl ?_
      refine j_goto (tgt := 24) d_L_bit_17 rfl ?_
      refine j_iconst (v := 0) d_L_bit_24 rfl ?_
      exact j_iret rfl d_L_bit_25 hq2
    | false =>
      refine j_if_eqT (tgt := 15) d_L_bit_8 rfl rfl ?_
      refine j_lconst (v := 0) d_L_bit_15 rfl ?_
      refine j_last (j := 0) d_L_bit_16 rfl (by omega) (by decide) rfl ?_
      refine j_hp (h' := lay (oS S1 (b2i false).toInt64) ++ J1) rfl ?_
      refine j_goto (tgt := 24) d_L_bit_17 rfl ?_
      refine j_iconst (v := 0) d_L_bit_24 rfl ?_
      exact j_iret rfl d_L_bit_25 hq2
  · obtain ⟨rfl, hq2⟩ := ht x h hq
    refine ⟨_, _, 20, rfl, ⟨rfl, by decide, _, k_L_13, .inl ⟨rfl, rfl⟩⟩, ?_⟩
    refine j_astore d_L_bit_20 (by decide) ?_
    refine j_iconst (v := 1) d_L_bit_22 rfl ?_
    exact j_iret rfl d_L_bit_23 hq2
theorem m_L_multi (K : jK) (d : Nat) (hd : 1 ≤ d) (S : jS) (J : jH) (m p : Int32) (Q' Q : jO → jH → Prop) (hB : jM K M_B_multi (d - 1) [.ref 32, .int m, .int p] (lay S ++ J) Q' 0 0) (hr : ∀ v h, Q' (.inl v) h → v = none ∧ Q (.inl (some (.int 0))) h) (ht : ∀ x h, Q' (.inr x) h → (x = 10 ∧ Q (.inl (some (.int 1))) h)) : jM K M_L_multi d [.ref 32, .int m, .int p] (lay S ++ J) Q 1 6 := by
  refine jM.of (by decide) (Nat.le_of_ble_eq_true rfl) ?_
  refine j_aload_n d_L_multi_0 rfl ?_
  refine j_iload_n d_L_multi_1 rfl ?_
  refine j_iload_n d_L_multi_2 rfl ?_
  refine j_catch (mc := 0) (ms := 0) (mc' := 0) (ms' := 0) (j_callV d_L_multi_3 v_B_multi l_L_39 rfl rfl hB (by omega) (by decide) (Nat.le_of_ble_eq_true rfl) rfl) (fun v h hq => ?_) (fun x h hq => ?_)
  · obtain ⟨rfl, hq2⟩ := hr v h hq
    refine j_st (st' := []) rfl ?_
    refine j_goto (tgt := 12) d_L_multi_6 rfl ?_
    refine j_iconst (v := 0) d_L_multi_12 rfl ?_
    exact j_iret rfl d_L_multi_13 hq2
  · obtain ⟨rfl, hq2⟩ := ht x h hq
    refine ⟨_, _, 9, rfl, ⟨rfl, by decide, _, k_L_13, .inl ⟨rfl, rfl⟩⟩, ?_⟩
    refine j_astore_n d_L_multi_9 (by decide) ?_
    refine j_iconst (v := 1) d_L_multi_10 rfl ?_
    exact j_iret rfl d_L_multi_11 hq2
theorem m_L_responds (K : jK) (d : Nat) (hd : 1 ≤ d) (S : jS) (J : jH) (w : Int32) (Q' Q : jO → jH → Prop) (hB : jM K M_B_responds (d - 1) [.ref 32, .int w] (lay S ++ J) Q' 0 0) (hr : ∀ v h, Q' (.inl v) h → ∃ (b : Bool) (S1 : jS) (J1 : jH), v = some (.int (b2i b)) ∧ h = lay S1 ++ J1 ∧ Q (.inl (some (.int 0))) (lay (oS S1 (b2i b).toInt64) ++ J1)) (ht : ∀ x h, Q' (.inr x) h → (x = 10 ∧ Q (.inl (some (.int 1))) h)) : jM K M_L_responds d [.ref 32, .int w, .ref 79] (lay S ++ J) Q 1 6 := by
  refine jM.of (by decide) (Nat.le_of_ble_eq_true rfl) ?_
  refine j_aload_n d_L_responds_0 rfl ?_
  refine j_iconst (v := 0) d_L_responds_1 rfl ?_
  refine j_aload_n d_L_responds_2 rfl ?_
  refine j_iload_n d_L_responds_3 rfl ?_
  refine j_catch (mc := 0) (ms := 0) (mc' := 0) (ms' := 0) (j_callV d_L_responds_4 v_B_responds l_L_43 rfl rfl hB (by omega) (by decide) (Nat.le_of_ble_eq_true rfl) rfl) (fun v h hq => ?_) (fun x h hq => ?_)
  · obtain ⟨b, S1, J1, rfl, rfl, hq2⟩ := hr v h hq
    refine j_st (st' := [.int (b2i b), .int 0, .ref 79]) rfl ?_
    cases b with
    | true =>
      refine j_if_eqF (tgt := 14) d_L_responds_7 rfl (by decide) ?_
      refine j_lconst (v := 1) d_L_responds_10 rfl ?_
      refine j_goto (tgt := 15) d_L_responds_11 rfl ?_
      refine j_last (j := 0) d_L_responds_15 rfl (by omega) (by decide) rfl ?_
      refine j_hp (h' := lay (oS S1 (b2i true).toInt64) ++ J1) rfl ?_
      refine j_goto (tgt := 22) d_L_responds_16 rfl ?_
      refine j_iconst (v := 0) d_L_responds_22 rfl ?_
      exact j_iret rfl d_L_responds_23 hq2
    | false =>
      refine j_if_eqT (tgt := 14) d_L_responds_7 rfl rfl ?_
      refine j_lconst (v := 0) d_L_responds_14 rfl ?_
      refine j_last (j := 0) d_L_responds_15 rfl (by omega) (by decide) rfl ?_
      refine j_hp (h' := lay (oS S1 (b2i false).toInt64) ++ J1) rfl ?_
      refine j_goto (tgt := 22) d_L_responds_16 rfl ?_
      refine j_iconst (v := 0) d_L_responds_22 rfl ?_
      exact j_iret rfl d_L_responds_23 hq2
  · obtain ⟨rfl, hq2⟩ := ht x h hq
    refine ⟨_, _, 19, rfl, ⟨rfl, by decide, _, k_L_13, .inl ⟨rfl, rfl⟩⟩, ?_⟩
    refine j_astore_n d_L_responds_19 (by decide) ?_
    refine j_iconst (v := 1) d_L_responds_20 rfl ?_
    exact j_iret rfl d_L_responds_21 hq2
theorem m_L_run (K : jK) (d : Nat) (hd : 1 ≤ d) (S : jS) (J : jH)  (Q' Q : jO → jH → Prop) (hB : jM K M_B_run (d - 1) [.ref 32] (lay S ++ J) Q' 0 0) (hr : ∀ v h, Q' (.inl v) h → ∃ (i : Int32) (S1 : jS) (J1 : jH), v = some (.int i) ∧ h = lay S1 ++ J1 ∧ Q (.inl (some (.int 0))) (lay (oS S1 i.toInt64) ++ J1)) (ht : ∀ x h, Q' (.inr x) h → (x = 10 ∧ Q (.inl (some (.int 1))) h) ∨ (x = 11 ∧ Q (.inl (some (.int 2))) h)) : jM K M_L_run d [.ref 32, .ref 79] (lay S ++ J) Q 1 6 := by
  refine jM.of (by decide) (Nat.le_of_ble_eq_true rfl) ?_
  refine j_aload_n d_L_run_0 rfl ?_
  refine j_iconst (v := 0) d_L_run_1 rfl ?_
  refine j_aload_n d_L_run_2 rfl ?_
  refine j_catch (mc := 0) (ms := 0) (mc' := 0) (ms' := 0) (j_callV d_L_run_3 v_B_run l_L_47 rfl rfl hB (by omega) (by decide) (Nat.le_of_ble_eq_true rfl) rfl) (fun v h hq => ?_) (fun x h hq => ?_)
  · obtain ⟨i, S1, J1, rfl, rfl, hq2⟩ := hr v h hq
    refine j_st (st' := [.int i, .int 0, .ref 79]) rfl ?_
    refine j_i2l d_L_run_6 ?_
    refine j_last (j := 0) d_L_run_7 rfl (by omega) (by decide) rfl ?_
    refine j_hp (h' := lay (oS S1 i.toInt64) ++ J1) rfl ?_
    refine j_goto (tgt := 17) d_L_run_8 rfl ?_
    refine j_iconst (v := 0) d_L_run_17 rfl ?_
    exact j_iret rfl d_L_run_18 hq2
  · rcases ht x h hq with ⟨rfl, hq2⟩ | ⟨rfl, hq2⟩
    · refine ⟨_, _, 11, rfl, ⟨rfl, by decide, _, k_L_13, .inl ⟨rfl, rfl⟩⟩, ?_⟩
      refine j_astore_n d_L_run_11 (by decide) ?_
      refine j_iconst (v := 1) d_L_run_12 rfl ?_
      exact j_iret rfl d_L_run_13 hq2
    · refine ⟨_, _, 14, rfl, ⟨rfl, by decide, _, k_L_13, .inr ⟨by decide +kernel, ⟨rfl, by decide, _, k_L_21, .inl ⟨rfl, rfl⟩⟩⟩⟩, ?_⟩
      refine j_astore_n d_L_run_14 (by decide) ?_
      refine j_iconst (v := 2) d_L_run_15 rfl ?_
      exact j_iret rfl d_L_run_16 hq2
theorem m_L_listed (K : jK) (d : Nat) (hd : 1 ≤ d) (S : jS) (J : jH) (i : Int32) (Q' Q : jO → jH → Prop) (hB : jM K M_B_listed (d - 1) [.ref 32, .int i] (lay S ++ J) Q' 0 0) (hr : ∀ v h, Q' (.inl v) h → ∃ (i : Int32) (S1 : jS) (J1 : jH), v = some (.int i) ∧ h = lay S1 ++ J1 ∧ Q (.inl (some (.int 0))) (lay (oS S1 i.toInt64) ++ J1)) (ht : ∀ x h, Q' (.inr x) h → (x = 13 ∧ Q (.inl (some (.int 1))) h)) : jM K M_L_listed d [.ref 32, .int i, .ref 79] (lay S ++ J) Q 1 6 := by
  refine jM.of (by decide) (Nat.le_of_ble_eq_true rfl) ?_
  refine j_aload_n d_L_listed_0 rfl ?_
  refine j_iconst (v := 0) d_L_listed_1 rfl ?_
  refine j_aload_n d_L_listed_2 rfl ?_
  refine j_iload_n d_L_listed_3 rfl ?_
  refine j_catch (mc := 0) (ms := 0) (mc' := 0) (ms' := 0) (j_callV d_L_listed_4 v_B_listed l_L_50 rfl rfl hB (by omega) (by decide) (Nat.le_of_ble_eq_true rfl) rfl) (fun v h hq => ?_) (fun x h hq => ?_)
  · obtain ⟨i, S1, J1, rfl, rfl, hq2⟩ := hr v h hq
    refine j_st (st' := [.int i, .int 0, .ref 79]) rfl ?_
    refine j_i2l d_L_listed_7 ?_
    refine j_last (j := 0) d_L_listed_8 rfl (by omega) (by decide) rfl ?_
    refine j_hp (h' := lay (oS S1 i.toInt64) ++ J1) rfl ?_
    refine j_goto (tgt := 15) d_L_listed_9 rfl ?_
    refine j_iconst (v := 0) d_L_listed_15 rfl ?_
    exact j_iret rfl d_L_listed_16 hq2
  · obtain ⟨rfl, hq2⟩ := ht x h hq
    refine ⟨_, _, 12, rfl, ⟨rfl, by decide, _, k_L_54, .inl ⟨rfl, rfl⟩⟩, ?_⟩
    refine j_astore_n d_L_listed_12 (by decide) ?_
    refine j_iconst (v := 1) d_L_listed_13 rfl ?_
    exact j_iret rfl d_L_listed_14 hq2
