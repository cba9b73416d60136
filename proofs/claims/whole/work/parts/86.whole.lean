/-! the law from its entry, and the claim -/
section JRETW
variable {K : jK} {M : jR} {d pc : Nat} {ls : List (Nat × Value)} {st : List Value} {h : jH} {Q : jO → jH → Prop} {mc ms : Nat}
theorem j_retV2 {st0 : List Value} {g : jH} {mc' ms' : Nat} (hcall : jCall K M d pc ls st0 st h (rV g) mc' ms') (hh : M.2.2.2.2 = []) (k : jE K M d (pc + 3) ls st g Q mc ms) : jE K M d pc ls st0 h Q (mc + mc') (ms + ms') := by
  rw [Nat.add_comm mc mc', Nat.add_comm ms ms']
  exact j_retV' hcall hh k
theorem j_bud {mc' ms' : Nat} (e1 : mc = mc') (e2 : ms = ms') (k : jE K M d pc ls st h Q mc ms) : jE K M d pc ls st h Q mc' ms' := by
  subst e1
  subst e2
  exact k
end JRETW
theorem inv_0 : Inv jS0 := ⟨0, 0, 0, fun _ => 0, fun _ => 0, ⟨rfl, rfl⟩, ⟨rfl, rfl, by omega⟩, ⟨rfl, rfl, by omega⟩, ⟨rfl, rfl, rfl, rfl⟩, ⟨by omega, rfl, rfl, rfl, fun f hf => by omega⟩, fun i j hi => by omega, fun j _ => ⟨fun h => (by rw [show bt (jS0.1 3) j = false from b_0 j] at h; cases h), fun ⟨k, hk, _⟩ => absurd hk (Nat.not_lt_zero k)⟩, fun w _ => by rw [show bt (jS0.1 4) w = false from b_0 w]; rfl, fun w _ => by rw [show bt (jS0.1 5) w = false from b_0 w]; rfl, fun w _ _ => ⟨b_0 w, rfl⟩, ⟨rfl, rfl⟩, fun j => rfl, fun j hj => by omega⟩
theorem law_all (K : jK) (d : Nat) (hd : 61 ≤ d) (hL : scL K ≤ 2560) : jE K M_L_law d 0 (lv_args 0 [.ref 0]) [] [] laQ (scL K / 5 + 48) (6 * (scL K / 5) + 1342) := by
  refine j_bud (mc := scL K / 5 + 47 + 1) (ms := 6 * (scL K / 5) + 1335 + 7) (by omega) (by omega) ?_
  refine j_new (N := 7) (mc := scL K / 5 + 47) (ms := 6 * (scL K / 5) + 1335) d_L_law_0 n_L_8 rfl ?_
  refine j_hp (h' := hC1) rfl ?_
  refine j_st (st' := [.ref 32]) rfl ?_
  refine j_dup d_L_law_3 rfl ?_
  refine j_bud (mc := scL K / 5 + 21 + 26) (ms := 6 * (scL K / 5) + 783 + 552) (by omega) (by omega) ?_
  refine j_retV2 (mc := scL K / 5 + 21) (ms := 6 * (scL K / 5) + 783) (j_callI d_L_law_4 i_B_init l_L_56 rfl (m_B_init_32 K (d - 1) (by omega)) (by omega) (by decide) (Nat.le_of_ble_eq_true rfl) rfl) rfl ?_
  refine j_astore_n d_L_law_7 (by decide) ?_
  refine j_bud (mc := scL K / 5 + 20 + 1) (ms := 6 * (scL K / 5) + 745 + 38) (by omega) (by omega) ?_
  refine j_new (N := 38) (mc := scL K / 5 + 20) (ms := 6 * (scL K / 5) + 745) d_L_law_8 n_L_57 rfl ?_
  refine j_hp (h' := hC109) rfl ?_
  refine j_st (st' := [.ref 59]) rfl ?_
  refine j_dup d_L_law_11 rfl ?_
  refine j_bud (mc := scL K / 5 + 1 + 19) (ms := 6 * (scL K / 5) + 1 + 744) (by omega) (by omega) ?_
  refine j_retV2 (mc := scL K / 5 + 1) (ms := 6 * (scL K / 5) + 1) (j_callI d_L_law_12 i_M_init l_L_59 rfl (m_M_init_59 K (d - 1) (by omega)) (by omega) (by decide) (Nat.le_of_ble_eq_true rfl) rfl) rfl ?_
  refine j_astore_n d_L_law_15 (by decide) ?_
  refine j_iconst (v := 1) d_L_law_16 rfl ?_
  refine j_new_long (N := 1) (mc := scL K / 5) (ms := 6 * (scL K / 5)) d_L_law_17 (by decide) (by decide) (by decide) ?_
  refine j_hp (h' := lay jS0 ++ []) (by rw [List.append_nil]; exact lay_0) ?_
  refine j_st (st' := [.ref 79]) rfl ?_
  refine j_astore_n d_L_law_19 (by decide) ?_
  refine j_iconst (v := 0) d_L_law_20 rfl ?_
  refine j_istore d_L_law_21 (by decide) ?_
  exact law_loop K d hd hL (scL K / 5) 0 jS0 [] _ (by omega) (by omega) inv_0 rfl rfl rfl rfl rfl
theorem sbn_forget {s t : State} {L : List Loc} {C N : Nat} (h : s.sameButNew t L C N) (hL : ∀ q ∈ L, s.heap.size ≤ q.base) : s.sameButNew t [] C N := by
  obtain ⟨h1, h2, h3, h4, h5, h6⟩ := h
  refine ⟨h1, h2, h3, h4, h5, fun a c hc => ?_⟩
  obtain ⟨c', g1, g2, g3, g4⟩ := h6 a c hc
  refine ⟨c', g1, g2, g3, fun i _ => g4 i (fun q => ?_)⟩
  have h9 : s.heap.size ≤ a := hL _ q
  have h8 := (Array.getElem?_eq_some_iff.mp hc).1
  omega
theorem whole_start {p : Program} {e : Env} {s : State} {m : MethodId} {below : List Frame} {meth : Method} {c : Code} (l : Launch) (hfl : l.flags = flags0) {b L : Nat} {xs : Nat → Int32} (hL : L ≤ 2560) (C0 : lw_At p s m meth c b L xs) (hnm : meth.name = "law") (htb : c.exceptionTable.toList = tableOf []) : W p l e room_1 s m #[Value.ref b] below meth c s.heap [] 0 0 (lw_Z below #[Value.ref b] s) (entryFrame m ([Value.ref b] : List Value).toArray 7) := by
  obtain ⟨K, hK1, hK2, hK3, hKb, hKL, hKx, hva, hjx⟩ := jK_start l hfl C0
  obtain ⟨hexec, hcode, hret, hml, hown, hts, hX, hbl, hlocks, hgv⟩ := C0
  have hE := law_all K 100 (by omega) (by rw [hKL]; exact hL)
  have hl := lv_entry (([.ref 0] : List Value).map (j_v K)) (n := 7) (by rw [j_slots]; exact Nat.le_of_ble_eq_true rfl)
  rw [j_args] at hl
  have eb : ([.ref 0] : List Value).map (j_v K) = [.ref b] := by
    show [Value.ref (j_adr K 0)] = _
    rw [j_adx K (by omega), hKb]
  have hW := hE p e room_1 s m #[Value.ref b] below meth c s.heap [] 0 0 _ ⟨hexec, hcode, hml, hown, fun w hw => hts w (List.mem_filter.mp hw).1, hret, hlocks, hnm, htb, by decide, by decide, hva, hjx⟩ (by show 0 + (scL K / 5 + 48) + 1 ≤ 601024; rw [hKL]; omega) (by show 0 + (6 * (scL K / 5) + 1342) + 6 ≤ 7293034; rw [hKL]; omega) hl ⟨fun j x hx => by simp at hx, by rw [hK2]; rfl, fun q _ => by rw [hK3]⟩ (fun q hq => by cases hq)
  rw [hK1] at hW
  rw [eb] at hW
  refine j_mono (fun t ht => ?_) hW
  obtain ⟨o, mo, h2, L2, b1, b2, b3, b4, b5, b6, b7, b8⟩ := ht
  have b4 : mo = .inl (some (.int 1)) := b4
  subst b4
  have b3 : o = .returned (some (.int 1)) := b3
  subst b3
  refine ⟨_, b1, b2, rfl, ⟨_, rfl⟩, b6, ?_⟩
  refine sbn_forget (L := L2) (b7.mono (by simp only [j_xc]; rw [hKL]; omega) (by simp only [j_xc]; rw [hKL]; omega)) (fun q hq => ?_)
  have := b8 q hq
  rw [hK2] at this
  exact this
set_option maxHeartbeats 4000000 in
theorem lw_walk (l : Launch) (hfl : l.flags = flags0) (b : Addr) (xs : List Int32) : MetFree l x (headSpec (Jvm.Cond.code x code maxLocals ret :: tables_1) room_1) (lw_P b xs) (fun _ _ _ _ _ => True) lw_Q := by
  refine MetFree.of_bodyS (code := code) (maxLocals := maxLocals) (ret := ret) (by decide) ?_ ?_
  · intro args s m h hn
    obtain ⟨meth, c, h1, h2, h3, h4, h5, h6, -, -⟩ := Cond.code_spec hn (atoms_spec (ws := Jvm.Cond.code x code maxLocals ret :: tables_1) h _ List.mem_cons_self)
    exact ⟨meth, c, h1, h2, h3, h4, h5, h6⟩
  · intro p e s m args below meth c s₁ B hml0 hP _
    obtain ⟨rfl, hx, hbd, hgv⟩ := hP
    obtain ⟨scr, harrAt, hlist, hof, hsmall⟩ := hx
    obtain ⟨hcb, hkn, -, -⟩ := State.arrayAt?_spec harrAt
    have hown : s.vm.findClass R_law = some m.cls := findClass_of_methodNamed B.named
    have hts0 : ∀ c ∈ (Jvm.Cond.code x code maxLocals ret :: tables_1), c.before #[Value.ref b] s = true := atoms_spec (ws := Jvm.Cond.code x code maxLocals ret :: tables_1) B.pre
    have hts : ∀ w ∈ lw_tbl, w.before #[Value.ref b] s = true := k2_hts_sels lw_privs (fun w hw => hts0 w (List.mem_cons_of_mem _ hw)) lw_privs_ok
    have hml : c.maxLocals = 7 := B.maxLocals_eq (hts0 _ List.mem_cons_self)
    have X₀ : Stand p l e room_1 s m #[Value.ref b] below meth c s₁ [] 0 0 := Stand.of_body B
    have hh0 : s₁.heap = s.heap := by rw [B.state]; rfl
    have hsz : scr.slots.size = xs.length := by rw [← Array.length_toList, hlist, List.length_map]
    have hval : ∀ j : Nat, j < xs.length → scr.slots[j]? = some (.int (xs.getD j 0)) := fun j hj => by
      rw [← Array.getElem?_toList, hlist]
      simp [hj]
    have hbl : b < s.heap.size := (Array.getElem?_eq_some_iff.mp hcb).1
    have hX : va_X b xs.length (fun j => xs.getD j 0) s s.heap := ⟨scr, hcb, hof, hkn, hsz, hval⟩
    have K : W p l e room_1 s m #[Value.ref b] below meth c s₁.heap [] 0 0 (lw_Z below #[Value.ref b] s) (entryFrame m ([Value.ref b] : List Value).toArray 7) := by
      rw [hh0]
      obtain ⟨meth9, c9, h91, h92, -, -, -, -, h97, -⟩ := j_code_spec (M := M_L_law) B.named (hts0 _ List.mem_cons_self)
      cases B.method.symm.trans h91
      cases X₀.code.symm.trans h92
      exact whole_start l hfl hbd ⟨B.exec, B.bytes, B.returns, hml, hown, hts, hX, hbl, B.notSynchronized, hgv⟩ (name_of_methodNamed B.named B.method).1 h97
    obtain ⟨t, a1, o, b1, b2, b3⟩ := K s₁ rfl X₀
    exact ⟨t, o, a1, b1, b2, b3⟩
theorem lw_pre_spec {args : Array Value} {s : State} (h : (Jvm.Cond.and given_1 narrow_1).before args s = true) (hr : rest_1_c.before args s = true) : ∃ (b : Addr) (xs : List Int32), lw_P b xs args s := by
  have hs := flat_of_before _ h
  have hq := flat_of_before _ hr
  have hc : (Cond.count 1).before args s = true := hs _ (by decide +kernel)
  have harr : (Cond.arrayOf (.arg 0) .int).before args s = true := hs _ (by decide +kernel)
  have hle : (Cond.le (.length (.arg 0)) (.int 2560)).before args s = true := hs _ (by decide +kernel)
  have hlen : (Cond.isInt (.length (.arg 0))).before args s = true := hq _ (by decide +kernel)
  have hall : (Cond.all (.arg 0) (.isInt (.elem (.arg 0) (.index 0)))).before args s = true := hq _ (by decide +kernel)
  obtain ⟨b, xs, hb, hx⟩ := State.ints_of_pre rfl harr hlen hall
  have hsm : xs.length < 2 ^ 31 := hx.choose_spec.2.2.2
  have hev : (Term.length (.arg 0)).eval args s none [] s = some (.int xs.length.toInt32) := hx.length_eval hb
  have hv := Cond.le_ints hev (show (Term.int 2560).eval args s none [] s = some (.int 2560) from rfl)
  have hd : xs.length.toInt32 ≤ 2560 := by
    simpa [Cond.before, Cond.holds, hv] using hle
  have hN : xs.length ≤ 2560 := (Int32.ofNat_le_ofNat hsm (by decide)).mp (show Int32.ofNat xs.length ≤ Int32.ofNat 2560 from hd)
  exact ⟨b, xs, Cond.one_arg hc (show args[0]? = some (.ref b) from hb), hx, hN, h⟩
theorem lw_comes (l : Launch) (hfl : l.flags = flags0) : Comes l x (Jvm.Cond.code x code maxLocals ret :: tables_1) room_1 (fun tb e args s => Calls_1 tb e args s ∧ rest_1 tb e args s ∧ Pre_1 tb e args s)
    (fun _ _ args s o t => lw_Q args s o t) := by
  intro p e ha hc hk s m args below hf hfit hheap happ hpre
  obtain ⟨b, xs, hP⟩ := lw_pre_spec hpre.2.2 hpre.2.1
  obtain ⟨k, o, h1, h2, h3, hQ⟩ := lw_walk l hfl b xs p e ha hc hk s m args below hf ((Spec.applies_iff_loose hf).mp happ).1 hP trivial
  exact ⟨k, o, h1, h2, h3, hQ⟩
theorem lw_frame {s t : State} {o : Outcome} {args : Array Value} (h : Framed s o t [] 601024 7293034) :
    Framed s o t (fieldLocs frame_1_writes args s ++ arrayLocs frame_1_arrays args s ++ staticLocs frame_1_statics s) 601024 7293034 := h
theorem lw_limb (L : Cond) (hL : ∀ (args : Array Value) (s t : State), L.after args s (.returned (some (.int 1))) t = true) :
    ArmFor flags0 classFile x code maxLocals ret World_1 tables_1 room_1 Calls_1 rest_1 Pre_1
      (fun tb e a s o t => postC L tb e a s o t ∧ Framed s o t (fieldLocs frame_1_writes a s ++ arrayLocs frame_1_arrays a s ++ staticLocs frame_1_statics s) 601024 7293034) := by
  intro l hfl _ _ p e ha hc hk s m args below hf hfit hheap happ hpre
  obtain ⟨k, o, h1, h2, h3, rfl, hF⟩ := lw_comes l hfl p e ha hc hk s m args below hf hfit hheap happ hpre
  exact ⟨k, _, h1, h2, h3, hL args s _, lw_frame hF⟩
theorem i_vc : Claimed_1_1 ∧ Claimed_1_2 := ⟨lw_limb limb_1_1 (fun args s t => by simp [limb_1_1, Cond.after, Cond.holds, Cond.value]), lw_limb limb_1_2 (fun args s t => Cond.after_iff.mpr (by
  first | (rw [show limb_1_2 = Cond.eq .result (.int 1) from rfl, Cond.eq_ints (x := 1) (y := 1) rfl rfl]; simp; done) | (simp [limb_1_2, Cond.value, Term.eval]; done)))⟩
