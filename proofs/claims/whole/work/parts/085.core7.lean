/-! constants, switches, references that are compared, Object's constructor -/
section JMISC
variable {K : jK} {M : jR} {d pc : Nat} {ls : List (Nat × Value)} {st : List Value} {h : jH} {Q : jO → jH → Prop} {mc ms : Nat}
theorem j_ldc {idx : Nat} {v : Int32} (hd : decode M.2.1 pc = .ok (.ldc idx, 2)) (hw0 : Cond.constant M.1.cls idx v ∈ jt) (k : jE K M d (pc + 2) ls (.int v :: st) h Q mc ms) : jE K M d pc ls st h Q mc ms :=
  fun p e R s m as bl me c H lo ce sl la hC hc hs hl hw hL => lv_ldc hC.1 hC.2.1 hC.2.2.2.1 (hC.2.2.2.2.1 _ hw0) hd (k p e R s m as bl me c H lo ce sl la hC hc hs hl hw hL)
theorem j_ldcw {idx : Nat} {v : Int32} (hd : decode M.2.1 pc = .ok (.ldc_w idx, 3)) (hw0 : Cond.constant M.1.cls idx v ∈ jt) (k : jE K M d (pc + 3) ls (.int v :: st) h Q mc ms) : jE K M d pc ls st h Q mc ms :=
  fun p e R s m as bl me c H lo ce sl la hC hc hs hl hw hL => lv_ldcw hC.1 hC.2.1 hC.2.2.2.1 (hC.2.2.2.2.1 _ hw0) hd (k p e R s m as bl me c H lo ce sl la hC hc hs hl hw hL)
theorem j_ldc2 {idx : Nat} {v : Int64} (hd : decode M.2.1 pc = .ok (.ldc2_w idx, 3)) (hw0 : Cond.constantLong M.1.cls idx v ∈ jt) (k : jE K M d (pc + 3) ls (.long v :: st) h Q mc ms) : jE K M d pc ls st h Q mc ms :=
  fun p e R s m as bl me c H lo ce sl la hC hc hs hl hw hL => lv_ldc2 hC.1 hC.2.1 hC.2.2.2.1 (hC.2.2.2.2.1 _ hw0) hd (k p e R s m as bl me c H lo ce sl la hC hc hs hl hw hL)
theorem j_lcmp {x y : Int64} (hd : decode M.2.1 pc = .ok (.lcmp, 1)) (k : jE K M d (pc + 1) ls (.int (lg_cmp x y) :: st) h Q mc ms) : jE K M d pc ls (.long y :: .long x :: st) h Q mc ms :=
  fun p e R s m as bl me c H lo ce sl la hC hc hs hl hw hL => W.lcmp hC.1 hC.2.1 hd (k p e R s m as bl me c H lo ce sl la hC hc hs hl hw hL)
theorem j_switchIn {dflt lo hi : Int} {offs : Array Int} {len : Nat} {x : Int32} {off : Int} {tgt : Nat} (hd : decode M.2.1 pc = .ok (.tableswitch dflt lo hi offs, len)) (h1 : ¬ x.toInt < lo) (h2 : ¬ hi < x.toInt) (ho : offs[(x.toInt - lo).toNat]? = some off) (ht : (pc : Int) + off = (tgt : Int)) (k : jE K M d tgt ls st h Q mc ms) : jE K M d pc ls (.int x :: st) h Q mc ms :=
  fun p e R s m as bl me c H lo' ce sl la hC hc hs hl hw hL => lv_tableIn hC.1 hC.2.1 hd h1 h2 ho ht (k p e R s m as bl me c H lo' ce sl la hC hc hs hl hw hL)
theorem j_switchOut {dflt lo hi : Int} {offs : Array Int} {len : Nat} {x : Int32} {tgt : Nat} (hd : decode M.2.1 pc = .ok (.tableswitch dflt lo hi offs, len)) (h1 : x.toInt < lo ∨ hi < x.toInt) (ht : (pc : Int) + dflt = (tgt : Int)) (k : jE K M d tgt ls st h Q mc ms) : jE K M d pc ls (.int x :: st) h Q mc ms :=
  fun p e R s m as bl me c H lo' ce sl la hC hc hs hl hw hL => lv_tableOut hC.1 hC.2.1 hd h1 ht (k p e R s m as bl me c H lo' ce sl la hC hc hs hl hw hL)
theorem j_objInit {idx i : Nat} (hd : decode M.2.1 pc = .ok (.invokespecial idx, 3)) (hlink : Cond.methodLink M.1.cls idx Lib.objectInit ∈ jt) (hinst : Cond.instanceMethod Lib.objectInit ∈ jt) (hcode : Cond.code Lib.objectInit ⟨#[0xb1]⟩ 1 none ∈ jt) (hdd : 1 ≤ d) (hst : (st.map fun v => v.category).sum ≤ 8) (k : jE K M d (pc + 3) ls st h Q mc ms) : jE K M d pc ls (.ref i :: st) h Q mc ms := by
  intro p e R s m as bl me c H lo ce sl la hC hc hs hl hw hL
  have hts := hC.2.2.2.2.1
  have hfr := hC.2.2.2.2.2.2.2.2.2.1
  have hlo := hC.2.2.2.2.2.2.2.2.2.2.1
  have hroom := j_roomS (m := m) (la := la) (pc := pc) (K := K) hst
  refine W.objInit hC.1 hC.2.1 hC.2.2.2.1 (hts _ hlink) (hts _ hinst) (hts _ hcode) (g := F0 m pc la (.ref (j_adr K i) :: st.map (j_v K))) rfl (hl.1.trans hC.2.2.1.symm) rfl hd (by omega) ?_ (k p e R s m as bl me c H lo ce sl la hC hc hs hl hw hL)
  have e1 : (F0 m pc la (.ref (j_adr K i) :: st.map (j_v K))).monitorRoom = (F0 m pc la (st.map (j_v K))).monitorRoom := by first | rfl | simp [JFrame.monitorRoom, F0]
  rw [e1]
  have e2 : ((F0 m pc la (st.map (j_v K))).stack.map fun v => v.category).sum = ((st.map (j_v K)).map fun v => v.category).sum := rfl
  rw [e2] at hroom
  omega
end JMISC
