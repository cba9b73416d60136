/-! how methods end, locals, counters -/
def rI (v : Int32) (g : jH) : jO → jH → Prop := fun o h => o = .inl (some (.int v)) ∧ h = g
def rV (g : jH) : jO → jH → Prop := fun o h => o = .inl none ∧ h = g
def rX (k : Nat) (g : jH) : jO → jH → Prop := fun o h => o = .inr k ∧ h = g ++ [.inr (k, [])]
def j_sub (ls : List (Nat × Value)) : List (Nat × Value) → Prop
  | [] => True
  | q :: r => j_lg ls q.1 = some q.2 ∧ j_sub ls r
theorem j_sub_all {ls : List (Nat × Value)} : ∀ {ls' : List (Nat × Value)}, j_sub ls ls' → ∀ q ∈ ls', j_lg ls q.1 = some q.2
  | [], _, q, hq => by cases hq
  | r :: ls', h, q, hq => by
    rcases List.mem_cons.mp hq with rfl | hq
    · exact h.1
    · exact j_sub_all h.2 q hq
theorem j_loc' {K : jK} {M : jR} {d pc : Nat} {ls : List (Nat × Value)} {st : List Value} {h : jH} {Q : jO → jH → Prop} {mc ms : Nat} (ls' : List (Nat × Value)) (hs : j_sub ls ls') (k : jE K M d pc ls' st h Q mc ms) : jE K M d pc ls st h Q mc ms := j_few (j_sub_all hs) k
theorem j_iincN {K : jK} {M : jR} {d pc : Nat} {ls : List (Nat × Value)} {st : List Value} {h : jH} {Q : jO → jH → Prop} {mc ms i j : Nat} (hd : decode M.2.1 pc = .ok (.iinc i 1, 3)) (hg : j_lg ls i = some (.int (nI j))) (hn : i < M.2.2.1) (k : jE K M d (pc + 3) (j_ls ls i (.int (nI (j + 1)))) st h Q mc ms) : jE K M d pc ls st h Q mc ms :=
  j_iinc hd hg (by rw [nI_succ]; rfl) hn k
theorem j_iincP {K : jK} {M : jR} {d pc : Nat} {ls : List (Nat × Value)} {st : List Value} {h : jH} {Q : jO → jH → Prop} {mc ms i j : Nat} (hd : decode M.2.1 pc = .ok (.iinc i (-1), 3)) (hg : j_lg ls i = some (.int (nI (j + 1)))) (hn : i < M.2.2.1) (k : jE K M d (pc + 3) (j_ls ls i (.int (nI j))) st h Q mc ms) : jE K M d pc ls st h Q mc ms :=
  j_iinc hd hg (by rw [← pk_m1 j]; rfl) hn k
