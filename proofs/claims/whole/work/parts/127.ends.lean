/-! calls whose end is known -/
section JENDS
variable {K : jK} {M : jR} {d pc : Nat} {ls : List (Nat × Value)} {st st0 : List Value} {h g : jH} {Q : jO → jH → Prop} {mc ms : Nat}
theorem j_retI {v : Int32} (hcall : jCall K M d pc ls st0 st h (rI v g) 0 0) (hh : M.2.2.2.2 = []) (k : jE K M d (pc + 3) ls (.int v :: st) g Q mc ms) : jE K M d pc ls st0 h Q mc ms :=
  j_ret0 hcall hh (fun v' g' hq => by
    obtain ⟨hv, rfl⟩ := hq
    cases hv
    exact k) (fun k' g' hq => by cases hq.1)
theorem j_retV (hcall : jCall K M d pc ls st0 st h (rV g) 0 0) (hh : M.2.2.2.2 = []) (k : jE K M d (pc + 3) ls st g Q mc ms) : jE K M d pc ls st0 h Q mc ms :=
  j_ret0 hcall hh (fun v' g' hq => by
    obtain ⟨hv, rfl⟩ := hq
    cases hv
    exact k) (fun k' g' hq => by cases hq.1)
theorem j_retX {x : Nat} (hcall : jCall K M d pc ls st0 st h (rX x g) 0 0) (hh : M.2.2.2.2 = []) (k : Q (.inr x) (g ++ [.inr (x, [])])) : jE K M d pc ls st0 h Q mc ms :=
  j_ret0 hcall hh (fun v' g' hq => by cases hq.1) (fun k' g' hq => by
    obtain ⟨hv, rfl⟩ := hq
    cases hv
    exact k)
end JENDS
def b2i (b : Bool) : Int32 := if b then 1 else 0
