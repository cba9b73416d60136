/-! BitLoomModel: actionOf, act, start, one, afterOne -/
def actN (w : Int64) : Int32 := if w = 7562612 then 1 else if w = 7168376 then 2 else if w = 7170414 then 3 else if w = 7566701 then 4 else if w = 1818850164 then 5 else if w = 427203583092 then 6 else 0
theorem lcmp_ne {x y : Int64} (h : ¬ lg_cmp x y = 0) : ¬ x = y := by
  intro q; subst q
  exact h (by unfold lg_cmp; simp [Int64.lt_irrefl])
theorem lcmp_eq {x y : Int64} (h : lg_cmp x y = 0) : x = y := by
  unfold lg_cmp at h
  split at h
  · exact absurd h (by decide)
  · split at h
    · exact absurd h (by decide)
    · first | assumption | (rename_i h1 h2; exact Int64.le_antisymm (Int64.not_lt.mp (by assumption)) (Int64.not_lt.mp (by assumption)))
