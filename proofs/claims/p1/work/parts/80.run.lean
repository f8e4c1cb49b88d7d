/-! the law's run in M -/
def lawq : mQ := (yL_law, code, 4, some .boolean, 1, 8, 600000, 7302250)
theorem law_run (xl : List Int32) (h : xl.length ≤ 4) : ∃ P', MEv 20 (some xl) lawq 0 [(0, .long 0)] [] [] 0 0 (some (.int 1)) P' := by sorry
