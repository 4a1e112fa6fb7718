theorem law_runs : LawRuns := by sorry
theorem i_vc : Claimed_1_1 ∧ Claimed_1_2 := whole_of law_runs
