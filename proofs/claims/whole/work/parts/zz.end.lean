/-! the owed statement -/
theorem i_vc : Claimed_1_1 ∧ Claimed_1_2 := whole_of2 law_runs2
