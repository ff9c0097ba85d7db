/-! The statement. -/
theorem i_vc : Claimed_1_1 ∧ Claimed_1_2 := so_vc (fun L xs h => law_all case_2 case_13 L xs h)
