/-! the owed row, EMPTILY true: no launch meets what it takes as given (01.empty). It says nothing of the program: see REPORT.md, STATEMENT. -/
theorem i_vc : Claimed_1_1 ∧ Claimed_1_2 := ⟨fun l _ h => absurd h (p22_no_lists l), fun l _ h => absurd h (p22_no_lists l)⟩
