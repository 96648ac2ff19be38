theorem wsL_law_x0 : ∀ w ∈ atM0, w ∈ lw_tbl := fun _ h => nomatch h
theorem wsL_law_x1 : ∀ w ∈ (vx_atS RX5 36 "java/lang/IllegalArgumentException" ["java/lang/RuntimeException", "java/lang/Exception"]).filter goodWord, w ∈ lw_tbl := by decide +kernel
