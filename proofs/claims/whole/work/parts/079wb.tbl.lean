set_option maxRecDepth 20000 in
theorem wsL_law_r5_tb : ∀ w ∈ wsL_law_r5, w ∈ lw_tbl := by decide +kernel
set_option maxRecDepth 20000 in
theorem wsL_law_r6_tb : ∀ w ∈ wsL_law_r6, w ∈ lw_tbl := by decide +kernel
set_option maxRecDepth 20000 in
theorem wsL_law_r7_tb : ∀ w ∈ wsL_law_r7, w ∈ lw_tbl := by decide +kernel
set_option maxRecDepth 20000 in
theorem wsL_law_r8_tb : ∀ w ∈ wsL_law_r8, w ∈ lw_tbl := by decide +kernel
