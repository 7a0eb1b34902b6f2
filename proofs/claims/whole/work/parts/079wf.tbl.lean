set_option maxRecDepth 20000 in
theorem wsL_law_r21_tb : ∀ w ∈ wsL_law_r21, w ∈ lw_tbl := by decide +kernel
set_option maxRecDepth 20000 in
theorem wsL_law_r22_tb : ∀ w ∈ wsL_law_r22, w ∈ lw_tbl := by decide +kernel
set_option maxRecDepth 20000 in
theorem wsL_law_r23_tb : ∀ w ∈ wsL_law_r23, w ∈ lw_tbl := by decide +kernel
set_option maxRecDepth 20000 in
theorem wsL_law_r24_tb : ∀ w ∈ wsL_law_r24, w ∈ lw_tbl := by decide +kernel
