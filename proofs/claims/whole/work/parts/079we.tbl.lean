set_option maxRecDepth 20000 in
theorem wsL_law_r17_tb : ∀ w ∈ wsL_law_r17, w ∈ lw_tbl := by decide +kernel
set_option maxRecDepth 20000 in
theorem wsL_law_r18_tb : ∀ w ∈ wsL_law_r18, w ∈ lw_tbl := by decide +kernel
set_option maxRecDepth 20000 in
theorem wsL_law_r19_tb : ∀ w ∈ wsL_law_r19, w ∈ lw_tbl := by decide +kernel
set_option maxRecDepth 20000 in
theorem wsL_law_r20_tb : ∀ w ∈ wsL_law_r20, w ∈ lw_tbl := by decide +kernel
