set_option maxRecDepth 20000 in
theorem wsL_law_r9_tb : ∀ w ∈ wsL_law_r9, w ∈ lw_tbl := by decide +kernel
set_option maxRecDepth 20000 in
theorem wsL_law_r10_tb : ∀ w ∈ wsL_law_r10, w ∈ lw_tbl := by decide +kernel
set_option maxRecDepth 20000 in
theorem wsL_law_r11_tb : ∀ w ∈ wsL_law_r11, w ∈ lw_tbl := by decide +kernel
set_option maxRecDepth 20000 in
theorem wsL_law_r12_tb : ∀ w ∈ wsL_law_r12, w ∈ lw_tbl := by decide +kernel
