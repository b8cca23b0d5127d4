set_option maxRecDepth 100000 in
theorem wsL_in_r1 : ∀ w ∈ wsL_law_r1, w ∈ lw_tbl := by decide +kernel
set_option maxRecDepth 100000 in
theorem wsL_in_r2 : ∀ w ∈ wsL_law_r2, w ∈ lw_tbl := by decide +kernel
set_option maxRecDepth 100000 in
theorem wsL_in_r3 : ∀ w ∈ wsL_law_r3, w ∈ lw_tbl := by decide +kernel
set_option maxRecDepth 100000 in
theorem wsL_in_r4 : ∀ w ∈ wsL_law_r4, w ∈ lw_tbl := by decide +kernel
set_option maxRecDepth 100000 in
theorem wsL_in_r5 : ∀ w ∈ wsL_law_r5, w ∈ lw_tbl := by decide +kernel
set_option maxRecDepth 100000 in
theorem wsL_in_r6 : ∀ w ∈ wsL_law_r6, w ∈ lw_tbl := by decide +kernel
set_option maxRecDepth 100000 in
theorem wsL_in_r7 : ∀ w ∈ wsL_law_r7, w ∈ lw_tbl := by decide +kernel
set_option maxRecDepth 100000 in
theorem wsL_in_r8 : ∀ w ∈ wsL_law_r8, w ∈ lw_tbl := by decide +kernel
