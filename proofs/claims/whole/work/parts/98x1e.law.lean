set_option maxRecDepth 100000 in
theorem wsL_in_r33 : ∀ w ∈ wsL_law_r33, w ∈ lw_tbl := by decide +kernel
set_option maxRecDepth 100000 in
theorem wsL_in_r34 : ∀ w ∈ wsL_law_r34, w ∈ lw_tbl := by decide +kernel
set_option maxRecDepth 100000 in
theorem wsL_in_r35 : ∀ w ∈ wsL_law_r35, w ∈ lw_tbl := by decide +kernel
set_option maxRecDepth 100000 in
theorem wsL_in_r36 : ∀ w ∈ wsL_law_r36, w ∈ lw_tbl := by decide +kernel
set_option maxRecDepth 100000 in
theorem wsL_in_r37 : ∀ w ∈ wsL_law_r37, w ∈ lw_tbl := by decide +kernel
set_option maxRecDepth 100000 in
theorem wsL_in_r38 : ∀ w ∈ wsL_law_r38, w ∈ lw_tbl := by decide +kernel
set_option maxRecDepth 100000 in
theorem wsL_in_r39 : ∀ w ∈ wsL_law_r39, w ∈ lw_tbl := by decide +kernel
set_option maxRecDepth 100000 in
theorem wsL_in_wsX60 : ∀ w ∈ wsX60, w ∈ lw_tbl := by decide +kernel
