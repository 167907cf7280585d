/-! ===== the walk's words are the tables', 6 ===== -/
set_option maxRecDepth 100000 in
theorem hs_r31 : ∀ w ∈ wsL_law_r31, w ∈ lw_tbl := by decide +kernel
set_option maxRecDepth 100000 in
theorem hs_r32 : ∀ w ∈ wsL_law_r32, w ∈ lw_tbl := by decide +kernel
set_option maxRecDepth 100000 in
theorem hs_r33 : ∀ w ∈ wsL_law_r33, w ∈ lw_tbl := by decide +kernel
set_option maxRecDepth 100000 in
theorem hs_r34 : ∀ w ∈ wsL_law_r34, w ∈ lw_tbl := by decide +kernel
set_option maxRecDepth 100000 in
theorem hs_r35 : ∀ w ∈ wsL_law_r35, w ∈ lw_tbl := by decide +kernel
set_option maxRecDepth 100000 in
theorem hs_r36 : ∀ w ∈ wsL_law_r36, w ∈ lw_tbl := by decide +kernel
