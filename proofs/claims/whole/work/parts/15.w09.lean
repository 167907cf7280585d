/-! ===== the walk's words are the tables', 9 ===== -/
set_option maxRecDepth 100000 in
theorem hs_r49 : ∀ w ∈ wsL_law_r49, w ∈ lw_tbl := by decide +kernel
set_option maxRecDepth 100000 in
theorem hs_r50 : ∀ w ∈ wsL_law_r50, w ∈ lw_tbl := by decide +kernel
set_option maxRecDepth 100000 in
theorem hs_r51 : ∀ w ∈ wsL_law_r51, w ∈ lw_tbl := by decide +kernel
set_option maxRecDepth 100000 in
theorem hs_r52 : ∀ w ∈ wsL_law_r52, w ∈ lw_tbl := by decide +kernel
set_option maxRecDepth 100000 in
theorem hs_r53 : ∀ w ∈ wsL_law_r53, w ∈ lw_tbl := by decide +kernel
set_option maxRecDepth 100000 in
theorem hs_r54 : ∀ w ∈ wsL_law_r54, w ∈ lw_tbl := by decide +kernel
