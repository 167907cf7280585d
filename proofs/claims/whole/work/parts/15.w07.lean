/-! ===== the walk's words are the tables', 7 ===== -/
set_option maxRecDepth 100000 in
theorem hs_r37 : ∀ w ∈ wsL_law_r37, w ∈ lw_tbl := by decide +kernel
set_option maxRecDepth 100000 in
theorem hs_r38 : ∀ w ∈ wsL_law_r38, w ∈ lw_tbl := by decide +kernel
set_option maxRecDepth 100000 in
theorem hs_r39 : ∀ w ∈ wsL_law_r39, w ∈ lw_tbl := by decide +kernel
set_option maxRecDepth 100000 in
theorem hs_r40 : ∀ w ∈ wsL_law_r40, w ∈ lw_tbl := by decide +kernel
set_option maxRecDepth 100000 in
theorem hs_r41 : ∀ w ∈ wsL_law_r41, w ∈ lw_tbl := by decide +kernel
set_option maxRecDepth 100000 in
theorem hs_r42 : ∀ w ∈ wsL_law_r42, w ∈ lw_tbl := by decide +kernel
