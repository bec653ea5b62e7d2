theorem wsL_law_x1 : ∀ w ∈ nsW, w ∈ lw_tbl := by decide +kernel
