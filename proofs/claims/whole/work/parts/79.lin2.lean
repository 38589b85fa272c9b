set_option maxRecDepth 100000 in
theorem wsL_in_r20 : ∀ w ∈ wsL_law0_r20, w ∈ lw_tbl := by decide +kernel
set_option maxRecDepth 100000 in
theorem wsL_in_r21 : ∀ w ∈ wsL_law0_r21, w ∈ lw_tbl := by decide +kernel
set_option maxRecDepth 100000 in
theorem wsL_in_r22 : ∀ w ∈ wsL_law0_r22, w ∈ lw_tbl := by decide +kernel
set_option maxRecDepth 100000 in
theorem wsL_in_r23 : ∀ w ∈ wsL_law0_r23, w ∈ lw_tbl := by decide +kernel
set_option maxRecDepth 100000 in
theorem wsL_in_r24 : ∀ w ∈ wsL_law0_r24, w ∈ lw_tbl := by decide +kernel
set_option maxRecDepth 100000 in
theorem wsL_in_r25 : ∀ w ∈ wsL_law0_r25, w ∈ lw_tbl := by decide +kernel
set_option maxRecDepth 100000 in
theorem wsL_in_r26 : ∀ w ∈ wsL_law0_r26, w ∈ lw_tbl := by decide +kernel
set_option maxRecDepth 100000 in
theorem wsL_in_r27 : ∀ w ∈ wsL_law0_r27, w ∈ lw_tbl := by decide +kernel
set_option maxRecDepth 100000 in
theorem wsL_in_r28 : ∀ w ∈ wsL_law0_r28, w ∈ lw_tbl := by decide +kernel
set_option maxRecDepth 100000 in
theorem wsL_in_r29 : ∀ w ∈ wsL_law0_r29, w ∈ lw_tbl := by decide +kernel
set_option maxRecDepth 100000 in
theorem wsL_in_r30 : ∀ w ∈ wsL_law0_r30, w ∈ lw_tbl := by decide +kernel
set_option maxRecDepth 100000 in
theorem wsL_in_r31 : ∀ w ∈ wsL_law0_r31, w ∈ lw_tbl := by decide +kernel
set_option maxRecDepth 100000 in
theorem wsL_in_r32 : ∀ w ∈ wsL_law0_r32, w ∈ lw_tbl := by decide +kernel
set_option maxRecDepth 100000 in
theorem wsL_in_r33 : ∀ w ∈ wsL_law0_r33, w ∈ lw_tbl := by decide +kernel
set_option maxRecDepth 100000 in
theorem wsL_in_r34 : ∀ w ∈ wsL_law0_r34, w ∈ lw_tbl := by decide +kernel
set_option maxRecDepth 100000 in
theorem wsL_in_r35 : ∀ w ∈ wsL_law0_r35, w ∈ lw_tbl := by decide +kernel
set_option maxRecDepth 100000 in
theorem wsL_in_r36 : ∀ w ∈ wsL_law0_r36, w ∈ lw_tbl := by decide +kernel
set_option maxRecDepth 100000 in
theorem wsL_in_r37 : ∀ w ∈ wsL_law0_r37, w ∈ lw_tbl := by decide +kernel
set_option maxRecDepth 100000 in
theorem wsL_in_r38 : ∀ w ∈ wsL_law0_r38, w ∈ lw_tbl := by decide +kernel
