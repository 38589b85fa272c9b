set_option maxRecDepth 100000 in
theorem wsL_in_r1 : ∀ w ∈ wsL_law0_r1, w ∈ lw_tbl := by decide +kernel
set_option maxRecDepth 100000 in
theorem wsL_in_r2 : ∀ w ∈ wsL_law0_r2, w ∈ lw_tbl := by decide +kernel
set_option maxRecDepth 100000 in
theorem wsL_in_r3 : ∀ w ∈ wsL_law0_r3, w ∈ lw_tbl := by decide +kernel
set_option maxRecDepth 100000 in
theorem wsL_in_r4 : ∀ w ∈ wsL_law0_r4, w ∈ lw_tbl := by decide +kernel
set_option maxRecDepth 100000 in
theorem wsL_in_r5 : ∀ w ∈ wsL_law0_r5, w ∈ lw_tbl := by decide +kernel
set_option maxRecDepth 100000 in
theorem wsL_in_r6 : ∀ w ∈ wsL_law0_r6, w ∈ lw_tbl := by decide +kernel
set_option maxRecDepth 100000 in
theorem wsL_in_r7 : ∀ w ∈ wsL_law0_r7, w ∈ lw_tbl := by decide +kernel
set_option maxRecDepth 100000 in
theorem wsL_in_r8 : ∀ w ∈ wsL_law0_r8, w ∈ lw_tbl := by decide +kernel
set_option maxRecDepth 100000 in
theorem wsL_in_r9 : ∀ w ∈ wsL_law0_r9, w ∈ lw_tbl := by decide +kernel
set_option maxRecDepth 100000 in
theorem wsL_in_r10 : ∀ w ∈ wsL_law0_r10, w ∈ lw_tbl := by decide +kernel
set_option maxRecDepth 100000 in
theorem wsL_in_r11 : ∀ w ∈ wsL_law0_r11, w ∈ lw_tbl := by decide +kernel
set_option maxRecDepth 100000 in
theorem wsL_in_r12 : ∀ w ∈ wsL_law0_r12, w ∈ lw_tbl := by decide +kernel
set_option maxRecDepth 100000 in
theorem wsL_in_r13 : ∀ w ∈ wsL_law0_r13, w ∈ lw_tbl := by decide +kernel
set_option maxRecDepth 100000 in
theorem wsL_in_r14 : ∀ w ∈ wsL_law0_r14, w ∈ lw_tbl := by decide +kernel
set_option maxRecDepth 100000 in
theorem wsL_in_r15 : ∀ w ∈ wsL_law0_r15, w ∈ lw_tbl := by decide +kernel
set_option maxRecDepth 100000 in
theorem wsL_in_r16 : ∀ w ∈ wsL_law0_r16, w ∈ lw_tbl := by decide +kernel
set_option maxRecDepth 100000 in
theorem wsL_in_r17 : ∀ w ∈ wsL_law0_r17, w ∈ lw_tbl := by decide +kernel
set_option maxRecDepth 100000 in
theorem wsL_in_r18 : ∀ w ∈ wsL_law0_r18, w ∈ lw_tbl := by decide +kernel
set_option maxRecDepth 100000 in
theorem wsL_in_r19 : ∀ w ∈ wsL_law0_r19, w ∈ lw_tbl := by decide +kernel
