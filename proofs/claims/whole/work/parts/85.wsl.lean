theorem ap_tbl {a b : List Cond} (ha : ∀ w ∈ a, w ∈ lw_tbl) (hb : ∀ w ∈ b, w ∈ lw_tbl) : ∀ w ∈ a ++ b, w ∈ lw_tbl := fun w h => (List.mem_append.mp h).elim (ha w) (hb w)
theorem wsL_inX0 : ∀ w ∈ wsX00, w ∈ lw_tbl := by decide +kernel
theorem wsL_inX1 : ∀ w ∈ wsX10, w ∈ lw_tbl := by decide +kernel
theorem wsL_inX2 : ∀ w ∈ wsX20, w ∈ lw_tbl := by decide +kernel
theorem wsL_inX3 : ∀ w ∈ wsX30, w ∈ lw_tbl := by decide +kernel
theorem wsL_inX4 : ∀ w ∈ wsX40, w ∈ lw_tbl := by decide +kernel
theorem wsL_inX5 : ∀ w ∈ wsX50, w ∈ lw_tbl := by decide +kernel
theorem wsL_inX6 : ∀ w ∈ wsX60, w ∈ lw_tbl := by decide +kernel
theorem wsL_inX7 : ∀ w ∈ wsX70, w ∈ lw_tbl := by decide +kernel
theorem wsL_inX8 : ∀ w ∈ wsX80, w ∈ lw_tbl := by decide +kernel
theorem wsL_inX9 : ∀ w ∈ wsX90, w ∈ lw_tbl := by decide +kernel
set_option maxRecDepth 100000 in
theorem wsL_law0_in : ∀ w ∈ wsL_law0, w ∈ lw_tbl := by
  unfold wsL_law0
  exact (ap_tbl (ap_tbl (ap_tbl (ap_tbl (ap_tbl (ap_tbl (ap_tbl (ap_tbl (ap_tbl (ap_tbl (ap_tbl (ap_tbl wsL_in_r1 (ap_tbl wsL_in_r2 (ap_tbl wsL_in_r3 (ap_tbl wsL_in_r4 (ap_tbl wsL_in_r5 (ap_tbl wsL_in_r6 (ap_tbl wsL_in_r7 (ap_tbl wsL_in_r8 (ap_tbl wsL_in_r9 (ap_tbl wsL_in_r10 (ap_tbl wsL_in_r11 (ap_tbl wsL_in_r12 (ap_tbl wsL_in_r13 (ap_tbl wsL_in_r14 (ap_tbl wsL_in_r15 (ap_tbl wsL_in_r16 (ap_tbl wsL_in_r17 (ap_tbl wsL_in_r18 (ap_tbl wsL_in_r19 (ap_tbl wsL_in_r20 (ap_tbl wsL_in_r21 (ap_tbl wsL_in_r22 (ap_tbl wsL_in_r23 (ap_tbl wsL_in_r24 (ap_tbl wsL_in_r25 (ap_tbl wsL_in_r26 (ap_tbl wsL_in_r27 (ap_tbl wsL_in_r28 (ap_tbl wsL_in_r29 (ap_tbl wsL_in_r30 (ap_tbl wsL_in_r31 (ap_tbl wsL_in_r32 (ap_tbl wsL_in_r33 (ap_tbl wsL_in_r34 (ap_tbl wsL_in_r35 (ap_tbl wsL_in_r36 (ap_tbl wsL_in_r37 wsL_in_r38))))))))))))))))))))))))))))))))))))) wsL_inX8) wsL_inX9) wsL_inX5) wsL_inX6) wsL_inX2) wsL_inX3) wsL_inX1) wsL_inX7) wsL_inX0) wsL_inX4) (fun _ h => nomatch h))
