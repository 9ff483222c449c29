set_option maxRecDepth 20000 in
theorem inL_wsX110 : ∀ w ∈ wsX110, w ∈ lw_tbl := by decide +kernel
set_option maxRecDepth 20000 in
theorem inL_wsX120 : ∀ w ∈ wsX120, w ∈ lw_tbl := by decide +kernel
set_option maxRecDepth 20000 in
theorem inL_wsX00 : ∀ w ∈ wsX00, w ∈ lw_tbl := by decide +kernel
set_option maxRecDepth 20000 in
theorem inL_wsX20 : ∀ w ∈ wsX20, w ∈ lw_tbl := by decide +kernel
set_option maxRecDepth 20000 in
theorem inL_wsX100 : ∀ w ∈ wsX100, w ∈ lw_tbl := by decide +kernel
set_option maxRecDepth 20000 in
theorem inL_wsX40 : ∀ w ∈ wsX40, w ∈ lw_tbl := by decide +kernel
set_option maxRecDepth 20000 in
theorem inL_wsX80 : ∀ w ∈ wsX80, w ∈ lw_tbl := by decide +kernel
set_option maxRecDepth 20000 in
theorem inL_wsX90 : ∀ w ∈ wsX90, w ∈ lw_tbl := by decide +kernel
set_option maxRecDepth 20000 in
theorem inL_wsX50 : ∀ w ∈ wsX50, w ∈ lw_tbl := by decide +kernel
set_option maxRecDepth 20000 in
theorem inL_wsX60 : ∀ w ∈ wsX60, w ∈ lw_tbl := by decide +kernel
set_option maxRecDepth 20000 in
theorem inL_wsX30 : ∀ w ∈ wsX30, w ∈ lw_tbl := by decide +kernel
set_option maxRecDepth 20000 in
theorem inL_wsX10 : ∀ w ∈ wsX10, w ∈ lw_tbl := by decide +kernel
set_option maxRecDepth 20000 in
theorem inL_wsX70 : ∀ w ∈ wsX70, w ∈ lw_tbl := by decide +kernel
theorem ia {a b t : List Cond} (ha : ∀ w ∈ a, w ∈ t) (hb : ∀ w ∈ b, w ∈ t) : ∀ w ∈ a ++ b, w ∈ t := fun w h => (List.mem_append.mp h).elim (ha w) (hb w)
theorem wsL_law_in : ∀ w ∈ wsL_law, w ∈ lw_tbl := ia (ia (ia (ia (ia (ia (ia (ia (ia (ia (ia (ia (ia (ia ((ia inL_r1 (ia inL_r2 (ia inL_r3 (ia inL_r4 (ia inL_r5 (ia inL_r6 (ia inL_r7 (ia inL_r8 (ia inL_r9 (ia inL_r10 (ia inL_r11 (ia inL_r12 (ia inL_r13 (ia inL_r14 (ia inL_r15 (ia inL_r16 (ia inL_r17 (ia inL_r18 (ia inL_r19 (ia inL_r20 (ia inL_r21 (ia inL_r22 (ia inL_r23 (ia inL_r24 (ia inL_r25 (ia inL_r26 (ia inL_r27 (ia inL_r28 (ia inL_r29 (ia inL_r30 (ia inL_r31 (ia inL_r32 (ia inL_r33 (ia inL_r34 (ia inL_r35 (ia inL_r36 (ia inL_r37 (ia inL_r38 (ia inL_r39 (ia inL_r40 (ia inL_r41 (inL_r42))))))))))))))))))))))))))))))))))))))))))) inL_wsX110) inL_wsX120) inL_wsX00) inL_wsX20) inL_wsX100) inL_wsX40) inL_wsX80) inL_wsX90) inL_wsX50) inL_wsX60) inL_wsX30) inL_wsX10) inL_wsX70) (fun _ h => absurd h List.not_mem_nil)
