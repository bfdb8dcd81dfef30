set_option maxRecDepth 20000 in
theorem wsL_law_r1_in : GoodIn lw_tbl wsL_law_r1 := goodIn_p _ [35, 38] rfl (by decide +kernel)
set_option maxRecDepth 20000 in
theorem wsL_law_r2_in : GoodIn lw_tbl wsL_law_r2 := goodIn_p _ [43, 73, 89] rfl (by decide +kernel)
set_option maxRecDepth 20000 in
theorem wsL_law_r3_in : GoodIn lw_tbl wsL_law_r3 := goodIn_p _ [309] rfl (by decide +kernel)
set_option maxRecDepth 20000 in
theorem wsL_law_r4_in : GoodIn lw_tbl wsL_law_r4 := goodIn_p _ [140, 144, 370, 148, 152, 374] rfl (by decide +kernel)
set_option maxRecDepth 20000 in
theorem wsL_law_r5_in : GoodIn lw_tbl wsL_law_r5 := goodIn_p _ [378, 156, 163, 176] rfl (by decide +kernel)
set_option maxRecDepth 20000 in
theorem wsL_law_r6_in : GoodIn lw_tbl wsL_law_r6 := goodIn_p _ [167, 171, 180, 184, 188, 382] rfl (by decide +kernel)
set_option maxRecDepth 20000 in
theorem wsL_law_r7_in : GoodIn lw_tbl wsL_law_r7 := goodIn_p _ [389, 192, 196, 396, 200] rfl (by decide +kernel)
set_option maxRecDepth 20000 in
theorem wsL_law_r8_in : GoodIn lw_tbl wsL_law_r8 := goodIn_p _ [204, 208, 212, 215, 219] rfl (by decide +kernel)
set_option maxRecDepth 20000 in
theorem wsL_law_r9_in : GoodIn lw_tbl wsL_law_r9 := goodIn_p _ [222, 226, 231, 235, 239, 243] rfl (by decide +kernel)
set_option maxRecDepth 20000 in
theorem wsL_law_r10_in : GoodIn lw_tbl wsL_law_r10 := goodIn_p _ [248, 252, 256, 260, 264, 268] rfl (by decide +kernel)
set_option maxRecDepth 20000 in
theorem wsL_law_r11_in : GoodIn lw_tbl wsL_law_r11 := goodIn_p _ [272, 277, 281, 285, 400] rfl (by decide +kernel)
set_option maxRecDepth 20000 in
theorem wsL_law_r12_in : GoodIn lw_tbl wsL_law_r12 := goodIn_p _ [404, 408, 412, 416, 420, 424] rfl (by decide +kernel)
set_option maxRecDepth 20000 in
theorem wsL_law_r13_in : GoodIn lw_tbl wsL_law_r13 := goodIn_p _ [290, 294, 428, 299, 432, 303] rfl (by decide +kernel)
set_option maxRecDepth 20000 in
theorem wsL_law_r14_in : GoodIn lw_tbl wsL_law_r14 := goodIn_p _ [436] rfl (by decide +kernel)
set_option maxRecDepth 20000 in
theorem wsX30_lin : GoodIn lw_tbl wsX30 := goodIn_p _ [] rfl (by decide +kernel)
set_option maxRecDepth 20000 in
theorem wsX40_lin : GoodIn lw_tbl wsX40 := goodIn_p _ [] rfl (by decide +kernel)
set_option maxRecDepth 20000 in
theorem wsX20_lin : GoodIn lw_tbl wsX20 := goodIn_p _ [] rfl (by decide +kernel)
set_option maxRecDepth 20000 in
theorem wsX00_lin : GoodIn lw_tbl wsX00 := goodIn_p _ [] rfl (by decide +kernel)
set_option maxRecDepth 20000 in
theorem wsX10_lin : GoodIn lw_tbl wsX10 := goodIn_p _ [] rfl (by decide +kernel)
theorem wsL_law_good : GoodIn lw_tbl wsL_law := goodIn_app (goodIn_app (goodIn_app (goodIn_app (goodIn_app (goodIn_app (goodIn_app wsL_law_r1_in (goodIn_app wsL_law_r2_in (goodIn_app wsL_law_r3_in (goodIn_app wsL_law_r4_in (goodIn_app wsL_law_r5_in (goodIn_app wsL_law_r6_in (goodIn_app wsL_law_r7_in (goodIn_app wsL_law_r8_in (goodIn_app wsL_law_r9_in (goodIn_app wsL_law_r10_in (goodIn_app wsL_law_r11_in (goodIn_app wsL_law_r12_in (goodIn_app wsL_law_r13_in (wsL_law_r14_in)))))))))))))) wsX30_lin) wsX40_lin) wsX20_lin) wsX00_lin) wsX10_lin) (fun w h => absurd h List.not_mem_nil)
theorem wsL_law_in : ∀ w ∈ wsL_law, w ∈ lw_tbl := fun w h => (wsL_law_good w h).1
theorem inlX0 : ∀ w ∈ wsX00, w ∈ wsL_law := fun _ h => List.mem_append_left _ (List.mem_append_left _ (List.mem_append_right _ h))
theorem inX0 : ∀ w ∈ wsX00, w ∈ lw_tbl := fun w h => wsL_law_in w (inlX0 w h)
theorem inlX1 : ∀ w ∈ wsX10, w ∈ wsL_law := fun _ h => List.mem_append_left _ (List.mem_append_right _ h)
theorem inX1 : ∀ w ∈ wsX10, w ∈ lw_tbl := fun w h => wsL_law_in w (inlX1 w h)
theorem inlX2 : ∀ w ∈ wsX20, w ∈ wsL_law := fun _ h => List.mem_append_left _ (List.mem_append_left _ (List.mem_append_left _ (List.mem_append_right _ h)))
theorem inX2 : ∀ w ∈ wsX20, w ∈ lw_tbl := fun w h => wsL_law_in w (inlX2 w h)
theorem inlX3 : ∀ w ∈ wsX30, w ∈ wsL_law := fun _ h => List.mem_append_left _ (List.mem_append_left _ (List.mem_append_left _ (List.mem_append_left _ (List.mem_append_left _ (List.mem_append_right _ h)))))
theorem inX3 : ∀ w ∈ wsX30, w ∈ lw_tbl := fun w h => wsL_law_in w (inlX3 w h)
theorem inlX4 : ∀ w ∈ wsX40, w ∈ wsL_law := fun _ h => List.mem_append_left _ (List.mem_append_left _ (List.mem_append_left _ (List.mem_append_left _ (List.mem_append_right _ h))))
theorem inX4 : ∀ w ∈ wsX40, w ∈ lw_tbl := fun w h => wsL_law_in w (inlX4 w h)
theorem inJ9 : ∀ w ∈ wsJ90, w ∈ lw_tbl := by decide +kernel
theorem inJ7 : ∀ w ∈ wsJ70, w ∈ lw_tbl := by decide +kernel
