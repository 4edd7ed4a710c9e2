set_option maxRecDepth 20000 in
theorem wsL_in_r19 : ∀ w ∈ wsL_law0_r19, w ∈ lw_tbl := fun w h => (goodIn_p wsL_law0_r19 [618, 622, 627, 631, 636, 639, 642] rfl (by decide +kernel) w h).1
set_option maxRecDepth 20000 in
theorem wsL_in_r20 : ∀ w ∈ wsL_law0_r20, w ∈ lw_tbl := fun w h => (goodIn_p wsL_law0_r20 [645, 648, 651, 660, 872, 876, 880] rfl (by decide +kernel) w h).1
set_option maxRecDepth 20000 in
theorem wsL_in_r21 : ∀ w ∈ wsL_law0_r21, w ∈ lw_tbl := fun w h => (goodIn_p wsL_law0_r21 [885, 699, 889, 664] rfl (by decide +kernel) w h).1
set_option maxRecDepth 20000 in
theorem wsL_in_r22 : ∀ w ∈ wsL_law0_r22, w ∈ lw_tbl := fun w h => (goodIn_p wsL_law0_r22 [670, 893, 897, 674, 679, 683] rfl (by decide +kernel) w h).1
set_option maxRecDepth 20000 in
theorem wsL_in_r23 : ∀ w ∈ wsL_law0_r23, w ∈ lw_tbl := fun w h => (goodIn_p wsL_law0_r23 [901, 687, 905, 691, 909] rfl (by decide +kernel) w h).1
set_option maxRecDepth 20000 in
theorem in_wsX80 : ∀ w ∈ wsX80, w ∈ lw_tbl := by decide +kernel
set_option maxRecDepth 20000 in
theorem in_wsX90 : ∀ w ∈ wsX90, w ∈ lw_tbl := by decide +kernel
set_option maxRecDepth 20000 in
theorem in_wsX50 : ∀ w ∈ wsX50, w ∈ lw_tbl := by decide +kernel
set_option maxRecDepth 20000 in
theorem in_wsX20 : ∀ w ∈ wsX20, w ∈ lw_tbl := by decide +kernel
set_option maxRecDepth 20000 in
theorem in_wsX70 : ∀ w ∈ wsX70, w ∈ lw_tbl := by decide +kernel
set_option maxRecDepth 20000 in
theorem in_wsX30 : ∀ w ∈ wsX30, w ∈ lw_tbl := by decide +kernel
set_option maxRecDepth 20000 in
theorem in_wsX40 : ∀ w ∈ wsX40, w ∈ lw_tbl := by decide +kernel
set_option maxRecDepth 20000 in
theorem in_wsX60 : ∀ w ∈ wsX60, w ∈ lw_tbl := by decide +kernel
set_option maxRecDepth 20000 in
theorem in_wsX10 : ∀ w ∈ wsX10, w ∈ lw_tbl := by decide +kernel
set_option maxRecDepth 20000 in
theorem in_wsX00 : ∀ w ∈ wsX00, w ∈ lw_tbl := by decide +kernel
theorem wsL_law_in0 : ∀ w ∈ wsL_law0, w ∈ lw_tbl := fun w h => (List.mem_append.mp h).elim (fun h => (List.mem_append.mp h).elim (fun h => (List.mem_append.mp h).elim (fun h => (List.mem_append.mp h).elim (fun h => (List.mem_append.mp h).elim (fun h => (List.mem_append.mp h).elim (fun h => (List.mem_append.mp h).elim (fun h => (List.mem_append.mp h).elim (fun h => (List.mem_append.mp h).elim (fun h => (List.mem_append.mp h).elim (fun h => (List.mem_append.mp h).elim (fun h => (List.mem_append.mp h).elim (fun h => wsL_in_r1 w h) (fun h => (List.mem_append.mp h).elim (fun h => wsL_in_r2 w h) (fun h => (List.mem_append.mp h).elim (fun h => wsL_in_r3 w h) (fun h => (List.mem_append.mp h).elim (fun h => wsL_in_r4 w h) (fun h => (List.mem_append.mp h).elim (fun h => wsL_in_r5 w h) (fun h => (List.mem_append.mp h).elim (fun h => wsL_in_r6 w h) (fun h => (List.mem_append.mp h).elim (fun h => wsL_in_r7 w h) (fun h => (List.mem_append.mp h).elim (fun h => wsL_in_r8 w h) (fun h => (List.mem_append.mp h).elim (fun h => wsL_in_r9 w h) (fun h => (List.mem_append.mp h).elim (fun h => wsL_in_r10 w h) (fun h => (List.mem_append.mp h).elim (fun h => wsL_in_r11 w h) (fun h => (List.mem_append.mp h).elim (fun h => wsL_in_r12 w h) (fun h => (List.mem_append.mp h).elim (fun h => wsL_in_r13 w h) (fun h => (List.mem_append.mp h).elim (fun h => wsL_in_r14 w h) (fun h => (List.mem_append.mp h).elim (fun h => wsL_in_r15 w h) (fun h => (List.mem_append.mp h).elim (fun h => wsL_in_r16 w h) (fun h => (List.mem_append.mp h).elim (fun h => wsL_in_r17 w h) (fun h => (List.mem_append.mp h).elim (fun h => wsL_in_r18 w h) (fun h => (List.mem_append.mp h).elim (fun h => wsL_in_r19 w h) (fun h => (List.mem_append.mp h).elim (fun h => wsL_in_r20 w h) (fun h => (List.mem_append.mp h).elim (fun h => wsL_in_r21 w h) (fun h => (List.mem_append.mp h).elim (fun h => wsL_in_r22 w h) (fun h => wsL_in_r23 w h))))))))))))))))))))))) (fun h => in_wsX80 w h)) (fun h => in_wsX90 w h)) (fun h => in_wsX50 w h)) (fun h => in_wsX20 w h)) (fun h => in_wsX70 w h)) (fun h => in_wsX30 w h)) (fun h => in_wsX40 w h)) (fun h => in_wsX60 w h)) (fun h => in_wsX10 w h)) (fun h => in_wsX00 w h)) (fun h => absurd h List.not_mem_nil)
