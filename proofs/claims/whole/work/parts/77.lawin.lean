/-! THE LAW: its words stand in the tables, all -/
set_option maxRecDepth 20000 in
theorem in_wsX90 : ∀ w ∈ wsX90, w ∈ lw_tbl := fun w h => (goodIn_p wsX90 [] (by decide +kernel) (by decide +kernel) w h).1
set_option maxRecDepth 20000 in
theorem in_wsX100 : ∀ w ∈ wsX100, w ∈ lw_tbl := fun w h => (goodIn_p wsX100 [] (by decide +kernel) (by decide +kernel) w h).1
set_option maxRecDepth 20000 in
theorem in_wsX20 : ∀ w ∈ wsX20, w ∈ lw_tbl := fun w h => (goodIn_p wsX20 [] (by decide +kernel) (by decide +kernel) w h).1
set_option maxRecDepth 20000 in
theorem in_wsX70 : ∀ w ∈ wsX70, w ∈ lw_tbl := fun w h => (goodIn_p wsX70 [] (by decide +kernel) (by decide +kernel) w h).1
set_option maxRecDepth 20000 in
theorem in_wsX30 : ∀ w ∈ wsX30, w ∈ lw_tbl := fun w h => (goodIn_p wsX30 [] (by decide +kernel) (by decide +kernel) w h).1
set_option maxRecDepth 20000 in
theorem in_wsX50 : ∀ w ∈ wsX50, w ∈ lw_tbl := fun w h => (goodIn_p wsX50 [] (by decide +kernel) (by decide +kernel) w h).1
set_option maxRecDepth 20000 in
theorem in_wsX40 : ∀ w ∈ wsX40, w ∈ lw_tbl := fun w h => (goodIn_p wsX40 [] (by decide +kernel) (by decide +kernel) w h).1
set_option maxRecDepth 20000 in
theorem in_wsX80 : ∀ w ∈ wsX80, w ∈ lw_tbl := fun w h => (goodIn_p wsX80 [] (by decide +kernel) (by decide +kernel) w h).1
set_option maxRecDepth 20000 in
theorem in_wsX10 : ∀ w ∈ wsX10, w ∈ lw_tbl := fun w h => (goodIn_p wsX10 [] (by decide +kernel) (by decide +kernel) w h).1
set_option maxRecDepth 20000 in
theorem in_wsX60 : ∀ w ∈ wsX60, w ∈ lw_tbl := fun w h => (goodIn_p wsX60 [] (by decide +kernel) (by decide +kernel) w h).1
theorem wsL_law_in : ∀ w ∈ wsL_law, w ∈ lw_tbl := fun w h => (List.mem_append.mp h).elim (fun h => (List.mem_append.mp h).elim (fun h => (List.mem_append.mp h).elim (fun h => (List.mem_append.mp h).elim (fun h => (List.mem_append.mp h).elim (fun h => (List.mem_append.mp h).elim (fun h => (List.mem_append.mp h).elim (fun h => (List.mem_append.mp h).elim (fun h => (List.mem_append.mp h).elim (fun h => (List.mem_append.mp h).elim (fun h => (List.mem_append.mp h).elim (fun h => (List.mem_append.mp h).elim (fun h => in_wsL_law_r1 w h) (fun h => (List.mem_append.mp h).elim (fun h => in_wsL_law_r2 w h) (fun h => (List.mem_append.mp h).elim (fun h => in_wsL_law_r3 w h) (fun h => (List.mem_append.mp h).elim (fun h => in_wsL_law_r4 w h) (fun h => (List.mem_append.mp h).elim (fun h => in_wsL_law_r5 w h) (fun h => (List.mem_append.mp h).elim (fun h => in_wsL_law_r6 w h) (fun h => (List.mem_append.mp h).elim (fun h => in_wsL_law_r7 w h) (fun h => (List.mem_append.mp h).elim (fun h => in_wsL_law_r8 w h) (fun h => (List.mem_append.mp h).elim (fun h => in_wsL_law_r9 w h) (fun h => (List.mem_append.mp h).elim (fun h => in_wsL_law_r10 w h) (fun h => (List.mem_append.mp h).elim (fun h => in_wsL_law_r11 w h) (fun h => (List.mem_append.mp h).elim (fun h => in_wsL_law_r12 w h) (fun h => (List.mem_append.mp h).elim (fun h => in_wsL_law_r13 w h) (fun h => (List.mem_append.mp h).elim (fun h => in_wsL_law_r14 w h) (fun h => (List.mem_append.mp h).elim (fun h => in_wsL_law_r15 w h) (fun h => (List.mem_append.mp h).elim (fun h => in_wsL_law_r16 w h) (fun h => (List.mem_append.mp h).elim (fun h => in_wsL_law_r17 w h) (fun h => (List.mem_append.mp h).elim (fun h => in_wsL_law_r18 w h) (fun h => (List.mem_append.mp h).elim (fun h => in_wsL_law_r19 w h) (fun h => (List.mem_append.mp h).elim (fun h => in_wsL_law_r20 w h) (fun h => (List.mem_append.mp h).elim (fun h => in_wsL_law_r21 w h) (fun h => (List.mem_append.mp h).elim (fun h => in_wsL_law_r22 w h) (fun h => (List.mem_append.mp h).elim (fun h => in_wsL_law_r23 w h) (fun h => (List.mem_append.mp h).elim (fun h => in_wsL_law_r24 w h) (fun h => (List.mem_append.mp h).elim (fun h => in_wsL_law_r25 w h) (fun h => (List.mem_append.mp h).elim (fun h => in_wsL_law_r26 w h) (fun h => (List.mem_append.mp h).elim (fun h => in_wsL_law_r27 w h) (fun h => (List.mem_append.mp h).elim (fun h => in_wsL_law_r28 w h) (fun h => (List.mem_append.mp h).elim (fun h => in_wsL_law_r29 w h) (fun h => (List.mem_append.mp h).elim (fun h => in_wsL_law_r30 w h) (fun h => (List.mem_append.mp h).elim (fun h => in_wsL_law_r31 w h) (fun h => (List.mem_append.mp h).elim (fun h => in_wsL_law_r32 w h) (fun h => (List.mem_append.mp h).elim (fun h => in_wsL_law_r33 w h) (fun h => in_wsL_law_r34 w h)))))))))))))))))))))))))))))))))) (fun h => in_wsX90 w h)) (fun h => in_wsX100 w h)) (fun h => in_wsX20 w h)) (fun h => in_wsX70 w h)) (fun h => in_wsX30 w h)) (fun h => in_wsX50 w h)) (fun h => in_wsX40 w h)) (fun h => in_wsX80 w h)) (fun h => in_wsX10 w h)) (fun h => in_wsX60 w h)) (fun h => absurd h List.not_mem_nil)
theorem inX0 : ∀ w ∈ wsX00, w ∈ lw_tbl := by decide +kernel
theorem inlX1 : ∀ w ∈ wsX10, w ∈ wsL_law := fun _ h => List.mem_append_left _ (List.mem_append_left _ (List.mem_append_right _ h))
theorem inX1 : ∀ w ∈ wsX10, w ∈ lw_tbl := fun w h => wsL_law_in w (inlX1 w h)
theorem inlX2 : ∀ w ∈ wsX20, w ∈ wsL_law := fun _ h => List.mem_append_left _ (List.mem_append_left _ (List.mem_append_left _ (List.mem_append_left _ (List.mem_append_left _ (List.mem_append_left _ (List.mem_append_left _ (List.mem_append_left _ (List.mem_append_right _ h))))))))
theorem inX2 : ∀ w ∈ wsX20, w ∈ lw_tbl := fun w h => wsL_law_in w (inlX2 w h)
theorem inlX3 : ∀ w ∈ wsX30, w ∈ wsL_law := fun _ h => List.mem_append_left _ (List.mem_append_left _ (List.mem_append_left _ (List.mem_append_left _ (List.mem_append_left _ (List.mem_append_left _ (List.mem_append_right _ h))))))
theorem inX3 : ∀ w ∈ wsX30, w ∈ lw_tbl := fun w h => wsL_law_in w (inlX3 w h)
theorem inlX4 : ∀ w ∈ wsX40, w ∈ wsL_law := fun _ h => List.mem_append_left _ (List.mem_append_left _ (List.mem_append_left _ (List.mem_append_left _ (List.mem_append_right _ h))))
theorem inX4 : ∀ w ∈ wsX40, w ∈ lw_tbl := fun w h => wsL_law_in w (inlX4 w h)
theorem inlX5 : ∀ w ∈ wsX50, w ∈ wsL_law := fun _ h => List.mem_append_left _ (List.mem_append_left _ (List.mem_append_left _ (List.mem_append_left _ (List.mem_append_left _ (List.mem_append_right _ h)))))
theorem inX5 : ∀ w ∈ wsX50, w ∈ lw_tbl := fun w h => wsL_law_in w (inlX5 w h)
theorem inlX6 : ∀ w ∈ wsX60, w ∈ wsL_law := fun _ h => List.mem_append_left _ (List.mem_append_right _ h)
theorem inX6 : ∀ w ∈ wsX60, w ∈ lw_tbl := fun w h => wsL_law_in w (inlX6 w h)
theorem inlX7 : ∀ w ∈ wsX70, w ∈ wsL_law := fun _ h => List.mem_append_left _ (List.mem_append_left _ (List.mem_append_left _ (List.mem_append_left _ (List.mem_append_left _ (List.mem_append_left _ (List.mem_append_left _ (List.mem_append_right _ h)))))))
theorem inX7 : ∀ w ∈ wsX70, w ∈ lw_tbl := fun w h => wsL_law_in w (inlX7 w h)
theorem inlX8 : ∀ w ∈ wsX80, w ∈ wsL_law := fun _ h => List.mem_append_left _ (List.mem_append_left _ (List.mem_append_left _ (List.mem_append_right _ h)))
theorem inX8 : ∀ w ∈ wsX80, w ∈ lw_tbl := fun w h => wsL_law_in w (inlX8 w h)
theorem inlX9 : ∀ w ∈ wsX90, w ∈ wsL_law := fun _ h => List.mem_append_left _ (List.mem_append_left _ (List.mem_append_left _ (List.mem_append_left _ (List.mem_append_left _ (List.mem_append_left _ (List.mem_append_left _ (List.mem_append_left _ (List.mem_append_left _ (List.mem_append_left _ (List.mem_append_right _ h))))))))))
theorem inX9 : ∀ w ∈ wsX90, w ∈ lw_tbl := fun w h => wsL_law_in w (inlX9 w h)
theorem inlX10 : ∀ w ∈ wsX100, w ∈ wsL_law := fun _ h => List.mem_append_left _ (List.mem_append_left _ (List.mem_append_left _ (List.mem_append_left _ (List.mem_append_left _ (List.mem_append_left _ (List.mem_append_left _ (List.mem_append_left _ (List.mem_append_left _ (List.mem_append_right _ h)))))))))
theorem inX10 : ∀ w ∈ wsX100, w ∈ lw_tbl := fun w h => wsL_law_in w (inlX10 w h)
theorem inJ6 : ∀ w ∈ wsJ60, w ∈ lw_tbl := by decide +kernel
