set_option maxRecDepth 20000 in
theorem q_wsX80 : ∀ w ∈ wsX80, w ∈ lw_tbl := fun w h => (goodIn_p wsX80 [] (by decide +kernel) (by decide +kernel) w h).1
set_option maxRecDepth 20000 in
theorem q_wsX10 : ∀ w ∈ wsX10, w ∈ lw_tbl := fun w h => (goodIn_p wsX10 [] (by decide +kernel) (by decide +kernel) w h).1
set_option maxRecDepth 20000 in
theorem q_wsX40 : ∀ w ∈ wsX40, w ∈ lw_tbl := fun w h => (goodIn_p wsX40 [] (by decide +kernel) (by decide +kernel) w h).1
set_option maxRecDepth 20000 in
theorem q_wsX30 : ∀ w ∈ wsX30, w ∈ lw_tbl := fun w h => (goodIn_p wsX30 [] (by decide +kernel) (by decide +kernel) w h).1
set_option maxRecDepth 20000 in
theorem q_wsX60 : ∀ w ∈ wsX60, w ∈ lw_tbl := fun w h => (goodIn_p wsX60 [] (by decide +kernel) (by decide +kernel) w h).1
set_option maxRecDepth 20000 in
theorem q_wsX20 : ∀ w ∈ wsX20, w ∈ lw_tbl := fun w h => (goodIn_p wsX20 [] (by decide +kernel) (by decide +kernel) w h).1
set_option maxRecDepth 20000 in
theorem q_wsX50 : ∀ w ∈ wsX50, w ∈ lw_tbl := fun w h => (goodIn_p wsX50 [] (by decide +kernel) (by decide +kernel) w h).1
theorem wsL_law_in0 : ∀ w ∈ wsL_law0, w ∈ lw_tbl := by
  intro w h
  unfold wsL_law0 at h
  rcases List.mem_append.mp h with h | h
  rotate_left
  · exact absurd h List.not_mem_nil
  rcases List.mem_append.mp h with h | h
  rotate_left
  · exact q_wsX50 w h
  rcases List.mem_append.mp h with h | h
  rotate_left
  · exact q_wsX20 w h
  rcases List.mem_append.mp h with h | h
  rotate_left
  · exact q_wsX60 w h
  rcases List.mem_append.mp h with h | h
  rotate_left
  · exact q_wsX30 w h
  rcases List.mem_append.mp h with h | h
  rotate_left
  · exact q_wsX40 w h
  rcases List.mem_append.mp h with h | h
  rotate_left
  · exact q_wsX10 w h
  rcases List.mem_append.mp h with h | h
  rotate_left
  · exact q_wsX80 w h
  rcases List.mem_append.mp h with h | h
  · exact q_wsL_law0_r1 w h
  rcases List.mem_append.mp h with h | h
  · exact q_wsL_law0_r2 w h
  rcases List.mem_append.mp h with h | h
  · exact q_wsL_law0_r3 w h
  rcases List.mem_append.mp h with h | h
  · exact q_wsL_law0_r4 w h
  rcases List.mem_append.mp h with h | h
  · exact q_wsL_law0_r5 w h
  rcases List.mem_append.mp h with h | h
  · exact q_wsL_law0_r6 w h
  rcases List.mem_append.mp h with h | h
  · exact q_wsL_law0_r7 w h
  rcases List.mem_append.mp h with h | h
  · exact q_wsL_law0_r8 w h
  rcases List.mem_append.mp h with h | h
  · exact q_wsL_law0_r9 w h
  rcases List.mem_append.mp h with h | h
  · exact q_wsL_law0_r10 w h
  rcases List.mem_append.mp h with h | h
  · exact q_wsL_law0_r11 w h
  rcases List.mem_append.mp h with h | h
  · exact q_wsL_law0_r12 w h
  rcases List.mem_append.mp h with h | h
  · exact q_wsL_law0_r13 w h
  rcases List.mem_append.mp h with h | h
  · exact q_wsL_law0_r14 w h
  rcases List.mem_append.mp h with h | h
  · exact q_wsL_law0_r15 w h
  rcases List.mem_append.mp h with h | h
  · exact q_wsL_law0_r16 w h
  rcases List.mem_append.mp h with h | h
  · exact q_wsL_law0_r17 w h
  rcases List.mem_append.mp h with h | h
  · exact q_wsL_law0_r18 w h
  rcases List.mem_append.mp h with h | h
  · exact q_wsL_law0_r19 w h
  rcases List.mem_append.mp h with h | h
  · exact q_wsL_law0_r20 w h
  rcases List.mem_append.mp h with h | h
  · exact q_wsL_law0_r21 w h
  rcases List.mem_append.mp h with h | h
  · exact q_wsL_law0_r22 w h
  rcases List.mem_append.mp h with h | h
  · exact q_wsL_law0_r23 w h
  rcases List.mem_append.mp h with h | h
  · exact q_wsL_law0_r24 w h
  rcases List.mem_append.mp h with h | h
  · exact q_wsL_law0_r25 w h
  rcases List.mem_append.mp h with h | h
  · exact q_wsL_law0_r26 w h
  rcases List.mem_append.mp h with h | h
  · exact q_wsL_law0_r27 w h
  rcases List.mem_append.mp h with h | h
  · exact q_wsL_law0_r28 w h
  rcases List.mem_append.mp h with h | h
  · exact q_wsL_law0_r29 w h
  rcases List.mem_append.mp h with h | h
  · exact q_wsL_law0_r30 w h
  rcases List.mem_append.mp h with h | h
  · exact q_wsL_law0_r31 w h
  exact q_wsL_law0_r32 w h
theorem wsL_law_x0 : ∀ w ∈ (vx_atS RX8 196 "java/lang/IllegalStateException" ["java/lang/RuntimeException", "java/lang/Exception"]).filter goodWord, w ∈ lw_tbl := by decide +kernel
theorem wsL_law_x1 : ∀ w ∈ (vx_atS RX8 121 "java/lang/IllegalArgumentException" ["java/lang/RuntimeException", "java/lang/Exception"]).filter goodWord, w ∈ lw_tbl := by decide +kernel
theorem wsL_law_x2 : ∀ w ∈ (vx_atS RX8 113 "java/lang/IndexOutOfBoundsException" ["java/lang/RuntimeException", "java/lang/Exception"]).filter goodWord, w ∈ lw_tbl := by decide +kernel
theorem wsL_law_in : ∀ w ∈ wsL_law, w ∈ lw_tbl := fun w h => (List.mem_append.mp h).elim (fun h => (List.mem_append.mp h).elim (fun h => (List.mem_append.mp h).elim (fun h => wsL_law_in0 w h) (fun h => wsL_law_x0 w h)) (fun h => wsL_law_x1 w h)) (fun h => wsL_law_x2 w h)
theorem inX0 : ∀ w ∈ wsX00, w ∈ lw_tbl := by decide +kernel
theorem inlX1 : ∀ w ∈ wsX10, w ∈ wsL_law := fun _ h => List.mem_append_left _ (List.mem_append_left _ (List.mem_append_left _ (List.mem_append_left _ (List.mem_append_left _ (List.mem_append_left _ (List.mem_append_left _ (List.mem_append_left _ (List.mem_append_left _ (List.mem_append_right _ h)))))))))
theorem inX1 : ∀ w ∈ wsX10, w ∈ lw_tbl := fun w h => wsL_law_in w (inlX1 w h)
theorem inlX2 : ∀ w ∈ wsX20, w ∈ wsL_law := fun _ h => List.mem_append_left _ (List.mem_append_left _ (List.mem_append_left _ (List.mem_append_left _ (List.mem_append_left _ (List.mem_append_right _ h)))))
theorem inX2 : ∀ w ∈ wsX20, w ∈ lw_tbl := fun w h => wsL_law_in w (inlX2 w h)
theorem inlX3 : ∀ w ∈ wsX30, w ∈ wsL_law := fun _ h => List.mem_append_left _ (List.mem_append_left _ (List.mem_append_left _ (List.mem_append_left _ (List.mem_append_left _ (List.mem_append_left _ (List.mem_append_left _ (List.mem_append_right _ h)))))))
theorem inX3 : ∀ w ∈ wsX30, w ∈ lw_tbl := fun w h => wsL_law_in w (inlX3 w h)
theorem inlX4 : ∀ w ∈ wsX40, w ∈ wsL_law := fun _ h => List.mem_append_left _ (List.mem_append_left _ (List.mem_append_left _ (List.mem_append_left _ (List.mem_append_left _ (List.mem_append_left _ (List.mem_append_left _ (List.mem_append_left _ (List.mem_append_right _ h))))))))
theorem inX4 : ∀ w ∈ wsX40, w ∈ lw_tbl := fun w h => wsL_law_in w (inlX4 w h)
theorem inlX5 : ∀ w ∈ wsX50, w ∈ wsL_law := fun _ h => List.mem_append_left _ (List.mem_append_left _ (List.mem_append_left _ (List.mem_append_left _ (List.mem_append_right _ h))))
theorem inX5 : ∀ w ∈ wsX50, w ∈ lw_tbl := fun w h => wsL_law_in w (inlX5 w h)
theorem inlX6 : ∀ w ∈ wsX60, w ∈ wsL_law := fun _ h => List.mem_append_left _ (List.mem_append_left _ (List.mem_append_left _ (List.mem_append_left _ (List.mem_append_left _ (List.mem_append_left _ (List.mem_append_right _ h))))))
theorem inX6 : ∀ w ∈ wsX60, w ∈ lw_tbl := fun w h => wsL_law_in w (inlX6 w h)
theorem inX7 : ∀ w ∈ wsX70, w ∈ lw_tbl := by decide +kernel
theorem inlX8 : ∀ w ∈ wsX80, w ∈ wsL_law := fun _ h => List.mem_append_left _ (List.mem_append_left _ (List.mem_append_left _ (List.mem_append_left _ (List.mem_append_left _ (List.mem_append_left _ (List.mem_append_left _ (List.mem_append_left _ (List.mem_append_left _ (List.mem_append_left _ (List.mem_append_right _ h))))))))))
theorem inX8 : ∀ w ∈ wsX80, w ∈ lw_tbl := fun w h => wsL_law_in w (inlX8 w h)
theorem inX9 : ∀ w ∈ wsX90, w ∈ lw_tbl := by decide +kernel
theorem inJx8e188 : ∀ w ∈ wsJx8e1880, w ∈ lw_tbl := by decide +kernel
theorem inJx29ce0 : ∀ w ∈ wsJx29ce00, w ∈ lw_tbl := by decide +kernel
theorem inJ9 : ∀ w ∈ wsJ90, w ∈ lw_tbl := by decide +kernel
theorem inJ0 : ∀ w ∈ wsJ00, w ∈ lw_tbl := by decide +kernel
theorem inJ1 : ∀ w ∈ wsJ10, w ∈ lw_tbl := by decide +kernel
theorem inJ2 : ∀ w ∈ wsJ20, w ∈ lw_tbl := by decide +kernel
theorem inJ10 : ∀ w ∈ wsJ100, w ∈ lw_tbl := by decide +kernel
theorem inJ3 : ∀ w ∈ wsJ30, w ∈ lw_tbl := by decide +kernel
abbrev vwCl : List vw_C := [(RX1, TX1, 6), (RX2, TX2, 10), (RX3, TX3, 5), (RX4, TX4, 2), (RX5, TX5, 7), (RX6, TX6, 5), (RX8, TX8, 4)]
