set_option maxRecDepth 20000 in
theorem q_29a : ∀ w ∈ wsL_law0_r29.take 15, w ∈ lw_tbl := fun w h => (goodIn_p (wsL_law0_r29.take 15) [832, 606] (by decide +kernel) (by decide +kernel) w h).1
set_option maxRecDepth 20000 in
theorem q_29c : ∀ w ∈ wsL_law0_r29.drop 16, w ∈ lw_tbl := fun w h => (goodIn_p (wsL_law0_r29.drop 16) [602] (by decide +kernel) (by decide +kernel) w h).1
set_option maxRecDepth 20000 in
theorem q_isSound : Cond.code yL_isSound cL_isSound 14 (some .boolean) ∈ lw_tbl := List.mem_of_getElem? (i := 543) rfl
theorem q_wsL_law0_r29 : ∀ w ∈ wsL_law0_r29, w ∈ lw_tbl := by
  intro w h
  rw [← List.take_append_drop 15 wsL_law0_r29] at h
  rcases List.mem_append.mp h with h | h
  · exact q_29a w h
  · have h : w ∈ (Cond.code yL_isSound cL_isSound 14 (some .boolean)) :: wsL_law0_r29.drop 16 := h
    rcases List.mem_cons.mp h with rfl | h
    · exact q_isSound
    · exact q_29c w h
set_option maxRecDepth 20000 in
theorem q_wsL_law0_r30 : ∀ w ∈ wsL_law0_r30, w ∈ lw_tbl := fun w h => (goodIn_p wsL_law0_r30 [616, 662, 671, 674, 678] (by decide +kernel) (by decide +kernel) w h).1
set_option maxRecDepth 20000 in
theorem q_wsL_law0_r31 : ∀ w ∈ wsL_law0_r31, w ∈ lw_tbl := fun w h => (goodIn_p wsL_law0_r31 [682, 688, 692, 696] (by decide +kernel) (by decide +kernel) w h).1
set_option maxRecDepth 20000 in
theorem q_wsL_law0_r32 : ∀ w ∈ wsL_law0_r32, w ∈ lw_tbl := fun w h => (goodIn_p wsL_law0_r32 [824] (by decide +kernel) (by decide +kernel) w h).1
