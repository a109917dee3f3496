theorem wsL_law_in : ∀ w ∈ wsL_law, w ∈ lw_tbl := by
  intro w h
  unfold wsL_law at h
  replace h := (List.mem_append.mp h).resolve_right (fun z => absurd z List.not_mem_nil)
  rcases List.mem_append.mp h with h | h
  rotate_left
  · exact inX1 w h
  rcases List.mem_append.mp h with h | h
  rotate_left
  · exact inX2 w h
  rcases List.mem_append.mp h with h | h
  rotate_left
  · exact inX4 w h
  rcases List.mem_append.mp h with h | h
  rotate_left
  · exact inX5 w h
  rcases List.mem_append.mp h with h | h
  rotate_left
  · exact inX0 w h
  rcases List.mem_append.mp h with h | h
  rotate_left
  · exact inX3 w h
  rcases List.mem_append.mp h with h | h
  rotate_left
  · exact inX7 w h
  rcases List.mem_append.mp h with h | h
  rotate_left
  · exact inX6 w h
  rcases List.mem_append.mp h with h | h
  · exact wsL_law_r1_in w h
  rcases List.mem_append.mp h with h | h
  · exact wsL_law_r2_in w h
  rcases List.mem_append.mp h with h | h
  · exact wsL_law_r3_in w h
  rcases List.mem_append.mp h with h | h
  · exact wsL_law_r4_in w h
  rcases List.mem_append.mp h with h | h
  · exact wsL_law_r5_in w h
  rcases List.mem_append.mp h with h | h
  · exact wsL_law_r6_in w h
  rcases List.mem_append.mp h with h | h
  · exact wsL_law_r7_in w h
  rcases List.mem_append.mp h with h | h
  · exact wsL_law_r8_in w h
  rcases List.mem_append.mp h with h | h
  · exact wsL_law_r9_in w h
  rcases List.mem_append.mp h with h | h
  · exact wsL_law_r10_in w h
  rcases List.mem_append.mp h with h | h
  · exact wsL_law_r11_in w h
  rcases List.mem_append.mp h with h | h
  · exact wsL_law_r12_in w h
  rcases List.mem_append.mp h with h | h
  · exact wsL_law_r13_in w h
  rcases List.mem_append.mp h with h | h
  · exact wsL_law_r14_in w h
  rcases List.mem_append.mp h with h | h
  · exact wsL_law_r15_in w h
  rcases List.mem_append.mp h with h | h
  · exact wsL_law_r16_in w h
  rcases List.mem_append.mp h with h | h
  · exact wsL_law_r17_in w h
  rcases List.mem_append.mp h with h | h
  · exact wsL_law_r18_in w h
  rcases List.mem_append.mp h with h | h
  · exact wsL_law_r19_in w h
  rcases List.mem_append.mp h with h | h
  · exact wsL_law_r20_in w h
  rcases List.mem_append.mp h with h | h
  · exact wsL_law_r21_in w h
  rcases List.mem_append.mp h with h | h
  · exact wsL_law_r22_in w h
  rcases List.mem_append.mp h with h | h
  · exact wsL_law_r23_in w h
  rcases List.mem_append.mp h with h | h
  · exact wsL_law_r24_in w h
  rcases List.mem_append.mp h with h | h
  · exact wsL_law_r25_in w h
  rcases List.mem_append.mp h with h | h
  · exact wsL_law_r26_in w h
  rcases List.mem_append.mp h with h | h
  · exact wsL_law_r27_in w h
  rcases List.mem_append.mp h with h | h
  · exact wsL_law_r28_in w h
  rcases List.mem_append.mp h with h | h
  · exact wsL_law_r29_in w h
  rcases List.mem_append.mp h with h | h
  · exact wsL_law_r30_in w h
  rcases List.mem_append.mp h with h | h
  · exact wsL_law_r31_in w h
  rcases List.mem_append.mp h with h | h
  · exact wsL_law_r32_in w h
  rcases List.mem_append.mp h with h | h
  · exact wsL_law_r33_in w h
  rcases List.mem_append.mp h with h | h
  · exact wsL_law_r34_in w h
  rcases List.mem_append.mp h with h | h
  · exact wsL_law_r35_in w h
  rcases List.mem_append.mp h with h | h
  · exact wsL_law_r36_in w h
  rcases List.mem_append.mp h with h | h
  · exact wsL_law_r37_in w h
  rcases List.mem_append.mp h with h | h
  · exact wsL_law_r38_in w h
  rcases List.mem_append.mp h with h | h
  · exact wsL_law_r39_in w h
  rcases List.mem_append.mp h with h | h
  · exact wsL_law_r40_in w h
  exact wsL_law_r41_in w h
