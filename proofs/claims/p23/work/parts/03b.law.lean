/-! The printed row wsL_law_in0 (one decision over all the words of the law) is cut into the printed chunks. -/
theorem lw_t3 {w : Cond} {i : Nat} (h : tables_1_3[i]? = some w) : w ∈ lw_tbl := List.mem_append_right _ (List.mem_append_right _ (List.mem_append_right _ (List.mem_of_getElem? h)))
set_option maxRecDepth 20000 in
theorem wsL_law_c1 : ∀ w ∈ wsL_law0_r1, w ∈ lw_tbl := fun w h => (goodIn_p wsL_law0_r1 [24, 27, 37] (by decide +kernel) (by decide +kernel) w h).1
set_option maxRecDepth 20000 in
theorem wsL_law_c2 : ∀ w ∈ wsL_law0_r2, w ∈ lw_tbl := List.forall_mem_cons.mpr ⟨lw_t3 (i := 12) rfl, (List.forall_mem_cons.mpr ⟨(by decide +kernel), (List.forall_mem_cons.mpr ⟨(by decide +kernel), (List.forall_mem_cons.mpr ⟨(by decide +kernel), (List.forall_mem_cons.mpr ⟨(by decide +kernel), (List.forall_mem_cons.mpr ⟨(by decide +kernel), (List.forall_mem_cons.mpr ⟨(by decide +kernel), (List.forall_mem_cons.mpr ⟨(by decide +kernel), (List.forall_mem_cons.mpr ⟨(by decide +kernel), (List.forall_mem_cons.mpr ⟨(by decide +kernel), (List.forall_mem_cons.mpr ⟨(by decide +kernel), (List.forall_mem_cons.mpr ⟨(by decide +kernel), (List.forall_mem_cons.mpr ⟨(by decide +kernel), (List.forall_mem_cons.mpr ⟨(by decide +kernel), (List.forall_mem_cons.mpr ⟨(by decide +kernel), (List.forall_mem_cons.mpr ⟨(by decide +kernel), (List.forall_mem_cons.mpr ⟨(by decide +kernel), (List.forall_mem_cons.mpr ⟨(by decide +kernel), (List.forall_mem_cons.mpr ⟨(by decide +kernel), (List.forall_mem_cons.mpr ⟨(by decide +kernel), (List.forall_mem_cons.mpr ⟨(by decide +kernel), (List.forall_mem_cons.mpr ⟨(by decide +kernel), (List.forall_mem_cons.mpr ⟨(by decide +kernel), (List.forall_mem_cons.mpr ⟨(by decide +kernel), (fun _ h => absurd h List.not_mem_nil)⟩)⟩)⟩)⟩)⟩)⟩)⟩)⟩)⟩)⟩)⟩)⟩)⟩)⟩)⟩)⟩)⟩)⟩)⟩)⟩)⟩)⟩)⟩)⟩
set_option maxRecDepth 20000 in
theorem wsL_law_c3 : ∀ w ∈ wsL_law0_r3, w ∈ lw_tbl := fun w h => (goodIn_p wsL_law0_r3 [292, 300, 509, 513] (by decide +kernel) (by decide +kernel) w h).1
set_option maxRecDepth 20000 in
theorem wsL_law_c4 : ∀ w ∈ wsL_law0_r4, w ∈ lw_tbl := fun w h => (goodIn_p wsL_law0_r4 [517, 522, 355, 526, 530] (by decide +kernel) (by decide +kernel) w h).1
set_option maxRecDepth 20000 in
theorem wsL_law_c5 : ∀ w ∈ wsL_law0_r5, w ∈ lw_tbl := fun w h => (goodIn_p wsL_law0_r5 [401, 534, 539, 436, 447] (by decide +kernel) (by decide +kernel) w h).1
set_option maxRecDepth 20000 in
theorem wsL_law_c6 : ∀ w ∈ wsL_law0_r6, w ∈ lw_tbl := fun w h => (goodIn_p wsL_law0_r6 [440, 444, 451, 543] (by decide +kernel) (by decide +kernel) w h).1
set_option maxRecDepth 20000 in
theorem wsL_law_c7 : ∀ w ∈ wsL_law0_r7, w ∈ lw_tbl := List.forall_mem_cons.mpr ⟨(by decide +kernel), (List.forall_mem_cons.mpr ⟨(by decide +kernel), (List.forall_mem_cons.mpr ⟨(by decide +kernel), (List.forall_mem_cons.mpr ⟨(by decide +kernel), (List.forall_mem_cons.mpr ⟨(by decide +kernel), (List.forall_mem_cons.mpr ⟨(by decide +kernel), (List.forall_mem_cons.mpr ⟨(by decide +kernel), (List.forall_mem_cons.mpr ⟨lw_t3 (i := 66) rfl, (List.forall_mem_cons.mpr ⟨(by decide +kernel), (List.forall_mem_cons.mpr ⟨(by decide +kernel), (List.forall_mem_cons.mpr ⟨(by decide +kernel), (List.forall_mem_cons.mpr ⟨(by decide +kernel), (List.forall_mem_cons.mpr ⟨(by decide +kernel), (List.forall_mem_cons.mpr ⟨(by decide +kernel), (List.forall_mem_cons.mpr ⟨(by decide +kernel), (List.forall_mem_cons.mpr ⟨(by decide +kernel), (List.forall_mem_cons.mpr ⟨(by decide +kernel), (List.forall_mem_cons.mpr ⟨(by decide +kernel), (List.forall_mem_cons.mpr ⟨(by decide +kernel), (List.forall_mem_cons.mpr ⟨(by decide +kernel), (List.forall_mem_cons.mpr ⟨(by decide +kernel), (List.forall_mem_cons.mpr ⟨(by decide +kernel), (List.forall_mem_cons.mpr ⟨(by decide +kernel), (List.forall_mem_cons.mpr ⟨(by decide +kernel), (fun _ h => absurd h List.not_mem_nil)⟩)⟩)⟩)⟩)⟩)⟩)⟩)⟩)⟩)⟩)⟩)⟩)⟩)⟩)⟩)⟩)⟩)⟩)⟩)⟩)⟩)⟩)⟩)⟩
set_option maxRecDepth 20000 in
theorem wsL_law_c8 : ∀ w ∈ wsL_law0_r8, w ∈ lw_tbl := fun w h => (goodIn_p wsL_law0_r8 [80, 168, 176, 246] (by decide +kernel) (by decide +kernel) w h).1
set_option maxRecDepth 20000 in
theorem wsL_law_c9 : ∀ w ∈ wsL_law0_r9, w ∈ lw_tbl := fun w h => (goodIn_p wsL_law0_r9 [269, 273, 278, 282, 289, 304] (by decide +kernel) (by decide +kernel) w h).1
set_option maxRecDepth 20000 in
theorem wsL_law_c10 : ∀ w ∈ wsL_law0_r10, w ∈ lw_tbl := fun w h => (goodIn_p wsL_law0_r10 [308, 312, 334, 338] (by decide +kernel) (by decide +kernel) w h).1
set_option maxRecDepth 20000 in
theorem wsL_law_c11 : ∀ w ∈ wsL_law0_r11, w ∈ lw_tbl := fun w h => (goodIn_p wsL_law0_r11 [341, 347, 351, 361] (by decide +kernel) (by decide +kernel) w h).1
set_option maxRecDepth 20000 in
theorem wsL_law_c12 : ∀ w ∈ wsL_law0_r12, w ∈ lw_tbl := fun w h => (goodIn_p wsL_law0_r12 [366, 397, 407, 412] (by decide +kernel) (by decide +kernel) w h).1
set_option maxRecDepth 20000 in
theorem wsL_law_c13 : ∀ w ∈ wsL_law0_r13, w ∈ lw_tbl := fun w h => (goodIn_p wsL_law0_r13 [416, 421, 425, 431, 456] (by decide +kernel) (by decide +kernel) w h).1
set_option maxRecDepth 20000 in
theorem wsL_law_c14 : ∀ w ∈ wsL_law0_r14, w ∈ lw_tbl := fun w h => (goodIn_p wsL_law0_r14 [461, 465, 469, 474, 478, 482] (by decide +kernel) (by decide +kernel) w h).1
set_option maxRecDepth 20000 in
theorem wsL_law_c15 : ∀ w ∈ wsL_law0_r15, w ∈ lw_tbl := List.forall_mem_cons.mpr ⟨(by decide +kernel), (List.forall_mem_cons.mpr ⟨(by decide +kernel), (List.forall_mem_cons.mpr ⟨(by decide +kernel), (List.forall_mem_cons.mpr ⟨(by decide +kernel), (List.forall_mem_cons.mpr ⟨(by decide +kernel), (List.forall_mem_cons.mpr ⟨(by decide +kernel), (List.forall_mem_cons.mpr ⟨(by decide +kernel), (List.forall_mem_cons.mpr ⟨(by decide +kernel), (List.forall_mem_cons.mpr ⟨(by decide +kernel), (List.forall_mem_cons.mpr ⟨(by decide +kernel), (List.forall_mem_cons.mpr ⟨(by decide +kernel), (List.forall_mem_cons.mpr ⟨(by decide +kernel), (List.forall_mem_cons.mpr ⟨(by decide +kernel), (List.forall_mem_cons.mpr ⟨(by decide +kernel), (List.forall_mem_cons.mpr ⟨(by decide +kernel), (List.forall_mem_cons.mpr ⟨(by decide +kernel), (List.forall_mem_cons.mpr ⟨lw_t3 (i := 73) rfl, (List.forall_mem_cons.mpr ⟨(by decide +kernel), (List.forall_mem_cons.mpr ⟨(by decide +kernel), (List.forall_mem_cons.mpr ⟨lw_t3 (i := 76) rfl, (List.forall_mem_cons.mpr ⟨(by decide +kernel), (List.forall_mem_cons.mpr ⟨(by decide +kernel), (List.forall_mem_cons.mpr ⟨lw_t3 (i := 79) rfl, (List.forall_mem_cons.mpr ⟨(by decide +kernel), (fun _ h => absurd h List.not_mem_nil)⟩)⟩)⟩)⟩)⟩)⟩)⟩)⟩)⟩)⟩)⟩)⟩)⟩)⟩)⟩)⟩)⟩)⟩)⟩)⟩)⟩)⟩)⟩)⟩
set_option maxRecDepth 20000 in
theorem wsL_law_c16 : ∀ w ∈ wsL_law0_r16, w ∈ lw_tbl := List.forall_mem_cons.mpr ⟨(by decide +kernel), (List.forall_mem_cons.mpr ⟨lw_t3 (i := 82) rfl, (List.forall_mem_cons.mpr ⟨(by decide +kernel), (List.forall_mem_cons.mpr ⟨(by decide +kernel), (List.forall_mem_cons.mpr ⟨lw_t3 (i := 85) rfl, (fun _ h => absurd h List.not_mem_nil)⟩)⟩)⟩)⟩)⟩
set_option maxRecDepth 20000 in
theorem wsL_law_d5 : ∀ w ∈ wsX50, w ∈ lw_tbl := fun w h => (goodIn_p wsX50 [] (by decide +kernel) (by decide +kernel) w h).1
set_option maxRecDepth 20000 in
theorem wsL_law_d4 : ∀ w ∈ wsX40, w ∈ lw_tbl := fun w h => (goodIn_p wsX40 [] (by decide +kernel) (by decide +kernel) w h).1
set_option maxRecDepth 20000 in
theorem wsL_law_d2 : ∀ w ∈ wsX20, w ∈ lw_tbl := fun w h => (goodIn_p wsX20 [] (by decide +kernel) (by decide +kernel) w h).1
set_option maxRecDepth 20000 in
theorem wsL_law_d1 : ∀ w ∈ wsX10, w ∈ lw_tbl := fun w h => (goodIn_p wsX10 [] (by decide +kernel) (by decide +kernel) w h).1
set_option maxRecDepth 20000 in
theorem wsL_law_d3 : ∀ w ∈ wsX30, w ∈ lw_tbl := fun w h => (goodIn_p wsX30 [] (by decide +kernel) (by decide +kernel) w h).1
set_option maxRecDepth 20000 in
theorem wsL_law_d0 : ∀ w ∈ wsX00, w ∈ lw_tbl := fun w h => (goodIn_p wsX00 [] (by decide +kernel) (by decide +kernel) w h).1
theorem wsL_law_in0 : ∀ w ∈ wsL_law0, w ∈ lw_tbl := fun w h => (List.mem_append.mp h).elim (fun h => ((List.mem_append.mp h).elim (fun h => ((List.mem_append.mp h).elim (fun h => ((List.mem_append.mp h).elim (fun h => ((List.mem_append.mp h).elim (fun h => ((List.mem_append.mp h).elim (fun h => ((List.mem_append.mp h).elim (fun h => ((List.mem_append.mp h).elim (fun h => wsL_law_c1 w h) (fun h => ((List.mem_append.mp h).elim (fun h => wsL_law_c2 w h) (fun h => ((List.mem_append.mp h).elim (fun h => wsL_law_c3 w h) (fun h => ((List.mem_append.mp h).elim (fun h => wsL_law_c4 w h) (fun h => ((List.mem_append.mp h).elim (fun h => wsL_law_c5 w h) (fun h => ((List.mem_append.mp h).elim (fun h => wsL_law_c6 w h) (fun h => ((List.mem_append.mp h).elim (fun h => wsL_law_c7 w h) (fun h => ((List.mem_append.mp h).elim (fun h => wsL_law_c8 w h) (fun h => ((List.mem_append.mp h).elim (fun h => wsL_law_c9 w h) (fun h => ((List.mem_append.mp h).elim (fun h => wsL_law_c10 w h) (fun h => ((List.mem_append.mp h).elim (fun h => wsL_law_c11 w h) (fun h => ((List.mem_append.mp h).elim (fun h => wsL_law_c12 w h) (fun h => ((List.mem_append.mp h).elim (fun h => wsL_law_c13 w h) (fun h => ((List.mem_append.mp h).elim (fun h => wsL_law_c14 w h) (fun h => ((List.mem_append.mp h).elim (fun h => wsL_law_c15 w h) (fun h => (wsL_law_c16 w h)))))))))))))))))))))))))))))))) (fun h => wsL_law_d5 w h))) (fun h => wsL_law_d4 w h))) (fun h => wsL_law_d2 w h))) (fun h => wsL_law_d1 w h))) (fun h => wsL_law_d3 w h))) (fun h => wsL_law_d0 w h))) (fun h => absurd h List.not_mem_nil)
theorem wsL_law_x0 : ∀ w ∈ (vx_atS RX5 180 "java/lang/IndexOutOfBoundsException" ["java/lang/RuntimeException", "java/lang/Exception"]).filter goodWord, w ∈ lw_tbl := by decide +kernel
theorem wsL_law_x1 : ∀ w ∈ (vx_atS RX5 40 "java/lang/IllegalStateException" ["java/lang/RuntimeException", "java/lang/Exception"]).filter goodWord, w ∈ lw_tbl := by decide +kernel
theorem wsL_law_x2 : ∀ w ∈ (vx_atS RX5 231 "java/lang/IllegalArgumentException" ["java/lang/RuntimeException", "java/lang/Exception"]).filter goodWord, w ∈ lw_tbl := by decide +kernel
theorem wsL_law_x3 : ∀ w ∈ (vx_atS RX2 77 "java/lang/IllegalStateException" ["java/lang/RuntimeException", "java/lang/Exception"]).filter goodWord, w ∈ lw_tbl := by decide +kernel
theorem wsL_law_in : ∀ w ∈ wsL_law, w ∈ lw_tbl := fun w h => (List.mem_append.mp h).elim (fun h => (List.mem_append.mp h).elim (fun h => (List.mem_append.mp h).elim (fun h => (List.mem_append.mp h).elim (fun h => wsL_law_in0 w h) (fun h => wsL_law_x0 w h)) (fun h => wsL_law_x1 w h)) (fun h => wsL_law_x2 w h)) (fun h => wsL_law_x3 w h)
theorem inlX0 : ∀ w ∈ wsX00, w ∈ wsL_law := fun _ h => List.mem_append_left _ (List.mem_append_left _ (List.mem_append_left _ (List.mem_append_left _ (List.mem_append_left _ (List.mem_append_right _ h)))))
theorem inX0 : ∀ w ∈ wsX00, w ∈ lw_tbl := fun w h => wsL_law_in w (inlX0 w h)
theorem inlX1 : ∀ w ∈ wsX10, w ∈ wsL_law := fun _ h => List.mem_append_left _ (List.mem_append_left _ (List.mem_append_left _ (List.mem_append_left _ (List.mem_append_left _ (List.mem_append_left _ (List.mem_append_left _ (List.mem_append_right _ h)))))))
theorem inX1 : ∀ w ∈ wsX10, w ∈ lw_tbl := fun w h => wsL_law_in w (inlX1 w h)
theorem inlX2 : ∀ w ∈ wsX20, w ∈ wsL_law := fun _ h => List.mem_append_left _ (List.mem_append_left _ (List.mem_append_left _ (List.mem_append_left _ (List.mem_append_left _ (List.mem_append_left _ (List.mem_append_left _ (List.mem_append_left _ (List.mem_append_right _ h))))))))
theorem inX2 : ∀ w ∈ wsX20, w ∈ lw_tbl := fun w h => wsL_law_in w (inlX2 w h)
theorem inlX3 : ∀ w ∈ wsX30, w ∈ wsL_law := fun _ h => List.mem_append_left _ (List.mem_append_left _ (List.mem_append_left _ (List.mem_append_left _ (List.mem_append_left _ (List.mem_append_left _ (List.mem_append_right _ h))))))
theorem inX3 : ∀ w ∈ wsX30, w ∈ lw_tbl := fun w h => wsL_law_in w (inlX3 w h)
theorem inlX4 : ∀ w ∈ wsX40, w ∈ wsL_law := fun _ h => List.mem_append_left _ (List.mem_append_left _ (List.mem_append_left _ (List.mem_append_left _ (List.mem_append_left _ (List.mem_append_left _ (List.mem_append_left _ (List.mem_append_left _ (List.mem_append_left _ (List.mem_append_right _ h)))))))))
theorem inX4 : ∀ w ∈ wsX40, w ∈ lw_tbl := fun w h => wsL_law_in w (inlX4 w h)
theorem inlX5 : ∀ w ∈ wsX50, w ∈ wsL_law := fun _ h => List.mem_append_left _ (List.mem_append_left _ (List.mem_append_left _ (List.mem_append_left _ (List.mem_append_left _ (List.mem_append_left _ (List.mem_append_left _ (List.mem_append_left _ (List.mem_append_left _ (List.mem_append_left _ (List.mem_append_right _ h))))))))))
theorem inX5 : ∀ w ∈ wsX50, w ∈ lw_tbl := fun w h => wsL_law_in w (inlX5 w h)
theorem inX6 : ∀ w ∈ wsX60, w ∈ lw_tbl := by decide +kernel
theorem inJ9 : ∀ w ∈ wsJ90, w ∈ lw_tbl := by decide +kernel
theorem inJ0 : ∀ w ∈ wsJ00, w ∈ lw_tbl := by decide +kernel
