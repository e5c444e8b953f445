theorem dL_admit_0 : decode cL_admit 0 = .ok (.aload_n 3, 1) := by decide +kernel
theorem dL_admit_1 : decode cL_admit 1 = .ok (.iconst 0, 1) := by decide +kernel
theorem dL_admit_2 : decode cL_admit 2 = .ok (.aload_n 0, 1) := by decide +kernel
theorem dL_admit_3 : decode cL_admit 3 = .ok (.iload_n 1, 1) := by decide +kernel
theorem dL_admit_4 : decode cL_admit 4 = .ok (.iload_n 2, 1) := by decide +kernel
theorem dL_admit_5 : decode cL_admit 5 = .ok (.invokevirtual 7, 3) := by decide +kernel
theorem dL_admit_8 : decode cL_admit 8 = .ok (.i2l, 1) := by decide +kernel
theorem dL_admit_9 : decode cL_admit 9 = .ok (.lastore, 1) := by decide +kernel
theorem dL_admit_10 : decode cL_admit 10 = .ok (.goto 11, 3) := by decide +kernel
theorem dL_admit_13 : decode cL_admit 13 = .ok (.astore 4, 2) := by decide +kernel
theorem dL_admit_15 : decode cL_admit 15 = .ok (.iconst 1, 1) := by decide +kernel
theorem dL_admit_16 : decode cL_admit 16 = .ok (.ireturn, 1) := by decide +kernel
theorem dL_admit_17 : decode cL_admit 17 = .ok (.astore 4, 2) := by decide +kernel
theorem dL_admit_19 : decode cL_admit 19 = .ok (.iconst 2, 1) := by decide +kernel
theorem dL_admit_20 : decode cL_admit 20 = .ok (.ireturn, 1) := by decide +kernel
theorem dL_admit_21 : decode cL_admit 21 = .ok (.iconst 0, 1) := by decide +kernel
theorem dL_admit_22 : decode cL_admit 22 = .ok (.ireturn, 1) := by decide +kernel
set_option maxRecDepth 20000 in
theorem ggL_course_X5_course : GoodIn wsL_course wsX5_course := goodIn_ca (goodIn_ca (goodIn_ca (goodIn_ca (goodIn_r _ [8, 9, 10, 11, 7, 12, 13, 14, 15, 16, 17, 18, 19, 20, 21, 22, 23, 24, 25, 26, 27, 28, 29, 30, 31, 32, 33, 34, 35, 36, 37, 38, 39, 40, 41, 42, 43, 44, 45, 46, 47, 48, 49, 50, 51, 52, 53, 54, 55, 56, 57, 58, 59, 60, 61, 62, 63, 64, 65, 66, 67, 68, 69, 70, 71, 72, 73, 74, 75, 76, 77, 78, 79, 80, 81, 82, 83, 84, 85, 86] (by decide +kernel) (by decide +kernel)) (goodIn_sub (fun _ h => List.mem_cons_of_mem _ (List.mem_append_left _ (List.mem_append_left _ (List.mem_append_left _ (List.mem_append_right _ h))))) (by decide +kernel))) (goodIn_sub (fun _ h => List.mem_cons_of_mem _ (List.mem_append_left _ (List.mem_append_left _ (List.mem_append_right _ h)))) (by decide +kernel))) (goodIn_sub (fun _ h => List.mem_cons_of_mem _ (List.mem_append_left _ (List.mem_append_right _ h))) (by decide +kernel))) (goodIn_sub (fun _ h => List.mem_cons_of_mem _ (List.mem_append_right _ h)) (by decide +kernel))
set_option maxRecDepth 20000 in
theorem gL_course_X5_course : GoodIn wsL_course (wsV RL 17 RX5 yX5_course wsX5_course) := goodIn_app (goodIn_of _ (by decide +kernel)) ggL_course_X5_course
theorem dL_course_0 : decode cL_course 0 = .ok (.aload 4, 2) := by decide +kernel
theorem dL_course_2 : decode cL_course 2 = .ok (.iconst 0, 1) := by decide +kernel
theorem dL_course_3 : decode cL_course 3 = .ok (.aload_n 0, 1) := by decide +kernel
theorem dL_course_4 : decode cL_course 4 = .ok (.iload_n 1, 1) := by decide +kernel
theorem dL_course_5 : decode cL_course 5 = .ok (.iload_n 2, 1) := by decide +kernel
theorem dL_course_6 : decode cL_course 6 = .ok (.iload_n 3, 1) := by decide +kernel
theorem dL_course_7 : decode cL_course 7 = .ok (.invokevirtual 17, 3) := by decide +kernel
theorem dL_course_10 : decode cL_course 10 = .ok (.i2l, 1) := by decide +kernel
theorem dL_course_11 : decode cL_course 11 = .ok (.lastore, 1) := by decide +kernel
theorem dL_course_12 : decode cL_course 12 = .ok (.goto 15, 3) := by decide +kernel
theorem dL_course_15 : decode cL_course 15 = .ok (.astore 5, 2) := by decide +kernel
theorem dL_course_17 : decode cL_course 17 = .ok (.iconst 1, 1) := by decide +kernel
theorem dL_course_18 : decode cL_course 18 = .ok (.ireturn, 1) := by decide +kernel
theorem dL_course_19 : decode cL_course 19 = .ok (.astore 5, 2) := by decide +kernel
theorem dL_course_21 : decode cL_course 21 = .ok (.iconst 2, 1) := by decide +kernel
theorem dL_course_22 : decode cL_course 22 = .ok (.ireturn, 1) := by decide +kernel
theorem dL_course_23 : decode cL_course 23 = .ok (.astore 5, 2) := by decide +kernel
theorem dL_course_25 : decode cL_course 25 = .ok (.iconst 3, 1) := by decide +kernel
theorem dL_course_26 : decode cL_course 26 = .ok (.ireturn, 1) := by decide +kernel
theorem dL_course_27 : decode cL_course 27 = .ok (.iconst 0, 1) := by decide +kernel
theorem dL_course_28 : decode cL_course 28 = .ok (.ireturn, 1) := by decide +kernel
set_option maxRecDepth 20000 in
theorem ggL_offence_X5_offence : GoodIn wsL_offence wsX5_offence := goodIn_ca (goodIn_ca (goodIn_ca (goodIn_ca (goodIn_r _ [8, 9, 10, 11, 12, 7, 13, 14, 15, 16, 17, 18, 19, 20, 21, 22, 23, 24, 25, 26, 27, 28, 29, 30, 31, 32, 33, 34, 35, 36, 37, 38, 39, 40, 41, 42, 43, 44, 45, 46, 47, 48, 49, 50, 51, 52, 53, 54, 55, 56, 57, 58, 59, 60, 61, 62, 63, 64, 65, 66, 67, 68, 69, 70, 71, 72, 73, 74, 75, 76, 77, 78, 79, 80, 81, 82, 83, 84, 85, 86, 87, 88, 89, 90, 91, 92, 93, 94] (by decide +kernel) (by decide +kernel)) (goodIn_sub (fun _ h => List.mem_cons_of_mem _ (List.mem_append_left _ (List.mem_append_left _ (List.mem_append_left _ (List.mem_append_right _ h))))) (by decide +kernel))) (goodIn_sub (fun _ h => List.mem_cons_of_mem _ (List.mem_append_left _ (List.mem_append_left _ (List.mem_append_right _ h)))) (by decide +kernel))) (goodIn_sub (fun _ h => List.mem_cons_of_mem _ (List.mem_append_left _ (List.mem_append_right _ h))) (by decide +kernel))) (goodIn_sub (fun _ h => List.mem_cons_of_mem _ (List.mem_append_right _ h)) (by decide +kernel))
set_option maxRecDepth 20000 in
theorem gL_offence_X5_offence : GoodIn wsL_offence (wsV RL 23 RX5 yX5_offence wsX5_offence) := goodIn_app (goodIn_of _ (by decide +kernel)) ggL_offence_X5_offence
theorem dL_offence_0 : decode cL_offence 0 = .ok (.aload_n 3, 1) := by decide +kernel
theorem dL_offence_1 : decode cL_offence 1 = .ok (.iconst 0, 1) := by decide +kernel
theorem dL_offence_2 : decode cL_offence 2 = .ok (.aload_n 0, 1) := by decide +kernel
theorem dL_offence_3 : decode cL_offence 3 = .ok (.iload_n 1, 1) := by decide +kernel
theorem dL_offence_4 : decode cL_offence 4 = .ok (.iload_n 2, 1) := by decide +kernel
theorem dL_offence_5 : decode cL_offence 5 = .ok (.invokevirtual 23, 3) := by decide +kernel
theorem dL_offence_8 : decode cL_offence 8 = .ok (.i2l, 1) := by decide +kernel
theorem dL_offence_9 : decode cL_offence 9 = .ok (.lastore, 1) := by decide +kernel
theorem dL_offence_10 : decode cL_offence 10 = .ok (.goto 15, 3) := by decide +kernel
theorem dL_offence_13 : decode cL_offence 13 = .ok (.astore 4, 2) := by decide +kernel
theorem dL_offence_15 : decode cL_offence 15 = .ok (.iconst 1, 1) := by decide +kernel
theorem dL_offence_16 : decode cL_offence 16 = .ok (.ireturn, 1) := by decide +kernel
theorem dL_offence_17 : decode cL_offence 17 = .ok (.astore 4, 2) := by decide +kernel
theorem dL_offence_19 : decode cL_offence 19 = .ok (.iconst 2, 1) := by decide +kernel
theorem dL_offence_20 : decode cL_offence 20 = .ok (.ireturn, 1) := by decide +kernel
theorem dL_offence_21 : decode cL_offence 21 = .ok (.astore 4, 2) := by decide +kernel
theorem dL_offence_23 : decode cL_offence 23 = .ok (.iconst 3, 1) := by decide +kernel
theorem dL_offence_24 : decode cL_offence 24 = .ok (.ireturn, 1) := by decide +kernel
theorem dL_offence_25 : decode cL_offence 25 = .ok (.iconst 0, 1) := by decide +kernel
theorem dL_offence_26 : decode cL_offence 26 = .ok (.ireturn, 1) := by decide +kernel
set_option maxRecDepth 20000 in
theorem ggL_appeal_X5_appeal : GoodIn wsL_appeal wsX5_appeal := goodIn_ca (goodIn_ca (goodIn_r _ [7, 8, 9, 10, 11, 12, 13, 6, 14, 15, 16, 17, 18, 19, 20, 21, 22, 23, 24, 25, 26, 27, 28, 29, 30, 31, 32, 33, 34, 35, 36, 37, 38, 39, 40, 41, 42, 43, 44, 45, 46, 47, 48, 49, 50, 51, 52, 53, 54, 55, 56, 57, 58, 59, 60, 61, 62, 63, 64, 65, 66, 67, 68, 69, 70, 71, 72, 73, 74, 75, 76, 77, 78, 79, 80, 81] (by decide +kernel) (by decide +kernel)) (goodIn_sub (fun _ h => List.mem_cons_of_mem _ (List.mem_append_left _ (List.mem_append_right _ h))) (by decide +kernel))) (goodIn_sub (fun _ h => List.mem_cons_of_mem _ (List.mem_append_right _ h)) (by decide +kernel))
set_option maxRecDepth 20000 in
theorem gL_appeal_X5_appeal : GoodIn wsL_appeal (wsV RL 26 RX5 yX5_appeal wsX5_appeal) := goodIn_app (goodIn_of _ (by decide +kernel)) ggL_appeal_X5_appeal
theorem dL_appeal_0 : decode cL_appeal 0 = .ok (.aload_n 3, 1) := by decide +kernel
theorem dL_appeal_1 : decode cL_appeal 1 = .ok (.iconst 0, 1) := by decide +kernel
theorem dL_appeal_2 : decode cL_appeal 2 = .ok (.aload_n 0, 1) := by decide +kernel
theorem dL_appeal_3 : decode cL_appeal 3 = .ok (.iload_n 1, 1) := by decide +kernel
theorem dL_appeal_4 : decode cL_appeal 4 = .ok (.iload_n 2, 1) := by decide +kernel
theorem dL_appeal_5 : decode cL_appeal 5 = .ok (.invokevirtual 26, 3) := by decide +kernel
theorem dL_appeal_8 : decode cL_appeal 8 = .ok (.i2l, 1) := by decide +kernel
theorem dL_appeal_9 : decode cL_appeal 9 = .ok (.lastore, 1) := by decide +kernel
theorem dL_appeal_10 : decode cL_appeal 10 = .ok (.goto 11, 3) := by decide +kernel
theorem dL_appeal_13 : decode cL_appeal 13 = .ok (.astore 4, 2) := by decide +kernel
theorem dL_appeal_15 : decode cL_appeal 15 = .ok (.iconst 1, 1) := by decide +kernel
theorem dL_appeal_16 : decode cL_appeal 16 = .ok (.ireturn, 1) := by decide +kernel
theorem dL_appeal_17 : decode cL_appeal 17 = .ok (.astore 4, 2) := by decide +kernel
theorem dL_appeal_19 : decode cL_appeal 19 = .ok (.iconst 2, 1) := by decide +kernel
theorem dL_appeal_20 : decode cL_appeal 20 = .ok (.ireturn, 1) := by decide +kernel
theorem dL_appeal_21 : decode cL_appeal 21 = .ok (.iconst 0, 1) := by decide +kernel
theorem dL_appeal_22 : decode cL_appeal 22 = .ok (.ireturn, 1) := by decide +kernel
set_option maxRecDepth 20000 in
theorem ggL_release_X5_release : GoodIn wsL_release wsX5_release := goodIn_ca (goodIn_r _ [6, 7, 8, 9, 5, 10, 11, 12, 13, 14, 15, 16, 17, 18, 19, 20, 21, 22, 23, 24, 25, 26, 27, 28, 29, 30, 31, 32, 33, 34, 35, 36, 37, 38, 39, 40, 41, 42, 43, 44, 45, 46, 47, 48, 49, 50, 51, 52, 53] (by decide +kernel) (by decide +kernel)) (goodIn_sub (fun _ h => List.mem_cons_of_mem _ (List.mem_append_right _ h)) (by decide +kernel))
set_option maxRecDepth 20000 in
theorem gL_release_X5_release : GoodIn wsL_release (wsV RL 29 RX5 yX5_release wsX5_release) := goodIn_app (goodIn_of _ (by decide +kernel)) ggL_release_X5_release
theorem dL_release_0 : decode cL_release 0 = .ok (.aload_n 2, 1) := by decide +kernel
theorem dL_release_1 : decode cL_release 1 = .ok (.iconst 0, 1) := by decide +kernel
theorem dL_release_2 : decode cL_release 2 = .ok (.aload_n 0, 1) := by decide +kernel
theorem dL_release_3 : decode cL_release 3 = .ok (.iload_n 1, 1) := by decide +kernel
theorem dL_release_4 : decode cL_release 4 = .ok (.invokevirtual 29, 3) := by decide +kernel
theorem dL_release_7 : decode cL_release 7 = .ok (.i2l, 1) := by decide +kernel
theorem dL_release_8 : decode cL_release 8 = .ok (.lastore, 1) := by decide +kernel
theorem dL_release_9 : decode cL_release 9 = .ok (.goto 6, 3) := by decide +kernel
theorem dL_release_12 : decode cL_release 12 = .ok (.astore_n 3, 1) := by decide +kernel
theorem dL_release_13 : decode cL_release 13 = .ok (.iconst 1, 1) := by decide +kernel
theorem dL_release_14 : decode cL_release 14 = .ok (.ireturn, 1) := by decide +kernel
theorem dL_release_15 : decode cL_release 15 = .ok (.iconst 0, 1) := by decide +kernel
theorem dL_release_16 : decode cL_release 16 = .ok (.ireturn, 1) := by decide +kernel
set_option maxRecDepth 20000 in
theorem ggL_isIn_X5_isIn : GoodIn wsL_isIn wsX5_isIn := goodIn_ca (goodIn_r _ [6, 7, 8, 9, 10, 5, 11, 12, 13, 14, 15, 16, 17, 18, 19, 20, 21, 22, 23, 24, 25, 26, 27, 28, 29, 30, 31, 32, 33, 34] (by decide +kernel) (by decide +kernel)) (goodIn_sub (fun _ h => List.mem_cons_of_mem _ (List.mem_append_right _ h)) (by decide +kernel))
set_option maxRecDepth 20000 in
theorem gL_isIn_X5_isIn : GoodIn wsL_isIn (wsV RL 33 RX5 yX5_isIn wsX5_isIn) := goodIn_app (goodIn_of _ (by decide +kernel)) ggL_isIn_X5_isIn
theorem dL_isIn_0 : decode cL_isIn 0 = .ok (.aload_n 2, 1) := by decide +kernel
theorem dL_isIn_1 : decode cL_isIn 1 = .ok (.iconst 0, 1) := by decide +kernel
theorem dL_isIn_2 : decode cL_isIn 2 = .ok (.aload_n 0, 1) := by decide +kernel
theorem dL_isIn_3 : decode cL_isIn 3 = .ok (.iload_n 1, 1) := by decide +kernel
theorem dL_isIn_4 : decode cL_isIn 4 = .ok (.invokevirtual 33, 3) := by decide +kernel
theorem dL_isIn_7 : decode cL_isIn 7 = .ok (.ifCond .eq 7, 3) := by decide +kernel
theorem dL_isIn_10 : decode cL_isIn 10 = .ok (.lconst 1, 1) := by decide +kernel
theorem dL_isIn_11 : decode cL_isIn 11 = .ok (.goto 4, 3) := by decide +kernel
theorem dL_isIn_14 : decode cL_isIn 14 = .ok (.lconst 0, 1) := by decide +kernel
theorem dL_isIn_15 : decode cL_isIn 15 = .ok (.lastore, 1) := by decide +kernel
theorem dL_isIn_16 : decode cL_isIn 16 = .ok (.goto 6, 3) := by decide +kernel
theorem dL_isIn_19 : decode cL_isIn 19 = .ok (.astore_n 3, 1) := by decide +kernel
theorem dL_isIn_20 : decode cL_isIn 20 = .ok (.iconst 1, 1) := by decide +kernel
theorem dL_isIn_21 : decode cL_isIn 21 = .ok (.ireturn, 1) := by decide +kernel
theorem dL_isIn_22 : decode cL_isIn 22 = .ok (.iconst 0, 1) := by decide +kernel
theorem dL_isIn_23 : decode cL_isIn 23 = .ok (.ireturn, 1) := by decide +kernel
set_option maxRecDepth 20000 in
theorem ggL_regime_X5_regime : GoodIn wsL_regime wsX5_regime := goodIn_ca (goodIn_r _ [6, 7, 8, 9, 10, 5, 11, 12, 13, 14, 15, 16, 17, 18, 19, 20, 21, 22, 23, 24, 25, 26, 27, 28, 29, 30, 31, 32, 33, 34] (by decide +kernel) (by decide +kernel)) (goodIn_sub (fun _ h => List.mem_cons_of_mem _ (List.mem_append_right _ h)) (by decide +kernel))
set_option maxRecDepth 20000 in
theorem gL_regime_X5_regime : GoodIn wsL_regime (wsV RL 37 RX5 yX5_regime wsX5_regime) := goodIn_app (goodIn_of _ (by decide +kernel)) ggL_regime_X5_regime
theorem dL_regime_0 : decode cL_regime 0 = .ok (.aload_n 2, 1) := by decide +kernel
theorem dL_regime_1 : decode cL_regime 1 = .ok (.iconst 0, 1) := by decide +kernel
theorem dL_regime_2 : decode cL_regime 2 = .ok (.aload_n 0, 1) := by decide +kernel
theorem dL_regime_3 : decode cL_regime 3 = .ok (.iload_n 1, 1) := by decide +kernel
theorem dL_regime_4 : decode cL_regime 4 = .ok (.invokevirtual 37, 3) := by decide +kernel
theorem dL_regime_7 : decode cL_regime 7 = .ok (.i2l, 1) := by decide +kernel
theorem dL_regime_8 : decode cL_regime 8 = .ok (.lastore, 1) := by decide +kernel
theorem dL_regime_9 : decode cL_regime 9 = .ok (.goto 6, 3) := by decide +kernel
theorem dL_regime_12 : decode cL_regime 12 = .ok (.astore_n 3, 1) := by decide +kernel
theorem dL_regime_13 : decode cL_regime 13 = .ok (.iconst 1, 1) := by decide +kernel
theorem dL_regime_14 : decode cL_regime 14 = .ok (.ireturn, 1) := by decide +kernel
theorem dL_regime_15 : decode cL_regime 15 = .ok (.iconst 0, 1) := by decide +kernel
theorem dL_regime_16 : decode cL_regime 16 = .ok (.ireturn, 1) := by decide +kernel
set_option maxRecDepth 20000 in
theorem ggL_papers_X5_papers : GoodIn wsL_papers wsX5_papers := goodIn_ca (goodIn_r _ [6, 7, 8, 9, 10, 5, 11, 12, 13, 14, 15, 16, 17, 18, 19, 20, 21, 22, 23, 24, 25, 26, 27, 28, 29, 30, 31, 32, 33, 34, 35, 36, 37, 38, 39, 40, 41] (by decide +kernel) (by decide +kernel)) (goodIn_sub (fun _ h => List.mem_cons_of_mem _ (List.mem_append_right _ h)) (by decide +kernel))
set_option maxRecDepth 20000 in
theorem gL_papers_X5_papers : GoodIn wsL_papers (wsV RL 40 RX5 yX5_papers wsX5_papers) := goodIn_app (goodIn_of _ (by decide +kernel)) ggL_papers_X5_papers
theorem dL_papers_0 : decode cL_papers 0 = .ok (.aload_n 3, 1) := by decide +kernel
theorem dL_papers_1 : decode cL_papers 1 = .ok (.iconst 0, 1) := by decide +kernel
theorem dL_papers_2 : decode cL_papers 2 = .ok (.aload_n 0, 1) := by decide +kernel
theorem dL_papers_3 : decode cL_papers 3 = .ok (.iload_n 1, 1) := by decide +kernel
theorem dL_papers_4 : decode cL_papers 4 = .ok (.iload_n 2, 1) := by decide +kernel
theorem dL_papers_5 : decode cL_papers 5 = .ok (.invokevirtual 40, 3) := by decide +kernel
theorem dL_papers_8 : decode cL_papers 8 = .ok (.i2l, 1) := by decide +kernel
theorem dL_papers_9 : decode cL_papers 9 = .ok (.lastore, 1) := by decide +kernel
theorem dL_papers_10 : decode cL_papers 10 = .ok (.goto 7, 3) := by decide +kernel
theorem dL_papers_13 : decode cL_papers 13 = .ok (.astore 4, 2) := by decide +kernel
theorem dL_papers_15 : decode cL_papers 15 = .ok (.iconst 1, 1) := by decide +kernel
theorem dL_papers_16 : decode cL_papers 16 = .ok (.ireturn, 1) := by decide +kernel
theorem dL_papers_17 : decode cL_papers 17 = .ok (.iconst 0, 1) := by decide +kernel
theorem dL_papers_18 : decode cL_papers 18 = .ok (.ireturn, 1) := by decide +kernel
set_option maxRecDepth 20000 in
theorem ggL_setTools_X5_setTools : GoodIn wsL_setTools wsX5_setTools := goodIn_ca (goodIn_ca (goodIn_ca (goodIn_r _ [8, 9, 10, 11, 12, 13, 14, 15, 7, 16, 17, 18, 19, 20, 21, 22, 23, 24, 25, 26, 27, 28, 29, 30, 31, 32] (by decide +kernel) (by decide +kernel)) (goodIn_sub (fun _ h => List.mem_cons_of_mem _ (List.mem_append_left _ (List.mem_append_left _ (List.mem_append_right _ h)))) (by decide +kernel))) (goodIn_sub (fun _ h => List.mem_cons_of_mem _ (List.mem_append_left _ (List.mem_append_right _ h))) (by decide +kernel))) (goodIn_sub (fun _ h => List.mem_cons_of_mem _ (List.mem_append_right _ h)) (by decide +kernel))
set_option maxRecDepth 20000 in
theorem gL_setTools_X5_setTools : GoodIn wsL_setTools (wsV RL 44 RX5 yX5_setTools wsX5_setTools) := goodIn_app (goodIn_of _ (by decide +kernel)) ggL_setTools_X5_setTools
theorem dL_setTools_0 : decode cL_setTools 0 = .ok (.aload_n 3, 1) := by decide +kernel
theorem dL_setTools_1 : decode cL_setTools 1 = .ok (.iconst 0, 1) := by decide +kernel
theorem dL_setTools_2 : decode cL_setTools 2 = .ok (.aload_n 0, 1) := by decide +kernel
theorem dL_setTools_3 : decode cL_setTools 3 = .ok (.iload_n 1, 1) := by decide +kernel
theorem dL_setTools_4 : decode cL_setTools 4 = .ok (.iload_n 2, 1) := by decide +kernel
theorem dL_setTools_5 : decode cL_setTools 5 = .ok (.invokevirtual 44, 3) := by decide +kernel
theorem dL_setTools_8 : decode cL_setTools 8 = .ok (.i2l, 1) := by decide +kernel
theorem dL_setTools_9 : decode cL_setTools 9 = .ok (.lastore, 1) := by decide +kernel
theorem dL_setTools_10 : decode cL_setTools 10 = .ok (.goto 15, 3) := by decide +kernel
theorem dL_setTools_13 : decode cL_setTools 13 = .ok (.astore 4, 2) := by decide +kernel
theorem dL_setTools_15 : decode cL_setTools 15 = .ok (.iconst 1, 1) := by decide +kernel
theorem dL_setTools_16 : decode cL_setTools 16 = .ok (.ireturn, 1) := by decide +kernel
theorem dL_setTools_17 : decode cL_setTools 17 = .ok (.astore 4, 2) := by decide +kernel
theorem dL_setTools_19 : decode cL_setTools 19 = .ok (.iconst 2, 1) := by decide +kernel
theorem dL_setTools_20 : decode cL_setTools 20 = .ok (.ireturn, 1) := by decide +kernel
theorem dL_setTools_21 : decode cL_setTools 21 = .ok (.astore 4, 2) := by decide +kernel
theorem dL_setTools_23 : decode cL_setTools 23 = .ok (.iconst 3, 1) := by decide +kernel
theorem dL_setTools_24 : decode cL_setTools 24 = .ok (.ireturn, 1) := by decide +kernel
theorem dL_setTools_25 : decode cL_setTools 25 = .ok (.iconst 0, 1) := by decide +kernel
theorem dL_setTools_26 : decode cL_setTools 26 = .ok (.ireturn, 1) := by decide +kernel
set_option maxRecDepth 20000 in
theorem ggL_toolsOut_X5_toolsOut : GoodIn wsL_toolsOut wsX5_toolsOut := goodIn_ca (goodIn_r _ [6, 7, 8, 9, 10, 5, 11, 12, 13, 14, 15, 16, 17, 18, 19, 20, 21, 22] (by decide +kernel) (by decide +kernel)) (goodIn_sub (fun _ h => List.mem_cons_of_mem _ (List.mem_append_right _ h)) (by decide +kernel))
set_option maxRecDepth 20000 in
theorem gL_toolsOut_X5_toolsOut : GoodIn wsL_toolsOut (wsV RL 47 RX5 yX5_toolsOut wsX5_toolsOut) := goodIn_app (goodIn_of _ (by decide +kernel)) ggL_toolsOut_X5_toolsOut
theorem dL_toolsOut_0 : decode cL_toolsOut 0 = .ok (.aload_n 2, 1) := by decide +kernel
theorem dL_toolsOut_1 : decode cL_toolsOut 1 = .ok (.iconst 0, 1) := by decide +kernel
theorem dL_toolsOut_2 : decode cL_toolsOut 2 = .ok (.aload_n 0, 1) := by decide +kernel
theorem dL_toolsOut_3 : decode cL_toolsOut 3 = .ok (.iload_n 1, 1) := by decide +kernel
theorem dL_toolsOut_4 : decode cL_toolsOut 4 = .ok (.invokevirtual 47, 3) := by decide +kernel
theorem dL_toolsOut_7 : decode cL_toolsOut 7 = .ok (.i2l, 1) := by decide +kernel
theorem dL_toolsOut_8 : decode cL_toolsOut 8 = .ok (.lastore, 1) := by decide +kernel
theorem dL_toolsOut_9 : decode cL_toolsOut 9 = .ok (.goto 6, 3) := by decide +kernel
theorem dL_toolsOut_12 : decode cL_toolsOut 12 = .ok (.astore_n 3, 1) := by decide +kernel
theorem dL_toolsOut_13 : decode cL_toolsOut 13 = .ok (.iconst 1, 1) := by decide +kernel
theorem dL_toolsOut_14 : decode cL_toolsOut 14 = .ok (.ireturn, 1) := by decide +kernel
theorem dL_toolsOut_15 : decode cL_toolsOut 15 = .ok (.iconst 0, 1) := by decide +kernel
theorem dL_toolsOut_16 : decode cL_toolsOut 16 = .ok (.ireturn, 1) := by decide +kernel
set_option maxRecDepth 20000 in
theorem ggL_addOrder_X5_addOrder : GoodIn wsL_addOrder wsX5_addOrder := goodIn_ca (goodIn_ca (goodIn_ca (goodIn_r _ [8, 9, 10, 11, 12, 13, 14, 15, 16, 17, 7, 18, 19, 20, 21, 22, 23, 24, 25, 26, 27, 28, 29, 30, 31, 32, 33, 34, 35, 36, 37, 38, 39, 40, 41, 42, 43, 44, 45, 46, 47, 48, 49, 50, 51, 52, 53] (by decide +kernel) (by decide +kernel)) (goodIn_sub (fun _ h => List.mem_cons_of_mem _ (List.mem_append_left _ (List.mem_append_left _ (List.mem_append_right _ h)))) (by decide +kernel))) (goodIn_sub (fun _ h => List.mem_cons_of_mem _ (List.mem_append_left _ (List.mem_append_right _ h))) (by decide +kernel))) (goodIn_sub (fun _ h => List.mem_cons_of_mem _ (List.mem_append_right _ h)) (by decide +kernel))
set_option maxRecDepth 20000 in
theorem gL_addOrder_X5_addOrder : GoodIn wsL_addOrder (wsV RL 50 RX5 yX5_addOrder wsX5_addOrder) := goodIn_app (goodIn_of _ (by decide +kernel)) ggL_addOrder_X5_addOrder
theorem dL_addOrder_0 : decode cL_addOrder 0 = .ok (.aload 5, 2) := by decide +kernel
theorem dL_addOrder_2 : decode cL_addOrder 2 = .ok (.iconst 0, 1) := by decide +kernel
theorem dL_addOrder_3 : decode cL_addOrder 3 = .ok (.aload_n 0, 1) := by decide +kernel
theorem dL_addOrder_4 : decode cL_addOrder 4 = .ok (.iload_n 1, 1) := by decide +kernel
theorem dL_addOrder_5 : decode cL_addOrder 5 = .ok (.iload_n 2, 1) := by decide +kernel
theorem dL_addOrder_6 : decode cL_addOrder 6 = .ok (.iload_n 3, 1) := by decide +kernel
theorem dL_addOrder_7 : decode cL_addOrder 7 = .ok (.iload 4, 2) := by decide +kernel
theorem dL_addOrder_9 : decode cL_addOrder 9 = .ok (.invokevirtual 50, 3) := by decide +kernel
theorem dL_addOrder_12 : decode cL_addOrder 12 = .ok (.i2l, 1) := by decide +kernel
theorem dL_addOrder_13 : decode cL_addOrder 13 = .ok (.lastore, 1) := by decide +kernel
theorem dL_addOrder_14 : decode cL_addOrder 14 = .ok (.goto 15, 3) := by decide +kernel
theorem dL_addOrder_17 : decode cL_addOrder 17 = .ok (.astore 6, 2) := by decide +kernel
theorem dL_addOrder_19 : decode cL_addOrder 19 = .ok (.iconst 1, 1) := by decide +kernel
theorem dL_addOrder_20 : decode cL_addOrder 20 = .ok (.ireturn, 1) := by decide +kernel
theorem dL_addOrder_21 : decode cL_addOrder 21 = .ok (.astore 6, 2) := by decide +kernel
theorem dL_addOrder_23 : decode cL_addOrder 23 = .ok (.iconst 2, 1) := by decide +kernel
theorem dL_addOrder_24 : decode cL_addOrder 24 = .ok (.ireturn, 1) := by decide +kernel
theorem dL_addOrder_25 : decode cL_addOrder 25 = .ok (.astore 6, 2) := by decide +kernel
theorem dL_addOrder_27 : decode cL_addOrder 27 = .ok (.iconst 3, 1) := by decide +kernel
theorem dL_addOrder_28 : decode cL_addOrder 28 = .ok (.ireturn, 1) := by decide +kernel
theorem dL_addOrder_29 : decode cL_addOrder 29 = .ok (.iconst 0, 1) := by decide +kernel
theorem dL_addOrder_30 : decode cL_addOrder 30 = .ok (.ireturn, 1) := by decide +kernel
set_option maxRecDepth 20000 in
theorem ggL_assign_X5_assign : GoodIn wsL_assign wsX5_assign := goodIn_ca (goodIn_ca (goodIn_r _ [7, 8, 9, 10, 11, 12, 13, 14, 15, 6, 16, 17, 18, 19, 20, 21, 22, 23, 24, 25, 26, 27, 28, 29, 30, 31, 32, 33, 34, 35, 36, 37, 38, 39, 40, 41, 42, 43, 44, 45, 46, 47, 48, 49, 50, 51, 52, 53, 54, 55, 56, 57, 58, 59, 60, 61, 62, 63, 64, 65, 66, 67, 68, 69, 70, 71, 72, 73, 74, 75, 76, 77, 78, 79, 80, 81, 82, 83] (by decide +kernel) (by decide +kernel)) (goodIn_sub (fun _ h => List.mem_cons_of_mem _ (List.mem_append_left _ (List.mem_append_right _ h))) (by decide +kernel))) (goodIn_sub (fun _ h => List.mem_cons_of_mem _ (List.mem_append_right _ h)) (by decide +kernel))
set_option maxRecDepth 20000 in
theorem gL_assign_X5_assign : GoodIn wsL_assign (wsV RL 54 RX5 yX5_assign wsX5_assign) := goodIn_app (goodIn_of _ (by decide +kernel)) ggL_assign_X5_assign
theorem dL_assign_0 : decode cL_assign 0 = .ok (.aload_n 3, 1) := by decide +kernel
theorem dL_assign_1 : decode cL_assign 1 = .ok (.iconst 0, 1) := by decide +kernel
theorem dL_assign_2 : decode cL_assign 2 = .ok (.aload_n 0, 1) := by decide +kernel
theorem dL_assign_3 : decode cL_assign 3 = .ok (.iload_n 1, 1) := by decide +kernel
theorem dL_assign_4 : decode cL_assign 4 = .ok (.iload_n 2, 1) := by decide +kernel
theorem dL_assign_5 : decode cL_assign 5 = .ok (.invokevirtual 54, 3) := by decide +kernel
theorem dL_assign_8 : decode cL_assign 8 = .ok (.i2l, 1) := by decide +kernel
theorem dL_assign_9 : decode cL_assign 9 = .ok (.lastore, 1) := by decide +kernel
theorem dL_assign_10 : decode cL_assign 10 = .ok (.goto 11, 3) := by decide +kernel
theorem dL_assign_13 : decode cL_assign 13 = .ok (.astore 4, 2) := by decide +kernel
theorem dL_assign_15 : decode cL_assign 15 = .ok (.iconst 1, 1) := by decide +kernel
theorem dL_assign_16 : decode cL_assign 16 = .ok (.ireturn, 1) := by decide +kernel
theorem dL_assign_17 : decode cL_assign 17 = .ok (.astore 4, 2) := by decide +kernel
theorem dL_assign_19 : decode cL_assign 19 = .ok (.iconst 2, 1) := by decide +kernel
theorem dL_assign_20 : decode cL_assign 20 = .ok (.ireturn, 1) := by decide +kernel
theorem dL_assign_21 : decode cL_assign 21 = .ok (.iconst 0, 1) := by decide +kernel
theorem dL_assign_22 : decode cL_assign 22 = .ok (.ireturn, 1) := by decide +kernel
set_option maxRecDepth 20000 in
theorem ggL_takeOff_X5_takeOff : GoodIn wsL_takeOff wsX5_takeOff := goodIn_ca (goodIn_ca (goodIn_r _ [7, 8, 9, 10, 11, 12, 13, 14, 6, 15, 16, 17, 18, 19, 20, 21, 22, 23, 24, 25, 26, 27, 28, 29, 30, 31, 32, 33, 34, 35, 36, 37, 38, 39, 40, 41, 42, 43, 44, 45, 46, 47, 48, 49, 50, 51, 52, 53, 54, 55] (by decide +kernel) (by decide +kernel)) (goodIn_sub (fun _ h => List.mem_cons_of_mem _ (List.mem_append_left _ (List.mem_append_right _ h))) (by decide +kernel))) (goodIn_sub (fun _ h => List.mem_cons_of_mem _ (List.mem_append_right _ h)) (by decide +kernel))
set_option maxRecDepth 20000 in
theorem gL_takeOff_X5_takeOff : GoodIn wsL_takeOff (wsV RL 57 RX5 yX5_takeOff wsX5_takeOff) := goodIn_app (goodIn_of _ (by decide +kernel)) ggL_takeOff_X5_takeOff
theorem dL_takeOff_0 : decode cL_takeOff 0 = .ok (.aload_n 2, 1) := by decide +kernel
theorem dL_takeOff_1 : decode cL_takeOff 1 = .ok (.iconst 0, 1) := by decide +kernel
theorem dL_takeOff_2 : decode cL_takeOff 2 = .ok (.aload_n 0, 1) := by decide +kernel
theorem dL_takeOff_3 : decode cL_takeOff 3 = .ok (.iload_n 1, 1) := by decide +kernel
theorem dL_takeOff_4 : decode cL_takeOff 4 = .ok (.invokevirtual 57, 3) := by decide +kernel
theorem dL_takeOff_7 : decode cL_takeOff 7 = .ok (.i2l, 1) := by decide +kernel
theorem dL_takeOff_8 : decode cL_takeOff 8 = .ok (.lastore, 1) := by decide +kernel
theorem dL_takeOff_9 : decode cL_takeOff 9 = .ok (.goto 9, 3) := by decide +kernel
theorem dL_takeOff_12 : decode cL_takeOff 12 = .ok (.astore_n 3, 1) := by decide +kernel
theorem dL_takeOff_13 : decode cL_takeOff 13 = .ok (.iconst 1, 1) := by decide +kernel
theorem dL_takeOff_14 : decode cL_takeOff 14 = .ok (.ireturn, 1) := by decide +kernel
theorem dL_takeOff_15 : decode cL_takeOff 15 = .ok (.astore_n 3, 1) := by decide +kernel
theorem dL_takeOff_16 : decode cL_takeOff 16 = .ok (.iconst 2, 1) := by decide +kernel
theorem dL_takeOff_17 : decode cL_takeOff 17 = .ok (.ireturn, 1) := by decide +kernel
theorem dL_takeOff_18 : decode cL_takeOff 18 = .ok (.iconst 0, 1) := by decide +kernel
theorem dL_takeOff_19 : decode cL_takeOff 19 = .ok (.ireturn, 1) := by decide +kernel
set_option maxRecDepth 20000 in
theorem ggL_orderOf_X5_orderOf : GoodIn wsL_orderOf wsX5_orderOf := goodIn_ca (goodIn_r _ [6, 7, 8, 9, 10, 11, 5, 12, 13, 14, 15, 16, 17, 18, 19, 20, 21, 22, 23, 24, 25, 26, 27, 28, 29, 30, 31, 32, 33, 34, 35, 36, 37, 38, 39, 40, 41] (by decide +kernel) (by decide +kernel)) (goodIn_sub (fun _ h => List.mem_cons_of_mem _ (List.mem_append_right _ h)) (by decide +kernel))
set_option maxRecDepth 20000 in
theorem gL_orderOf_X5_orderOf : GoodIn wsL_orderOf (wsV RL 60 RX5 yX5_orderOf wsX5_orderOf) := goodIn_app (goodIn_of _ (by decide +kernel)) ggL_orderOf_X5_orderOf
theorem dL_orderOf_0 : decode cL_orderOf 0 = .ok (.aload_n 2, 1) := by decide +kernel
theorem dL_orderOf_1 : decode cL_orderOf 1 = .ok (.iconst 0, 1) := by decide +kernel
theorem dL_orderOf_2 : decode cL_orderOf 2 = .ok (.aload_n 0, 1) := by decide +kernel
theorem dL_orderOf_3 : decode cL_orderOf 3 = .ok (.iload_n 1, 1) := by decide +kernel
theorem dL_orderOf_4 : decode cL_orderOf 4 = .ok (.invokevirtual 60, 3) := by decide +kernel
theorem dL_orderOf_7 : decode cL_orderOf 7 = .ok (.i2l, 1) := by decide +kernel
theorem dL_orderOf_8 : decode cL_orderOf 8 = .ok (.lastore, 1) := by decide +kernel
theorem dL_orderOf_9 : decode cL_orderOf 9 = .ok (.goto 6, 3) := by decide +kernel
theorem dL_orderOf_12 : decode cL_orderOf 12 = .ok (.astore_n 3, 1) := by decide +kernel
theorem dL_orderOf_13 : decode cL_orderOf 13 = .ok (.iconst 1, 1) := by decide +kernel
theorem dL_orderOf_14 : decode cL_orderOf 14 = .ok (.ireturn, 1) := by decide +kernel
theorem dL_orderOf_15 : decode cL_orderOf 15 = .ok (.iconst 0, 1) := by decide +kernel
theorem dL_orderOf_16 : decode cL_orderOf 16 = .ok (.ireturn, 1) := by decide +kernel
set_option maxRecDepth 20000 in
theorem ggL_left_X5_left : GoodIn wsL_left wsX5_left := goodIn_ca (goodIn_r _ [6, 7, 8, 9, 10, 5, 11, 12, 13, 14, 15, 16, 17, 18, 19, 20, 21, 22, 23, 24, 25, 26] (by decide +kernel) (by decide +kernel)) (goodIn_sub (fun _ h => List.mem_cons_of_mem _ (List.mem_append_right _ h)) (by decide +kernel))
set_option maxRecDepth 20000 in
theorem gL_left_X5_left : GoodIn wsL_left (wsV RL 63 RX5 yX5_left wsX5_left) := goodIn_app (goodIn_of _ (by decide +kernel)) ggL_left_X5_left
theorem dL_left_0 : decode cL_left 0 = .ok (.aload_n 2, 1) := by decide +kernel
theorem dL_left_1 : decode cL_left 1 = .ok (.iconst 0, 1) := by decide +kernel
theorem dL_left_2 : decode cL_left 2 = .ok (.aload_n 0, 1) := by decide +kernel
theorem dL_left_3 : decode cL_left 3 = .ok (.iload_n 1, 1) := by decide +kernel
theorem dL_left_4 : decode cL_left 4 = .ok (.invokevirtual 63, 3) := by decide +kernel
theorem dL_left_7 : decode cL_left 7 = .ok (.i2l, 1) := by decide +kernel
theorem dL_left_8 : decode cL_left 8 = .ok (.lastore, 1) := by decide +kernel
theorem dL_left_9 : decode cL_left 9 = .ok (.goto 6, 3) := by decide +kernel
theorem dL_left_12 : decode cL_left 12 = .ok (.astore_n 3, 1) := by decide +kernel
theorem dL_left_13 : decode cL_left 13 = .ok (.iconst 1, 1) := by decide +kernel
theorem dL_left_14 : decode cL_left 14 = .ok (.ireturn, 1) := by decide +kernel
theorem dL_left_15 : decode cL_left 15 = .ok (.iconst 0, 1) := by decide +kernel
theorem dL_left_16 : decode cL_left 16 = .ok (.ireturn, 1) := by decide +kernel
set_option maxRecDepth 20000 in
theorem ggL_account_X5_account : GoodIn wsL_account wsX5_account := goodIn_ca (goodIn_r _ [6, 7, 8, 9, 10, 11, 12, 13, 5, 14, 15, 16, 17, 18, 19, 20, 21, 22, 23, 24, 25, 26, 27, 28, 29, 30, 31, 32, 33, 34, 35, 36, 37, 38, 39] (by decide +kernel) (by decide +kernel)) (goodIn_sub (fun _ h => List.mem_cons_of_mem _ (List.mem_append_right _ h)) (by decide +kernel))
set_option maxRecDepth 20000 in
theorem gL_account_X5_account : GoodIn wsL_account (wsV RL 66 RX5 yX5_account wsX5_account) := goodIn_app (goodIn_of _ (by decide +kernel)) ggL_account_X5_account
theorem dL_account_0 : decode cL_account 0 = .ok (.aload_n 3, 1) := by decide +kernel
theorem dL_account_1 : decode cL_account 1 = .ok (.iconst 0, 1) := by decide +kernel
theorem dL_account_2 : decode cL_account 2 = .ok (.aload_n 0, 1) := by decide +kernel
theorem dL_account_3 : decode cL_account 3 = .ok (.iload_n 1, 1) := by decide +kernel
theorem dL_account_4 : decode cL_account 4 = .ok (.iload_n 2, 1) := by decide +kernel
theorem dL_account_5 : decode cL_account 5 = .ok (.invokevirtual 66, 3) := by decide +kernel
theorem dL_account_8 : decode cL_account 8 = .ok (.i2l, 1) := by decide +kernel
theorem dL_account_9 : decode cL_account 9 = .ok (.lastore, 1) := by decide +kernel
theorem dL_account_10 : decode cL_account 10 = .ok (.goto 7, 3) := by decide +kernel
theorem dL_account_13 : decode cL_account 13 = .ok (.astore 4, 2) := by decide +kernel
theorem dL_account_15 : decode cL_account 15 = .ok (.iconst 1, 1) := by decide +kernel
theorem dL_account_16 : decode cL_account 16 = .ok (.ireturn, 1) := by decide +kernel
theorem dL_account_17 : decode cL_account 17 = .ok (.iconst 0, 1) := by decide +kernel
theorem dL_account_18 : decode cL_account 18 = .ok (.ireturn, 1) := by decide +kernel
set_option maxRecDepth 20000 in
theorem ggL_buy_X5_buy : GoodIn wsL_buy wsX5_buy := goodIn_ca (goodIn_ca (goodIn_ca (goodIn_r _ [8, 9, 10, 11, 12, 13, 14, 15, 16, 7, 17, 18, 19, 20, 21, 22, 23, 24, 25, 26, 27, 28, 29, 30, 31, 32, 33, 34, 35, 36, 37, 38, 39, 40, 41, 42, 43, 44, 45, 46, 47, 48, 49, 50, 51, 52, 53, 54, 55, 56, 57, 58, 59, 60, 61, 62, 63, 64, 65, 66, 67, 68, 69, 70, 71, 72, 73, 74, 75, 76, 77, 78, 79, 80, 81, 82, 83, 84, 85, 86, 87, 88, 89, 90, 91, 92, 93, 94] (by decide +kernel) (by decide +kernel)) (goodIn_sub (fun _ h => List.mem_cons_of_mem _ (List.mem_append_left _ (List.mem_append_left _ (List.mem_append_right _ h)))) (by decide +kernel))) (goodIn_sub (fun _ h => List.mem_cons_of_mem _ (List.mem_append_left _ (List.mem_append_right _ h))) (by decide +kernel))) (goodIn_sub (fun _ h => List.mem_cons_of_mem _ (List.mem_append_right _ h)) (by decide +kernel))
set_option maxRecDepth 20000 in
theorem gL_buy_X5_buy : GoodIn wsL_buy (wsV RL 69 RX5 yX5_buy wsX5_buy) := goodIn_app (goodIn_of _ (by decide +kernel)) ggL_buy_X5_buy
theorem dL_buy_0 : decode cL_buy 0 = .ok (.aload_n 3, 1) := by decide +kernel
theorem dL_buy_1 : decode cL_buy 1 = .ok (.iconst 0, 1) := by decide +kernel
theorem dL_buy_2 : decode cL_buy 2 = .ok (.aload_n 0, 1) := by decide +kernel
theorem dL_buy_3 : decode cL_buy 3 = .ok (.iload_n 1, 1) := by decide +kernel
theorem dL_buy_4 : decode cL_buy 4 = .ok (.iload_n 2, 1) := by decide +kernel
theorem dL_buy_5 : decode cL_buy 5 = .ok (.invokevirtual 69, 3) := by decide +kernel
theorem dL_buy_8 : decode cL_buy 8 = .ok (.i2l, 1) := by decide +kernel
theorem dL_buy_9 : decode cL_buy 9 = .ok (.lastore, 1) := by decide +kernel
theorem dL_buy_10 : decode cL_buy 10 = .ok (.goto 15, 3) := by decide +kernel
theorem dL_buy_13 : decode cL_buy 13 = .ok (.astore 4, 2) := by decide +kernel
theorem dL_buy_15 : decode cL_buy 15 = .ok (.iconst 1, 1) := by decide +kernel
theorem dL_buy_16 : decode cL_buy 16 = .ok (.ireturn, 1) := by decide +kernel
theorem dL_buy_17 : decode cL_buy 17 = .ok (.astore 4, 2) := by decide +kernel
theorem dL_buy_19 : decode cL_buy 19 = .ok (.iconst 2, 1) := by decide +kernel
theorem dL_buy_20 : decode cL_buy 20 = .ok (.ireturn, 1) := by decide +kernel
theorem dL_buy_21 : decode cL_buy 21 = .ok (.astore 4, 2) := by decide +kernel
theorem dL_buy_23 : decode cL_buy 23 = .ok (.iconst 3, 1) := by decide +kernel
theorem dL_buy_24 : decode cL_buy 24 = .ok (.ireturn, 1) := by decide +kernel
theorem dL_buy_25 : decode cL_buy 25 = .ok (.iconst 0, 1) := by decide +kernel
theorem dL_buy_26 : decode cL_buy 26 = .ok (.ireturn, 1) := by decide +kernel
set_option maxRecDepth 20000 in
theorem ggL_limit_X5_limit : GoodIn wsL_limit wsX5_limit := goodIn_ca (goodIn_r _ [6, 7, 8, 9, 10, 5, 11, 12, 13, 14, 15, 16, 17, 18, 19, 20, 21, 22, 23, 24, 25, 26, 27, 28, 29, 30, 31, 32, 33, 34, 35, 36, 37, 38, 39, 40, 41, 42, 43, 44, 45, 46, 47, 48, 49, 50, 51, 52, 53, 54, 55, 56, 57, 58, 59, 60, 61, 62, 63, 64, 65, 66, 67, 68, 69, 70, 71, 72, 73] (by decide +kernel) (by decide +kernel)) (goodIn_sub (fun _ h => List.mem_cons_of_mem _ (List.mem_append_right _ h)) (by decide +kernel))
set_option maxRecDepth 20000 in
theorem gL_limit_X5_limit : GoodIn wsL_limit (wsV RL 72 RX5 yX5_limit wsX5_limit) := goodIn_app (goodIn_of _ (by decide +kernel)) ggL_limit_X5_limit
theorem dL_limit_0 : decode cL_limit 0 = .ok (.aload_n 2, 1) := by decide +kernel
theorem dL_limit_1 : decode cL_limit 1 = .ok (.iconst 0, 1) := by decide +kernel
theorem dL_limit_2 : decode cL_limit 2 = .ok (.aload_n 0, 1) := by decide +kernel
theorem dL_limit_3 : decode cL_limit 3 = .ok (.iload_n 1, 1) := by decide +kernel
theorem dL_limit_4 : decode cL_limit 4 = .ok (.invokevirtual 72, 3) := by decide +kernel
theorem dL_limit_7 : decode cL_limit 7 = .ok (.i2l, 1) := by decide +kernel
theorem dL_limit_8 : decode cL_limit 8 = .ok (.lastore, 1) := by decide +kernel
theorem dL_limit_9 : decode cL_limit 9 = .ok (.goto 6, 3) := by decide +kernel
theorem dL_limit_12 : decode cL_limit 12 = .ok (.astore_n 3, 1) := by decide +kernel
theorem dL_limit_13 : decode cL_limit 13 = .ok (.iconst 1, 1) := by decide +kernel
theorem dL_limit_14 : decode cL_limit 14 = .ok (.ireturn, 1) := by decide +kernel
theorem dL_limit_15 : decode cL_limit 15 = .ok (.iconst 0, 1) := by decide +kernel
theorem dL_limit_16 : decode cL_limit 16 = .ok (.ireturn, 1) := by decide +kernel
set_option maxRecDepth 20000 in
theorem ggL_paidOut_X5_paidOut : GoodIn wsL_paidOut wsX5_paidOut := goodIn_ca (goodIn_r _ [6, 7, 8, 9, 10, 11, 5, 12, 13, 14, 15, 16, 17, 18, 19, 20, 21, 22, 23, 24, 25, 26, 27, 28, 29, 30, 31, 32, 33, 34, 35, 36, 37, 38, 39] (by decide +kernel) (by decide +kernel)) (goodIn_sub (fun _ h => List.mem_cons_of_mem _ (List.mem_append_right _ h)) (by decide +kernel))
set_option maxRecDepth 20000 in
theorem gL_paidOut_X5_paidOut : GoodIn wsL_paidOut (wsV RL 75 RX5 yX5_paidOut wsX5_paidOut) := goodIn_app (goodIn_of _ (by decide +kernel)) ggL_paidOut_X5_paidOut
theorem dL_paidOut_0 : decode cL_paidOut 0 = .ok (.aload_n 2, 1) := by decide +kernel
theorem dL_paidOut_1 : decode cL_paidOut 1 = .ok (.iconst 0, 1) := by decide +kernel
theorem dL_paidOut_2 : decode cL_paidOut 2 = .ok (.aload_n 0, 1) := by decide +kernel
theorem dL_paidOut_3 : decode cL_paidOut 3 = .ok (.iload_n 1, 1) := by decide +kernel
theorem dL_paidOut_4 : decode cL_paidOut 4 = .ok (.invokevirtual 75, 3) := by decide +kernel
theorem dL_paidOut_7 : decode cL_paidOut 7 = .ok (.i2l, 1) := by decide +kernel
theorem dL_paidOut_8 : decode cL_paidOut 8 = .ok (.lastore, 1) := by decide +kernel
theorem dL_paidOut_9 : decode cL_paidOut 9 = .ok (.goto 6, 3) := by decide +kernel
theorem dL_paidOut_12 : decode cL_paidOut 12 = .ok (.astore_n 3, 1) := by decide +kernel
theorem dL_paidOut_13 : decode cL_paidOut 13 = .ok (.iconst 1, 1) := by decide +kernel
theorem dL_paidOut_14 : decode cL_paidOut 14 = .ok (.ireturn, 1) := by decide +kernel
theorem dL_paidOut_15 : decode cL_paidOut 15 = .ok (.iconst 0, 1) := by decide +kernel
theorem dL_paidOut_16 : decode cL_paidOut 16 = .ok (.ireturn, 1) := by decide +kernel
set_option maxRecDepth 20000 in
theorem ggL_pass_X5_pass : GoodIn wsL_pass wsX5_pass := goodIn_ca (goodIn_r _ [6, 7, 8, 9, 5, 10, 11, 12, 13, 14, 15, 16, 17, 18, 19, 20, 21, 22, 23, 24, 25, 26, 27, 28, 29, 30, 31, 32, 33, 34, 35, 36, 37, 38, 39, 40, 41, 42, 43, 44, 45, 46, 47, 48, 49, 50, 51, 52, 53, 54, 55, 56, 57, 58, 59, 60, 61, 62, 63, 64, 65, 66, 67, 68, 69, 70, 71, 72, 73, 74, 75, 76, 77, 78, 79, 80, 81, 82, 83, 84, 85, 86, 87, 88, 89, 90, 91, 92, 93, 94, 95, 96, 97, 98, 99, 100, 101, 102, 103, 104, 105, 106, 107, 108, 109, 110, 111, 112, 113, 114, 115, 116, 117] (by decide +kernel) (by decide +kernel)) (goodIn_sub (fun _ h => List.mem_cons_of_mem _ (List.mem_append_right _ h)) (by decide +kernel))
set_option maxRecDepth 20000 in
theorem gL_pass_X5_pass : GoodIn wsL_pass (wsV RL 78 RX5 yX5_pass wsX5_pass) := goodIn_app (goodIn_of _ (by decide +kernel)) ggL_pass_X5_pass
theorem dL_pass_0 : decode cL_pass 0 = .ok (.aload_n 2, 1) := by decide +kernel
theorem dL_pass_1 : decode cL_pass 1 = .ok (.iconst 0, 1) := by decide +kernel
theorem dL_pass_2 : decode cL_pass 2 = .ok (.aload_n 0, 1) := by decide +kernel
theorem dL_pass_3 : decode cL_pass 3 = .ok (.iload_n 1, 1) := by decide +kernel
theorem dL_pass_4 : decode cL_pass 4 = .ok (.invokevirtual 78, 3) := by decide +kernel
theorem dL_pass_7 : decode cL_pass 7 = .ok (.i2l, 1) := by decide +kernel
theorem dL_pass_8 : decode cL_pass 8 = .ok (.lastore, 1) := by decide +kernel
theorem dL_pass_9 : decode cL_pass 9 = .ok (.goto 6, 3) := by decide +kernel
theorem dL_pass_12 : decode cL_pass 12 = .ok (.astore_n 3, 1) := by decide +kernel
theorem dL_pass_13 : decode cL_pass 13 = .ok (.iconst 1, 1) := by decide +kernel
theorem dL_pass_14 : decode cL_pass 14 = .ok (.ireturn, 1) := by decide +kernel
theorem dL_pass_15 : decode cL_pass 15 = .ok (.iconst 0, 1) := by decide +kernel
theorem dL_pass_16 : decode cL_pass 16 = .ok (.ireturn, 1) := by decide +kernel
set_option maxRecDepth 20000 in
theorem ggL_law_X5_init : GoodIn wsL_law wsX5_init := goodIn_r _ [9, 10, 11, 12, 13, 14, 15, 16, 17, 18, 19, 20, 21, 22, 23, 563, 564, 565, 566, 567, 568, 597, 598] (by decide +kernel) (by decide +kernel)
set_option maxRecDepth 20000 in
theorem gL_law_X5_init : GoodIn wsL_law (wsX5_init) := ggL_law_X5_init
set_option maxRecDepth 20000 in
theorem ggL_law_X6_init : GoodIn wsL_law wsX6_init := goodIn_r _ [26, 27, 11, 12, 28, 29, 30, 31, 32, 33, 34, 35, 36, 37, 38, 39, 40, 41, 42, 43, 44, 45, 46, 47, 48, 49, 50, 51, 52, 53, 569, 570, 571, 572, 573, 574, 575, 576, 577, 578, 579, 580, 581, 582, 583, 584, 585, 586, 587, 588, 589, 590, 591, 592, 593, 594, 595, 596] (by decide +kernel) (by decide +kernel)
set_option maxRecDepth 20000 in
theorem gL_law_X6_init : GoodIn wsL_law (wsX6_init) := ggL_law_X6_init
set_option maxRecDepth 20000 in
theorem ggL_law_L_admit : GoodIn wsL_law wsL_admit := goodIn_ca (goodIn_ca (goodIn_r _ [57, 58, 59, 60, 61, 62, 2, 63, 64, 65, 66, 14, 13, 67, 68, 69, 70, 71, 72, 73, 74, 75, 76, 77, 78, 11, 12, 79, 80, 81, 82, 83, 84, 85, 86, 87, 88, 89, 90, 91, 30, 92, 563, 564, 565, 566, 567, 568, 599, 600, 601, 602, 603, 604, 605, 606, 607, 608, 609, 610, 611, 612, 613, 614, 615, 616] (by decide +kernel) (by decide +kernel)) (goodIn_sub (fun _ h => List.mem_append_left _ (List.mem_append_left _ (List.mem_append_left _ (List.mem_append_right _ h)))) (by decide +kernel))) (goodIn_sub (fun _ h => List.mem_append_left _ (List.mem_append_left _ (List.mem_append_right _ h))) (by decide +kernel))
set_option maxRecDepth 20000 in
theorem gL_law_L_admit : GoodIn wsL_law (va_wsS RL 85 yL_admit wsL_admit) := goodIn_app (goodIn_of _ (by decide +kernel)) ggL_law_L_admit
set_option maxRecDepth 20000 in
theorem ggL_law_X6_admit : GoodIn wsL_law wsX6_admit := goodIn_r _ [96, 97, 31, 98, 32, 33, 34, 39, 99, 100, 5, 101, 102, 103, 104, 105, 106, 569, 570, 571, 572, 573, 574, 575, 576, 577, 578, 579, 580, 581, 582, 583, 584, 585, 586, 587, 588, 589, 590, 591, 592, 593, 594, 595, 596] (by decide +kernel) (by decide +kernel)
set_option maxRecDepth 20000 in
theorem gL_law_X6_admit : GoodIn wsL_law (wsV RL 90 RX6 yX6_admit wsX6_admit) := goodIn_app (goodIn_of _ (by decide +kernel)) ggL_law_X6_admit
set_option maxRecDepth 20000 in
theorem ggL_law_X6_thrown : GoodIn wsL_law wsX6_thrown := goodIn_r _ [110, 106, 569, 570, 571, 572, 573, 574, 575, 576, 577, 578, 579, 580, 581, 582, 583, 584, 585, 586, 587, 588, 589, 590, 591, 592, 593, 594, 595, 596] (by decide +kernel) (by decide +kernel)
set_option maxRecDepth 20000 in
theorem gL_law_X6_thrown : GoodIn wsL_law (wsV RL 91 RX6 yX6_thrown wsX6_thrown) := goodIn_app (goodIn_of _ (by decide +kernel)) ggL_law_X6_thrown
set_option maxRecDepth 20000 in
theorem ggL_law_L_course : GoodIn wsL_law wsL_course := goodIn_ca (goodIn_ca (goodIn_ca (goodIn_ca (goodIn_r _ [113, 114, 58, 59, 115, 116, 117, 2, 118, 119, 120, 121, 122, 123, 124, 14, 125, 126, 127, 70, 71, 72, 73, 74, 128, 129, 130, 64, 65, 131, 132, 133, 134, 68, 135, 136, 88, 137, 138, 139, 140, 141, 142, 143, 144, 145, 146, 147, 79, 148, 149, 150, 151, 152, 153, 154, 155, 156, 157, 86, 87, 158, 159, 160, 161, 162, 163, 563, 564, 565, 566, 567, 568, 599, 600, 601, 602, 603, 604, 605, 606, 607, 608, 609, 610, 611, 612] (by decide +kernel) (by decide +kernel)) (goodIn_sub (fun _ h => List.mem_append_left _ (List.mem_append_right _ h)) (by decide +kernel))) (goodIn_sub (fun _ h => List.mem_append_left _ (List.mem_append_left _ (List.mem_append_right _ h))) (by decide +kernel))) (goodIn_sub (fun _ h => List.mem_append_left _ (List.mem_append_left _ (List.mem_append_left _ (List.mem_append_right _ h)))) (by decide +kernel))) (goodIn_sub (fun _ h => List.mem_append_right _ h) (by decide +kernel))
set_option maxRecDepth 20000 in
theorem gL_law_L_course : GoodIn wsL_law (va_wsS RL 95 yL_course wsL_course) := goodIn_app (goodIn_of _ (by decide +kernel)) ggL_law_L_course
set_option maxRecDepth 20000 in
theorem ggL_law_X6_course : GoodIn wsL_law wsX6_course := goodIn_r _ [167, 29, 37, 33, 36, 168, 169, 170, 5, 171, 97, 99, 100, 101, 102, 103, 104, 105, 106, 172, 173, 174, 175, 34, 176, 177, 178, 179, 32, 40, 31, 180, 181, 182, 183, 35, 184, 185, 186, 187, 38, 48, 45, 569, 570, 571, 572, 573, 574, 575, 576, 577, 578, 579, 580, 581, 582, 583, 584, 585, 586, 587, 588, 589, 590, 591, 592, 593, 594, 595, 596] (by decide +kernel) (by decide +kernel)
set_option maxRecDepth 20000 in
theorem gL_law_X6_course : GoodIn wsL_law (wsV RL 98 RX6 yX6_course wsX6_course) := goodIn_app (goodIn_of _ (by decide +kernel)) ggL_law_X6_course
set_option maxRecDepth 20000 in
theorem ggL_law_L_offence : GoodIn wsL_law wsL_offence := goodIn_ca (goodIn_ca (goodIn_ca (goodIn_ca (goodIn_r _ [190, 114, 58, 59, 191, 192, 193, 2, 194, 69, 119, 120, 121, 122, 123, 124, 14, 70, 71, 72, 73, 74, 128, 129, 130, 64, 65, 131, 195, 196, 197, 68, 198, 136, 143, 81, 79, 80, 199, 200, 158, 139, 140, 141, 142, 137, 201, 202, 203, 204, 11, 12, 205, 206, 207, 208, 209, 210, 211, 212, 213, 214, 215, 563, 564, 565, 566, 567, 568, 599, 600, 601, 602, 603, 604, 605, 606, 607, 608, 609, 610, 611, 612, 617, 618, 619, 620, 621, 622, 623, 624, 625, 626, 597, 598] (by decide +kernel) (by decide +kernel)) (goodIn_sub (fun _ h => List.mem_append_left _ (List.mem_append_right _ h)) (by decide +kernel))) (goodIn_sub (fun _ h => List.mem_append_left _ (List.mem_append_left _ (List.mem_append_right _ h))) (by decide +kernel))) (goodIn_sub (fun _ h => List.mem_append_left _ (List.mem_append_left _ (List.mem_append_left _ (List.mem_append_right _ h)))) (by decide +kernel))) (goodIn_sub (fun _ h => List.mem_append_right _ h) (by decide +kernel))
set_option maxRecDepth 20000 in
theorem gL_law_L_offence : GoodIn wsL_law (va_wsS RL 99 yL_offence wsL_offence) := goodIn_app (goodIn_of _ (by decide +kernel)) ggL_law_L_offence
set_option maxRecDepth 20000 in
theorem ggL_law_X6_offence : GoodIn wsL_law wsX6_offence := goodIn_r _ [219, 29, 37, 38, 45, 46, 98, 47, 34, 48, 39, 168, 169, 170, 5, 171, 97, 99, 100, 101, 102, 103, 104, 105, 106, 569, 570, 571, 572, 573, 574, 575, 576, 577, 578, 579, 580, 581, 582, 583, 584, 585, 586, 587, 588, 589, 590, 591, 592, 593, 594, 595, 596] (by decide +kernel) (by decide +kernel)
set_option maxRecDepth 20000 in
theorem gL_law_X6_offence : GoodIn wsL_law (wsV RL 101 RX6 yX6_offence wsX6_offence) := goodIn_app (goodIn_of _ (by decide +kernel)) ggL_law_X6_offence
set_option maxRecDepth 20000 in
theorem ggL_law_L_appeal : GoodIn wsL_law wsL_appeal := goodIn_ca (goodIn_ca (goodIn_r _ [222, 114, 59, 223, 224, 225, 2, 226, 64, 65, 227, 119, 120, 121, 122, 123, 124, 14, 228, 229, 230, 231, 128, 129, 130, 131, 232, 233, 234, 68, 235, 236, 158, 237, 238, 144, 145, 146, 147, 79, 148, 149, 150, 151, 152, 153, 154, 155, 156, 157, 86, 87, 159, 160, 161, 162, 163, 138, 617, 618, 619, 620, 563, 564, 565, 566, 567, 568, 599, 600, 601, 602, 603, 604, 605, 606, 607, 608, 609, 610, 611, 612] (by decide +kernel) (by decide +kernel)) (goodIn_sub (fun _ h => List.mem_append_left _ (List.mem_append_left _ (List.mem_append_left _ (List.mem_append_right _ h)))) (by decide +kernel))) (goodIn_sub (fun _ h => List.mem_append_left _ (List.mem_append_right _ h)) (by decide +kernel))
set_option maxRecDepth 20000 in
theorem gL_law_L_appeal : GoodIn wsL_law (va_wsS RL 102 yL_appeal wsL_appeal) := goodIn_app (goodIn_of _ (by decide +kernel)) ggL_law_L_appeal
set_option maxRecDepth 20000 in
theorem ggL_law_X6_appeal : GoodIn wsL_law wsX6_appeal := goodIn_r _ [242, 38, 29, 48, 47, 168, 169, 170, 5, 171, 97, 99, 100, 101, 102, 103, 104, 105, 106, 172, 173, 174, 175, 34, 176, 177, 178, 179, 32, 40, 31, 180, 181, 182, 183, 35, 36, 184, 185, 186, 187, 45, 569, 570, 571, 572, 573, 574, 575, 576, 577, 578, 579, 580, 581, 582, 583, 584, 585, 586, 587, 588, 589, 590, 591, 592, 593, 594, 595, 596] (by decide +kernel) (by decide +kernel)
set_option maxRecDepth 20000 in
theorem gL_law_X6_appeal : GoodIn wsL_law (wsV RL 104 RX6 yX6_appeal wsX6_appeal) := goodIn_app (goodIn_of _ (by decide +kernel)) ggL_law_X6_appeal
set_option maxRecDepth 20000 in
theorem ggL_law_L_release : GoodIn wsL_law wsL_release := goodIn_ca (goodIn_r _ [245, 114, 246, 247, 248, 2, 249, 119, 120, 121, 122, 123, 124, 14, 152, 153, 154, 68, 155, 156, 157, 86, 87, 148, 149, 150, 151, 158, 159, 160, 161, 162, 163, 138, 563, 564, 565, 566, 567, 568, 599, 600, 601, 602, 603, 604, 605, 606, 607, 608, 609, 610, 611, 612] (by decide +kernel) (by decide +kernel)) (goodIn_sub (fun _ h => List.mem_append_left _ (List.mem_append_right _ h)) (by decide +kernel))
set_option maxRecDepth 20000 in
theorem gL_law_L_release : GoodIn wsL_law (va_wsS RL 105 yL_release wsL_release) := goodIn_app (goodIn_of _ (by decide +kernel)) ggL_law_L_release
set_option maxRecDepth 20000 in
theorem ggL_law_X6_release : GoodIn wsL_law wsX6_release := goodIn_r _ [253, 168, 169, 170, 5, 171, 97, 99, 100, 101, 102, 103, 104, 105, 106, 176, 177, 178, 179, 32, 29, 40, 31, 180, 181, 182, 183, 35, 36, 184, 185, 186, 187, 38, 48, 45, 569, 570, 571, 572, 573, 574, 575, 576, 577, 578, 579, 580, 581, 582, 583, 584, 585, 586, 587, 588, 589, 590, 591, 592, 593, 594, 595, 596] (by decide +kernel) (by decide +kernel)
set_option maxRecDepth 20000 in
theorem gL_law_X6_release : GoodIn wsL_law (wsV RL 108 RX6 yX6_release wsX6_release) := goodIn_app (goodIn_of _ (by decide +kernel)) ggL_law_X6_release
set_option maxRecDepth 20000 in
theorem ggL_law_L_isIn : GoodIn wsL_law wsL_isIn := goodIn_ca (goodIn_r _ [256, 114, 257, 258, 259, 2, 260, 131, 119, 120, 121, 122, 123, 124, 14, 599, 600, 601, 602, 603, 604, 605, 606, 607, 608, 609, 610, 611, 612, 563, 564, 565, 566, 567, 568] (by decide +kernel) (by decide +kernel)) (goodIn_sub (fun _ h => List.mem_append_left _ (List.mem_append_right _ h)) (by decide +kernel))
set_option maxRecDepth 20000 in
theorem gL_law_L_isIn : GoodIn wsL_law (va_wsS RL 109 yL_isIn wsL_isIn) := goodIn_app (goodIn_of _ (by decide +kernel)) ggL_law_L_isIn
set_option maxRecDepth 20000 in
theorem ggL_law_X6_isIn : GoodIn wsL_law wsX6_isIn := goodIn_r _ [264, 29, 168, 169, 170, 5, 171, 97, 99, 100, 101, 102, 103, 104, 105, 106, 569, 570, 571, 572, 573, 574, 575, 576, 577, 578, 579, 580, 581, 582, 583, 584, 585, 586, 587, 588, 589, 590, 591, 592, 593, 594, 595, 596] (by decide +kernel) (by decide +kernel)
set_option maxRecDepth 20000 in
theorem gL_law_X6_isIn : GoodIn wsL_law (wsV RL 111 RX6 yX6_isIn wsX6_isIn) := goodIn_app (goodIn_of _ (by decide +kernel)) ggL_law_X6_isIn
set_option maxRecDepth 20000 in
theorem ggL_law_L_regime : GoodIn wsL_law wsL_regime := goodIn_ca (goodIn_r _ [267, 114, 268, 269, 270, 2, 271, 272, 119, 120, 121, 122, 123, 124, 14, 599, 600, 601, 602, 603, 604, 605, 606, 607, 608, 609, 610, 611, 612, 563, 564, 565, 566, 567, 568] (by decide +kernel) (by decide +kernel)) (goodIn_sub (fun _ h => List.mem_append_left _ (List.mem_append_right _ h)) (by decide +kernel))
set_option maxRecDepth 20000 in
theorem gL_law_L_regime : GoodIn wsL_law (va_wsS RL 112 yL_regime wsL_regime) := goodIn_app (goodIn_of _ (by decide +kernel)) ggL_law_L_regime
set_option maxRecDepth 20000 in
theorem ggL_law_X6_regime : GoodIn wsL_law wsX6_regime := goodIn_r _ [276, 34, 277, 278, 279, 5, 280, 168, 169, 170, 171, 97, 99, 100, 101, 102, 103, 104, 105, 106, 569, 570, 571, 572, 573, 574, 575, 576, 577, 578, 579, 580, 581, 582, 583, 584, 585, 586, 587, 588, 589, 590, 591, 592, 593, 594, 595, 596] (by decide +kernel) (by decide +kernel)
set_option maxRecDepth 20000 in
theorem gL_law_X6_regime : GoodIn wsL_law (wsV RL 114 RX6 yX6_regime wsX6_regime) := goodIn_app (goodIn_of _ (by decide +kernel)) ggL_law_X6_regime
set_option maxRecDepth 20000 in
theorem ggL_law_L_papers : GoodIn wsL_law wsL_papers := goodIn_ca (goodIn_r _ [283, 114, 284, 285, 286, 2, 287, 288, 119, 120, 121, 122, 123, 124, 14, 289, 160, 161, 68, 162, 163, 138, 599, 600, 601, 602, 603, 604, 605, 606, 607, 608, 609, 610, 611, 612, 563, 564, 565, 566, 567, 568] (by decide +kernel) (by decide +kernel)) (goodIn_sub (fun _ h => List.mem_append_left _ (List.mem_append_right _ h)) (by decide +kernel))
set_option maxRecDepth 20000 in
theorem gL_law_L_papers : GoodIn wsL_law (va_wsS RL 115 yL_papers wsL_papers) := goodIn_app (goodIn_of _ (by decide +kernel)) ggL_law_L_papers
set_option maxRecDepth 20000 in
theorem ggL_law_X6_papers : GoodIn wsL_law wsX6_papers := goodIn_r _ [293, 168, 169, 170, 5, 171, 97, 99, 100, 101, 102, 103, 104, 105, 106, 184, 185, 186, 187, 38, 48, 45, 180, 181, 182, 183, 35, 36, 569, 570, 571, 572, 573, 574, 575, 576, 577, 578, 579, 580, 581, 582, 583, 584, 585, 586, 587, 588, 589, 590, 591, 592, 593, 594, 595, 596] (by decide +kernel) (by decide +kernel)
set_option maxRecDepth 20000 in
theorem gL_law_X6_papers : GoodIn wsL_law (wsV RL 118 RX6 yX6_papers wsX6_papers) := goodIn_app (goodIn_of _ (by decide +kernel)) ggL_law_X6_papers
set_option maxRecDepth 20000 in
theorem ggL_law_L_setTools : GoodIn wsL_law wsL_setTools := goodIn_ca (goodIn_ca (goodIn_ca (goodIn_r _ [296, 114, 58, 59, 297, 298, 299, 2, 300, 64, 65, 301, 302, 303, 304, 305, 306, 123, 124, 18, 70, 71, 72, 73, 74, 597, 598, 563, 564, 565, 566, 567, 568] (by decide +kernel) (by decide +kernel)) (goodIn_sub (fun _ h => List.mem_append_left _ (List.mem_append_left _ (List.mem_append_left _ (List.mem_append_right _ h)))) (by decide +kernel))) (goodIn_sub (fun _ h => List.mem_append_left _ (List.mem_append_right _ h)) (by decide +kernel))) (goodIn_sub (fun _ h => List.mem_append_left _ (List.mem_append_left _ (List.mem_append_right _ h))) (by decide +kernel))
set_option maxRecDepth 20000 in
theorem gL_law_L_setTools : GoodIn wsL_law (va_wsS RL 119 yL_setTools wsL_setTools) := goodIn_app (goodIn_of _ (by decide +kernel)) ggL_law_L_setTools
set_option maxRecDepth 20000 in
theorem ggL_law_X6_setTools : GoodIn wsL_law wsX6_setTools := goodIn_r _ [310, 49, 311, 312, 5, 313, 99, 100, 101, 314, 315, 316, 317, 97, 39, 51, 102, 103, 104, 105, 106, 569, 570, 571, 572, 573, 574, 575, 576, 577, 578, 579, 580, 581, 582, 583, 584, 585, 586, 587, 588, 589, 590, 591, 592, 593, 594, 595, 596] (by decide +kernel) (by decide +kernel)
set_option maxRecDepth 20000 in
theorem gL_law_X6_setTools : GoodIn wsL_law (wsV RL 121 RX6 yX6_setTools wsX6_setTools) := goodIn_app (goodIn_of _ (by decide +kernel)) ggL_law_X6_setTools
set_option maxRecDepth 20000 in
theorem ggL_law_L_toolsOut : GoodIn wsL_law wsL_toolsOut := goodIn_ca (goodIn_r _ [320, 114, 321, 322, 323, 2, 324, 301, 303, 304, 305, 306, 123, 124, 18, 597, 598, 563, 564, 565, 566, 567, 568] (by decide +kernel) (by decide +kernel)) (goodIn_sub (fun _ h => List.mem_append_left _ (List.mem_append_right _ h)) (by decide +kernel))
set_option maxRecDepth 20000 in
theorem gL_law_L_toolsOut : GoodIn wsL_law (va_wsS RL 122 yL_toolsOut wsL_toolsOut) := goodIn_app (goodIn_of _ (by decide +kernel)) ggL_law_L_toolsOut
set_option maxRecDepth 20000 in
theorem ggL_law_X6_toolsOut : GoodIn wsL_law wsX6_toolsOut := goodIn_r _ [328, 311, 312, 5, 313, 99, 100, 101, 102, 103, 104, 105, 106, 314, 315, 316, 317, 97, 39, 51, 569, 570, 571, 572, 573, 574, 575, 576, 577, 578, 579, 580, 581, 582, 583, 584, 585, 586, 587, 588, 589, 590, 591, 592, 593, 594, 595, 596] (by decide +kernel) (by decide +kernel)
set_option maxRecDepth 20000 in
theorem gL_law_X6_toolsOut : GoodIn wsL_law (wsV RL 124 RX6 yX6_toolsOut wsX6_toolsOut) := goodIn_app (goodIn_of _ (by decide +kernel)) ggL_law_X6_toolsOut
set_option maxRecDepth 20000 in
theorem ggL_law_L_addOrder : GoodIn wsL_law wsL_addOrder := goodIn_ca (goodIn_ca (goodIn_ca (goodIn_r _ [331, 114, 58, 59, 332, 333, 334, 2, 335, 64, 65, 336, 16, 15, 337, 338, 125, 126, 127, 123, 124, 303, 304, 305, 306, 18, 70, 71, 72, 73, 74, 339, 340, 341, 342, 11, 12, 343, 344, 345, 346, 347, 563, 564, 565, 566, 567, 568, 621, 622, 623, 624, 625, 626] (by decide +kernel) (by decide +kernel)) (goodIn_sub (fun _ h => List.mem_append_left _ (List.mem_append_left _ (List.mem_append_left _ (List.mem_append_right _ h)))) (by decide +kernel))) (goodIn_sub (fun _ h => List.mem_append_left _ (List.mem_append_right _ h)) (by decide +kernel))) (goodIn_sub (fun _ h => List.mem_append_left _ (List.mem_append_left _ (List.mem_append_right _ h))) (by decide +kernel))
set_option maxRecDepth 20000 in
theorem gL_law_L_addOrder : GoodIn wsL_law (va_wsS RL 125 yL_addOrder wsL_addOrder) := goodIn_app (goodIn_of _ (by decide +kernel)) ggL_law_L_addOrder
set_option maxRecDepth 20000 in
theorem ggL_law_X6_addOrder : GoodIn wsL_law wsX6_addOrder := goodIn_r _ [351, 352, 50, 51, 52, 53, 99, 100, 5, 101, 311, 312, 313, 102, 103, 104, 105, 106, 569, 570, 571, 572, 573, 574, 575, 576, 577, 578, 579, 580, 581, 582, 583, 584, 585, 586, 587, 588, 589, 590, 591, 592, 593, 594, 595, 596] (by decide +kernel) (by decide +kernel)
set_option maxRecDepth 20000 in
theorem gL_law_X6_addOrder : GoodIn wsL_law (wsV RL 128 RX6 yX6_addOrder wsX6_addOrder) := goodIn_app (goodIn_of _ (by decide +kernel)) ggL_law_X6_addOrder
set_option maxRecDepth 20000 in
theorem ggL_law_L_assign : GoodIn wsL_law wsL_assign := goodIn_ca (goodIn_ca (goodIn_r _ [355, 114, 59, 356, 357, 358, 2, 359, 64, 65, 360, 361, 362, 119, 120, 121, 122, 123, 124, 14, 363, 364, 365, 366, 16, 128, 129, 130, 131, 367, 368, 369, 68, 370, 88, 371, 372, 373, 338, 374, 346, 375, 376, 377, 378, 345, 379, 380, 381, 382, 383, 384, 212, 213, 214, 215, 599, 600, 601, 602, 603, 604, 605, 606, 607, 608, 609, 610, 611, 612, 621, 622, 623, 624, 625, 626, 563, 564, 565, 566, 567, 568, 597, 598] (by decide +kernel) (by decide +kernel)) (goodIn_sub (fun _ h => List.mem_append_left _ (List.mem_append_left _ (List.mem_append_left _ (List.mem_append_right _ h)))) (by decide +kernel))) (goodIn_sub (fun _ h => List.mem_append_left _ (List.mem_append_right _ h)) (by decide +kernel))
set_option maxRecDepth 20000 in
theorem gL_law_L_assign : GoodIn wsL_law (va_wsS RL 129 yL_assign wsL_assign) := goodIn_app (goodIn_of _ (by decide +kernel)) ggL_law_L_assign
set_option maxRecDepth 20000 in
theorem ggL_law_X6_assign : GoodIn wsL_law wsX6_assign := goodIn_r _ [388, 29, 39, 33, 50, 52, 51, 49, 97, 168, 169, 170, 5, 171, 99, 100, 101, 389, 390, 391, 392, 352, 314, 315, 316, 317, 102, 103, 104, 105, 106, 569, 570, 571, 572, 573, 574, 575, 576, 577, 578, 579, 580, 581, 582, 583, 584, 585, 586, 587, 588, 589, 590, 591, 592, 593, 594, 595, 596] (by decide +kernel) (by decide +kernel)
set_option maxRecDepth 20000 in
theorem gL_law_X6_assign : GoodIn wsL_law (wsV RL 131 RX6 yX6_assign wsX6_assign) := goodIn_app (goodIn_of _ (by decide +kernel)) ggL_law_X6_assign
set_option maxRecDepth 20000 in
theorem ggL_law_L_takeOff : GoodIn wsL_law wsL_takeOff := goodIn_ca (goodIn_ca (goodIn_r _ [395, 114, 59, 396, 397, 398, 2, 399, 64, 65, 360, 400, 119, 120, 121, 122, 123, 124, 14, 401, 209, 210, 68, 211, 212, 213, 214, 215, 599, 600, 601, 602, 603, 604, 605, 606, 607, 608, 609, 610, 611, 612, 621, 622, 623, 624, 625, 626, 563, 564, 565, 566, 567, 568, 597, 598] (by decide +kernel) (by decide +kernel)) (goodIn_sub (fun _ h => List.mem_append_left _ (List.mem_append_left _ (List.mem_append_left _ (List.mem_append_right _ h)))) (by decide +kernel))) (goodIn_sub (fun _ h => List.mem_append_left _ (List.mem_append_right _ h)) (by decide +kernel))
set_option maxRecDepth 20000 in
theorem gL_law_L_takeOff : GoodIn wsL_law (va_wsS RL 132 yL_takeOff wsL_takeOff) := goodIn_app (goodIn_of _ (by decide +kernel)) ggL_law_L_takeOff
set_option maxRecDepth 20000 in
theorem ggL_law_X6_takeOff : GoodIn wsL_law wsX6_takeOff := goodIn_r _ [405, 39, 168, 169, 170, 5, 171, 97, 99, 100, 101, 102, 103, 104, 105, 106, 569, 570, 571, 572, 573, 574, 575, 576, 577, 578, 579, 580, 581, 582, 583, 584, 585, 586, 587, 588, 589, 590, 591, 592, 593, 594, 595, 596] (by decide +kernel) (by decide +kernel)
set_option maxRecDepth 20000 in
theorem gL_law_X6_takeOff : GoodIn wsL_law (wsV RL 134 RX6 yX6_takeOff wsX6_takeOff) := goodIn_app (goodIn_of _ (by decide +kernel)) ggL_law_X6_takeOff
set_option maxRecDepth 20000 in
theorem ggL_law_L_orderOf : GoodIn wsL_law wsL_orderOf := goodIn_ca (goodIn_r _ [408, 114, 409, 410, 411, 2, 412, 360, 400, 119, 120, 121, 122, 123, 124, 14, 599, 600, 601, 602, 603, 604, 605, 606, 607, 608, 609, 610, 611, 612, 621, 622, 623, 624, 625, 626, 563, 564, 565, 566, 567, 568] (by decide +kernel) (by decide +kernel)) (goodIn_sub (fun _ h => List.mem_append_left _ (List.mem_append_right _ h)) (by decide +kernel))
set_option maxRecDepth 20000 in
theorem gL_law_L_orderOf : GoodIn wsL_law (va_wsS RL 135 yL_orderOf wsL_orderOf) := goodIn_app (goodIn_of _ (by decide +kernel)) ggL_law_L_orderOf
set_option maxRecDepth 20000 in
theorem ggL_law_X6_orderOf : GoodIn wsL_law wsX6_orderOf := goodIn_r _ [416, 39, 277, 278, 279, 5, 280, 168, 169, 170, 171, 97, 99, 100, 101, 102, 103, 104, 105, 106, 569, 570, 571, 572, 573, 574, 575, 576, 577, 578, 579, 580, 581, 582, 583, 584, 585, 586, 587, 588, 589, 590, 591, 592, 593, 594, 595, 596] (by decide +kernel) (by decide +kernel)
set_option maxRecDepth 20000 in
theorem gL_law_X6_orderOf : GoodIn wsL_law (wsV RL 137 RX6 yX6_orderOf wsX6_orderOf) := goodIn_app (goodIn_of _ (by decide +kernel)) ggL_law_X6_orderOf
set_option maxRecDepth 20000 in
theorem ggL_law_L_left : GoodIn wsL_law wsL_left := goodIn_ca (goodIn_r _ [419, 114, 420, 421, 422, 2, 423, 424, 363, 364, 365, 366, 123, 124, 16, 621, 622, 623, 624, 625, 626, 563, 564, 565, 566, 567, 568] (by decide +kernel) (by decide +kernel)) (goodIn_sub (fun _ h => List.mem_append_left _ (List.mem_append_right _ h)) (by decide +kernel))
set_option maxRecDepth 20000 in
theorem gL_law_L_left : GoodIn wsL_law (va_wsS RL 138 yL_left wsL_left) := goodIn_app (goodIn_of _ (by decide +kernel)) ggL_law_L_left
set_option maxRecDepth 20000 in
theorem ggL_law_X6_left : GoodIn wsL_law wsX6_left := goodIn_r _ [428, 52, 389, 390, 391, 5, 392, 352, 99, 100, 101, 102, 103, 104, 105, 106, 569, 570, 571, 572, 573, 574, 575, 576, 577, 578, 579, 580, 581, 582, 583, 584, 585, 586, 587, 588, 589, 590, 591, 592, 593, 594, 595, 596] (by decide +kernel) (by decide +kernel)
set_option maxRecDepth 20000 in
theorem gL_law_X6_left : GoodIn wsL_law (wsV RL 140 RX6 yX6_left wsX6_left) := goodIn_app (goodIn_of _ (by decide +kernel)) ggL_law_X6_left
set_option maxRecDepth 20000 in
theorem ggL_law_L_account : GoodIn wsL_law wsL_account := goodIn_ca (goodIn_r _ [431, 114, 432, 433, 434, 2, 435, 123, 124, 436, 437, 119, 120, 121, 122, 14, 599, 600, 601, 602, 603, 604, 605, 606, 607, 608, 609, 610, 611, 612, 613, 614, 615, 616, 563, 564, 565, 566, 567, 568] (by decide +kernel) (by decide +kernel)) (goodIn_sub (fun _ h => List.mem_append_left _ (List.mem_append_right _ h)) (by decide +kernel))
set_option maxRecDepth 20000 in
theorem gL_law_L_account : GoodIn wsL_law (va_wsS RL 141 yL_account wsL_account) := goodIn_app (goodIn_of _ (by decide +kernel)) ggL_law_L_account
set_option maxRecDepth 20000 in
theorem ggL_law_X6_account : GoodIn wsL_law wsX6_account := goodIn_r _ [441, 42, 168, 169, 170, 5, 171, 97, 99, 100, 101, 102, 103, 104, 105, 106, 569, 570, 571, 572, 573, 574, 575, 576, 577, 578, 579, 580, 581, 582, 583, 584, 585, 586, 587, 588, 589, 590, 591, 592, 593, 594, 595, 596] (by decide +kernel) (by decide +kernel)
set_option maxRecDepth 20000 in
theorem gL_law_X6_account : GoodIn wsL_law (wsV RL 143 RX6 yX6_account wsX6_account) := goodIn_app (goodIn_of _ (by decide +kernel)) ggL_law_X6_account
set_option maxRecDepth 20000 in
theorem ggL_law_L_buy : GoodIn wsL_law wsL_buy := goodIn_ca (goodIn_ca (goodIn_ca (goodIn_r _ [444, 114, 58, 59, 445, 446, 447, 2, 448, 64, 65, 436, 437, 69, 119, 120, 121, 122, 123, 124, 14, 70, 71, 72, 73, 74, 128, 129, 130, 131, 449, 450, 451, 68, 452, 156, 85, 453, 454, 150, 455, 456, 457, 458, 459, 79, 81, 460, 461, 462, 200, 463, 464, 205, 465, 466, 467, 84, 468, 469, 470, 471, 472, 473, 474, 92, 475, 599, 600, 601, 602, 603, 604, 605, 606, 607, 608, 609, 610, 611, 612, 613, 614, 615, 616, 563, 564, 565, 566, 567, 568, 617, 618, 619, 620] (by decide +kernel) (by decide +kernel)) (goodIn_sub (fun _ h => List.mem_append_left _ (List.mem_append_left _ (List.mem_append_left _ (List.mem_append_right _ h)))) (by decide +kernel))) (goodIn_sub (fun _ h => List.mem_append_left _ (List.mem_append_right _ h)) (by decide +kernel))) (goodIn_sub (fun _ h => List.mem_append_left _ (List.mem_append_left _ (List.mem_append_right _ h))) (by decide +kernel))
set_option maxRecDepth 20000 in
theorem gL_law_L_buy : GoodIn wsL_law (va_wsS RL 144 yL_buy wsL_buy) := goodIn_app (goodIn_of _ (by decide +kernel)) ggL_law_L_buy
set_option maxRecDepth 20000 in
theorem ggL_law_X6_buy : GoodIn wsL_law wsX6_buy := goodIn_r _ [479, 29, 42, 44, 43, 98, 168, 169, 170, 5, 171, 97, 99, 100, 101, 480, 481, 482, 483, 34, 38, 48, 46, 102, 103, 104, 105, 106, 569, 570, 571, 572, 573, 574, 575, 576, 577, 578, 579, 580, 581, 582, 583, 584, 585, 586, 587, 588, 589, 590, 591, 592, 593, 594, 595, 596] (by decide +kernel) (by decide +kernel)
set_option maxRecDepth 20000 in
theorem gL_law_X6_buy : GoodIn wsL_law (wsV RL 146 RX6 yX6_buy wsX6_buy) := goodIn_app (goodIn_of _ (by decide +kernel)) ggL_law_X6_buy
set_option maxRecDepth 20000 in
theorem ggL_law_L_limit : GoodIn wsL_law wsL_limit := goodIn_ca (goodIn_r _ [486, 114, 487, 488, 489, 2, 490, 69, 119, 120, 121, 122, 123, 124, 14, 449, 450, 451, 68, 452, 156, 85, 453, 454, 150, 455, 456, 457, 458, 459, 79, 81, 460, 461, 462, 200, 463, 464, 205, 465, 466, 467, 84, 468, 469, 470, 563, 564, 565, 566, 567, 568, 599, 600, 601, 602, 603, 604, 605, 606, 607, 608, 609, 610, 611, 612, 617, 618, 619, 620, 613, 614, 615, 616] (by decide +kernel) (by decide +kernel)) (goodIn_sub (fun _ h => List.mem_append_left _ (List.mem_append_right _ h)) (by decide +kernel))
set_option maxRecDepth 20000 in
theorem gL_law_L_limit : GoodIn wsL_law (va_wsS RL 147 yL_limit wsL_limit) := goodIn_app (goodIn_of _ (by decide +kernel)) ggL_law_L_limit
set_option maxRecDepth 20000 in
theorem ggL_law_X6_limit : GoodIn wsL_law wsX6_limit := goodIn_r _ [494, 168, 169, 170, 5, 171, 97, 99, 100, 101, 102, 103, 104, 105, 106, 480, 481, 482, 483, 34, 38, 48, 98, 46, 43, 44, 29, 569, 570, 571, 572, 573, 574, 575, 576, 577, 578, 579, 580, 581, 582, 583, 584, 585, 586, 587, 588, 589, 590, 591, 592, 593, 594, 595, 596] (by decide +kernel) (by decide +kernel)
set_option maxRecDepth 20000 in
theorem gL_law_X6_limit : GoodIn wsL_law (wsV RL 149 RX6 yX6_limit wsX6_limit) := goodIn_app (goodIn_of _ (by decide +kernel)) ggL_law_X6_limit
set_option maxRecDepth 20000 in
theorem ggL_law_L_paidOut : GoodIn wsL_law wsL_paidOut := goodIn_ca (goodIn_r _ [497, 114, 498, 499, 500, 2, 501, 436, 502, 119, 120, 121, 122, 123, 124, 14, 599, 600, 601, 602, 603, 604, 605, 606, 607, 608, 609, 610, 611, 612, 613, 614, 615, 616, 563, 564, 565, 566, 567, 568] (by decide +kernel) (by decide +kernel)) (goodIn_sub (fun _ h => List.mem_append_left _ (List.mem_append_right _ h)) (by decide +kernel))
set_option maxRecDepth 20000 in
theorem gL_law_L_paidOut : GoodIn wsL_law (va_wsS RL 150 yL_paidOut wsL_paidOut) := goodIn_app (goodIn_of _ (by decide +kernel)) ggL_law_L_paidOut
set_option maxRecDepth 20000 in
theorem ggL_law_X6_paidOut : GoodIn wsL_law wsX6_paidOut := goodIn_r _ [506, 41, 277, 278, 279, 5, 280, 168, 169, 170, 171, 97, 99, 100, 101, 102, 103, 104, 105, 106, 569, 570, 571, 572, 573, 574, 575, 576, 577, 578, 579, 580, 581, 582, 583, 584, 585, 586, 587, 588, 589, 590, 591, 592, 593, 594, 595, 596] (by decide +kernel) (by decide +kernel)
set_option maxRecDepth 20000 in
theorem gL_law_X6_paidOut : GoodIn wsL_law (wsV RL 152 RX6 yX6_paidOut wsX6_paidOut) := goodIn_app (goodIn_of _ (by decide +kernel)) ggL_law_X6_paidOut
set_option maxRecDepth 20000 in
theorem ggL_law_L_pass : GoodIn wsL_law wsL_pass := goodIn_ca (goodIn_r _ [509, 58, 510, 511, 512, 2, 513, 69, 70, 71, 72, 73, 74, 514, 515, 516, 517, 14, 518, 519, 520, 68, 521, 212, 522, 163, 85, 523, 524, 372, 373, 338, 374, 346, 525, 526, 527, 84, 528, 92, 529, 530, 531, 532, 208, 209, 210, 211, 213, 214, 215, 533, 534, 535, 536, 537, 538, 539, 540, 156, 541, 153, 154, 155, 157, 86, 87, 148, 149, 150, 151, 158, 159, 160, 161, 162, 138, 542, 543, 544, 545, 546, 547, 548, 549, 550, 563, 564, 565, 566, 567, 568, 599, 600, 601, 602, 603, 604, 605, 606, 607, 608, 609, 610, 611, 612, 621, 622, 623, 624, 625, 626, 613, 614, 615, 616, 597, 598] (by decide +kernel) (by decide +kernel)) (goodIn_sub (fun _ h => List.mem_append_left _ (List.mem_append_left _ (List.mem_append_right _ h))) (by decide +kernel))
set_option maxRecDepth 20000 in
theorem gL_law_L_pass : GoodIn wsL_law (va_wsS RL 153 yL_pass wsL_pass) := goodIn_app (goodIn_of _ (by decide +kernel)) ggL_law_L_pass
set_option maxRecDepth 20000 in
theorem ggL_law_X6_pass : GoodIn wsL_law wsX6_pass := goodIn_r _ [554, 97, 39, 52, 98, 99, 100, 5, 101, 102, 103, 104, 105, 106, 555, 556, 557, 558, 35, 53, 42, 559, 560, 561, 562, 29, 40, 41, 176, 177, 178, 179, 32, 31, 180, 181, 182, 183, 36, 184, 185, 186, 187, 38, 48, 45, 569, 570, 571, 572, 573, 574, 575, 576, 577, 578, 579, 580, 581, 582, 583, 584, 585, 586, 587, 588, 589, 590, 591, 592, 593, 594, 595, 596] (by decide +kernel) (by decide +kernel)
set_option maxRecDepth 20000 in
theorem gL_law_X6_pass : GoodIn wsL_law (wsV RL 155 RX6 yX6_pass wsX6_pass) := goodIn_app (goodIn_of _ (by decide +kernel)) ggL_law_X6_pass
