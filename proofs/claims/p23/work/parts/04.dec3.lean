theorem dL_due_71 : decode cL_due 71 = .ok (.bipush 8, 2) := by decide +kernel
theorem dL_due_73 : decode cL_due 73 = .ok (.iadd, 1) := by decide +kernel
theorem dL_due_74 : decode cL_due 74 = .ok (.iaload, 1) := by decide +kernel
theorem dL_due_75 : decode cL_due 75 = .ok (.iadd, 1) := by decide +kernel
theorem dL_due_76 : decode cL_due 76 = .ok (.ireturn, 1) := by decide +kernel
theorem dL_out_0 : decode cL_out 0 = .ok (.iconst 0, 1) := by decide +kernel
theorem dL_out_1 : decode cL_out 1 = .ok (.istore 4, 2) := by decide +kernel
theorem dL_out_3 : decode cL_out 3 = .ok (.iconst 0, 1) := by decide +kernel
theorem dL_out_4 : decode cL_out 4 = .ok (.istore 5, 2) := by decide +kernel
theorem dL_out_6 : decode cL_out 6 = .ok (.iload 5, 2) := by decide +kernel
theorem dL_out_8 : decode cL_out 8 = .ok (.aload_n 2, 1) := by decide +kernel
theorem dL_out_9 : decode cL_out 9 = .ok (.iconst 1, 1) := by decide +kernel
theorem dL_out_10 : decode cL_out 10 = .ok (.iaload, 1) := by decide +kernel
theorem dL_out_11 : decode cL_out 11 = .ok (.if_icmp .ge 50, 3) := by decide +kernel
theorem dL_out_14 : decode cL_out 14 = .ok (.iload 4, 2) := by decide +kernel
theorem dL_out_16 : decode cL_out 16 = .ok (.aload_n 0, 1) := by decide +kernel
theorem dL_out_17 : decode cL_out 17 = .ok (.bipush 10, 2) := by decide +kernel
theorem dL_out_19 : decode cL_out 19 = .ok (.iload 5, 2) := by decide +kernel
theorem dL_out_21 : decode cL_out 21 = .ok (.imul, 1) := by decide +kernel
theorem dL_out_22 : decode cL_out 22 = .ok (.iconst 3, 1) := by decide +kernel
theorem dL_out_23 : decode cL_out 23 = .ok (.iadd, 1) := by decide +kernel
theorem dL_out_24 : decode cL_out 24 = .ok (.iaload, 1) := by decide +kernel
theorem dL_out_25 : decode cL_out 25 = .ok (.ifCond .lt 26, 3) := by decide +kernel
theorem dL_out_28 : decode cL_out 28 = .ok (.aload_n 1, 1) := by decide +kernel
theorem dL_out_29 : decode cL_out 29 = .ok (.iconst 4, 1) := by decide +kernel
theorem dL_out_30 : decode cL_out 30 = .ok (.aload_n 0, 1) := by decide +kernel
theorem dL_out_31 : decode cL_out 31 = .ok (.bipush 10, 2) := by decide +kernel
theorem dL_out_33 : decode cL_out 33 = .ok (.iload 5, 2) := by decide +kernel
theorem dL_out_35 : decode cL_out 35 = .ok (.imul, 1) := by decide +kernel
theorem dL_out_36 : decode cL_out 36 = .ok (.iconst 3, 1) := by decide +kernel
theorem dL_out_37 : decode cL_out 37 = .ok (.iadd, 1) := by decide +kernel
theorem dL_out_38 : decode cL_out 38 = .ok (.iaload, 1) := by decide +kernel
theorem dL_out_39 : decode cL_out 39 = .ok (.imul, 1) := by decide +kernel
theorem dL_out_40 : decode cL_out 40 = .ok (.iconst 1, 1) := by decide +kernel
theorem dL_out_41 : decode cL_out 41 = .ok (.iadd, 1) := by decide +kernel
theorem dL_out_42 : decode cL_out 42 = .ok (.iaload, 1) := by decide +kernel
theorem dL_out_43 : decode cL_out 43 = .ok (.iload_n 3, 1) := by decide +kernel
theorem dL_out_44 : decode cL_out 44 = .ok (.if_icmp .ne 7, 3) := by decide +kernel
theorem dL_out_47 : decode cL_out 47 = .ok (.iconst 1, 1) := by decide +kernel
theorem dL_out_48 : decode cL_out 48 = .ok (.goto 4, 3) := by decide +kernel
theorem dL_out_51 : decode cL_out 51 = .ok (.iconst 0, 1) := by decide +kernel
theorem dL_out_52 : decode cL_out 52 = .ok (.iadd, 1) := by decide +kernel
theorem dL_out_53 : decode cL_out 53 = .ok (.istore 4, 2) := by decide +kernel
theorem dL_out_55 : decode cL_out 55 = .ok (.iinc 5 1, 3) := by decide +kernel
theorem dL_out_58 : decode cL_out 58 = .ok (.goto (-52), 3) := by decide +kernel
theorem dL_out_61 : decode cL_out 61 = .ok (.iload 4, 2) := by decide +kernel
theorem dL_out_63 : decode cL_out 63 = .ok (.ireturn, 1) := by decide +kernel
set_option maxRecDepth 20000 in
theorem ggL_arePeople_L_asks : GoodIn wsL_arePeople wsL_asks := goodIn_ca (goodIn_r _ [4, 5, 6, 7, 8, 9, 10, 11, 12, 13, 14, 15, 16, 17, 18, 19, 20, 21, 22, 23, 24, 25, 26, 27, 28, 29, 30, 31, 32, 33, 34, 35, 36, 37, 38, 39, 40, 41, 42, 43, 44, 45, 46, 47, 48, 49, 50, 51, 52, 53, 54, 55, 56, 57, 58, 59, 60, 61, 62, 63, 64, 65, 66, 67, 68, 69, 70, 71, 72, 73, 74, 75, 76, 77, 78, 79, 80, 81, 82, 83, 84, 85, 86, 87, 88, 89, 90, 91, 92, 93, 94, 95, 96, 97, 98, 99, 100, 101, 102, 103, 104, 105, 106, 107, 108, 109, 110, 111, 112, 113, 114, 115, 116, 117, 118, 119, 120, 121, 122, 123, 130, 131, 132, 133, 134, 135, 136, 137, 138, 139, 140, 141, 142, 143, 144, 145, 146, 147, 148, 149, 150, 151, 152, 153, 154, 155, 156, 157, 158, 159, 160, 161, 162, 163, 164, 165] (by decide +kernel) (by decide +kernel)) (goodIn_sub (fun _ h => List.mem_cons_of_mem _ (List.mem_append_right _ h)) (by decide +kernel))
set_option maxRecDepth 20000 in
theorem gL_arePeople_L_asks : GoodIn wsL_arePeople (va_wsS RL 82 yL_asks wsL_asks) := goodIn_app (goodIn_of _ (by decide +kernel)) ggL_arePeople_L_asks
set_option maxRecDepth 20000 in
theorem ggL_arePeople_X5_regime : GoodIn wsL_arePeople wsX5_regime := goodIn_ca (goodIn_r _ [46, 47, 11, 12, 13, 9, 14, 15, 16, 17, 136, 137, 138, 139, 140, 141, 142, 143, 144, 145, 146, 147, 148, 149, 130, 131, 132, 133, 134, 135] (by decide +kernel) (by decide +kernel)) (goodIn_sub (fun _ h => List.mem_cons_of_mem _ (List.mem_append_right _ h)) (by decide +kernel))
set_option maxRecDepth 20000 in
theorem gL_arePeople_X5_regime : GoodIn wsL_arePeople (wsV RL 57 RX5 yX5_regime wsX5_regime) := goodIn_app (goodIn_of _ (by decide +kernel)) ggL_arePeople_X5_regime
set_option maxRecDepth 20000 in
theorem ggL_arePeople_X5_limit : GoodIn wsL_arePeople wsX5_limit := goodIn_ca (goodIn_r _ [89, 90, 11, 12, 13, 9, 14, 15, 16, 17, 91, 92, 93, 21, 94, 23, 95, 96, 97, 29, 98, 99, 100, 101, 102, 103, 104, 105, 106, 107, 108, 109, 110, 111, 112, 113, 114, 115, 116, 117, 118, 130, 131, 132, 133, 134, 135, 136, 137, 138, 139, 140, 141, 142, 143, 144, 145, 146, 147, 148, 149, 162, 163, 164, 165, 158, 159, 160, 161] (by decide +kernel) (by decide +kernel)) (goodIn_sub (fun _ h => List.mem_cons_of_mem _ (List.mem_append_right _ h)) (by decide +kernel))
set_option maxRecDepth 20000 in
theorem gL_arePeople_X5_limit : GoodIn wsL_arePeople (wsV RL 76 RX5 yX5_limit wsX5_limit) := goodIn_app (goodIn_of _ (by decide +kernel)) ggL_arePeople_X5_limit
set_option maxRecDepth 20000 in
theorem ggL_arePeople_X5_release : GoodIn wsL_arePeople wsX5_release := goodIn_ca (goodIn_r _ [10, 11, 12, 13, 9, 14, 15, 16, 17, 18, 19, 20, 21, 22, 23, 24, 25, 26, 27, 28, 29, 30, 31, 32, 33, 34, 35, 36, 37, 130, 131, 132, 133, 134, 135, 136, 137, 138, 139, 140, 141, 142, 143, 144, 145, 146, 147, 148, 149] (by decide +kernel) (by decide +kernel)) (goodIn_sub (fun _ h => List.mem_cons_of_mem _ (List.mem_append_right _ h)) (by decide +kernel))
set_option maxRecDepth 20000 in
theorem gL_arePeople_X5_release : GoodIn wsL_arePeople (wsV RL 50 RX5 yX5_release wsX5_release) := goodIn_app (goodIn_of _ (by decide +kernel)) ggL_arePeople_X5_release
set_option maxRecDepth 20000 in
theorem ggL_arePeople_L_due : GoodIn wsL_arePeople wsL_due := goodIn_r _ [126] (by decide +kernel) (by decide +kernel)
set_option maxRecDepth 20000 in
theorem gL_arePeople_L_due : GoodIn wsL_arePeople (va_wsS RL 88 yL_due wsL_due) := goodIn_app (goodIn_of _ (by decide +kernel)) ggL_arePeople_L_due
set_option maxRecDepth 20000 in
theorem ggL_arePeople_X5_isIn : GoodIn wsL_arePeople wsX5_isIn := goodIn_ca (goodIn_r _ [41, 42, 11, 12, 13, 9, 14, 15, 16, 17, 136, 137, 138, 139, 140, 141, 142, 143, 144, 145, 146, 147, 148, 149, 130, 131, 132, 133, 134, 135] (by decide +kernel) (by decide +kernel)) (goodIn_sub (fun _ h => List.mem_cons_of_mem _ (List.mem_append_right _ h)) (by decide +kernel))
set_option maxRecDepth 20000 in
theorem gL_arePeople_X5_isIn : GoodIn wsL_arePeople (wsV RL 53 RX5 yX5_isIn wsX5_isIn) := goodIn_app (goodIn_of _ (by decide +kernel)) ggL_arePeople_X5_isIn
set_option maxRecDepth 20000 in
theorem ggL_arePeople_X5_papers : GoodIn wsL_arePeople wsX5_papers := goodIn_ca (goodIn_r _ [51, 52, 11, 12, 13, 9, 14, 15, 16, 17, 53, 33, 34, 21, 35, 36, 37, 136, 137, 138, 139, 140, 141, 142, 143, 144, 145, 146, 147, 148, 149, 130, 131, 132, 133, 134, 135] (by decide +kernel) (by decide +kernel)) (goodIn_sub (fun _ h => List.mem_cons_of_mem _ (List.mem_append_right _ h)) (by decide +kernel))
set_option maxRecDepth 20000 in
theorem gL_arePeople_X5_papers : GoodIn wsL_arePeople (wsV RL 60 RX5 yX5_papers wsX5_papers) := goodIn_app (goodIn_of _ (by decide +kernel)) ggL_arePeople_X5_papers
set_option maxRecDepth 20000 in
theorem ggL_arePeople_X5_orderOf : GoodIn wsL_arePeople wsX5_orderOf := goodIn_ca (goodIn_r _ [67, 68, 69, 11, 12, 13, 9, 14, 15, 16, 17, 136, 137, 138, 139, 140, 141, 142, 143, 144, 145, 146, 147, 148, 149, 152, 153, 154, 155, 156, 157, 130, 131, 132, 133, 134, 135] (by decide +kernel) (by decide +kernel)) (goodIn_sub (fun _ h => List.mem_cons_of_mem _ (List.mem_append_right _ h)) (by decide +kernel))
set_option maxRecDepth 20000 in
theorem gL_arePeople_X5_orderOf : GoodIn wsL_arePeople (wsV RL 67 RX5 yX5_orderOf wsX5_orderOf) := goodIn_app (goodIn_of _ (by decide +kernel)) ggL_arePeople_X5_orderOf
set_option maxRecDepth 20000 in
theorem ggL_arePeople_X5_paidOut : GoodIn wsL_arePeople wsX5_paidOut := goodIn_ca (goodIn_r _ [122, 84, 123, 11, 12, 13, 9, 14, 15, 16, 17, 136, 137, 138, 139, 140, 141, 142, 143, 144, 145, 146, 147, 148, 149, 158, 159, 160, 161, 130, 131, 132, 133, 134, 135] (by decide +kernel) (by decide +kernel)) (goodIn_sub (fun _ h => List.mem_cons_of_mem _ (List.mem_append_right _ h)) (by decide +kernel))
set_option maxRecDepth 20000 in
theorem gL_arePeople_X5_paidOut : GoodIn wsL_arePeople (wsV RL 79 RX5 yX5_paidOut wsX5_paidOut) := goodIn_app (goodIn_of _ (by decide +kernel)) ggL_arePeople_X5_paidOut
set_option maxRecDepth 20000 in
theorem ggL_arePeople_X5_account : GoodIn wsL_arePeople wsX5_account := goodIn_ca (goodIn_r _ [83, 15, 16, 84, 85, 11, 12, 13, 9, 14, 17, 136, 137, 138, 139, 140, 141, 142, 143, 144, 145, 146, 147, 148, 149, 158, 159, 160, 161, 130, 131, 132, 133, 134, 135] (by decide +kernel) (by decide +kernel)) (goodIn_sub (fun _ h => List.mem_cons_of_mem _ (List.mem_append_right _ h)) (by decide +kernel))
set_option maxRecDepth 20000 in
theorem gL_arePeople_X5_account : GoodIn wsL_arePeople (wsV RL 73 RX5 yX5_account wsX5_account) := goodIn_app (goodIn_of _ (by decide +kernel)) ggL_arePeople_X5_account
set_option maxRecDepth 20000 in
theorem ggL_arePeople_X5_toolsOut : GoodIn wsL_arePeople wsX5_toolsOut := goodIn_ca (goodIn_r _ [57, 58, 59, 60, 61, 9, 62, 15, 16, 63, 150, 151, 130, 131, 132, 133, 134, 135] (by decide +kernel) (by decide +kernel)) (goodIn_sub (fun _ h => List.mem_cons_of_mem _ (List.mem_append_right _ h)) (by decide +kernel))
set_option maxRecDepth 20000 in
theorem gL_arePeople_X5_toolsOut : GoodIn wsL_arePeople (wsV RL 64 RX5 yX5_toolsOut wsX5_toolsOut) := goodIn_app (goodIn_of _ (by decide +kernel)) ggL_arePeople_X5_toolsOut
set_option maxRecDepth 20000 in
theorem ggL_arePeople_L_out : GoodIn wsL_arePeople wsL_out := goodIn_r _ [129] (by decide +kernel) (by decide +kernel)
set_option maxRecDepth 20000 in
theorem gL_arePeople_L_out : GoodIn wsL_arePeople (va_wsS RL 92 yL_out wsL_out) := goodIn_app (goodIn_of _ (by decide +kernel)) ggL_arePeople_L_out
set_option maxRecDepth 20000 in
theorem ggL_arePeople_X5_left : GoodIn wsL_arePeople wsX5_left := goodIn_ca (goodIn_r _ [73, 74, 75, 76, 77, 9, 78, 15, 16, 79, 152, 153, 154, 155, 156, 157, 130, 131, 132, 133, 134, 135] (by decide +kernel) (by decide +kernel)) (goodIn_sub (fun _ h => List.mem_cons_of_mem _ (List.mem_append_right _ h)) (by decide +kernel))
set_option maxRecDepth 20000 in
theorem gL_arePeople_X5_left : GoodIn wsL_arePeople (wsV RL 70 RX5 yX5_left wsX5_left) := goodIn_app (goodIn_of _ (by decide +kernel)) ggL_arePeople_X5_left
theorem dL_arePeople_0 : decode cL_arePeople 0 = .ok (.aload_n 0, 1) := by decide +kernel
theorem dL_arePeople_1 : decode cL_arePeople 1 = .ok (.iconst 0, 1) := by decide +kernel
theorem dL_arePeople_2 : decode cL_arePeople 2 = .ok (.aload_n 3, 1) := by decide +kernel
theorem dL_arePeople_3 : decode cL_arePeople 3 = .ok (.iconst 1, 1) := by decide +kernel
theorem dL_arePeople_4 : decode cL_arePeople 4 = .ok (.iaload, 1) := by decide +kernel
theorem dL_arePeople_5 : decode cL_arePeople 5 = .ok (.iconst 0, 1) := by decide +kernel
theorem dL_arePeople_6 : decode cL_arePeople 6 = .ok (.invokestatic 82, 3) := by decide +kernel
theorem dL_arePeople_9 : decode cL_arePeople 9 = .ok (.bipush (-30), 2) := by decide +kernel
theorem dL_arePeople_11 : decode cL_arePeople 11 = .ok (.if_icmp .ne 87, 3) := by decide +kernel
theorem dL_arePeople_14 : decode cL_arePeople 14 = .ok (.aload_n 0, 1) := by decide +kernel
theorem dL_arePeople_15 : decode cL_arePeople 15 = .ok (.iconst 1, 1) := by decide +kernel
theorem dL_arePeople_16 : decode cL_arePeople 16 = .ok (.iconst (-1), 1) := by decide +kernel
theorem dL_arePeople_17 : decode cL_arePeople 17 = .ok (.iconst 0, 1) := by decide +kernel
theorem dL_arePeople_18 : decode cL_arePeople 18 = .ok (.invokestatic 82, 3) := by decide +kernel
theorem dL_arePeople_21 : decode cL_arePeople 21 = .ok (.bipush (-30), 2) := by decide +kernel
theorem dL_arePeople_23 : decode cL_arePeople 23 = .ok (.if_icmp .ne 75, 3) := by decide +kernel
theorem dL_arePeople_26 : decode cL_arePeople 26 = .ok (.aload_n 0, 1) := by decide +kernel
theorem dL_arePeople_27 : decode cL_arePeople 27 = .ok (.iconst 2, 1) := by decide +kernel
theorem dL_arePeople_28 : decode cL_arePeople 28 = .ok (.aload_n 3, 1) := by decide +kernel
theorem dL_arePeople_29 : decode cL_arePeople 29 = .ok (.iconst 1, 1) := by decide +kernel
theorem dL_arePeople_30 : decode cL_arePeople 30 = .ok (.iaload, 1) := by decide +kernel
theorem dL_arePeople_31 : decode cL_arePeople 31 = .ok (.iconst 0, 1) := by decide +kernel
theorem dL_arePeople_32 : decode cL_arePeople 32 = .ok (.invokestatic 82, 3) := by decide +kernel
theorem dL_arePeople_35 : decode cL_arePeople 35 = .ok (.bipush (-30), 2) := by decide +kernel
theorem dL_arePeople_37 : decode cL_arePeople 37 = .ok (.if_icmp .ne 61, 3) := by decide +kernel
theorem dL_arePeople_40 : decode cL_arePeople 40 = .ok (.aload_n 0, 1) := by decide +kernel
theorem dL_arePeople_41 : decode cL_arePeople 41 = .ok (.iconst 3, 1) := by decide +kernel
theorem dL_arePeople_42 : decode cL_arePeople 42 = .ok (.iconst (-1), 1) := by decide +kernel
theorem dL_arePeople_43 : decode cL_arePeople 43 = .ok (.iconst 0, 1) := by decide +kernel
theorem dL_arePeople_44 : decode cL_arePeople 44 = .ok (.invokestatic 82, 3) := by decide +kernel
theorem dL_arePeople_47 : decode cL_arePeople 47 = .ok (.bipush (-30), 2) := by decide +kernel
theorem dL_arePeople_49 : decode cL_arePeople 49 = .ok (.if_icmp .ne 49, 3) := by decide +kernel
theorem dL_arePeople_52 : decode cL_arePeople 52 = .ok (.aload_n 0, 1) := by decide +kernel
theorem dL_arePeople_53 : decode cL_arePeople 53 = .ok (.iconst 5, 1) := by decide +kernel
theorem dL_arePeople_54 : decode cL_arePeople 54 = .ok (.aload_n 3, 1) := by decide +kernel
theorem dL_arePeople_55 : decode cL_arePeople 55 = .ok (.iconst 1, 1) := by decide +kernel
theorem dL_arePeople_56 : decode cL_arePeople 56 = .ok (.iaload, 1) := by decide +kernel
theorem dL_arePeople_57 : decode cL_arePeople 57 = .ok (.iconst 0, 1) := by decide +kernel
theorem dL_arePeople_58 : decode cL_arePeople 58 = .ok (.invokestatic 82, 3) := by decide +kernel
theorem dL_arePeople_61 : decode cL_arePeople 61 = .ok (.bipush (-30), 2) := by decide +kernel
theorem dL_arePeople_63 : decode cL_arePeople 63 = .ok (.if_icmp .ne 35, 3) := by decide +kernel
theorem dL_arePeople_66 : decode cL_arePeople 66 = .ok (.aload_n 0, 1) := by decide +kernel
theorem dL_arePeople_67 : decode cL_arePeople 67 = .ok (.bipush 8, 2) := by decide +kernel
theorem dL_arePeople_69 : decode cL_arePeople 69 = .ok (.iconst (-1), 1) := by decide +kernel
theorem dL_arePeople_70 : decode cL_arePeople 70 = .ok (.iconst 0, 1) := by decide +kernel
theorem dL_arePeople_71 : decode cL_arePeople 71 = .ok (.invokestatic 82, 3) := by decide +kernel
theorem dL_arePeople_74 : decode cL_arePeople 74 = .ok (.bipush (-30), 2) := by decide +kernel
theorem dL_arePeople_76 : decode cL_arePeople 76 = .ok (.if_icmp .ne 22, 3) := by decide +kernel
theorem dL_arePeople_79 : decode cL_arePeople 79 = .ok (.aload_n 0, 1) := by decide +kernel
theorem dL_arePeople_80 : decode cL_arePeople 80 = .ok (.bipush 9, 2) := by decide +kernel
theorem dL_arePeople_82 : decode cL_arePeople 82 = .ok (.aload_n 3, 1) := by decide +kernel
theorem dL_arePeople_83 : decode cL_arePeople 83 = .ok (.iconst 1, 1) := by decide +kernel
theorem dL_arePeople_84 : decode cL_arePeople 84 = .ok (.iaload, 1) := by decide +kernel
theorem dL_arePeople_85 : decode cL_arePeople 85 = .ok (.iconst 0, 1) := by decide +kernel
theorem dL_arePeople_86 : decode cL_arePeople 86 = .ok (.invokestatic 82, 3) := by decide +kernel
theorem dL_arePeople_89 : decode cL_arePeople 89 = .ok (.bipush (-30), 2) := by decide +kernel
theorem dL_arePeople_91 : decode cL_arePeople 91 = .ok (.if_icmp .ne 7, 3) := by decide +kernel
theorem dL_arePeople_94 : decode cL_arePeople 94 = .ok (.iconst 1, 1) := by decide +kernel
theorem dL_arePeople_95 : decode cL_arePeople 95 = .ok (.goto 4, 3) := by decide +kernel
theorem dL_arePeople_98 : decode cL_arePeople 98 = .ok (.iconst 0, 1) := by decide +kernel
theorem dL_arePeople_99 : decode cL_arePeople 99 = .ok (.istore 4, 2) := by decide +kernel
theorem dL_arePeople_101 : decode cL_arePeople 101 = .ok (.iconst 0, 1) := by decide +kernel
theorem dL_arePeople_102 : decode cL_arePeople 102 = .ok (.istore 5, 2) := by decide +kernel
theorem dL_arePeople_104 : decode cL_arePeople 104 = .ok (.iload 5, 2) := by decide +kernel
theorem dL_arePeople_106 : decode cL_arePeople 106 = .ok (.aload_n 3, 1) := by decide +kernel
theorem dL_arePeople_107 : decode cL_arePeople 107 = .ok (.iconst 1, 1) := by decide +kernel
theorem dL_arePeople_108 : decode cL_arePeople 108 = .ok (.iaload, 1) := by decide +kernel
theorem dL_arePeople_109 : decode cL_arePeople 109 = .ok (.if_icmp .ge 296, 3) := by decide +kernel
theorem dL_arePeople_112 : decode cL_arePeople 112 = .ok (.iload 4, 2) := by decide +kernel
theorem dL_arePeople_114 : decode cL_arePeople 114 = .ok (.ifCond .eq 291, 3) := by decide +kernel
theorem dL_arePeople_117 : decode cL_arePeople 117 = .ok (.bipush 10, 2) := by decide +kernel
theorem dL_arePeople_119 : decode cL_arePeople 119 = .ok (.iload 5, 2) := by decide +kernel
theorem dL_arePeople_121 : decode cL_arePeople 121 = .ok (.imul, 1) := by decide +kernel
theorem dL_arePeople_122 : decode cL_arePeople 122 = .ok (.istore 6, 2) := by decide +kernel
theorem dL_arePeople_124 : decode cL_arePeople 124 = .ok (.aload_n 0, 1) := by decide +kernel
theorem dL_arePeople_125 : decode cL_arePeople 125 = .ok (.iload 5, 2) := by decide +kernel
theorem dL_arePeople_127 : decode cL_arePeople 127 = .ok (.invokevirtual 57, 3) := by decide +kernel
theorem dL_arePeople_130 : decode cL_arePeople 130 = .ok (.istore 7, 2) := by decide +kernel
theorem dL_arePeople_132 : decode cL_arePeople 132 = .ok (.aload_n 0, 1) := by decide +kernel
theorem dL_arePeople_133 : decode cL_arePeople 133 = .ok (.iload 5, 2) := by decide +kernel
theorem dL_arePeople_135 : decode cL_arePeople 135 = .ok (.invokevirtual 76, 3) := by decide +kernel
theorem dL_arePeople_138 : decode cL_arePeople 138 = .ok (.istore 8, 2) := by decide +kernel
theorem dL_arePeople_140 : decode cL_arePeople 140 = .ok (.aload_n 1, 1) := by decide +kernel
theorem dL_arePeople_141 : decode cL_arePeople 141 = .ok (.iload 6, 2) := by decide +kernel
theorem dL_arePeople_143 : decode cL_arePeople 143 = .ok (.iconst 4, 1) := by decide +kernel
theorem dL_arePeople_144 : decode cL_arePeople 144 = .ok (.iadd, 1) := by decide +kernel
theorem dL_arePeople_145 : decode cL_arePeople 145 = .ok (.iaload, 1) := by decide +kernel
theorem dL_arePeople_146 : decode cL_arePeople 146 = .ok (.iconst 1, 1) := by decide +kernel
theorem dL_arePeople_147 : decode cL_arePeople 147 = .ok (.if_icmp .ne 7, 3) := by decide +kernel
theorem dL_arePeople_150 : decode cL_arePeople 150 = .ok (.iconst 1, 1) := by decide +kernel
theorem dL_arePeople_151 : decode cL_arePeople 151 = .ok (.goto 4, 3) := by decide +kernel
theorem dL_arePeople_154 : decode cL_arePeople 154 = .ok (.iconst 0, 1) := by decide +kernel
theorem dL_arePeople_155 : decode cL_arePeople 155 = .ok (.istore 9, 2) := by decide +kernel
theorem dL_arePeople_157 : decode cL_arePeople 157 = .ok (.aload_n 0, 1) := by decide +kernel
theorem dL_arePeople_158 : decode cL_arePeople 158 = .ok (.iload 5, 2) := by decide +kernel
theorem dL_arePeople_160 : decode cL_arePeople 160 = .ok (.invokevirtual 50, 3) := by decide +kernel
theorem dL_arePeople_163 : decode cL_arePeople 163 = .ok (.aload_n 1, 1) := by decide +kernel
theorem dL_arePeople_164 : decode cL_arePeople 164 = .ok (.iload 5, 2) := by decide +kernel
theorem dL_arePeople_166 : decode cL_arePeople 166 = .ok (.invokestatic 88, 3) := by decide +kernel
theorem dL_arePeople_169 : decode cL_arePeople 169 = .ok (.if_icmp .ne 189, 3) := by decide +kernel
theorem dL_arePeople_172 : decode cL_arePeople 172 = .ok (.aload_n 0, 1) := by decide +kernel
theorem dL_arePeople_173 : decode cL_arePeople 173 = .ok (.iload 5, 2) := by decide +kernel
theorem dL_arePeople_175 : decode cL_arePeople 175 = .ok (.invokevirtual 53, 3) := by decide +kernel
theorem dL_arePeople_178 : decode cL_arePeople 178 = .ok (.iload 9, 2) := by decide +kernel
theorem dL_arePeople_180 : decode cL_arePeople 180 = .ok (.ifCond .ne 7, 3) := by decide +kernel
theorem dL_arePeople_183 : decode cL_arePeople 183 = .ok (.iconst 1, 1) := by decide +kernel
theorem dL_arePeople_184 : decode cL_arePeople 184 = .ok (.goto 4, 3) := by decide +kernel
theorem dL_arePeople_187 : decode cL_arePeople 187 = .ok (.iconst 0, 1) := by decide +kernel
theorem dL_arePeople_188 : decode cL_arePeople 188 = .ok (.if_icmp .ne 170, 3) := by decide +kernel
theorem dL_arePeople_191 : decode cL_arePeople 191 = .ok (.iload 7, 2) := by decide +kernel
theorem dL_arePeople_193 : decode cL_arePeople 193 = .ok (.ifCond .lt 165, 3) := by decide +kernel
theorem dL_arePeople_196 : decode cL_arePeople 196 = .ok (.iload 7, 2) := by decide +kernel
theorem dL_arePeople_198 : decode cL_arePeople 198 = .ok (.iconst 3, 1) := by decide +kernel
theorem dL_arePeople_199 : decode cL_arePeople 199 = .ok (.if_icmp .ge 159, 3) := by decide +kernel
theorem dL_arePeople_202 : decode cL_arePeople 202 = .ok (.aload_n 0, 1) := by decide +kernel
theorem dL_arePeople_203 : decode cL_arePeople 203 = .ok (.iload 5, 2) := by decide +kernel
theorem dL_arePeople_205 : decode cL_arePeople 205 = .ok (.iconst 0, 1) := by decide +kernel
theorem dL_arePeople_206 : decode cL_arePeople 206 = .ok (.invokevirtual 60, 3) := by decide +kernel
theorem dL_arePeople_209 : decode cL_arePeople 209 = .ok (.aload_n 1, 1) := by decide +kernel
theorem dL_arePeople_210 : decode cL_arePeople 210 = .ok (.iload 6, 2) := by decide +kernel
theorem dL_arePeople_212 : decode cL_arePeople 212 = .ok (.bipush 6, 2) := by decide +kernel
theorem dL_arePeople_214 : decode cL_arePeople 214 = .ok (.iadd, 1) := by decide +kernel
theorem dL_arePeople_215 : decode cL_arePeople 215 = .ok (.iaload, 1) := by decide +kernel
theorem dL_arePeople_216 : decode cL_arePeople 216 = .ok (.iconst 5, 1) := by decide +kernel
theorem dL_arePeople_217 : decode cL_arePeople 217 = .ok (.idiv, 1) := by decide +kernel
theorem dL_arePeople_218 : decode cL_arePeople 218 = .ok (.aload_n 1, 1) := by decide +kernel
theorem dL_arePeople_219 : decode cL_arePeople 219 = .ok (.iload 6, 2) := by decide +kernel
theorem dL_arePeople_221 : decode cL_arePeople 221 = .ok (.bipush 7, 2) := by decide +kernel
theorem dL_arePeople_223 : decode cL_arePeople 223 = .ok (.iadd, 1) := by decide +kernel
theorem dL_arePeople_224 : decode cL_arePeople 224 = .ok (.iaload, 1) := by decide +kernel
theorem dL_arePeople_225 : decode cL_arePeople 225 = .ok (.iadd, 1) := by decide +kernel
theorem dL_arePeople_226 : decode cL_arePeople 226 = .ok (.if_icmp .ne 132, 3) := by decide +kernel
theorem dL_arePeople_229 : decode cL_arePeople 229 = .ok (.aload_n 0, 1) := by decide +kernel
theorem dL_arePeople_230 : decode cL_arePeople 230 = .ok (.iload 5, 2) := by decide +kernel
theorem dL_arePeople_232 : decode cL_arePeople 232 = .ok (.iconst 1, 1) := by decide +kernel
theorem dL_arePeople_233 : decode cL_arePeople 233 = .ok (.invokevirtual 60, 3) := by decide +kernel
theorem dL_arePeople_236 : decode cL_arePeople 236 = .ok (.aload_n 1, 1) := by decide +kernel
theorem dL_arePeople_237 : decode cL_arePeople 237 = .ok (.iload 6, 2) := by decide +kernel
theorem dL_arePeople_239 : decode cL_arePeople 239 = .ok (.bipush 8, 2) := by decide +kernel
theorem dL_arePeople_241 : decode cL_arePeople 241 = .ok (.iadd, 1) := by decide +kernel
theorem dL_arePeople_242 : decode cL_arePeople 242 = .ok (.iaload, 1) := by decide +kernel
theorem dL_arePeople_243 : decode cL_arePeople 243 = .ok (.if_icmp .ne 115, 3) := by decide +kernel
theorem dL_arePeople_246 : decode cL_arePeople 246 = .ok (.aload_n 0, 1) := by decide +kernel
theorem dL_arePeople_247 : decode cL_arePeople 247 = .ok (.iload 5, 2) := by decide +kernel
theorem dL_arePeople_249 : decode cL_arePeople 249 = .ok (.invokevirtual 67, 3) := by decide +kernel
theorem dL_arePeople_252 : decode cL_arePeople 252 = .ok (.aload_n 1, 1) := by decide +kernel
theorem dL_arePeople_253 : decode cL_arePeople 253 = .ok (.iload 6, 2) := by decide +kernel
theorem dL_arePeople_255 : decode cL_arePeople 255 = .ok (.iconst 3, 1) := by decide +kernel
theorem dL_arePeople_256 : decode cL_arePeople 256 = .ok (.iadd, 1) := by decide +kernel
theorem dL_arePeople_257 : decode cL_arePeople 257 = .ok (.iaload, 1) := by decide +kernel
theorem dL_arePeople_258 : decode cL_arePeople 258 = .ok (.if_icmp .ne 100, 3) := by decide +kernel
theorem dL_arePeople_261 : decode cL_arePeople 261 = .ok (.iload 8, 2) := by decide +kernel
theorem dL_arePeople_263 : decode cL_arePeople 263 = .ok (.ifCond .lt 95, 3) := by decide +kernel
theorem dL_arePeople_266 : decode cL_arePeople 266 = .ok (.iload 8, 2) := by decide +kernel
theorem dL_arePeople_268 : decode cL_arePeople 268 = .ok (.bipush 20, 2) := by decide +kernel
theorem dL_arePeople_270 : decode cL_arePeople 270 = .ok (.iload 7, 2) := by decide +kernel
theorem dL_arePeople_272 : decode cL_arePeople 272 = .ok (.imul, 1) := by decide +kernel
theorem dL_arePeople_273 : decode cL_arePeople 273 = .ok (.bipush 10, 2) := by decide +kernel
theorem dL_arePeople_275 : decode cL_arePeople 275 = .ok (.iadd, 1) := by decide +kernel
theorem dL_arePeople_276 : decode cL_arePeople 276 = .ok (.if_icmp .gt 82, 3) := by decide +kernel
theorem dL_arePeople_279 : decode cL_arePeople 279 = .ok (.iload 9, 2) := by decide +kernel
theorem dL_arePeople_281 : decode cL_arePeople 281 = .ok (.ifCond .eq 8, 3) := by decide +kernel
theorem dL_arePeople_284 : decode cL_arePeople 284 = .ok (.iload 8, 2) := by decide +kernel
theorem dL_arePeople_286 : decode cL_arePeople 286 = .ok (.ifCond .ne 72, 3) := by decide +kernel
theorem dL_arePeople_289 : decode cL_arePeople 289 = .ok (.aload_n 0, 1) := by decide +kernel
theorem dL_arePeople_290 : decode cL_arePeople 290 = .ok (.bipush 7, 2) := by decide +kernel
theorem dL_arePeople_292 : decode cL_arePeople 292 = .ok (.iload 5, 2) := by decide +kernel
theorem dL_arePeople_294 : decode cL_arePeople 294 = .ok (.iconst 4, 1) := by decide +kernel
theorem dL_arePeople_295 : decode cL_arePeople 295 = .ok (.invokestatic 82, 3) := by decide +kernel
theorem dL_arePeople_298 : decode cL_arePeople 298 = .ok (.bipush (-30), 2) := by decide +kernel
theorem dL_arePeople_300 : decode cL_arePeople 300 = .ok (.if_icmp .ne 58, 3) := by decide +kernel
theorem dL_arePeople_303 : decode cL_arePeople 303 = .ok (.aload_n 0, 1) := by decide +kernel
theorem dL_arePeople_304 : decode cL_arePeople 304 = .ok (.bipush 7, 2) := by decide +kernel
theorem dL_arePeople_306 : decode cL_arePeople 306 = .ok (.iload 5, 2) := by decide +kernel
theorem dL_arePeople_308 : decode cL_arePeople 308 = .ok (.iconst (-1), 1) := by decide +kernel
theorem dL_arePeople_309 : decode cL_arePeople 309 = .ok (.invokestatic 82, 3) := by decide +kernel
theorem dL_arePeople_312 : decode cL_arePeople 312 = .ok (.bipush (-30), 2) := by decide +kernel
theorem dL_arePeople_314 : decode cL_arePeople 314 = .ok (.if_icmp .ne 44, 3) := by decide +kernel
theorem dL_arePeople_317 : decode cL_arePeople 317 = .ok (.iload 9, 2) := by decide +kernel
theorem dL_arePeople_319 : decode cL_arePeople 319 = .ok (.ifCond .ne 12, 3) := by decide +kernel
theorem dL_arePeople_322 : decode cL_arePeople 322 = .ok (.aload_n 0, 1) := by decide +kernel
theorem dL_arePeople_323 : decode cL_arePeople 323 = .ok (.iload 5, 2) := by decide +kernel
theorem dL_arePeople_325 : decode cL_arePeople 325 = .ok (.invokevirtual 79, 3) := by decide +kernel
theorem dL_arePeople_328 : decode cL_arePeople 328 = .ok (.ifCond .ne 30, 3) := by decide +kernel
theorem dL_arePeople_331 : decode cL_arePeople 331 = .ok (.iload 9, 2) := by decide +kernel
theorem dL_arePeople_333 : decode cL_arePeople 333 = .ok (.ifCond .eq 21, 3) := by decide +kernel
theorem dL_arePeople_336 : decode cL_arePeople 336 = .ok (.aload_n 0, 1) := by decide +kernel
theorem dL_arePeople_337 : decode cL_arePeople 337 = .ok (.iload 5, 2) := by decide +kernel
theorem dL_arePeople_339 : decode cL_arePeople 339 = .ok (.iconst 2, 1) := by decide +kernel
theorem dL_arePeople_340 : decode cL_arePeople 340 = .ok (.invokevirtual 73, 3) := by decide +kernel
theorem dL_arePeople_343 : decode cL_arePeople 343 = .ok (.aload_n 0, 1) := by decide +kernel
theorem dL_arePeople_344 : decode cL_arePeople 344 = .ok (.iload 5, 2) := by decide +kernel
theorem dL_arePeople_346 : decode cL_arePeople 346 = .ok (.iconst 3, 1) := by decide +kernel
theorem dL_arePeople_347 : decode cL_arePeople 347 = .ok (.invokevirtual 73, 3) := by decide +kernel
theorem dL_arePeople_350 : decode cL_arePeople 350 = .ok (.iadd, 1) := by decide +kernel
theorem dL_arePeople_351 : decode cL_arePeople 351 = .ok (.ifCond .ne 7, 3) := by decide +kernel
theorem dL_arePeople_354 : decode cL_arePeople 354 = .ok (.iconst 1, 1) := by decide +kernel
theorem dL_arePeople_355 : decode cL_arePeople 355 = .ok (.goto 4, 3) := by decide +kernel
theorem dL_arePeople_358 : decode cL_arePeople 358 = .ok (.iconst 0, 1) := by decide +kernel
theorem dL_arePeople_359 : decode cL_arePeople 359 = .ok (.istore 4, 2) := by decide +kernel
theorem dL_arePeople_361 : decode cL_arePeople 361 = .ok (.iconst 0, 1) := by decide +kernel
theorem dL_arePeople_362 : decode cL_arePeople 362 = .ok (.istore 10, 2) := by decide +kernel
theorem dL_arePeople_364 : decode cL_arePeople 364 = .ok (.iload 10, 2) := by decide +kernel
theorem dL_arePeople_366 : decode cL_arePeople 366 = .ok (.iconst 4, 1) := by decide +kernel
theorem dL_arePeople_367 : decode cL_arePeople 367 = .ok (.if_icmp .ge 32, 3) := by decide +kernel
theorem dL_arePeople_370 : decode cL_arePeople 370 = .ok (.iload 4, 2) := by decide +kernel
theorem dL_arePeople_372 : decode cL_arePeople 372 = .ok (.ifCond .eq 27, 3) := by decide +kernel
theorem dL_arePeople_375 : decode cL_arePeople 375 = .ok (.aload_n 0, 1) := by decide +kernel
theorem dL_arePeople_376 : decode cL_arePeople 376 = .ok (.iload 5, 2) := by decide +kernel
theorem dL_arePeople_378 : decode cL_arePeople 378 = .ok (.iload 10, 2) := by decide +kernel
theorem dL_arePeople_380 : decode cL_arePeople 380 = .ok (.invokevirtual 73, 3) := by decide +kernel
theorem dL_arePeople_383 : decode cL_arePeople 383 = .ok (.ifCond .lt 7, 3) := by decide +kernel
theorem dL_arePeople_386 : decode cL_arePeople 386 = .ok (.iconst 1, 1) := by decide +kernel
theorem dL_arePeople_387 : decode cL_arePeople 387 = .ok (.goto 4, 3) := by decide +kernel
theorem dL_arePeople_390 : decode cL_arePeople 390 = .ok (.iconst 0, 1) := by decide +kernel
theorem dL_arePeople_391 : decode cL_arePeople 391 = .ok (.istore 4, 2) := by decide +kernel
theorem dL_arePeople_393 : decode cL_arePeople 393 = .ok (.iinc 10 1, 3) := by decide +kernel
theorem dL_arePeople_396 : decode cL_arePeople 396 = .ok (.goto (-32), 3) := by decide +kernel
theorem dL_arePeople_399 : decode cL_arePeople 399 = .ok (.iinc 5 1, 3) := by decide +kernel
theorem dL_arePeople_402 : decode cL_arePeople 402 = .ok (.goto (-298), 3) := by decide +kernel
theorem dL_arePeople_405 : decode cL_arePeople 405 = .ok (.iconst 0, 1) := by decide +kernel
theorem dL_arePeople_406 : decode cL_arePeople 406 = .ok (.istore 5, 2) := by decide +kernel
theorem dL_arePeople_408 : decode cL_arePeople 408 = .ok (.iload 5, 2) := by decide +kernel
theorem dL_arePeople_410 : decode cL_arePeople 410 = .ok (.iconst 3, 1) := by decide +kernel
theorem dL_arePeople_411 : decode cL_arePeople 411 = .ok (.if_icmp .ge 38, 3) := by decide +kernel
theorem dL_arePeople_414 : decode cL_arePeople 414 = .ok (.iload 4, 2) := by decide +kernel
theorem dL_arePeople_416 : decode cL_arePeople 416 = .ok (.ifCond .eq 33, 3) := by decide +kernel
theorem dL_arePeople_419 : decode cL_arePeople 419 = .ok (.aload_n 0, 1) := by decide +kernel
theorem dL_arePeople_420 : decode cL_arePeople 420 = .ok (.iload 5, 2) := by decide +kernel
theorem dL_arePeople_422 : decode cL_arePeople 422 = .ok (.invokevirtual 64, 3) := by decide +kernel
theorem dL_arePeople_425 : decode cL_arePeople 425 = .ok (.aload_n 1, 1) := by decide +kernel
theorem dL_arePeople_426 : decode cL_arePeople 426 = .ok (.aload_n 2, 1) := by decide +kernel
theorem dL_arePeople_427 : decode cL_arePeople 427 = .ok (.aload_n 3, 1) := by decide +kernel
theorem dL_arePeople_428 : decode cL_arePeople 428 = .ok (.iload 5, 2) := by decide +kernel
theorem dL_arePeople_430 : decode cL_arePeople 430 = .ok (.invokestatic 92, 3) := by decide +kernel
theorem dL_arePeople_433 : decode cL_arePeople 433 = .ok (.if_icmp .ne 7, 3) := by decide +kernel
theorem dL_arePeople_436 : decode cL_arePeople 436 = .ok (.iconst 1, 1) := by decide +kernel
theorem dL_arePeople_437 : decode cL_arePeople 437 = .ok (.goto 4, 3) := by decide +kernel
theorem dL_arePeople_440 : decode cL_arePeople 440 = .ok (.iconst 0, 1) := by decide +kernel
theorem dL_arePeople_441 : decode cL_arePeople 441 = .ok (.istore 4, 2) := by decide +kernel
theorem dL_arePeople_443 : decode cL_arePeople 443 = .ok (.iinc 5 1, 3) := by decide +kernel
theorem dL_arePeople_446 : decode cL_arePeople 446 = .ok (.goto (-38), 3) := by decide +kernel
theorem dL_arePeople_449 : decode cL_arePeople 449 = .ok (.iconst 0, 1) := by decide +kernel
theorem dL_arePeople_450 : decode cL_arePeople 450 = .ok (.istore 5, 2) := by decide +kernel
theorem dL_arePeople_452 : decode cL_arePeople 452 = .ok (.iload 5, 2) := by decide +kernel
theorem dL_arePeople_454 : decode cL_arePeople 454 = .ok (.aload_n 3, 1) := by decide +kernel
theorem dL_arePeople_455 : decode cL_arePeople 455 = .ok (.iconst 2, 1) := by decide +kernel
theorem dL_arePeople_456 : decode cL_arePeople 456 = .ok (.iaload, 1) := by decide +kernel
theorem dL_arePeople_457 : decode cL_arePeople 457 = .ok (.if_icmp .ge 38, 3) := by decide +kernel
theorem dL_arePeople_460 : decode cL_arePeople 460 = .ok (.iload 4, 2) := by decide +kernel
theorem dL_arePeople_462 : decode cL_arePeople 462 = .ok (.ifCond .eq 33, 3) := by decide +kernel
theorem dL_arePeople_465 : decode cL_arePeople 465 = .ok (.aload_n 0, 1) := by decide +kernel
theorem dL_arePeople_466 : decode cL_arePeople 466 = .ok (.iload 5, 2) := by decide +kernel
theorem dL_arePeople_468 : decode cL_arePeople 468 = .ok (.invokevirtual 70, 3) := by decide +kernel
theorem dL_arePeople_471 : decode cL_arePeople 471 = .ok (.aload_n 2, 1) := by decide +kernel
theorem dL_arePeople_472 : decode cL_arePeople 472 = .ok (.iconst 4, 1) := by decide +kernel
theorem dL_arePeople_473 : decode cL_arePeople 473 = .ok (.iload 5, 2) := by decide +kernel
theorem dL_arePeople_475 : decode cL_arePeople 475 = .ok (.imul, 1) := by decide +kernel
theorem dL_arePeople_476 : decode cL_arePeople 476 = .ok (.iconst 2, 1) := by decide +kernel
theorem dL_arePeople_477 : decode cL_arePeople 477 = .ok (.iadd, 1) := by decide +kernel
theorem dL_arePeople_478 : decode cL_arePeople 478 = .ok (.iaload, 1) := by decide +kernel
theorem dL_arePeople_479 : decode cL_arePeople 479 = .ok (.if_icmp .ne 7, 3) := by decide +kernel
theorem dL_arePeople_482 : decode cL_arePeople 482 = .ok (.iconst 1, 1) := by decide +kernel
theorem dL_arePeople_483 : decode cL_arePeople 483 = .ok (.goto 4, 3) := by decide +kernel
theorem dL_arePeople_486 : decode cL_arePeople 486 = .ok (.iconst 0, 1) := by decide +kernel
theorem dL_arePeople_487 : decode cL_arePeople 487 = .ok (.istore 4, 2) := by decide +kernel
theorem dL_arePeople_489 : decode cL_arePeople 489 = .ok (.iinc 5 1, 3) := by decide +kernel
theorem dL_arePeople_492 : decode cL_arePeople 492 = .ok (.goto (-40), 3) := by decide +kernel
theorem dL_arePeople_495 : decode cL_arePeople 495 = .ok (.iload 4, 2) := by decide +kernel
theorem dL_arePeople_497 : decode cL_arePeople 497 = .ok (.ifCond .eq 59, 3) := by decide +kernel
theorem dL_arePeople_500 : decode cL_arePeople 500 = .ok (.aload_n 0, 1) := by decide +kernel
theorem dL_arePeople_501 : decode cL_arePeople 501 = .ok (.iconst 4, 1) := by decide +kernel
theorem dL_arePeople_502 : decode cL_arePeople 502 = .ok (.iconst 3, 1) := by decide +kernel
theorem dL_arePeople_503 : decode cL_arePeople 503 = .ok (.iconst 0, 1) := by decide +kernel
theorem dL_arePeople_504 : decode cL_arePeople 504 = .ok (.invokestatic 82, 3) := by decide +kernel
theorem dL_arePeople_507 : decode cL_arePeople 507 = .ok (.bipush (-30), 2) := by decide +kernel
theorem dL_arePeople_509 : decode cL_arePeople 509 = .ok (.if_icmp .ne 47, 3) := by decide +kernel
theorem dL_arePeople_512 : decode cL_arePeople 512 = .ok (.aload_n 0, 1) := by decide +kernel
theorem dL_arePeople_513 : decode cL_arePeople 513 = .ok (.iconst 4, 1) := by decide +kernel
theorem dL_arePeople_514 : decode cL_arePeople 514 = .ok (.iconst (-1), 1) := by decide +kernel
theorem dL_arePeople_515 : decode cL_arePeople 515 = .ok (.iconst 0, 1) := by decide +kernel
theorem dL_arePeople_516 : decode cL_arePeople 516 = .ok (.invokestatic 82, 3) := by decide +kernel
theorem dL_arePeople_519 : decode cL_arePeople 519 = .ok (.bipush (-30), 2) := by decide +kernel
theorem dL_arePeople_521 : decode cL_arePeople 521 = .ok (.if_icmp .ne 35, 3) := by decide +kernel
theorem dL_arePeople_524 : decode cL_arePeople 524 = .ok (.aload_n 0, 1) := by decide +kernel
theorem dL_arePeople_525 : decode cL_arePeople 525 = .ok (.bipush 6, 2) := by decide +kernel
theorem dL_arePeople_527 : decode cL_arePeople 527 = .ok (.aload_n 3, 1) := by decide +kernel
theorem dL_arePeople_528 : decode cL_arePeople 528 = .ok (.iconst 2, 1) := by decide +kernel
theorem dL_arePeople_529 : decode cL_arePeople 529 = .ok (.iaload, 1) := by decide +kernel
theorem dL_arePeople_530 : decode cL_arePeople 530 = .ok (.iconst 0, 1) := by decide +kernel
theorem dL_arePeople_531 : decode cL_arePeople 531 = .ok (.invokestatic 82, 3) := by decide +kernel
theorem dL_arePeople_534 : decode cL_arePeople 534 = .ok (.bipush (-30), 2) := by decide +kernel
theorem dL_arePeople_536 : decode cL_arePeople 536 = .ok (.if_icmp .ne 20, 3) := by decide +kernel
theorem dL_arePeople_539 : decode cL_arePeople 539 = .ok (.aload_n 0, 1) := by decide +kernel
theorem dL_arePeople_540 : decode cL_arePeople 540 = .ok (.bipush 6, 2) := by decide +kernel
theorem dL_arePeople_542 : decode cL_arePeople 542 = .ok (.iconst (-1), 1) := by decide +kernel
theorem dL_arePeople_543 : decode cL_arePeople 543 = .ok (.iconst 0, 1) := by decide +kernel
theorem dL_arePeople_544 : decode cL_arePeople 544 = .ok (.invokestatic 82, 3) := by decide +kernel
theorem dL_arePeople_547 : decode cL_arePeople 547 = .ok (.bipush (-30), 2) := by decide +kernel
theorem dL_arePeople_549 : decode cL_arePeople 549 = .ok (.if_icmp .ne 7, 3) := by decide +kernel
theorem dL_arePeople_552 : decode cL_arePeople 552 = .ok (.iconst 1, 1) := by decide +kernel
theorem dL_arePeople_553 : decode cL_arePeople 553 = .ok (.goto 4, 3) := by decide +kernel
theorem dL_arePeople_556 : decode cL_arePeople 556 = .ok (.iconst 0, 1) := by decide +kernel
theorem dL_arePeople_557 : decode cL_arePeople 557 = .ok (.ireturn, 1) := by decide +kernel
set_option maxRecDepth 20000 in
theorem ggL_isPaper_L_does : GoodIn wsL_isPaper wsL_does := goodIn_ca (goodIn_ca (goodIn_ca (goodIn_ca (goodIn_r _ [4, 5, 6, 7, 8, 9, 10, 11, 12, 13, 14, 15, 16, 17, 18, 19, 20, 21, 22, 23, 24, 25, 26, 27, 28, 29, 30, 31, 32, 33, 34, 35, 36, 37, 38, 39, 40, 41, 42, 43, 44, 45, 46, 47, 48, 49, 50, 51, 52, 53, 54, 55, 56, 57, 58, 59, 60, 61, 62, 63, 64, 65, 66, 67, 68, 69, 70, 71, 72, 73, 74, 75, 76, 77, 78, 79, 80, 81, 82, 83, 84, 85, 86, 87, 88, 89, 90, 91, 92, 93, 94, 95, 96, 97, 98, 99, 100, 101, 102, 103, 104, 105, 106, 107, 108, 109, 110, 111, 112, 113, 114, 115, 116, 117, 118, 119, 120, 121, 122, 123, 124, 125, 126, 127, 128, 129, 130, 131, 132, 133, 134, 135, 136, 137, 138, 139, 140, 141, 142, 143, 144, 145, 146, 147, 148, 149, 150, 151, 152, 153, 154, 155, 156, 157, 158, 159, 160, 161, 162, 163, 164, 165, 166, 167, 168, 169, 170, 171, 172, 173, 174, 175, 176, 177, 178, 179, 180, 181, 182, 183, 184, 185, 186, 187, 188, 189, 190, 191, 192, 193, 194, 195, 196, 197, 198, 199, 200, 201, 202, 203, 204, 205, 206, 207, 208, 209, 210, 211, 212, 213, 214, 215, 216, 217, 218, 219, 220, 221, 222, 223, 224, 225, 226, 227, 228, 229, 230, 231, 232, 233, 234, 235, 236, 237, 238, 239, 240, 241, 242, 243, 244, 245, 246, 247, 248, 249, 250, 251, 252, 253, 254, 255, 256, 257, 258, 259, 260, 261, 262, 263, 264, 265, 266, 267, 268, 269, 270, 271, 272, 273, 274, 287, 288, 289, 290, 291, 292, 293, 294, 295, 296, 297, 298, 299, 300, 301, 302, 303, 304, 305, 306, 307, 308, 309, 310, 311, 312, 313, 314, 315, 316, 317, 318, 319, 320, 321, 322] (by decide +kernel) (by decide +kernel)) (goodIn_sub (fun _ h => List.mem_cons_of_mem _ (List.mem_append_left _ (List.mem_append_left _ (List.mem_append_left _ (List.mem_append_right _ h))))) (by decide +kernel))) (goodIn_sub (fun _ h => List.mem_cons_of_mem _ (List.mem_append_left _ (List.mem_append_left _ (List.mem_append_right _ h)))) (by decide +kernel))) (goodIn_sub (fun _ h => List.mem_cons_of_mem _ (List.mem_append_left _ (List.mem_append_right _ h))) (by decide +kernel))) (goodIn_sub (fun _ h => List.mem_cons_of_mem _ (List.mem_append_right _ h)) (by decide +kernel))
set_option maxRecDepth 20000 in
theorem gL_isPaper_L_does : GoodIn wsL_isPaper (va_wsS RL 96 yL_does wsL_does) := goodIn_app (goodIn_of _ (by decide +kernel)) ggL_isPaper_L_does
set_option maxRecDepth 20000 in
theorem ggL_isPaper_X5_regime : GoodIn wsL_isPaper wsX5_regime := goodIn_ca (goodIn_r _ [278, 279, 51, 52, 53, 11, 54, 55, 56, 16, 293, 294, 295, 296, 297, 298, 299, 300, 301, 302, 303, 304, 305, 306, 287, 288, 289, 290, 291, 292] (by decide +kernel) (by decide +kernel)) (goodIn_sub (fun _ h => List.mem_cons_of_mem _ (List.mem_append_left _ (List.mem_append_right _ h))) (by decide +kernel))
set_option maxRecDepth 20000 in
theorem gL_isPaper_X5_regime : GoodIn wsL_isPaper (wsV RL 57 RX5 yX5_regime wsX5_regime) := goodIn_app (goodIn_of _ (by decide +kernel)) ggL_isPaper_X5_regime
set_option maxRecDepth 20000 in
theorem ggL_isPaper_L_due : GoodIn wsL_isPaper wsL_due := goodIn_r _ [282] (by decide +kernel) (by decide +kernel)
set_option maxRecDepth 20000 in
theorem gL_isPaper_L_due : GoodIn wsL_isPaper (va_wsS RL 88 yL_due wsL_due) := goodIn_app (goodIn_of _ (by decide +kernel)) ggL_isPaper_L_due
set_option maxRecDepth 20000 in
theorem ggL_isPaper_X5_isIn : GoodIn wsL_isPaper wsX5_isIn := goodIn_ca (goodIn_r _ [286, 63, 51, 52, 53, 11, 54, 55, 56, 16, 293, 294, 295, 296, 297, 298, 299, 300, 301, 302, 303, 304, 305, 306, 287, 288, 289, 290, 291, 292] (by decide +kernel) (by decide +kernel)) (goodIn_sub (fun _ h => List.mem_cons_of_mem _ (List.mem_append_left _ (List.mem_append_right _ h))) (by decide +kernel))
set_option maxRecDepth 20000 in
theorem gL_isPaper_X5_isIn : GoodIn wsL_isPaper (wsV RL 53 RX5 yX5_isIn wsX5_isIn) := goodIn_app (goodIn_of _ (by decide +kernel)) ggL_isPaper_X5_isIn
theorem dL_isPaper_0 : decode cL_isPaper 0 = .ok (.iload 6, 2) := by decide +kernel
theorem dL_isPaper_2 : decode cL_isPaper 2 = .ok (.aload 4, 2) := by decide +kernel
theorem dL_isPaper_4 : decode cL_isPaper 4 = .ok (.iconst 1, 1) := by decide +kernel
theorem dL_isPaper_5 : decode cL_isPaper 5 = .ok (.iaload, 1) := by decide +kernel
theorem dL_isPaper_6 : decode cL_isPaper 6 = .ok (.if_icmp .ge 18, 3) := by decide +kernel
theorem dL_isPaper_9 : decode cL_isPaper 9 = .ok (.iload 5, 2) := by decide +kernel
theorem dL_isPaper_11 : decode cL_isPaper 11 = .ok (.ifCond .gt 9, 3) := by decide +kernel
theorem dL_isPaper_14 : decode cL_isPaper 14 = .ok (.iload 7, 2) := by decide +kernel
theorem dL_isPaper_16 : decode cL_isPaper 16 = .ok (.iconst 4, 1) := by decide +kernel
theorem dL_isPaper_17 : decode cL_isPaper 17 = .ok (.if_icmp .ge 7, 3) := by decide +kernel
theorem dL_isPaper_20 : decode cL_isPaper 20 = .ok (.iconst 1, 1) := by decide +kernel
theorem dL_isPaper_21 : decode cL_isPaper 21 = .ok (.goto 4, 3) := by decide +kernel
theorem dL_isPaper_24 : decode cL_isPaper 24 = .ok (.iconst 0, 1) := by decide +kernel
theorem dL_isPaper_25 : decode cL_isPaper 25 = .ok (.istore 9, 2) := by decide +kernel
theorem dL_isPaper_27 : decode cL_isPaper 27 = .ok (.iload 8, 2) := by decide +kernel
theorem dL_isPaper_29 : decode cL_isPaper 29 = .ok (.bipush 30, 2) := by decide +kernel
theorem dL_isPaper_31 : decode cL_isPaper 31 = .ok (.irem, 1) := by decide +kernel
theorem dL_isPaper_32 : decode cL_isPaper 32 = .ok (.ifCond .ne 8, 3) := by decide +kernel
theorem dL_isPaper_35 : decode cL_isPaper 35 = .ok (.bipush 101, 2) := by decide +kernel
theorem dL_isPaper_37 : decode cL_isPaper 37 = .ok (.goto 8, 3) := by decide +kernel
theorem dL_isPaper_40 : decode cL_isPaper 40 = .ok (.iload 8, 2) := by decide +kernel
theorem dL_isPaper_42 : decode cL_isPaper 42 = .ok (.bipush 15, 2) := by decide +kernel
theorem dL_isPaper_44 : decode cL_isPaper 44 = .ok (.irem, 1) := by decide +kernel
theorem dL_isPaper_45 : decode cL_isPaper 45 = .ok (.istore 10, 2) := by decide +kernel
theorem dL_isPaper_47 : decode cL_isPaper 47 = .ok (.iload 9, 2) := by decide +kernel
theorem dL_isPaper_49 : decode cL_isPaper 49 = .ok (.ifCond .eq 11, 3) := by decide +kernel
theorem dL_isPaper_52 : decode cL_isPaper 52 = .ok (.bipush 10, 2) := by decide +kernel
theorem dL_isPaper_54 : decode cL_isPaper 54 = .ok (.iload 6, 2) := by decide +kernel
theorem dL_isPaper_56 : decode cL_isPaper 56 = .ok (.imul, 1) := by decide +kernel
theorem dL_isPaper_57 : decode cL_isPaper 57 = .ok (.goto 4, 3) := by decide +kernel
theorem dL_isPaper_60 : decode cL_isPaper 60 = .ok (.iconst 0, 1) := by decide +kernel
theorem dL_isPaper_61 : decode cL_isPaper 61 = .ok (.istore 11, 2) := by decide +kernel
theorem dL_isPaper_63 : decode cL_isPaper 63 = .ok (.iload 9, 2) := by decide +kernel
theorem dL_isPaper_65 : decode cL_isPaper 65 = .ok (.ifCond .eq 36, 3) := by decide +kernel
theorem dL_isPaper_68 : decode cL_isPaper 68 = .ok (.aload_n 1, 1) := by decide +kernel
theorem dL_isPaper_69 : decode cL_isPaper 69 = .ok (.iload 11, 2) := by decide +kernel
theorem dL_isPaper_71 : decode cL_isPaper 71 = .ok (.iconst 4, 1) := by decide +kernel
theorem dL_isPaper_72 : decode cL_isPaper 72 = .ok (.iadd, 1) := by decide +kernel
theorem dL_isPaper_73 : decode cL_isPaper 73 = .ok (.iaload, 1) := by decide +kernel
theorem dL_isPaper_74 : decode cL_isPaper 74 = .ok (.iconst 1, 1) := by decide +kernel
theorem dL_isPaper_75 : decode cL_isPaper 75 = .ok (.if_icmp .eq 22, 3) := by decide +kernel
theorem dL_isPaper_78 : decode cL_isPaper 78 = .ok (.aload_n 2, 1) := by decide +kernel
theorem dL_isPaper_79 : decode cL_isPaper 79 = .ok (.iconst 3, 1) := by decide +kernel
theorem dL_isPaper_80 : decode cL_isPaper 80 = .ok (.iload 6, 2) := by decide +kernel
theorem dL_isPaper_82 : decode cL_isPaper 82 = .ok (.iadd, 1) := by decide +kernel
theorem dL_isPaper_83 : decode cL_isPaper 83 = .ok (.iaload, 1) := by decide +kernel
theorem dL_isPaper_84 : decode cL_isPaper 84 = .ok (.aload_n 1, 1) := by decide +kernel
theorem dL_isPaper_85 : decode cL_isPaper 85 = .ok (.iload 11, 2) := by decide +kernel
theorem dL_isPaper_87 : decode cL_isPaper 87 = .ok (.bipush 9, 2) := by decide +kernel
theorem dL_isPaper_89 : decode cL_isPaper 89 = .ok (.iadd, 1) := by decide +kernel
theorem dL_isPaper_90 : decode cL_isPaper 90 = .ok (.iaload, 1) := by decide +kernel
theorem dL_isPaper_91 : decode cL_isPaper 91 = .ok (.iadd, 1) := by decide +kernel
theorem dL_isPaper_92 : decode cL_isPaper 92 = .ok (.bipush 50, 2) := by decide +kernel
theorem dL_isPaper_94 : decode cL_isPaper 94 = .ok (.if_icmp .ne 7, 3) := by decide +kernel
theorem dL_isPaper_97 : decode cL_isPaper 97 = .ok (.iconst 1, 1) := by decide +kernel
theorem dL_isPaper_98 : decode cL_isPaper 98 = .ok (.goto 4, 3) := by decide +kernel
theorem dL_isPaper_101 : decode cL_isPaper 101 = .ok (.iconst 0, 1) := by decide +kernel
theorem dL_isPaper_102 : decode cL_isPaper 102 = .ok (.istore 12, 2) := by decide +kernel
theorem dL_isPaper_104 : decode cL_isPaper 104 = .ok (.iload 9, 2) := by decide +kernel
theorem dL_isPaper_106 : decode cL_isPaper 106 = .ok (.ifCond .eq 15, 3) := by decide +kernel
theorem dL_isPaper_109 : decode cL_isPaper 109 = .ok (.iload 10, 2) := by decide +kernel
theorem dL_isPaper_111 : decode cL_isPaper 111 = .ok (.bipush 100, 2) := by decide +kernel
theorem dL_isPaper_113 : decode cL_isPaper 113 = .ok (.if_icmp .gt 8, 3) := by decide +kernel
theorem dL_isPaper_116 : decode cL_isPaper 116 = .ok (.iload 12, 2) := by decide +kernel
theorem dL_isPaper_118 : decode cL_isPaper 118 = .ok (.ifCond .eq 61, 3) := by decide +kernel
theorem dL_isPaper_121 : decode cL_isPaper 121 = .ok (.aload_n 0, 1) := by decide +kernel
theorem dL_isPaper_122 : decode cL_isPaper 122 = .ok (.iconst 1, 1) := by decide +kernel
theorem dL_isPaper_123 : decode cL_isPaper 123 = .ok (.iload 5, 2) := by decide +kernel
theorem dL_isPaper_125 : decode cL_isPaper 125 = .ok (.iadd, 1) := by decide +kernel
theorem dL_isPaper_126 : decode cL_isPaper 126 = .ok (.iload 6, 2) := by decide +kernel
theorem dL_isPaper_128 : decode cL_isPaper 128 = .ok (.iload 5, 2) := by decide +kernel
theorem dL_isPaper_130 : decode cL_isPaper 130 = .ok (.ifCond .ne 8, 3) := by decide +kernel
theorem dL_isPaper_133 : decode cL_isPaper 133 = .ok (.iload 7, 2) := by decide +kernel
theorem dL_isPaper_135 : decode cL_isPaper 135 = .ok (.goto 5, 3) := by decide +kernel
theorem dL_isPaper_138 : decode cL_isPaper 138 = .ok (.iload 10, 2) := by decide +kernel
theorem dL_isPaper_140 : decode cL_isPaper 140 = .ok (.iload 10, 2) := by decide +kernel
theorem dL_isPaper_142 : decode cL_isPaper 142 = .ok (.iconst 0, 1) := by decide +kernel
theorem dL_isPaper_143 : decode cL_isPaper 143 = .ok (.invokestatic 96, 3) := by decide +kernel
theorem dL_isPaper_146 : decode cL_isPaper 146 = .ok (.iload 9, 2) := by decide +kernel
theorem dL_isPaper_148 : decode cL_isPaper 148 = .ok (.ifCond .ne 8, 3) := by decide +kernel
theorem dL_isPaper_151 : decode cL_isPaper 151 = .ok (.bipush (-30), 2) := by decide +kernel
theorem dL_isPaper_153 : decode cL_isPaper 153 = .ok (.goto 17, 3) := by decide +kernel
theorem dL_isPaper_156 : decode cL_isPaper 156 = .ok (.iload 10, 2) := by decide +kernel
theorem dL_isPaper_158 : decode cL_isPaper 158 = .ok (.bipush 100, 2) := by decide +kernel
theorem dL_isPaper_160 : decode cL_isPaper 160 = .ok (.if_icmp .le 8, 3) := by decide +kernel
theorem dL_isPaper_163 : decode cL_isPaper 163 = .ok (.bipush (-20), 2) := by decide +kernel
theorem dL_isPaper_165 : decode cL_isPaper 165 = .ok (.goto 5, 3) := by decide +kernel
theorem dL_isPaper_168 : decode cL_isPaper 168 = .ok (.bipush (-10), 2) := by decide +kernel
theorem dL_isPaper_170 : decode cL_isPaper 170 = .ok (.if_icmp .ne 7, 3) := by decide +kernel
theorem dL_isPaper_173 : decode cL_isPaper 173 = .ok (.iconst 1, 1) := by decide +kernel
theorem dL_isPaper_174 : decode cL_isPaper 174 = .ok (.goto 4, 3) := by decide +kernel
theorem dL_isPaper_177 : decode cL_isPaper 177 = .ok (.iconst 0, 1) := by decide +kernel
theorem dL_isPaper_178 : decode cL_isPaper 178 = .ok (.ireturn, 1) := by decide +kernel
theorem dL_isPaper_179 : decode cL_isPaper 179 = .ok (.aload_n 0, 1) := by decide +kernel
theorem dL_isPaper_180 : decode cL_isPaper 180 = .ok (.iload 6, 2) := by decide +kernel
theorem dL_isPaper_182 : decode cL_isPaper 182 = .ok (.invokevirtual 57, 3) := by decide +kernel
theorem dL_isPaper_185 : decode cL_isPaper 185 = .ok (.istore 13, 2) := by decide +kernel
theorem dL_isPaper_187 : decode cL_isPaper 187 = .ok (.iload 5, 2) := by decide +kernel
theorem dL_isPaper_189 : decode cL_isPaper 189 = .ok (.ifCond .ne 88, 3) := by decide +kernel
theorem dL_isPaper_192 : decode cL_isPaper 192 = .ok (.aload_n 1, 1) := by decide +kernel
theorem dL_isPaper_193 : decode cL_isPaper 193 = .ok (.iload 11, 2) := by decide +kernel
theorem dL_isPaper_195 : decode cL_isPaper 195 = .ok (.iconst 2, 1) := by decide +kernel
theorem dL_isPaper_196 : decode cL_isPaper 196 = .ok (.iadd, 1) := by decide +kernel
theorem dL_isPaper_197 : decode cL_isPaper 197 = .ok (.dup2, 1) := by decide +kernel
theorem dL_isPaper_198 : decode cL_isPaper 198 = .ok (.iaload, 1) := by decide +kernel
theorem dL_isPaper_199 : decode cL_isPaper 199 = .ok (.iconst 1, 1) := by decide +kernel
theorem dL_isPaper_200 : decode cL_isPaper 200 = .ok (.iload 7, 2) := by decide +kernel
theorem dL_isPaper_202 : decode cL_isPaper 202 = .ok (.ishl, 1) := by decide +kernel
theorem dL_isPaper_203 : decode cL_isPaper 203 = .ok (.ior, 1) := by decide +kernel
theorem dL_isPaper_204 : decode cL_isPaper 204 = .ok (.iastore, 1) := by decide +kernel
theorem dL_isPaper_205 : decode cL_isPaper 205 = .ok (.aload_n 2, 1) := by decide +kernel
theorem dL_isPaper_206 : decode cL_isPaper 206 = .ok (.iconst 3, 1) := by decide +kernel
theorem dL_isPaper_207 : decode cL_isPaper 207 = .ok (.iload 6, 2) := by decide +kernel
theorem dL_isPaper_209 : decode cL_isPaper 209 = .ok (.iadd, 1) := by decide +kernel
theorem dL_isPaper_210 : decode cL_isPaper 210 = .ok (.dup2, 1) := by decide +kernel
theorem dL_isPaper_211 : decode cL_isPaper 211 = .ok (.iaload, 1) := by decide +kernel
theorem dL_isPaper_212 : decode cL_isPaper 212 = .ok (.iconst 1, 1) := by decide +kernel
theorem dL_isPaper_213 : decode cL_isPaper 213 = .ok (.iadd, 1) := by decide +kernel
theorem dL_isPaper_214 : decode cL_isPaper 214 = .ok (.iastore, 1) := by decide +kernel
theorem dL_isPaper_215 : decode cL_isPaper 215 = .ok (.aload_n 1, 1) := by decide +kernel
theorem dL_isPaper_216 : decode cL_isPaper 216 = .ok (.iload 11, 2) := by decide +kernel
theorem dL_isPaper_218 : decode cL_isPaper 218 = .ok (.bipush 7, 2) := by decide +kernel
theorem dL_isPaper_220 : decode cL_isPaper 220 = .ok (.iadd, 1) := by decide +kernel
theorem dL_isPaper_221 : decode cL_isPaper 221 = .ok (.dup2, 1) := by decide +kernel
theorem dL_isPaper_222 : decode cL_isPaper 222 = .ok (.iaload, 1) := by decide +kernel
theorem dL_isPaper_223 : decode cL_isPaper 223 = .ok (.iload 10, 2) := by decide +kernel
theorem dL_isPaper_225 : decode cL_isPaper 225 = .ok (.iadd, 1) := by decide +kernel
theorem dL_isPaper_226 : decode cL_isPaper 226 = .ok (.iastore, 1) := by decide +kernel
theorem dL_isPaper_227 : decode cL_isPaper 227 = .ok (.aload_n 0, 1) := by decide +kernel
theorem dL_isPaper_228 : decode cL_isPaper 228 = .ok (.iconst 1, 1) := by decide +kernel
theorem dL_isPaper_229 : decode cL_isPaper 229 = .ok (.iload 6, 2) := by decide +kernel
theorem dL_isPaper_231 : decode cL_isPaper 231 = .ok (.iload 7, 2) := by decide +kernel
theorem dL_isPaper_233 : decode cL_isPaper 233 = .ok (.iload 10, 2) := by decide +kernel
theorem dL_isPaper_235 : decode cL_isPaper 235 = .ok (.iconst 0, 1) := by decide +kernel
theorem dL_isPaper_236 : decode cL_isPaper 236 = .ok (.invokestatic 96, 3) := by decide +kernel
theorem dL_isPaper_239 : decode cL_isPaper 239 = .ok (.aload_n 1, 1) := by decide +kernel
theorem dL_isPaper_240 : decode cL_isPaper 240 = .ok (.iload 6, 2) := by decide +kernel
theorem dL_isPaper_242 : decode cL_isPaper 242 = .ok (.invokestatic 88, 3) := by decide +kernel
theorem dL_isPaper_245 : decode cL_isPaper 245 = .ok (.if_icmp .ne 30, 3) := by decide +kernel
theorem dL_isPaper_248 : decode cL_isPaper 248 = .ok (.aload_n 0, 1) := by decide +kernel
theorem dL_isPaper_249 : decode cL_isPaper 249 = .ok (.iload 6, 2) := by decide +kernel
theorem dL_isPaper_251 : decode cL_isPaper 251 = .ok (.invokevirtual 57, 3) := by decide +kernel
theorem dL_isPaper_254 : decode cL_isPaper 254 = .ok (.iload 13, 2) := by decide +kernel
theorem dL_isPaper_256 : decode cL_isPaper 256 = .ok (.iconst 2, 1) := by decide +kernel
theorem dL_isPaper_257 : decode cL_isPaper 257 = .ok (.if_icmp .ge 10, 3) := by decide +kernel
theorem dL_isPaper_260 : decode cL_isPaper 260 = .ok (.iload 13, 2) := by decide +kernel
theorem dL_isPaper_262 : decode cL_isPaper 262 = .ok (.iconst 1, 1) := by decide +kernel
theorem dL_isPaper_263 : decode cL_isPaper 263 = .ok (.iadd, 1) := by decide +kernel
theorem dL_isPaper_264 : decode cL_isPaper 264 = .ok (.goto 4, 3) := by decide +kernel
theorem dL_isPaper_267 : decode cL_isPaper 267 = .ok (.iconst 2, 1) := by decide +kernel
theorem dL_isPaper_268 : decode cL_isPaper 268 = .ok (.if_icmp .ne 7, 3) := by decide +kernel
theorem dL_isPaper_271 : decode cL_isPaper 271 = .ok (.iconst 1, 1) := by decide +kernel
theorem dL_isPaper_272 : decode cL_isPaper 272 = .ok (.goto 4, 3) := by decide +kernel
theorem dL_isPaper_275 : decode cL_isPaper 275 = .ok (.iconst 0, 1) := by decide +kernel
theorem dL_isPaper_276 : decode cL_isPaper 276 = .ok (.ireturn, 1) := by decide +kernel
theorem dL_isPaper_277 : decode cL_isPaper 277 = .ok (.aload_n 1, 1) := by decide +kernel
theorem dL_isPaper_278 : decode cL_isPaper 278 = .ok (.iload 11, 2) := by decide +kernel
theorem dL_isPaper_280 : decode cL_isPaper 280 = .ok (.bipush 9, 2) := by decide +kernel
theorem dL_isPaper_282 : decode cL_isPaper 282 = .ok (.iadd, 1) := by decide +kernel
theorem dL_isPaper_283 : decode cL_isPaper 283 = .ok (.iaload, 1) := by decide +kernel
theorem dL_isPaper_284 : decode cL_isPaper 284 = .ok (.bipush 10, 2) := by decide +kernel
theorem dL_isPaper_286 : decode cL_isPaper 286 = .ok (.if_icmp .ne 10, 3) := by decide +kernel
theorem dL_isPaper_289 : decode cL_isPaper 289 = .ok (.aload_n 0, 1) := by decide +kernel
theorem dL_isPaper_290 : decode cL_isPaper 290 = .ok (.iload 6, 2) := by decide +kernel
theorem dL_isPaper_292 : decode cL_isPaper 292 = .ok (.invokevirtual 53, 3) := by decide +kernel
theorem dL_isPaper_295 : decode cL_isPaper 295 = .ok (.ireturn, 1) := by decide +kernel
theorem dL_isPaper_296 : decode cL_isPaper 296 = .ok (.aload_n 3, 1) := by decide +kernel
theorem dL_isPaper_297 : decode cL_isPaper 297 = .ok (.bipush 10, 2) := by decide +kernel
theorem dL_isPaper_299 : decode cL_isPaper 299 = .ok (.iload 6, 2) := by decide +kernel
theorem dL_isPaper_301 : decode cL_isPaper 301 = .ok (.imul, 1) := by decide +kernel
theorem dL_isPaper_302 : decode cL_isPaper 302 = .ok (.aload_n 1, 1) := by decide +kernel
theorem dL_isPaper_303 : decode cL_isPaper 303 = .ok (.iload 11, 2) := by decide +kernel
theorem dL_isPaper_305 : decode cL_isPaper 305 = .ok (.bipush 9, 2) := by decide +kernel
theorem dL_isPaper_307 : decode cL_isPaper 307 = .ok (.iadd, 1) := by decide +kernel
theorem dL_isPaper_308 : decode cL_isPaper 308 = .ok (.iaload, 1) := by decide +kernel
theorem dL_isPaper_309 : decode cL_isPaper 309 = .ok (.iadd, 1) := by decide +kernel
theorem dL_isPaper_310 : decode cL_isPaper 310 = .ok (.iload 10, 2) := by decide +kernel
theorem dL_isPaper_312 : decode cL_isPaper 312 = .ok (.iastore, 1) := by decide +kernel
theorem dL_isPaper_313 : decode cL_isPaper 313 = .ok (.aload_n 1, 1) := by decide +kernel
theorem dL_isPaper_314 : decode cL_isPaper 314 = .ok (.iload 11, 2) := by decide +kernel
theorem dL_isPaper_316 : decode cL_isPaper 316 = .ok (.bipush 8, 2) := by decide +kernel
theorem dL_isPaper_318 : decode cL_isPaper 318 = .ok (.iadd, 1) := by decide +kernel
theorem dL_isPaper_319 : decode cL_isPaper 319 = .ok (.dup2, 1) := by decide +kernel
theorem dL_isPaper_320 : decode cL_isPaper 320 = .ok (.iaload, 1) := by decide +kernel
theorem dL_isPaper_321 : decode cL_isPaper 321 = .ok (.iload 10, 2) := by decide +kernel
theorem dL_isPaper_323 : decode cL_isPaper 323 = .ok (.iadd, 1) := by decide +kernel
theorem dL_isPaper_324 : decode cL_isPaper 324 = .ok (.iastore, 1) := by decide +kernel
theorem dL_isPaper_325 : decode cL_isPaper 325 = .ok (.aload_n 1, 1) := by decide +kernel
theorem dL_isPaper_326 : decode cL_isPaper 326 = .ok (.iload 11, 2) := by decide +kernel
theorem dL_isPaper_328 : decode cL_isPaper 328 = .ok (.iconst 3, 1) := by decide +kernel
theorem dL_isPaper_329 : decode cL_isPaper 329 = .ok (.iadd, 1) := by decide +kernel
theorem dL_isPaper_330 : decode cL_isPaper 330 = .ok (.iconst (-1), 1) := by decide +kernel
theorem dL_isPaper_331 : decode cL_isPaper 331 = .ok (.iastore, 1) := by decide +kernel
theorem dL_isPaper_332 : decode cL_isPaper 332 = .ok (.aload_n 1, 1) := by decide +kernel
theorem dL_isPaper_333 : decode cL_isPaper 333 = .ok (.iload 11, 2) := by decide +kernel
theorem dL_isPaper_335 : decode cL_isPaper 335 = .ok (.bipush 9, 2) := by decide +kernel
theorem dL_isPaper_337 : decode cL_isPaper 337 = .ok (.iadd, 1) := by decide +kernel
theorem dL_isPaper_338 : decode cL_isPaper 338 = .ok (.dup2, 1) := by decide +kernel
theorem dL_isPaper_339 : decode cL_isPaper 339 = .ok (.iaload, 1) := by decide +kernel
theorem dL_isPaper_340 : decode cL_isPaper 340 = .ok (.iconst 1, 1) := by decide +kernel
theorem dL_isPaper_341 : decode cL_isPaper 341 = .ok (.iadd, 1) := by decide +kernel
theorem dL_isPaper_342 : decode cL_isPaper 342 = .ok (.iastore, 1) := by decide +kernel
theorem dL_isPaper_343 : decode cL_isPaper 343 = .ok (.aload_n 0, 1) := by decide +kernel
theorem dL_isPaper_344 : decode cL_isPaper 344 = .ok (.iconst 2, 1) := by decide +kernel
theorem dL_isPaper_345 : decode cL_isPaper 345 = .ok (.iload 6, 2) := by decide +kernel
theorem dL_isPaper_347 : decode cL_isPaper 347 = .ok (.iload 10, 2) := by decide +kernel
theorem dL_isPaper_349 : decode cL_isPaper 349 = .ok (.iconst 0, 1) := by decide +kernel
theorem dL_isPaper_350 : decode cL_isPaper 350 = .ok (.iconst 0, 1) := by decide +kernel
theorem dL_isPaper_351 : decode cL_isPaper 351 = .ok (.invokestatic 96, 3) := by decide +kernel
theorem dL_isPaper_354 : decode cL_isPaper 354 = .ok (.aload_n 1, 1) := by decide +kernel
theorem dL_isPaper_355 : decode cL_isPaper 355 = .ok (.iload 11, 2) := by decide +kernel
theorem dL_isPaper_357 : decode cL_isPaper 357 = .ok (.bipush 9, 2) := by decide +kernel
theorem dL_isPaper_359 : decode cL_isPaper 359 = .ok (.iadd, 1) := by decide +kernel
theorem dL_isPaper_360 : decode cL_isPaper 360 = .ok (.iaload, 1) := by decide +kernel
theorem dL_isPaper_361 : decode cL_isPaper 361 = .ok (.iconst 1, 1) := by decide +kernel
theorem dL_isPaper_362 : decode cL_isPaper 362 = .ok (.isub, 1) := by decide +kernel
theorem dL_isPaper_363 : decode cL_isPaper 363 = .ok (.if_icmp .ne 29, 3) := by decide +kernel
theorem dL_isPaper_366 : decode cL_isPaper 366 = .ok (.aload_n 0, 1) := by decide +kernel
theorem dL_isPaper_367 : decode cL_isPaper 367 = .ok (.iload 6, 2) := by decide +kernel
theorem dL_isPaper_369 : decode cL_isPaper 369 = .ok (.invokevirtual 57, 3) := by decide +kernel
theorem dL_isPaper_372 : decode cL_isPaper 372 = .ok (.iload 13, 2) := by decide +kernel
theorem dL_isPaper_374 : decode cL_isPaper 374 = .ok (.ifCond .le 10, 3) := by decide +kernel
theorem dL_isPaper_377 : decode cL_isPaper 377 = .ok (.iload 13, 2) := by decide +kernel
theorem dL_isPaper_379 : decode cL_isPaper 379 = .ok (.iconst 1, 1) := by decide +kernel
theorem dL_isPaper_380 : decode cL_isPaper 380 = .ok (.isub, 1) := by decide +kernel
theorem dL_isPaper_381 : decode cL_isPaper 381 = .ok (.goto 4, 3) := by decide +kernel
theorem dL_isPaper_384 : decode cL_isPaper 384 = .ok (.iconst 0, 1) := by decide +kernel
theorem dL_isPaper_385 : decode cL_isPaper 385 = .ok (.if_icmp .ne 7, 3) := by decide +kernel
theorem dL_isPaper_388 : decode cL_isPaper 388 = .ok (.iconst 1, 1) := by decide +kernel
theorem dL_isPaper_389 : decode cL_isPaper 389 = .ok (.goto 4, 3) := by decide +kernel
theorem dL_isPaper_392 : decode cL_isPaper 392 = .ok (.iconst 0, 1) := by decide +kernel
theorem dL_isPaper_393 : decode cL_isPaper 393 = .ok (.ireturn, 1) := by decide +kernel
set_option maxRecDepth 20000 in
theorem ggL_isAppealed_L_does : GoodIn wsL_isAppealed wsL_does := goodIn_ca (goodIn_ca (goodIn_ca (goodIn_ca (goodIn_r _ [4, 5, 6, 7, 8, 9, 10, 11, 12, 13, 14, 15, 16, 17, 18, 19, 20, 21, 22, 23, 24, 25, 26, 27, 28, 29, 30, 31, 32, 33, 34, 35, 36, 37, 38, 39, 40, 41, 42, 43, 44, 45, 46, 47, 48, 49, 50, 51, 52, 53, 54, 55, 56, 57, 58, 59, 60, 61, 62, 63, 64, 65, 66, 67, 68, 69, 70, 71, 72, 73, 74, 75, 76, 77, 78, 79, 80, 81, 82, 83, 84, 85, 86, 87, 88, 89, 90, 91, 92, 93, 94, 95, 96, 97, 98, 99, 100, 101, 102, 103, 104, 105, 106, 107, 108, 109, 110, 111, 112, 113, 114, 115, 116, 117, 118, 119, 120, 121, 122, 123, 124, 125, 126, 127, 128, 129, 130, 131, 132, 133, 134, 135, 136, 137, 138, 139, 140, 141, 142, 143, 144, 145, 146, 147, 148, 149, 150, 151, 152, 153, 154, 155, 156, 157, 158, 159, 160, 161, 162, 163, 164, 165, 166, 167, 168, 169, 170, 171, 172, 173, 174, 175, 176, 177, 178, 179, 180, 181, 182, 183, 184, 185, 186, 187, 188, 189, 190, 191, 192, 193, 194, 195, 196, 197, 198, 199, 200, 201, 202, 203, 204, 205, 206, 207, 208, 209, 210, 211, 212, 213, 214, 215, 216, 217, 218, 219, 220, 221, 222, 223, 224, 225, 226, 227, 228, 229, 230, 231, 232, 233, 234, 235, 236, 237, 238, 239, 240, 241, 242, 243, 244, 245, 246, 247, 248, 249, 250, 251, 252, 253, 254, 255, 256, 257, 258, 259, 260, 261, 262, 263, 264, 265, 266, 267, 268, 269, 270, 271, 272, 273, 274, 287, 288, 289, 290, 291, 292, 293, 294, 295, 296, 297, 298, 299, 300, 301, 302, 303, 304, 305, 306, 307, 308, 309, 310, 311, 312, 313, 314, 315, 316, 317, 318, 319, 320, 321, 322] (by decide +kernel) (by decide +kernel)) (goodIn_sub (fun _ h => List.mem_cons_of_mem _ (List.mem_append_left _ (List.mem_append_left _ (List.mem_append_left _ (List.mem_append_right _ h))))) (by decide +kernel))) (goodIn_sub (fun _ h => List.mem_cons_of_mem _ (List.mem_append_left _ (List.mem_append_left _ (List.mem_append_right _ h)))) (by decide +kernel))) (goodIn_sub (fun _ h => List.mem_cons_of_mem _ (List.mem_append_left _ (List.mem_append_right _ h))) (by decide +kernel))) (goodIn_sub (fun _ h => List.mem_cons_of_mem _ (List.mem_append_right _ h)) (by decide +kernel))
set_option maxRecDepth 20000 in
theorem gL_isAppealed_L_does : GoodIn wsL_isAppealed (va_wsS RL 96 yL_does wsL_does) := goodIn_app (goodIn_of _ (by decide +kernel)) ggL_isAppealed_L_does
set_option maxRecDepth 20000 in
theorem ggL_isAppealed_X5_regime : GoodIn wsL_isAppealed wsX5_regime := goodIn_ca (goodIn_r _ [278, 279, 51, 52, 53, 11, 54, 55, 56, 16, 293, 294, 295, 296, 297, 298, 299, 300, 301, 302, 303, 304, 305, 306, 287, 288, 289, 290, 291, 292] (by decide +kernel) (by decide +kernel)) (goodIn_sub (fun _ h => List.mem_cons_of_mem _ (List.mem_append_left _ (List.mem_append_right _ h))) (by decide +kernel))
set_option maxRecDepth 20000 in
theorem gL_isAppealed_X5_regime : GoodIn wsL_isAppealed (wsV RL 57 RX5 yX5_regime wsX5_regime) := goodIn_app (goodIn_of _ (by decide +kernel)) ggL_isAppealed_X5_regime
set_option maxRecDepth 20000 in
theorem ggL_isAppealed_X5_limit : GoodIn wsL_isAppealed wsX5_limit := goodIn_ca (goodIn_r _ [283, 20, 51, 52, 53, 11, 54, 55, 56, 16, 207, 208, 209, 19, 210, 88, 38, 211, 212, 82, 213, 214, 215, 216, 217, 32, 34, 218, 219, 220, 105, 221, 222, 110, 223, 224, 225, 37, 226, 227, 228, 287, 288, 289, 290, 291, 292, 293, 294, 295, 296, 297, 298, 299, 300, 301, 302, 303, 304, 305, 306, 311, 312, 313, 314, 307, 308, 309, 310] (by decide +kernel) (by decide +kernel)) (goodIn_sub (fun _ h => List.mem_cons_of_mem _ (List.mem_append_left _ (List.mem_append_right _ h))) (by decide +kernel))
set_option maxRecDepth 20000 in
theorem gL_isAppealed_X5_limit : GoodIn wsL_isAppealed (wsV RL 76 RX5 yX5_limit wsX5_limit) := goodIn_app (goodIn_of _ (by decide +kernel)) ggL_isAppealed_X5_limit
set_option maxRecDepth 20000 in
theorem ggL_isAppealed_L_due : GoodIn wsL_isAppealed wsL_due := goodIn_r _ [286] (by decide +kernel) (by decide +kernel)
set_option maxRecDepth 20000 in
theorem gL_isAppealed_L_due : GoodIn wsL_isAppealed (va_wsS RL 88 yL_due wsL_due) := goodIn_app (goodIn_of _ (by decide +kernel)) ggL_isAppealed_L_due
theorem dL_isAppealed_0 : decode cL_isAppealed 0 = .ok (.iload 4, 2) := by decide +kernel
theorem dL_isAppealed_2 : decode cL_isAppealed 2 = .ok (.aload_n 3, 1) := by decide +kernel
theorem dL_isAppealed_3 : decode cL_isAppealed 3 = .ok (.iconst 1, 1) := by decide +kernel
theorem dL_isAppealed_4 : decode cL_isAppealed 4 = .ok (.iaload, 1) := by decide +kernel
theorem dL_isAppealed_5 : decode cL_isAppealed 5 = .ok (.if_icmp .ge 34, 3) := by decide +kernel
theorem dL_isAppealed_8 : decode cL_isAppealed 8 = .ok (.iload 5, 2) := by decide +kernel
theorem dL_isAppealed_10 : decode cL_isAppealed 10 = .ok (.aload_n 1, 1) := by decide +kernel
theorem dL_isAppealed_11 : decode cL_isAppealed 11 = .ok (.bipush 10, 2) := by decide +kernel
theorem dL_isAppealed_13 : decode cL_isAppealed 13 = .ok (.iload 4, 2) := by decide +kernel
theorem dL_isAppealed_15 : decode cL_isAppealed 15 = .ok (.aload_n 3, 1) := by decide +kernel
theorem dL_isAppealed_16 : decode cL_isAppealed 16 = .ok (.iconst 1, 1) := by decide +kernel
theorem dL_isAppealed_17 : decode cL_isAppealed 17 = .ok (.iaload, 1) := by decide +kernel
theorem dL_isAppealed_18 : decode cL_isAppealed 18 = .ok (.if_icmp .ge 8, 3) := by decide +kernel
theorem dL_isAppealed_21 : decode cL_isAppealed 21 = .ok (.iload 4, 2) := by decide +kernel
theorem dL_isAppealed_23 : decode cL_isAppealed 23 = .ok (.goto 4, 3) := by decide +kernel
theorem dL_isAppealed_26 : decode cL_isAppealed 26 = .ok (.iconst 0, 1) := by decide +kernel
theorem dL_isAppealed_27 : decode cL_isAppealed 27 = .ok (.imul, 1) := by decide +kernel
theorem dL_isAppealed_28 : decode cL_isAppealed 28 = .ok (.bipush 9, 2) := by decide +kernel
theorem dL_isAppealed_30 : decode cL_isAppealed 30 = .ok (.iadd, 1) := by decide +kernel
theorem dL_isAppealed_31 : decode cL_isAppealed 31 = .ok (.iaload, 1) := by decide +kernel
theorem dL_isAppealed_32 : decode cL_isAppealed 32 = .ok (.if_icmp .ge 7, 3) := by decide +kernel
theorem dL_isAppealed_35 : decode cL_isAppealed 35 = .ok (.iconst 1, 1) := by decide +kernel
theorem dL_isAppealed_36 : decode cL_isAppealed 36 = .ok (.goto 4, 3) := by decide +kernel
theorem dL_isAppealed_39 : decode cL_isAppealed 39 = .ok (.iconst 0, 1) := by decide +kernel
theorem dL_isAppealed_40 : decode cL_isAppealed 40 = .ok (.istore 6, 2) := by decide +kernel
theorem dL_isAppealed_42 : decode cL_isAppealed 42 = .ok (.iload 6, 2) := by decide +kernel
theorem dL_isAppealed_44 : decode cL_isAppealed 44 = .ok (.ifCond .eq 11, 3) := by decide +kernel
theorem dL_isAppealed_47 : decode cL_isAppealed 47 = .ok (.bipush 10, 2) := by decide +kernel
theorem dL_isAppealed_49 : decode cL_isAppealed 49 = .ok (.iload 4, 2) := by decide +kernel
theorem dL_isAppealed_51 : decode cL_isAppealed 51 = .ok (.imul, 1) := by decide +kernel
theorem dL_isAppealed_52 : decode cL_isAppealed 52 = .ok (.goto 4, 3) := by decide +kernel
theorem dL_isAppealed_55 : decode cL_isAppealed 55 = .ok (.iconst 0, 1) := by decide +kernel
theorem dL_isAppealed_56 : decode cL_isAppealed 56 = .ok (.istore 7, 2) := by decide +kernel
theorem dL_isAppealed_58 : decode cL_isAppealed 58 = .ok (.iload 6, 2) := by decide +kernel
theorem dL_isAppealed_60 : decode cL_isAppealed 60 = .ok (.ifCond .eq 32, 3) := by decide +kernel
theorem dL_isAppealed_63 : decode cL_isAppealed 63 = .ok (.aload_n 1, 1) := by decide +kernel
theorem dL_isAppealed_64 : decode cL_isAppealed 64 = .ok (.iload 7, 2) := by decide +kernel
theorem dL_isAppealed_66 : decode cL_isAppealed 66 = .ok (.iconst 4, 1) := by decide +kernel
theorem dL_isAppealed_67 : decode cL_isAppealed 67 = .ok (.iadd, 1) := by decide +kernel
theorem dL_isAppealed_68 : decode cL_isAppealed 68 = .ok (.iaload, 1) := by decide +kernel
theorem dL_isAppealed_69 : decode cL_isAppealed 69 = .ok (.ifCond .ne 23, 3) := by decide +kernel
theorem dL_isAppealed_72 : decode cL_isAppealed 72 = .ok (.aload_n 2, 1) := by decide +kernel
theorem dL_isAppealed_73 : decode cL_isAppealed 73 = .ok (.iload 4, 2) := by decide +kernel
theorem dL_isAppealed_75 : decode cL_isAppealed 75 = .ok (.bipush 10, 2) := by decide +kernel
theorem dL_isAppealed_77 : decode cL_isAppealed 77 = .ok (.imul, 1) := by decide +kernel
theorem dL_isAppealed_78 : decode cL_isAppealed 78 = .ok (.iload 5, 2) := by decide +kernel
theorem dL_isAppealed_80 : decode cL_isAppealed 80 = .ok (.iadd, 1) := by decide +kernel
theorem dL_isAppealed_81 : decode cL_isAppealed 81 = .ok (.iaload, 1) := by decide +kernel
theorem dL_isAppealed_82 : decode cL_isAppealed 82 = .ok (.sipush 1000, 3) := by decide +kernel
theorem dL_isAppealed_85 : decode cL_isAppealed 85 = .ok (.if_icmp .ge 7, 3) := by decide +kernel
theorem dL_isAppealed_88 : decode cL_isAppealed 88 = .ok (.iconst 1, 1) := by decide +kernel
theorem dL_isAppealed_89 : decode cL_isAppealed 89 = .ok (.goto 4, 3) := by decide +kernel
theorem dL_isAppealed_92 : decode cL_isAppealed 92 = .ok (.iconst 0, 1) := by decide +kernel
theorem dL_isAppealed_93 : decode cL_isAppealed 93 = .ok (.istore 8, 2) := by decide +kernel
theorem dL_isAppealed_95 : decode cL_isAppealed 95 = .ok (.iload 8, 2) := by decide +kernel
theorem dL_isAppealed_97 : decode cL_isAppealed 97 = .ok (.ifCond .ne 35, 3) := by decide +kernel
theorem dL_isAppealed_100 : decode cL_isAppealed 100 = .ok (.aload_n 0, 1) := by decide +kernel
theorem dL_isAppealed_101 : decode cL_isAppealed 101 = .ok (.iconst 3, 1) := by decide +kernel
theorem dL_isAppealed_102 : decode cL_isAppealed 102 = .ok (.iload 4, 2) := by decide +kernel
theorem dL_isAppealed_104 : decode cL_isAppealed 104 = .ok (.iload 5, 2) := by decide +kernel
theorem dL_isAppealed_106 : decode cL_isAppealed 106 = .ok (.iconst 0, 1) := by decide +kernel
theorem dL_isAppealed_107 : decode cL_isAppealed 107 = .ok (.iconst 0, 1) := by decide +kernel
theorem dL_isAppealed_108 : decode cL_isAppealed 108 = .ok (.invokestatic 96, 3) := by decide +kernel
theorem dL_isAppealed_111 : decode cL_isAppealed 111 = .ok (.iload 6, 2) := by decide +kernel
theorem dL_isAppealed_113 : decode cL_isAppealed 113 = .ok (.ifCond .eq 8, 3) := by decide +kernel
theorem dL_isAppealed_116 : decode cL_isAppealed 116 = .ok (.bipush (-10), 2) := by decide +kernel
theorem dL_isAppealed_118 : decode cL_isAppealed 118 = .ok (.goto 5, 3) := by decide +kernel
theorem dL_isAppealed_121 : decode cL_isAppealed 121 = .ok (.bipush (-30), 2) := by decide +kernel
theorem dL_isAppealed_123 : decode cL_isAppealed 123 = .ok (.if_icmp .ne 7, 3) := by decide +kernel
theorem dL_isAppealed_126 : decode cL_isAppealed 126 = .ok (.iconst 1, 1) := by decide +kernel
theorem dL_isAppealed_127 : decode cL_isAppealed 127 = .ok (.goto 4, 3) := by decide +kernel
theorem dL_isAppealed_130 : decode cL_isAppealed 130 = .ok (.iconst 0, 1) := by decide +kernel
theorem dL_isAppealed_131 : decode cL_isAppealed 131 = .ok (.ireturn, 1) := by decide +kernel
theorem dL_isAppealed_132 : decode cL_isAppealed 132 = .ok (.aload_n 0, 1) := by decide +kernel
theorem dL_isAppealed_133 : decode cL_isAppealed 133 = .ok (.iload 4, 2) := by decide +kernel
theorem dL_isAppealed_135 : decode cL_isAppealed 135 = .ok (.invokevirtual 57, 3) := by decide +kernel
theorem dL_isAppealed_138 : decode cL_isAppealed 138 = .ok (.istore 9, 2) := by decide +kernel
theorem dL_isAppealed_140 : decode cL_isAppealed 140 = .ok (.aload_n 0, 1) := by decide +kernel
theorem dL_isAppealed_141 : decode cL_isAppealed 141 = .ok (.iload 4, 2) := by decide +kernel
theorem dL_isAppealed_143 : decode cL_isAppealed 143 = .ok (.invokevirtual 76, 3) := by decide +kernel
theorem dL_isAppealed_146 : decode cL_isAppealed 146 = .ok (.istore 10, 2) := by decide +kernel
theorem dL_isAppealed_148 : decode cL_isAppealed 148 = .ok (.aload_n 1, 1) := by decide +kernel
theorem dL_isAppealed_149 : decode cL_isAppealed 149 = .ok (.iload 7, 2) := by decide +kernel
theorem dL_isAppealed_151 : decode cL_isAppealed 151 = .ok (.bipush 8, 2) := by decide +kernel
theorem dL_isAppealed_153 : decode cL_isAppealed 153 = .ok (.iadd, 1) := by decide +kernel
theorem dL_isAppealed_154 : decode cL_isAppealed 154 = .ok (.dup2, 1) := by decide +kernel
theorem dL_isAppealed_155 : decode cL_isAppealed 155 = .ok (.iaload, 1) := by decide +kernel
theorem dL_isAppealed_156 : decode cL_isAppealed 156 = .ok (.aload_n 2, 1) := by decide +kernel
theorem dL_isAppealed_157 : decode cL_isAppealed 157 = .ok (.iload 4, 2) := by decide +kernel
theorem dL_isAppealed_159 : decode cL_isAppealed 159 = .ok (.bipush 10, 2) := by decide +kernel
theorem dL_isAppealed_161 : decode cL_isAppealed 161 = .ok (.imul, 1) := by decide +kernel
theorem dL_isAppealed_162 : decode cL_isAppealed 162 = .ok (.iload 5, 2) := by decide +kernel
theorem dL_isAppealed_164 : decode cL_isAppealed 164 = .ok (.iadd, 1) := by decide +kernel
theorem dL_isAppealed_165 : decode cL_isAppealed 165 = .ok (.iaload, 1) := by decide +kernel
theorem dL_isAppealed_166 : decode cL_isAppealed 166 = .ok (.isub, 1) := by decide +kernel
theorem dL_isAppealed_167 : decode cL_isAppealed 167 = .ok (.iastore, 1) := by decide +kernel
theorem dL_isAppealed_168 : decode cL_isAppealed 168 = .ok (.aload_n 2, 1) := by decide +kernel
theorem dL_isAppealed_169 : decode cL_isAppealed 169 = .ok (.iload 4, 2) := by decide +kernel
theorem dL_isAppealed_171 : decode cL_isAppealed 171 = .ok (.bipush 10, 2) := by decide +kernel
theorem dL_isAppealed_173 : decode cL_isAppealed 173 = .ok (.imul, 1) := by decide +kernel
theorem dL_isAppealed_174 : decode cL_isAppealed 174 = .ok (.iload 5, 2) := by decide +kernel
theorem dL_isAppealed_176 : decode cL_isAppealed 176 = .ok (.iadd, 1) := by decide +kernel
theorem dL_isAppealed_177 : decode cL_isAppealed 177 = .ok (.dup2, 1) := by decide +kernel
theorem dL_isAppealed_178 : decode cL_isAppealed 178 = .ok (.iaload, 1) := by decide +kernel
theorem dL_isAppealed_179 : decode cL_isAppealed 179 = .ok (.sipush 1000, 3) := by decide +kernel
theorem dL_isAppealed_182 : decode cL_isAppealed 182 = .ok (.iadd, 1) := by decide +kernel
theorem dL_isAppealed_183 : decode cL_isAppealed 183 = .ok (.iastore, 1) := by decide +kernel
theorem dL_isAppealed_184 : decode cL_isAppealed 184 = .ok (.aload_n 0, 1) := by decide +kernel
theorem dL_isAppealed_185 : decode cL_isAppealed 185 = .ok (.iconst 3, 1) := by decide +kernel
theorem dL_isAppealed_186 : decode cL_isAppealed 186 = .ok (.iload 4, 2) := by decide +kernel
theorem dL_isAppealed_188 : decode cL_isAppealed 188 = .ok (.iload 5, 2) := by decide +kernel
theorem dL_isAppealed_190 : decode cL_isAppealed 190 = .ok (.iconst 0, 1) := by decide +kernel
theorem dL_isAppealed_191 : decode cL_isAppealed 191 = .ok (.iconst 0, 1) := by decide +kernel
theorem dL_isAppealed_192 : decode cL_isAppealed 192 = .ok (.invokestatic 96, 3) := by decide +kernel
theorem dL_isAppealed_195 : decode cL_isAppealed 195 = .ok (.aload_n 1, 1) := by decide +kernel
theorem dL_isAppealed_196 : decode cL_isAppealed 196 = .ok (.iload 4, 2) := by decide +kernel
theorem dL_isAppealed_198 : decode cL_isAppealed 198 = .ok (.invokestatic 88, 3) := by decide +kernel
theorem dL_isAppealed_201 : decode cL_isAppealed 201 = .ok (.if_icmp .ne 42, 3) := by decide +kernel
theorem dL_isAppealed_204 : decode cL_isAppealed 204 = .ok (.aload_n 0, 1) := by decide +kernel
theorem dL_isAppealed_205 : decode cL_isAppealed 205 = .ok (.iload 4, 2) := by decide +kernel
theorem dL_isAppealed_207 : decode cL_isAppealed 207 = .ok (.invokevirtual 57, 3) := by decide +kernel
theorem dL_isAppealed_210 : decode cL_isAppealed 210 = .ok (.iload 9, 2) := by decide +kernel
theorem dL_isAppealed_212 : decode cL_isAppealed 212 = .ok (.if_icmp .lt 31, 3) := by decide +kernel
theorem dL_isAppealed_215 : decode cL_isAppealed 215 = .ok (.aload_n 0, 1) := by decide +kernel
theorem dL_isAppealed_216 : decode cL_isAppealed 216 = .ok (.iload 4, 2) := by decide +kernel
theorem dL_isAppealed_218 : decode cL_isAppealed 218 = .ok (.invokevirtual 57, 3) := by decide +kernel
theorem dL_isAppealed_221 : decode cL_isAppealed 221 = .ok (.iload 9, 2) := by decide +kernel
theorem dL_isAppealed_223 : decode cL_isAppealed 223 = .ok (.iconst 1, 1) := by decide +kernel
theorem dL_isAppealed_224 : decode cL_isAppealed 224 = .ok (.iadd, 1) := by decide +kernel
theorem dL_isAppealed_225 : decode cL_isAppealed 225 = .ok (.if_icmp .gt 18, 3) := by decide +kernel
theorem dL_isAppealed_228 : decode cL_isAppealed 228 = .ok (.aload_n 0, 1) := by decide +kernel
theorem dL_isAppealed_229 : decode cL_isAppealed 229 = .ok (.iload 4, 2) := by decide +kernel
theorem dL_isAppealed_231 : decode cL_isAppealed 231 = .ok (.invokevirtual 76, 3) := by decide +kernel
theorem dL_isAppealed_234 : decode cL_isAppealed 234 = .ok (.iload 10, 2) := by decide +kernel
theorem dL_isAppealed_236 : decode cL_isAppealed 236 = .ok (.if_icmp .lt 7, 3) := by decide +kernel
theorem dL_isAppealed_239 : decode cL_isAppealed 239 = .ok (.iconst 1, 1) := by decide +kernel
theorem dL_isAppealed_240 : decode cL_isAppealed 240 = .ok (.goto 4, 3) := by decide +kernel
theorem dL_isAppealed_243 : decode cL_isAppealed 243 = .ok (.iconst 0, 1) := by decide +kernel
theorem dL_isAppealed_244 : decode cL_isAppealed 244 = .ok (.ireturn, 1) := by decide +kernel
set_option maxRecDepth 20000 in
theorem ggL_isAssigned_L_out : GoodIn wsL_isAssigned wsL_out := goodIn_r _ [4] (by decide +kernel) (by decide +kernel)
set_option maxRecDepth 20000 in
theorem gL_isAssigned_L_out : GoodIn wsL_isAssigned (va_wsS RL 92 yL_out wsL_out) := goodIn_app (goodIn_of _ (by decide +kernel)) ggL_isAssigned_L_out
set_option maxRecDepth 20000 in
theorem ggL_isAssigned_L_does : GoodIn wsL_isAssigned wsL_does := goodIn_ca (goodIn_ca (goodIn_ca (goodIn_ca (goodIn_r _ [7, 8, 9, 10, 11, 12, 13, 14, 15, 16, 17, 18, 19, 20, 21, 22, 23, 24, 25, 26, 27, 28, 29, 30, 31, 32, 33, 34, 35, 36, 37, 38, 39, 40, 41, 42, 43, 44, 45, 46, 47, 48, 49, 50, 51, 52, 53, 54, 55, 56, 57, 58, 59, 60, 61, 62, 63, 64, 65, 66, 67, 68, 69, 70, 71, 72, 73, 74, 75, 76, 77, 78, 79, 80, 81, 82, 83, 84, 85, 86, 87, 88, 89, 90, 91, 92, 93, 94, 95, 96, 97, 98, 99, 100, 101, 102, 103, 104, 105, 106, 107, 108, 109, 110, 111, 112, 113, 114, 115, 116, 117, 118, 119, 120, 121, 122, 123, 124, 125, 126, 127, 128, 129, 130, 131, 132, 133, 134, 135, 136, 137, 138, 139, 140, 141, 142, 143, 144, 145, 146, 147, 148, 149, 150, 151, 152, 153, 154, 155, 156, 157, 158, 159, 160, 161, 162, 163, 164, 165, 166, 167, 168, 169, 170, 171, 172, 173, 174, 175, 176, 177, 178, 179, 180, 181, 182, 183, 184, 185, 186, 187, 188, 189, 190, 191, 192, 193, 194, 195, 196, 197, 198, 199, 200, 201, 202, 203, 204, 205, 206, 207, 208, 209, 210, 211, 212, 213, 214, 215, 216, 217, 218, 219, 220, 221, 222, 223, 224, 225, 226, 227, 228, 229, 230, 231, 232, 233, 234, 235, 236, 237, 238, 239, 240, 241, 242, 243, 244, 245, 246, 247, 248, 249, 250, 251, 252, 253, 254, 255, 256, 257, 258, 259, 260, 261, 262, 263, 264, 265, 266, 267, 268, 269, 270, 271, 272, 273, 274, 275, 276, 277, 278, 279, 280, 281, 282, 283, 284, 285, 286, 287, 288, 289, 290, 291, 292, 293, 294, 295, 296, 297, 298, 299, 300, 301, 302, 303, 304, 305, 306, 307, 308, 309, 310, 311, 312, 313] (by decide +kernel) (by decide +kernel)) (goodIn_sub (fun _ h => List.mem_cons_of_mem _ (List.mem_append_left _ (List.mem_append_left _ (List.mem_append_left _ (List.mem_append_right _ h))))) (by decide +kernel))) (goodIn_sub (fun _ h => List.mem_cons_of_mem _ (List.mem_append_left _ (List.mem_append_left _ (List.mem_append_right _ h)))) (by decide +kernel))) (goodIn_sub (fun _ h => List.mem_cons_of_mem _ (List.mem_append_left _ (List.mem_append_right _ h))) (by decide +kernel))) (goodIn_sub (fun _ h => List.mem_cons_of_mem _ (List.mem_append_right _ h)) (by decide +kernel))
set_option maxRecDepth 20000 in
theorem gL_isAssigned_L_does : GoodIn wsL_isAssigned (va_wsS RL 96 yL_does wsL_does) := goodIn_app (goodIn_of _ (by decide +kernel)) ggL_isAssigned_L_does
theorem dL_isAssigned_0 : decode cL_isAssigned 0 = .ok (.iload 5, 2) := by decide +kernel
theorem dL_isAssigned_2 : decode cL_isAssigned 2 = .ok (.aload 4, 2) := by decide +kernel
theorem dL_isAssigned_4 : decode cL_isAssigned 4 = .ok (.iconst 1, 1) := by decide +kernel
theorem dL_isAssigned_5 : decode cL_isAssigned 5 = .ok (.iaload, 1) := by decide +kernel
theorem dL_isAssigned_6 : decode cL_isAssigned 6 = .ok (.if_icmp .ge 16, 3) := by decide +kernel
theorem dL_isAssigned_9 : decode cL_isAssigned 9 = .ok (.iload 6, 2) := by decide +kernel
theorem dL_isAssigned_11 : decode cL_isAssigned 11 = .ok (.aload 4, 2) := by decide +kernel
theorem dL_isAssigned_13 : decode cL_isAssigned 13 = .ok (.iconst 2, 1) := by decide +kernel
theorem dL_isAssigned_14 : decode cL_isAssigned 14 = .ok (.iaload, 1) := by decide +kernel
theorem dL_isAssigned_15 : decode cL_isAssigned 15 = .ok (.if_icmp .ge 7, 3) := by decide +kernel
theorem dL_isAssigned_18 : decode cL_isAssigned 18 = .ok (.iconst 1, 1) := by decide +kernel
theorem dL_isAssigned_19 : decode cL_isAssigned 19 = .ok (.goto 4, 3) := by decide +kernel
theorem dL_isAssigned_22 : decode cL_isAssigned 22 = .ok (.iconst 0, 1) := by decide +kernel
theorem dL_isAssigned_23 : decode cL_isAssigned 23 = .ok (.istore 7, 2) := by decide +kernel
theorem dL_isAssigned_25 : decode cL_isAssigned 25 = .ok (.iload 7, 2) := by decide +kernel
theorem dL_isAssigned_27 : decode cL_isAssigned 27 = .ok (.ifCond .eq 11, 3) := by decide +kernel
theorem dL_isAssigned_30 : decode cL_isAssigned 30 = .ok (.bipush 10, 2) := by decide +kernel
theorem dL_isAssigned_32 : decode cL_isAssigned 32 = .ok (.iload 5, 2) := by decide +kernel
theorem dL_isAssigned_34 : decode cL_isAssigned 34 = .ok (.imul, 1) := by decide +kernel
theorem dL_isAssigned_35 : decode cL_isAssigned 35 = .ok (.goto 4, 3) := by decide +kernel
theorem dL_isAssigned_38 : decode cL_isAssigned 38 = .ok (.iconst 0, 1) := by decide +kernel
theorem dL_isAssigned_39 : decode cL_isAssigned 39 = .ok (.istore 8, 2) := by decide +kernel
theorem dL_isAssigned_41 : decode cL_isAssigned 41 = .ok (.iload 7, 2) := by decide +kernel
theorem dL_isAssigned_43 : decode cL_isAssigned 43 = .ok (.ifCond .eq 83, 3) := by decide +kernel
theorem dL_isAssigned_46 : decode cL_isAssigned 46 = .ok (.aload_n 1, 1) := by decide +kernel
theorem dL_isAssigned_47 : decode cL_isAssigned 47 = .ok (.iload 8, 2) := by decide +kernel
theorem dL_isAssigned_49 : decode cL_isAssigned 49 = .ok (.iconst 4, 1) := by decide +kernel
theorem dL_isAssigned_50 : decode cL_isAssigned 50 = .ok (.iadd, 1) := by decide +kernel
theorem dL_isAssigned_51 : decode cL_isAssigned 51 = .ok (.iaload, 1) := by decide +kernel
theorem dL_isAssigned_52 : decode cL_isAssigned 52 = .ok (.ifCond .ne 74, 3) := by decide +kernel
theorem dL_isAssigned_55 : decode cL_isAssigned 55 = .ok (.aload_n 1, 1) := by decide +kernel
theorem dL_isAssigned_56 : decode cL_isAssigned 56 = .ok (.iload 8, 2) := by decide +kernel
theorem dL_isAssigned_58 : decode cL_isAssigned 58 = .ok (.iconst 3, 1) := by decide +kernel
theorem dL_isAssigned_59 : decode cL_isAssigned 59 = .ok (.iadd, 1) := by decide +kernel
theorem dL_isAssigned_60 : decode cL_isAssigned 60 = .ok (.iaload, 1) := by decide +kernel
theorem dL_isAssigned_61 : decode cL_isAssigned 61 = .ok (.ifCond .ge 65, 3) := by decide +kernel
theorem dL_isAssigned_64 : decode cL_isAssigned 64 = .ok (.aload_n 1, 1) := by decide +kernel
theorem dL_isAssigned_65 : decode cL_isAssigned 65 = .ok (.iload 8, 2) := by decide +kernel
theorem dL_isAssigned_67 : decode cL_isAssigned 67 = .ok (.iconst 2, 1) := by decide +kernel
theorem dL_isAssigned_68 : decode cL_isAssigned 68 = .ok (.iadd, 1) := by decide +kernel
theorem dL_isAssigned_69 : decode cL_isAssigned 69 = .ok (.iaload, 1) := by decide +kernel
theorem dL_isAssigned_70 : decode cL_isAssigned 70 = .ok (.aload_n 2, 1) := by decide +kernel
theorem dL_isAssigned_71 : decode cL_isAssigned 71 = .ok (.iconst 4, 1) := by decide +kernel
theorem dL_isAssigned_72 : decode cL_isAssigned 72 = .ok (.iload 6, 2) := by decide +kernel
theorem dL_isAssigned_74 : decode cL_isAssigned 74 = .ok (.imul, 1) := by decide +kernel
theorem dL_isAssigned_75 : decode cL_isAssigned 75 = .ok (.iaload, 1) := by decide +kernel
theorem dL_isAssigned_76 : decode cL_isAssigned 76 = .ok (.ishr, 1) := by decide +kernel
theorem dL_isAssigned_77 : decode cL_isAssigned 77 = .ok (.iconst 1, 1) := by decide +kernel
theorem dL_isAssigned_78 : decode cL_isAssigned 78 = .ok (.iand, 1) := by decide +kernel
theorem dL_isAssigned_79 : decode cL_isAssigned 79 = .ok (.iconst 1, 1) := by decide +kernel
theorem dL_isAssigned_80 : decode cL_isAssigned 80 = .ok (.if_icmp .ne 46, 3) := by decide +kernel
theorem dL_isAssigned_83 : decode cL_isAssigned 83 = .ok (.aload_n 2, 1) := by decide +kernel
theorem dL_isAssigned_84 : decode cL_isAssigned 84 = .ok (.iconst 4, 1) := by decide +kernel
theorem dL_isAssigned_85 : decode cL_isAssigned 85 = .ok (.iload 6, 2) := by decide +kernel
theorem dL_isAssigned_87 : decode cL_isAssigned 87 = .ok (.imul, 1) := by decide +kernel
theorem dL_isAssigned_88 : decode cL_isAssigned 88 = .ok (.iconst 2, 1) := by decide +kernel
theorem dL_isAssigned_89 : decode cL_isAssigned 89 = .ok (.iadd, 1) := by decide +kernel
theorem dL_isAssigned_90 : decode cL_isAssigned 90 = .ok (.iaload, 1) := by decide +kernel
theorem dL_isAssigned_91 : decode cL_isAssigned 91 = .ok (.ifCond .le 35, 3) := by decide +kernel
theorem dL_isAssigned_94 : decode cL_isAssigned 94 = .ok (.aload_n 1, 1) := by decide +kernel
theorem dL_isAssigned_95 : decode cL_isAssigned 95 = .ok (.aload_n 2, 1) := by decide +kernel
theorem dL_isAssigned_96 : decode cL_isAssigned 96 = .ok (.aload 4, 2) := by decide +kernel
theorem dL_isAssigned_98 : decode cL_isAssigned 98 = .ok (.aload_n 2, 1) := by decide +kernel
theorem dL_isAssigned_99 : decode cL_isAssigned 99 = .ok (.iconst 4, 1) := by decide +kernel
theorem dL_isAssigned_100 : decode cL_isAssigned 100 = .ok (.iload 6, 2) := by decide +kernel
theorem dL_isAssigned_102 : decode cL_isAssigned 102 = .ok (.imul, 1) := by decide +kernel
theorem dL_isAssigned_103 : decode cL_isAssigned 103 = .ok (.iconst 1, 1) := by decide +kernel
theorem dL_isAssigned_104 : decode cL_isAssigned 104 = .ok (.iadd, 1) := by decide +kernel
theorem dL_isAssigned_105 : decode cL_isAssigned 105 = .ok (.iaload, 1) := by decide +kernel
theorem dL_isAssigned_106 : decode cL_isAssigned 106 = .ok (.invokestatic 92, 3) := by decide +kernel
theorem dL_isAssigned_109 : decode cL_isAssigned 109 = .ok (.aload_n 3, 1) := by decide +kernel
theorem dL_isAssigned_110 : decode cL_isAssigned 110 = .ok (.aload_n 2, 1) := by decide +kernel
theorem dL_isAssigned_111 : decode cL_isAssigned 111 = .ok (.iconst 4, 1) := by decide +kernel
theorem dL_isAssigned_112 : decode cL_isAssigned 112 = .ok (.iload 6, 2) := by decide +kernel
theorem dL_isAssigned_114 : decode cL_isAssigned 114 = .ok (.imul, 1) := by decide +kernel
theorem dL_isAssigned_115 : decode cL_isAssigned 115 = .ok (.iconst 1, 1) := by decide +kernel
theorem dL_isAssigned_116 : decode cL_isAssigned 116 = .ok (.iadd, 1) := by decide +kernel
theorem dL_isAssigned_117 : decode cL_isAssigned 117 = .ok (.iaload, 1) := by decide +kernel
theorem dL_isAssigned_118 : decode cL_isAssigned 118 = .ok (.iaload, 1) := by decide +kernel
theorem dL_isAssigned_119 : decode cL_isAssigned 119 = .ok (.if_icmp .ge 7, 3) := by decide +kernel
theorem dL_isAssigned_122 : decode cL_isAssigned 122 = .ok (.iconst 1, 1) := by decide +kernel
theorem dL_isAssigned_123 : decode cL_isAssigned 123 = .ok (.goto 4, 3) := by decide +kernel
theorem dL_isAssigned_126 : decode cL_isAssigned 126 = .ok (.iconst 0, 1) := by decide +kernel
theorem dL_isAssigned_127 : decode cL_isAssigned 127 = .ok (.istore 9, 2) := by decide +kernel
theorem dL_isAssigned_129 : decode cL_isAssigned 129 = .ok (.iconst 0, 1) := by decide +kernel
theorem dL_isAssigned_130 : decode cL_isAssigned 130 = .ok (.istore 10, 2) := by decide +kernel
