theorem dX5_addOrder_0 : decode cX5_addOrder 0 = .ok (.iload_n 1, 1) := by decide +kernel
theorem dX5_addOrder_1 : decode cX5_addOrder 1 = .ok (.invokestatic 52, 3) := by decide +kernel
theorem dX5_addOrder_4 : decode cX5_addOrder 4 = .ok (.aload_n 0, 1) := by decide +kernel
theorem dX5_addOrder_5 : decode cX5_addOrder 5 = .ok (.iload_n 2, 1) := by decide +kernel
theorem dX5_addOrder_6 : decode cX5_addOrder 6 = .ok (.invokevirtual 100, 3) := by decide +kernel
theorem dX5_addOrder_9 : decode cX5_addOrder 9 = .ok (.astore 5, 2) := by decide +kernel
theorem dX5_addOrder_11 : decode cX5_addOrder 11 = .ok (.iload_n 3, 1) := by decide +kernel
theorem dX5_addOrder_12 : decode cX5_addOrder 12 = .ok (.iconst 1, 1) := by decide +kernel
theorem dX5_addOrder_13 : decode cX5_addOrder 13 = .ok (.sipush 500, 3) := by decide +kernel
theorem dX5_addOrder_16 : decode cX5_addOrder 16 = .ok (.invokestatic 28, 3) := by decide +kernel
theorem dX5_addOrder_19 : decode cX5_addOrder 19 = .ok (.iload 4, 2) := by decide +kernel
theorem dX5_addOrder_21 : decode cX5_addOrder 21 = .ok (.iconst 0, 1) := by decide +kernel
theorem dX5_addOrder_22 : decode cX5_addOrder 22 = .ok (.sipush 1000, 3) := by decide +kernel
theorem dX5_addOrder_25 : decode cX5_addOrder 25 = .ok (.invokestatic 28, 3) := by decide +kernel
theorem dX5_addOrder_28 : decode cX5_addOrder 28 = .ok (.aload_n 0, 1) := by decide +kernel
theorem dX5_addOrder_29 : decode cX5_addOrder 29 = .ok (.getfield 112, 3) := by decide +kernel
theorem dX5_addOrder_32 : decode cX5_addOrder 32 = .ok (.istore 6, 2) := by decide +kernel
theorem dX5_addOrder_34 : decode cX5_addOrder 34 = .ok (.iload 6, 2) := by decide +kernel
theorem dX5_addOrder_36 : decode cX5_addOrder 36 = .ok (.ifCond .lt 13, 3) := by decide +kernel
theorem dX5_addOrder_39 : decode cX5_addOrder 39 = .ok (.iload 6, 2) := by decide +kernel
theorem dX5_addOrder_41 : decode cX5_addOrder 41 = .ok (.aload_n 0, 1) := by decide +kernel
theorem dX5_addOrder_42 : decode cX5_addOrder 42 = .ok (.getfield 17, 3) := by decide +kernel
theorem dX5_addOrder_45 : decode cX5_addOrder 45 = .ok (.arraylength, 1) := by decide +kernel
theorem dX5_addOrder_46 : decode cX5_addOrder 46 = .ok (.if_icmp .lt 13, 3) := by decide +kernel
theorem dX5_addOrder_49 : decode cX5_addOrder 49 = .ok (.new 36, 3) := by decide +kernel
theorem dX5_addOrder_52 : decode cX5_addOrder 52 = .ok (.dup, 1) := by decide +kernel
theorem dX5_addOrder_53 : decode cX5_addOrder 53 = .ok (.ldc 115, 2) := by decide +kernel
theorem dX5_addOrder_55 : decode cX5_addOrder 55 = .ok (.invokespecial 40, 3) := by decide +kernel
theorem dX5_addOrder_58 : decode cX5_addOrder 58 = .ok (.athrow, 1) := by decide +kernel
theorem dX5_addOrder_59 : decode cX5_addOrder 59 = .ok (.aload_n 0, 1) := by decide +kernel
theorem dX5_addOrder_60 : decode cX5_addOrder 60 = .ok (.getfield 17, 3) := by decide +kernel
theorem dX5_addOrder_63 : decode cX5_addOrder 63 = .ok (.iload 6, 2) := by decide +kernel
theorem dX5_addOrder_65 : decode cX5_addOrder 65 = .ok (.new 15, 3) := by decide +kernel
theorem dX5_addOrder_68 : decode cX5_addOrder 68 = .ok (.dup, 1) := by decide +kernel
theorem dX5_addOrder_69 : decode cX5_addOrder 69 = .ok (.iload 6, 2) := by decide +kernel
theorem dX5_addOrder_71 : decode cX5_addOrder 71 = .ok (.iload_n 1, 1) := by decide +kernel
theorem dX5_addOrder_72 : decode cX5_addOrder 72 = .ok (.aload 5, 2) := by decide +kernel
theorem dX5_addOrder_74 : decode cX5_addOrder 74 = .ok (.iload_n 3, 1) := by decide +kernel
theorem dX5_addOrder_75 : decode cX5_addOrder 75 = .ok (.iload 4, 2) := by decide +kernel
theorem dX5_addOrder_77 : decode cX5_addOrder 77 = .ok (.invokespecial 117, 3) := by decide +kernel
theorem dX5_addOrder_80 : decode cX5_addOrder 80 = .ok (.aastore, 1) := by decide +kernel
theorem dX5_addOrder_81 : decode cX5_addOrder 81 = .ok (.aload_n 0, 1) := by decide +kernel
theorem dX5_addOrder_82 : decode cX5_addOrder 82 = .ok (.dup, 1) := by decide +kernel
theorem dX5_addOrder_83 : decode cX5_addOrder 83 = .ok (.getfield 112, 3) := by decide +kernel
theorem dX5_addOrder_86 : decode cX5_addOrder 86 = .ok (.iconst 1, 1) := by decide +kernel
theorem dX5_addOrder_87 : decode cX5_addOrder 87 = .ok (.iadd, 1) := by decide +kernel
theorem dX5_addOrder_88 : decode cX5_addOrder 88 = .ok (.putfield 112, 3) := by decide +kernel
theorem dX5_addOrder_91 : decode cX5_addOrder 91 = .ok (.iload 6, 2) := by decide +kernel
theorem dX5_addOrder_93 : decode cX5_addOrder 93 = .ok (.ireturn, 1) := by decide +kernel
set_option maxRecDepth 20000 in
theorem ggX5_assign_X5_findPerson : GoodIn wsX5_assign wsX5_findPerson := goodIn_ca (goodIn_r _ [10, 11, 12, 13, 70, 71, 72, 73, 74, 75] (by decide +kernel) (by decide +kernel)) (goodIn_sub (fun _ h => List.mem_cons_of_mem _ (List.mem_append_right _ h)) (by decide +kernel))
set_option maxRecDepth 20000 in
theorem gX5_assign_X5_findPerson : GoodIn wsX5_assign (wsV RX5 48 RX5 yX5_findPerson wsX5_findPerson) := goodIn_app (goodIn_of _ (by decide +kernel)) ggX5_assign_X5_findPerson
set_option maxRecDepth 20000 in
theorem ggX5_assign_X5_findOrder : GoodIn wsX5_assign wsX5_findOrder := goodIn_ca (goodIn_r _ [17, 11, 12, 18, 70, 71, 72, 73, 74, 75] (by decide +kernel) (by decide +kernel)) (goodIn_sub (fun _ h => List.mem_cons_of_mem _ (List.mem_append_right _ h)) (by decide +kernel))
set_option maxRecDepth 20000 in
theorem gX5_assign_X5_findOrder : GoodIn wsX5_assign (wsV RX5 120 RX5 yX5_findOrder wsX5_findOrder) := goodIn_app (goodIn_of _ (by decide +kernel)) ggX5_assign_X5_findOrder
set_option maxRecDepth 20000 in
theorem ggX5_assign_X5_checkIn : GoodIn wsX5_assign wsX5_checkIn := goodIn_ca (goodIn_r _ [21, 1, 2, 22, 50, 51, 52, 53, 54, 55, 56, 57, 58, 59, 60, 61, 62, 63] (by decide +kernel) (by decide +kernel)) (goodIn_sub (fun _ h => List.mem_cons_of_mem _ (List.mem_append_left _ (List.mem_append_right _ h))) (by decide +kernel))
set_option maxRecDepth 20000 in
theorem gX5_assign_X5_checkIn : GoodIn wsX5_assign (va_wsS RX5 56 yX5_checkIn wsX5_checkIn) := goodIn_app (goodIn_of _ (by decide +kernel)) ggX5_assign_X5_checkIn
set_option maxRecDepth 20000 in
theorem ggX5_assign_X2_hasSkill : GoodIn wsX5_assign wsX2_hasSkill := goodIn_r _ [27, 28, 50, 51, 52, 53, 54, 55, 56, 57, 58, 59, 60, 61, 62, 63] (by decide +kernel) (by decide +kernel)
set_option maxRecDepth 20000 in
theorem gX5_assign_X2_hasSkill : GoodIn wsX5_assign (wsV RX5 133 RX2 yX2_hasSkill wsX2_hasSkill) := goodIn_app (goodIn_of _ (by decide +kernel)) ggX5_assign_X2_hasSkill
set_option maxRecDepth 20000 in
theorem ggX5_assign_X1_isFinished : GoodIn wsX5_assign wsX1_isFinished := goodIn_r _ [33, 34, 64, 65, 66, 67, 68, 69] (by decide +kernel) (by decide +kernel)
set_option maxRecDepth 20000 in
theorem gX5_assign_X1_isFinished : GoodIn wsX5_assign (wsV RX5 139 RX1 yX1_isFinished wsX1_isFinished) := goodIn_app (goodIn_of _ (by decide +kernel)) ggX5_assign_X1_isFinished
set_option maxRecDepth 20000 in
theorem ggX5_assign_X1_hasFreeTool : GoodIn wsX5_assign wsX1_hasFreeTool := goodIn_r _ [38, 39, 40, 41, 64, 65, 66, 67, 68, 69, 76, 77] (by decide +kernel) (by decide +kernel)
set_option maxRecDepth 20000 in
theorem gX5_assign_X1_hasFreeTool : GoodIn wsX5_assign (wsV RX5 143 RX1 yX1_hasFreeTool wsX1_hasFreeTool) := goodIn_app (goodIn_of _ (by decide +kernel)) ggX5_assign_X1_hasFreeTool
set_option maxRecDepth 20000 in
theorem ggX5_assign_X2_joinOrder : GoodIn wsX5_assign wsX2_joinOrder := goodIn_r _ [45, 46, 47, 48, 49, 50, 51, 52, 53, 54, 55, 56, 57, 58, 59, 60, 61, 62, 63, 64, 65, 66, 67, 68, 69, 76, 77] (by decide +kernel) (by decide +kernel)
set_option maxRecDepth 20000 in
theorem gX5_assign_X2_joinOrder : GoodIn wsX5_assign (wsV RX5 148 RX2 yX2_joinOrder wsX2_joinOrder) := goodIn_app (goodIn_of _ (by decide +kernel)) ggX5_assign_X2_joinOrder
theorem dX5_assign_0 : decode cX5_assign 0 = .ok (.aload_n 0, 1) := by decide +kernel
theorem dX5_assign_1 : decode cX5_assign 1 = .ok (.iload_n 1, 1) := by decide +kernel
theorem dX5_assign_2 : decode cX5_assign 2 = .ok (.invokevirtual 48, 3) := by decide +kernel
theorem dX5_assign_5 : decode cX5_assign 5 = .ok (.astore_n 3, 1) := by decide +kernel
theorem dX5_assign_6 : decode cX5_assign 6 = .ok (.aload_n 0, 1) := by decide +kernel
theorem dX5_assign_7 : decode cX5_assign 7 = .ok (.iload_n 2, 1) := by decide +kernel
theorem dX5_assign_8 : decode cX5_assign 8 = .ok (.invokevirtual 120, 3) := by decide +kernel
theorem dX5_assign_11 : decode cX5_assign 11 = .ok (.astore 4, 2) := by decide +kernel
theorem dX5_assign_13 : decode cX5_assign 13 = .ok (.aload_n 3, 1) := by decide +kernel
theorem dX5_assign_14 : decode cX5_assign 14 = .ok (.invokestatic 56, 3) := by decide +kernel
theorem dX5_assign_17 : decode cX5_assign 17 = .ok (.aload_n 3, 1) := by decide +kernel
theorem dX5_assign_18 : decode cX5_assign 18 = .ok (.getfield 124, 3) := by decide +kernel
theorem dX5_assign_21 : decode cX5_assign 21 = .ok (.ifnull 13, 3) := by decide +kernel
theorem dX5_assign_24 : decode cX5_assign 24 = .ok (.new 36, 3) := by decide +kernel
theorem dX5_assign_27 : decode cX5_assign 27 = .ok (.dup, 1) := by decide +kernel
theorem dX5_assign_28 : decode cX5_assign 28 = .ok (.ldc 128, 2) := by decide +kernel
theorem dX5_assign_30 : decode cX5_assign 30 = .ok (.invokespecial 40, 3) := by decide +kernel
theorem dX5_assign_33 : decode cX5_assign 33 = .ok (.athrow, 1) := by decide +kernel
theorem dX5_assign_34 : decode cX5_assign 34 = .ok (.aload_n 3, 1) := by decide +kernel
theorem dX5_assign_35 : decode cX5_assign 35 = .ok (.aload 4, 2) := by decide +kernel
theorem dX5_assign_37 : decode cX5_assign 37 = .ok (.getfield 130, 3) := by decide +kernel
theorem dX5_assign_40 : decode cX5_assign 40 = .ok (.invokevirtual 133, 3) := by decide +kernel
theorem dX5_assign_43 : decode cX5_assign 43 = .ok (.ifCond .ne 13, 3) := by decide +kernel
theorem dX5_assign_46 : decode cX5_assign 46 = .ok (.new 36, 3) := by decide +kernel
theorem dX5_assign_49 : decode cX5_assign 49 = .ok (.dup, 1) := by decide +kernel
theorem dX5_assign_50 : decode cX5_assign 50 = .ok (.ldc 137, 2) := by decide +kernel
theorem dX5_assign_52 : decode cX5_assign 52 = .ok (.invokespecial 40, 3) := by decide +kernel
theorem dX5_assign_55 : decode cX5_assign 55 = .ok (.athrow, 1) := by decide +kernel
theorem dX5_assign_56 : decode cX5_assign 56 = .ok (.aload 4, 2) := by decide +kernel
theorem dX5_assign_58 : decode cX5_assign 58 = .ok (.invokevirtual 139, 3) := by decide +kernel
theorem dX5_assign_61 : decode cX5_assign 61 = .ok (.ifCond .ne 11, 3) := by decide +kernel
theorem dX5_assign_64 : decode cX5_assign 64 = .ok (.aload 4, 2) := by decide +kernel
theorem dX5_assign_66 : decode cX5_assign 66 = .ok (.invokevirtual 143, 3) := by decide +kernel
theorem dX5_assign_69 : decode cX5_assign 69 = .ok (.ifCond .ne 13, 3) := by decide +kernel
theorem dX5_assign_72 : decode cX5_assign 72 = .ok (.new 36, 3) := by decide +kernel
theorem dX5_assign_75 : decode cX5_assign 75 = .ok (.dup, 1) := by decide +kernel
theorem dX5_assign_76 : decode cX5_assign 76 = .ok (.ldc 146, 2) := by decide +kernel
theorem dX5_assign_78 : decode cX5_assign 78 = .ok (.invokespecial 40, 3) := by decide +kernel
theorem dX5_assign_81 : decode cX5_assign 81 = .ok (.athrow, 1) := by decide +kernel
theorem dX5_assign_82 : decode cX5_assign 82 = .ok (.aload_n 3, 1) := by decide +kernel
theorem dX5_assign_83 : decode cX5_assign 83 = .ok (.aload 4, 2) := by decide +kernel
theorem dX5_assign_85 : decode cX5_assign 85 = .ok (.invokevirtual 148, 3) := by decide +kernel
theorem dX5_assign_88 : decode cX5_assign 88 = .ok (.aload 4, 2) := by decide +kernel
theorem dX5_assign_90 : decode cX5_assign 90 = .ok (.getfield 152, 3) := by decide +kernel
theorem dX5_assign_93 : decode cX5_assign 93 = .ok (.ireturn, 1) := by decide +kernel
set_option maxRecDepth 20000 in
theorem ggX5_takeOff_X5_findPerson : GoodIn wsX5_takeOff wsX5_findPerson := goodIn_ca (goodIn_r _ [9, 10, 11, 12, 42, 43, 44, 45, 46, 47] (by decide +kernel) (by decide +kernel)) (goodIn_sub (fun _ h => List.mem_cons_of_mem _ (List.mem_append_right _ h)) (by decide +kernel))
set_option maxRecDepth 20000 in
theorem gX5_takeOff_X5_findPerson : GoodIn wsX5_takeOff (wsV RX5 48 RX5 yX5_findPerson wsX5_findPerson) := goodIn_app (goodIn_of _ (by decide +kernel)) ggX5_takeOff_X5_findPerson
set_option maxRecDepth 20000 in
theorem ggX5_takeOff_X2_leaveOrder : GoodIn wsX5_takeOff wsX2_leaveOrder := goodIn_r _ [17, 18, 19, 20, 21, 22, 23, 24, 25, 26, 27, 28, 29, 30, 31, 32, 33, 34, 35, 36, 37, 38, 39, 40, 41, 48, 49] (by decide +kernel) (by decide +kernel)
set_option maxRecDepth 20000 in
theorem gX5_takeOff_X2_leaveOrder : GoodIn wsX5_takeOff (wsV RX5 157 RX2 yX2_leaveOrder wsX2_leaveOrder) := goodIn_app (goodIn_of _ (by decide +kernel)) ggX5_takeOff_X2_leaveOrder
theorem dX5_takeOff_0 : decode cX5_takeOff 0 = .ok (.aload_n 0, 1) := by decide +kernel
theorem dX5_takeOff_1 : decode cX5_takeOff 1 = .ok (.iload_n 1, 1) := by decide +kernel
theorem dX5_takeOff_2 : decode cX5_takeOff 2 = .ok (.invokevirtual 48, 3) := by decide +kernel
theorem dX5_takeOff_5 : decode cX5_takeOff 5 = .ok (.astore_n 2, 1) := by decide +kernel
theorem dX5_takeOff_6 : decode cX5_takeOff 6 = .ok (.aload_n 2, 1) := by decide +kernel
theorem dX5_takeOff_7 : decode cX5_takeOff 7 = .ok (.getfield 124, 3) := by decide +kernel
theorem dX5_takeOff_10 : decode cX5_takeOff 10 = .ok (.astore_n 3, 1) := by decide +kernel
theorem dX5_takeOff_11 : decode cX5_takeOff 11 = .ok (.aload_n 3, 1) := by decide +kernel
theorem dX5_takeOff_12 : decode cX5_takeOff 12 = .ok (.ifnonnull 13, 3) := by decide +kernel
theorem dX5_takeOff_15 : decode cX5_takeOff 15 = .ok (.new 36, 3) := by decide +kernel
theorem dX5_takeOff_18 : decode cX5_takeOff 18 = .ok (.dup, 1) := by decide +kernel
theorem dX5_takeOff_19 : decode cX5_takeOff 19 = .ok (.ldc 155, 2) := by decide +kernel
theorem dX5_takeOff_21 : decode cX5_takeOff 21 = .ok (.invokespecial 40, 3) := by decide +kernel
theorem dX5_takeOff_24 : decode cX5_takeOff 24 = .ok (.athrow, 1) := by decide +kernel
theorem dX5_takeOff_25 : decode cX5_takeOff 25 = .ok (.aload_n 2, 1) := by decide +kernel
theorem dX5_takeOff_26 : decode cX5_takeOff 26 = .ok (.invokevirtual 157, 3) := by decide +kernel
theorem dX5_takeOff_29 : decode cX5_takeOff 29 = .ok (.aload_n 3, 1) := by decide +kernel
theorem dX5_takeOff_30 : decode cX5_takeOff 30 = .ok (.getfield 160, 3) := by decide +kernel
theorem dX5_takeOff_33 : decode cX5_takeOff 33 = .ok (.ireturn, 1) := by decide +kernel
set_option maxRecDepth 20000 in
theorem ggX5_orderOf_X5_findPerson : GoodIn wsX5_orderOf wsX5_findPerson := goodIn_ca (goodIn_r _ [7, 8, 9, 10, 31, 32, 33, 34, 35, 36] (by decide +kernel) (by decide +kernel)) (goodIn_sub (fun _ h => List.mem_cons_of_mem _ (List.mem_append_right _ h)) (by decide +kernel))
set_option maxRecDepth 20000 in
theorem gX5_orderOf_X5_findPerson : GoodIn wsX5_orderOf (wsV RX5 48 RX5 yX5_findPerson wsX5_findPerson) := goodIn_app (goodIn_of _ (by decide +kernel)) ggX5_orderOf_X5_findPerson
theorem dX5_orderOf_0 : decode cX5_orderOf 0 = .ok (.aload_n 0, 1) := by decide +kernel
theorem dX5_orderOf_1 : decode cX5_orderOf 1 = .ok (.iload_n 1, 1) := by decide +kernel
theorem dX5_orderOf_2 : decode cX5_orderOf 2 = .ok (.invokevirtual 48, 3) := by decide +kernel
theorem dX5_orderOf_5 : decode cX5_orderOf 5 = .ok (.getfield 124, 3) := by decide +kernel
theorem dX5_orderOf_8 : decode cX5_orderOf 8 = .ok (.astore_n 2, 1) := by decide +kernel
theorem dX5_orderOf_9 : decode cX5_orderOf 9 = .ok (.aload_n 2, 1) := by decide +kernel
theorem dX5_orderOf_10 : decode cX5_orderOf 10 = .ok (.ifnonnull 7, 3) := by decide +kernel
theorem dX5_orderOf_13 : decode cX5_orderOf 13 = .ok (.iconst (-1), 1) := by decide +kernel
theorem dX5_orderOf_14 : decode cX5_orderOf 14 = .ok (.goto 7, 3) := by decide +kernel
theorem dX5_orderOf_17 : decode cX5_orderOf 17 = .ok (.aload_n 2, 1) := by decide +kernel
theorem dX5_orderOf_18 : decode cX5_orderOf 18 = .ok (.getfield 160, 3) := by decide +kernel
theorem dX5_orderOf_21 : decode cX5_orderOf 21 = .ok (.ireturn, 1) := by decide +kernel
set_option maxRecDepth 20000 in
theorem ggX5_left_X5_findOrder : GoodIn wsX5_left wsX5_findOrder := goodIn_ca (goodIn_r _ [6, 7, 8, 9, 16, 17, 18, 19, 20, 21] (by decide +kernel) (by decide +kernel)) (goodIn_sub (fun _ h => List.mem_cons_of_mem _ (List.mem_append_right _ h)) (by decide +kernel))
set_option maxRecDepth 20000 in
theorem gX5_left_X5_findOrder : GoodIn wsX5_left (wsV RX5 120 RX5 yX5_findOrder wsX5_findOrder) := goodIn_app (goodIn_of _ (by decide +kernel)) ggX5_left_X5_findOrder
theorem dX5_left_0 : decode cX5_left 0 = .ok (.aload_n 0, 1) := by decide +kernel
theorem dX5_left_1 : decode cX5_left 1 = .ok (.iload_n 1, 1) := by decide +kernel
theorem dX5_left_2 : decode cX5_left 2 = .ok (.invokevirtual 120, 3) := by decide +kernel
theorem dX5_left_5 : decode cX5_left 5 = .ok (.getfield 163, 3) := by decide +kernel
theorem dX5_left_8 : decode cX5_left 8 = .ok (.ireturn, 1) := by decide +kernel
set_option maxRecDepth 20000 in
theorem ggX5_account_X5_findPerson : GoodIn wsX5_account wsX5_findPerson := goodIn_ca (goodIn_r _ [9, 1, 2, 10, 29, 30, 31, 32, 33, 34] (by decide +kernel) (by decide +kernel)) (goodIn_sub (fun _ h => List.mem_cons_of_mem _ (List.mem_append_right _ h)) (by decide +kernel))
set_option maxRecDepth 20000 in
theorem gX5_account_X5_findPerson : GoodIn wsX5_account (wsV RX5 48 RX5 yX5_findPerson wsX5_findPerson) := goodIn_app (goodIn_of _ (by decide +kernel)) ggX5_account_X5_findPerson
theorem dX5_account_0 : decode cX5_account 0 = .ok (.aload_n 0, 1) := by decide +kernel
theorem dX5_account_1 : decode cX5_account 1 = .ok (.iload_n 1, 1) := by decide +kernel
theorem dX5_account_2 : decode cX5_account 2 = .ok (.invokevirtual 48, 3) := by decide +kernel
theorem dX5_account_5 : decode cX5_account 5 = .ok (.getfield 166, 3) := by decide +kernel
theorem dX5_account_8 : decode cX5_account 8 = .ok (.getfield 170, 3) := by decide +kernel
theorem dX5_account_11 : decode cX5_account 11 = .ok (.astore_n 3, 1) := by decide +kernel
theorem dX5_account_12 : decode cX5_account 12 = .ok (.iload_n 2, 1) := by decide +kernel
theorem dX5_account_13 : decode cX5_account 13 = .ok (.ifCond .lt 9, 3) := by decide +kernel
theorem dX5_account_16 : decode cX5_account 16 = .ok (.iload_n 2, 1) := by decide +kernel
theorem dX5_account_17 : decode cX5_account 17 = .ok (.aload_n 3, 1) := by decide +kernel
theorem dX5_account_18 : decode cX5_account 18 = .ok (.arraylength, 1) := by decide +kernel
theorem dX5_account_19 : decode cX5_account 19 = .ok (.if_icmp .lt 13, 3) := by decide +kernel
theorem dX5_account_22 : decode cX5_account 22 = .ok (.new 176, 3) := by decide +kernel
theorem dX5_account_25 : decode cX5_account 25 = .ok (.dup, 1) := by decide +kernel
theorem dX5_account_26 : decode cX5_account 26 = .ok (.ldc 178, 2) := by decide +kernel
theorem dX5_account_28 : decode cX5_account 28 = .ok (.invokespecial 180, 3) := by decide +kernel
theorem dX5_account_31 : decode cX5_account 31 = .ok (.athrow, 1) := by decide +kernel
theorem dX5_account_32 : decode cX5_account 32 = .ok (.aload_n 3, 1) := by decide +kernel
theorem dX5_account_33 : decode cX5_account 33 = .ok (.iload_n 2, 1) := by decide +kernel
theorem dX5_account_34 : decode cX5_account 34 = .ok (.iaload, 1) := by decide +kernel
theorem dX5_account_35 : decode cX5_account 35 = .ok (.ireturn, 1) := by decide +kernel
set_option maxRecDepth 20000 in
theorem ggX5_buy_X5_findPerson : GoodIn wsX5_buy wsX5_findPerson := goodIn_ca (goodIn_r _ [10, 11, 12, 13, 78, 79, 80, 81, 82, 83] (by decide +kernel) (by decide +kernel)) (goodIn_sub (fun _ h => List.mem_cons_of_mem _ (List.mem_append_left _ (List.mem_append_right _ h))) (by decide +kernel))
set_option maxRecDepth 20000 in
theorem gX5_buy_X5_findPerson : GoodIn wsX5_buy (wsV RX5 48 RX5 yX5_findPerson wsX5_findPerson) := goodIn_app (goodIn_of _ (by decide +kernel)) ggX5_buy_X5_findPerson
set_option maxRecDepth 20000 in
theorem ggX5_buy_X5_checkRange : GoodIn wsX5_buy wsX5_checkRange := goodIn_ca (goodIn_r _ [16, 17, 18] (by decide +kernel) (by decide +kernel)) (goodIn_sub (fun _ h => List.mem_cons_of_mem _ (List.mem_append_right _ h)) (by decide +kernel))
set_option maxRecDepth 20000 in
theorem gX5_buy_X5_checkRange : GoodIn wsX5_buy (va_wsS RX5 28 yX5_checkRange wsX5_checkRange) := goodIn_app (goodIn_of _ (by decide +kernel)) ggX5_buy_X5_checkRange
set_option maxRecDepth 20000 in
theorem ggX5_buy_X5_checkIn : GoodIn wsX5_buy wsX5_checkIn := goodIn_ca (goodIn_r _ [21, 1, 2, 22, 60, 61, 62, 63, 64, 65, 66, 67, 68, 69, 70, 71, 72, 73] (by decide +kernel) (by decide +kernel)) (goodIn_sub (fun _ h => List.mem_cons_of_mem _ (List.mem_append_left _ (List.mem_append_left _ (List.mem_append_right _ h)))) (by decide +kernel))
set_option maxRecDepth 20000 in
theorem gX5_buy_X5_checkIn : GoodIn wsX5_buy (va_wsS RX5 56 yX5_checkIn wsX5_checkIn) := goodIn_app (goodIn_of _ (by decide +kernel)) ggX5_buy_X5_checkIn
set_option maxRecDepth 20000 in
theorem ggX5_buy_X2_mayStillBuy : GoodIn wsX5_buy wsX2_mayStillBuy := goodIn_r _ [27, 28, 29, 30, 31, 32, 33, 34, 35, 36, 26, 37, 38, 39, 40, 41, 42, 43, 44, 45, 46, 47, 48, 49, 50, 51, 52, 53, 60, 61, 62, 63, 64, 65, 66, 67, 68, 69, 70, 71, 72, 73, 84, 85, 86, 87, 74, 75, 76, 77] (by decide +kernel) (by decide +kernel)
set_option maxRecDepth 20000 in
theorem gX5_buy_X2_mayStillBuy : GoodIn wsX5_buy (wsV RX5 183 RX2 yX2_mayStillBuy wsX2_mayStillBuy) := goodIn_app (goodIn_of _ (by decide +kernel)) ggX5_buy_X2_mayStillBuy
set_option maxRecDepth 20000 in
theorem ggX5_buy_X3_spend : GoodIn wsX5_buy wsX3_spend := goodIn_r _ [57, 53, 52, 58, 59, 48, 49, 50, 51, 74, 75, 76, 77] (by decide +kernel) (by decide +kernel)
set_option maxRecDepth 20000 in
theorem gX5_buy_X3_spend : GoodIn wsX5_buy (wsV RX5 189 RX3 yX3_spend wsX3_spend) := goodIn_app (goodIn_of _ (by decide +kernel)) ggX5_buy_X3_spend
theorem dX5_buy_0 : decode cX5_buy 0 = .ok (.aload_n 0, 1) := by decide +kernel
theorem dX5_buy_1 : decode cX5_buy 1 = .ok (.iload_n 1, 1) := by decide +kernel
theorem dX5_buy_2 : decode cX5_buy 2 = .ok (.invokevirtual 48, 3) := by decide +kernel
theorem dX5_buy_5 : decode cX5_buy 5 = .ok (.astore_n 3, 1) := by decide +kernel
theorem dX5_buy_6 : decode cX5_buy 6 = .ok (.iload_n 2, 1) := by decide +kernel
theorem dX5_buy_7 : decode cX5_buy 7 = .ok (.iconst 1, 1) := by decide +kernel
theorem dX5_buy_8 : decode cX5_buy 8 = .ok (.sipush 1000, 3) := by decide +kernel
theorem dX5_buy_11 : decode cX5_buy 11 = .ok (.invokestatic 28, 3) := by decide +kernel
theorem dX5_buy_14 : decode cX5_buy 14 = .ok (.aload_n 3, 1) := by decide +kernel
theorem dX5_buy_15 : decode cX5_buy 15 = .ok (.invokestatic 56, 3) := by decide +kernel
theorem dX5_buy_18 : decode cX5_buy 18 = .ok (.aload_n 3, 1) := by decide +kernel
theorem dX5_buy_19 : decode cX5_buy 19 = .ok (.getfield 166, 3) := by decide +kernel
theorem dX5_buy_22 : decode cX5_buy 22 = .ok (.astore 4, 2) := by decide +kernel
theorem dX5_buy_24 : decode cX5_buy 24 = .ok (.aload 4, 2) := by decide +kernel
theorem dX5_buy_26 : decode cX5_buy 26 = .ok (.getfield 170, 3) := by decide +kernel
theorem dX5_buy_29 : decode cX5_buy 29 = .ok (.iconst 3, 1) := by decide +kernel
theorem dX5_buy_30 : decode cX5_buy 30 = .ok (.iaload, 1) := by decide +kernel
theorem dX5_buy_31 : decode cX5_buy 31 = .ok (.iload_n 2, 1) := by decide +kernel
theorem dX5_buy_32 : decode cX5_buy 32 = .ok (.if_icmp .ge 13, 3) := by decide +kernel
theorem dX5_buy_35 : decode cX5_buy 35 = .ok (.new 36, 3) := by decide +kernel
theorem dX5_buy_38 : decode cX5_buy 38 = .ok (.dup, 1) := by decide +kernel
theorem dX5_buy_39 : decode cX5_buy 39 = .ok (.ldc 181, 2) := by decide +kernel
theorem dX5_buy_41 : decode cX5_buy 41 = .ok (.invokespecial 40, 3) := by decide +kernel
theorem dX5_buy_44 : decode cX5_buy 44 = .ok (.athrow, 1) := by decide +kernel
theorem dX5_buy_45 : decode cX5_buy 45 = .ok (.aload_n 3, 1) := by decide +kernel
theorem dX5_buy_46 : decode cX5_buy 46 = .ok (.aload_n 0, 1) := by decide +kernel
theorem dX5_buy_47 : decode cX5_buy 47 = .ok (.getfield 43, 3) := by decide +kernel
theorem dX5_buy_50 : decode cX5_buy 50 = .ok (.invokevirtual 183, 3) := by decide +kernel
theorem dX5_buy_53 : decode cX5_buy 53 = .ok (.iload_n 2, 1) := by decide +kernel
theorem dX5_buy_54 : decode cX5_buy 54 = .ok (.if_icmp .ge 13, 3) := by decide +kernel
theorem dX5_buy_57 : decode cX5_buy 57 = .ok (.new 36, 3) := by decide +kernel
theorem dX5_buy_60 : decode cX5_buy 60 = .ok (.dup, 1) := by decide +kernel
theorem dX5_buy_61 : decode cX5_buy 61 = .ok (.ldc 187, 2) := by decide +kernel
theorem dX5_buy_63 : decode cX5_buy 63 = .ok (.invokespecial 40, 3) := by decide +kernel
theorem dX5_buy_66 : decode cX5_buy 66 = .ok (.athrow, 1) := by decide +kernel
theorem dX5_buy_67 : decode cX5_buy 67 = .ok (.aload 4, 2) := by decide +kernel
theorem dX5_buy_69 : decode cX5_buy 69 = .ok (.iload_n 2, 1) := by decide +kernel
theorem dX5_buy_70 : decode cX5_buy 70 = .ok (.aload_n 0, 1) := by decide +kernel
theorem dX5_buy_71 : decode cX5_buy 71 = .ok (.getfield 43, 3) := by decide +kernel
theorem dX5_buy_74 : decode cX5_buy 74 = .ok (.bipush 7, 2) := by decide +kernel
theorem dX5_buy_76 : decode cX5_buy 76 = .ok (.idiv, 1) := by decide +kernel
theorem dX5_buy_77 : decode cX5_buy 77 = .ok (.invokevirtual 189, 3) := by decide +kernel
theorem dX5_buy_80 : decode cX5_buy 80 = .ok (.aload 4, 2) := by decide +kernel
theorem dX5_buy_82 : decode cX5_buy 82 = .ok (.getfield 170, 3) := by decide +kernel
theorem dX5_buy_85 : decode cX5_buy 85 = .ok (.iconst 3, 1) := by decide +kernel
theorem dX5_buy_86 : decode cX5_buy 86 = .ok (.iaload, 1) := by decide +kernel
theorem dX5_buy_87 : decode cX5_buy 87 = .ok (.ireturn, 1) := by decide +kernel
set_option maxRecDepth 20000 in
theorem ggX5_limit_X5_findPerson : GoodIn wsX5_limit wsX5_findPerson := goodIn_ca (goodIn_r _ [6, 7, 8, 9, 41, 42, 43, 44, 45, 46] (by decide +kernel) (by decide +kernel)) (goodIn_sub (fun _ h => List.mem_cons_of_mem _ (List.mem_append_right _ h)) (by decide +kernel))
set_option maxRecDepth 20000 in
theorem gX5_limit_X5_findPerson : GoodIn wsX5_limit (wsV RX5 48 RX5 yX5_findPerson wsX5_findPerson) := goodIn_app (goodIn_of _ (by decide +kernel)) ggX5_limit_X5_findPerson
set_option maxRecDepth 20000 in
theorem ggX5_limit_X2_mayStillBuy : GoodIn wsX5_limit wsX2_mayStillBuy := goodIn_r _ [14, 15, 16, 17, 18, 19, 20, 21, 22, 23, 13, 24, 25, 26, 27, 28, 29, 30, 31, 32, 33, 34, 35, 36, 37, 38, 39, 40, 47, 48, 49, 50, 51, 52, 53, 54, 55, 56, 57, 58, 59, 60, 61, 62, 63, 64, 65, 66, 67, 68] (by decide +kernel) (by decide +kernel)
set_option maxRecDepth 20000 in
theorem gX5_limit_X2_mayStillBuy : GoodIn wsX5_limit (wsV RX5 183 RX2 yX2_mayStillBuy wsX2_mayStillBuy) := goodIn_app (goodIn_of _ (by decide +kernel)) ggX5_limit_X2_mayStillBuy
theorem dX5_limit_0 : decode cX5_limit 0 = .ok (.aload_n 0, 1) := by decide +kernel
theorem dX5_limit_1 : decode cX5_limit 1 = .ok (.iload_n 1, 1) := by decide +kernel
theorem dX5_limit_2 : decode cX5_limit 2 = .ok (.invokevirtual 48, 3) := by decide +kernel
theorem dX5_limit_5 : decode cX5_limit 5 = .ok (.aload_n 0, 1) := by decide +kernel
theorem dX5_limit_6 : decode cX5_limit 6 = .ok (.getfield 43, 3) := by decide +kernel
theorem dX5_limit_9 : decode cX5_limit 9 = .ok (.invokevirtual 183, 3) := by decide +kernel
theorem dX5_limit_12 : decode cX5_limit 12 = .ok (.ireturn, 1) := by decide +kernel
set_option maxRecDepth 20000 in
theorem ggX5_paidOut_X5_findPerson : GoodIn wsX5_paidOut wsX5_findPerson := goodIn_ca (goodIn_r _ [7, 8, 9, 10, 29, 30, 31, 32, 33, 34] (by decide +kernel) (by decide +kernel)) (goodIn_sub (fun _ h => List.mem_cons_of_mem _ (List.mem_append_right _ h)) (by decide +kernel))
set_option maxRecDepth 20000 in
theorem gX5_paidOut_X5_findPerson : GoodIn wsX5_paidOut (wsV RX5 48 RX5 yX5_findPerson wsX5_findPerson) := goodIn_app (goodIn_of _ (by decide +kernel)) ggX5_paidOut_X5_findPerson
theorem dX5_paidOut_0 : decode cX5_paidOut 0 = .ok (.aload_n 0, 1) := by decide +kernel
theorem dX5_paidOut_1 : decode cX5_paidOut 1 = .ok (.iload_n 1, 1) := by decide +kernel
theorem dX5_paidOut_2 : decode cX5_paidOut 2 = .ok (.invokevirtual 48, 3) := by decide +kernel
theorem dX5_paidOut_5 : decode cX5_paidOut 5 = .ok (.getfield 166, 3) := by decide +kernel
theorem dX5_paidOut_8 : decode cX5_paidOut 8 = .ok (.getfield 192, 3) := by decide +kernel
theorem dX5_paidOut_11 : decode cX5_paidOut 11 = .ok (.ireturn, 1) := by decide +kernel
set_option maxRecDepth 20000 in
theorem ggX5_pass_X5_checkRange : GoodIn wsX5_pass wsX5_checkRange := goodIn_ca (goodIn_r _ [5, 6, 7] (by decide +kernel) (by decide +kernel)) (goodIn_sub (fun _ h => List.mem_cons_of_mem _ (List.mem_append_right _ h)) (by decide +kernel))
set_option maxRecDepth 20000 in
theorem gX5_pass_X5_checkRange : GoodIn wsX5_pass (va_wsS RX5 28 yX5_checkRange wsX5_checkRange) := goodIn_app (goodIn_of _ (by decide +kernel)) ggX5_pass_X5_checkRange
set_option maxRecDepth 20000 in
theorem ggX5_pass_X5_workInTheShop : GoodIn wsX5_pass wsX5_workInTheShop := goodIn_r _ [11, 12, 13, 14, 15, 16, 17, 18, 19, 20, 21, 22, 23, 24, 25, 26, 27, 28, 29, 30, 31, 32, 33, 34, 35, 36, 37, 38, 39, 40, 41, 42, 43, 44, 45, 81, 82, 83, 84, 85, 86, 87, 88, 89, 90, 91, 92, 93, 94, 95, 96, 97, 98, 99, 100, 101, 102, 103, 104, 105, 106, 107, 108, 109, 110, 111, 112] (by decide +kernel) (by decide +kernel)
set_option maxRecDepth 20000 in
theorem gX5_pass_X5_workInTheShop : GoodIn wsX5_pass (wsV RX5 195 RX5 yX5_workInTheShop wsX5_workInTheShop) := goodIn_app (goodIn_of _ (by decide +kernel)) ggX5_pass_X5_workInTheShop
set_option maxRecDepth 20000 in
theorem ggX5_pass_X5_letGoThoseDue : GoodIn wsX5_pass wsX5_letGoThoseDue := goodIn_r _ [49, 12, 1, 50, 51, 52, 16, 53, 54, 55, 56, 57, 58, 59, 60, 61, 62, 63, 64, 65, 66, 67, 68, 69, 70, 20, 71, 72, 73, 74, 75, 21, 39, 40, 41, 42, 18, 43, 44, 45, 76, 77, 78, 32, 79, 34, 80, 81, 82, 83, 84, 85, 86, 87, 88, 89, 90, 91, 92, 93, 94, 95, 96, 97, 98, 99, 100, 101, 102, 103, 104, 105, 106, 111, 112, 107, 108, 109, 110] (by decide +kernel) (by decide +kernel)
set_option maxRecDepth 20000 in
theorem gX5_pass_X5_letGoThoseDue : GoodIn wsX5_pass (wsV RX5 198 RX5 yX5_letGoThoseDue wsX5_letGoThoseDue) := goodIn_app (goodIn_of _ (by decide +kernel)) ggX5_pass_X5_letGoThoseDue
theorem dX5_pass_0 : decode cX5_pass 0 = .ok (.iload_n 1, 1) := by decide +kernel
theorem dX5_pass_1 : decode cX5_pass 1 = .ok (.iconst 1, 1) := by decide +kernel
theorem dX5_pass_2 : decode cX5_pass 2 = .ok (.bipush 100, 2) := by decide +kernel
theorem dX5_pass_4 : decode cX5_pass 4 = .ok (.invokestatic 28, 3) := by decide +kernel
theorem dX5_pass_7 : decode cX5_pass 7 = .ok (.iconst 0, 1) := by decide +kernel
theorem dX5_pass_8 : decode cX5_pass 8 = .ok (.istore_n 2, 1) := by decide +kernel
theorem dX5_pass_9 : decode cX5_pass 9 = .ok (.iconst 0, 1) := by decide +kernel
theorem dX5_pass_10 : decode cX5_pass 10 = .ok (.istore_n 3, 1) := by decide +kernel
theorem dX5_pass_11 : decode cX5_pass 11 = .ok (.iload_n 3, 1) := by decide +kernel
theorem dX5_pass_12 : decode cX5_pass 12 = .ok (.iload_n 1, 1) := by decide +kernel
theorem dX5_pass_13 : decode cX5_pass 13 = .ok (.if_icmp .ge 30, 3) := by decide +kernel
theorem dX5_pass_16 : decode cX5_pass 16 = .ok (.aload_n 0, 1) := by decide +kernel
theorem dX5_pass_17 : decode cX5_pass 17 = .ok (.invokevirtual 195, 3) := by decide +kernel
theorem dX5_pass_20 : decode cX5_pass 20 = .ok (.aload_n 0, 1) := by decide +kernel
theorem dX5_pass_21 : decode cX5_pass 21 = .ok (.dup, 1) := by decide +kernel
theorem dX5_pass_22 : decode cX5_pass 22 = .ok (.getfield 43, 3) := by decide +kernel
theorem dX5_pass_25 : decode cX5_pass 25 = .ok (.iconst 1, 1) := by decide +kernel
theorem dX5_pass_26 : decode cX5_pass 26 = .ok (.iadd, 1) := by decide +kernel
theorem dX5_pass_27 : decode cX5_pass 27 = .ok (.putfield 43, 3) := by decide +kernel
theorem dX5_pass_30 : decode cX5_pass 30 = .ok (.iload_n 2, 1) := by decide +kernel
theorem dX5_pass_31 : decode cX5_pass 31 = .ok (.aload_n 0, 1) := by decide +kernel
theorem dX5_pass_32 : decode cX5_pass 32 = .ok (.invokevirtual 198, 3) := by decide +kernel
theorem dX5_pass_35 : decode cX5_pass 35 = .ok (.iadd, 1) := by decide +kernel
theorem dX5_pass_36 : decode cX5_pass 36 = .ok (.istore_n 2, 1) := by decide +kernel
theorem dX5_pass_37 : decode cX5_pass 37 = .ok (.iinc 3 1, 3) := by decide +kernel
theorem dX5_pass_40 : decode cX5_pass 40 = .ok (.goto (-29), 3) := by decide +kernel
theorem dX5_pass_43 : decode cX5_pass 43 = .ok (.iload_n 2, 1) := by decide +kernel
theorem dX5_pass_44 : decode cX5_pass 44 = .ok (.ireturn, 1) := by decide +kernel
set_option maxRecDepth 20000 in
theorem ggX5_workInTheShop_X2_workOneDay : GoodIn wsX5_workInTheShop wsX2_workOneDay := goodIn_r _ [6, 7, 8, 9, 10, 11, 12, 13, 14, 15, 16, 17, 18, 19, 20, 21, 22, 23, 41, 42, 43, 44, 45, 46, 47, 48, 49, 50, 51, 52, 53, 54, 55, 56, 57, 58, 59, 60, 61, 62, 63, 64] (by decide +kernel) (by decide +kernel)
set_option maxRecDepth 20000 in
theorem gX5_workInTheShop_X2_workOneDay : GoodIn wsX5_workInTheShop (wsV RX5 201 RX2 yX2_workOneDay wsX2_workOneDay) := goodIn_app (goodIn_of _ (by decide +kernel)) ggX5_workInTheShop_X2_workOneDay
set_option maxRecDepth 20000 in
theorem ggX5_workInTheShop_X2_leaveFinishedOrder : GoodIn wsX5_workInTheShop wsX2_leaveFinishedOrder := goodIn_r _ [27, 7, 12, 13, 14, 15, 16, 17, 28, 29, 30, 5, 31, 32, 33, 34, 41, 42, 43, 44, 45, 46, 47, 48, 49, 50, 51, 52, 53, 54, 55, 56, 57, 58, 59, 60, 65, 66] (by decide +kernel) (by decide +kernel)
set_option maxRecDepth 20000 in
theorem gX5_workInTheShop_X2_leaveFinishedOrder : GoodIn wsX5_workInTheShop (wsV RX5 204 RX2 yX2_leaveFinishedOrder wsX2_leaveFinishedOrder) := goodIn_app (goodIn_of _ (by decide +kernel)) ggX5_workInTheShop_X2_leaveFinishedOrder
theorem dX5_workInTheShop_0 : decode cX5_workInTheShop 0 = .ok (.aload_n 0, 1) := by decide +kernel
theorem dX5_workInTheShop_1 : decode cX5_workInTheShop 1 = .ok (.getfield 11, 3) := by decide +kernel
theorem dX5_workInTheShop_4 : decode cX5_workInTheShop 4 = .ok (.astore_n 1, 1) := by decide +kernel
theorem dX5_workInTheShop_5 : decode cX5_workInTheShop 5 = .ok (.aload_n 1, 1) := by decide +kernel
theorem dX5_workInTheShop_6 : decode cX5_workInTheShop 6 = .ok (.arraylength, 1) := by decide +kernel
theorem dX5_workInTheShop_7 : decode cX5_workInTheShop 7 = .ok (.istore_n 2, 1) := by decide +kernel
theorem dX5_workInTheShop_8 : decode cX5_workInTheShop 8 = .ok (.iconst 0, 1) := by decide +kernel
theorem dX5_workInTheShop_9 : decode cX5_workInTheShop 9 = .ok (.istore_n 3, 1) := by decide +kernel
theorem dX5_workInTheShop_10 : decode cX5_workInTheShop 10 = .ok (.iload_n 3, 1) := by decide +kernel
theorem dX5_workInTheShop_11 : decode cX5_workInTheShop 11 = .ok (.iload_n 2, 1) := by decide +kernel
theorem dX5_workInTheShop_12 : decode cX5_workInTheShop 12 = .ok (.if_icmp .ge 24, 3) := by decide +kernel
theorem dX5_workInTheShop_15 : decode cX5_workInTheShop 15 = .ok (.aload_n 1, 1) := by decide +kernel
theorem dX5_workInTheShop_16 : decode cX5_workInTheShop 16 = .ok (.iload_n 3, 1) := by decide +kernel
theorem dX5_workInTheShop_17 : decode cX5_workInTheShop 17 = .ok (.aaload, 1) := by decide +kernel
theorem dX5_workInTheShop_18 : decode cX5_workInTheShop 18 = .ok (.astore 4, 2) := by decide +kernel
theorem dX5_workInTheShop_20 : decode cX5_workInTheShop 20 = .ok (.aload 4, 2) := by decide +kernel
theorem dX5_workInTheShop_22 : decode cX5_workInTheShop 22 = .ok (.ifnull 8, 3) := by decide +kernel
theorem dX5_workInTheShop_25 : decode cX5_workInTheShop 25 = .ok (.aload 4, 2) := by decide +kernel
theorem dX5_workInTheShop_27 : decode cX5_workInTheShop 27 = .ok (.invokevirtual 201, 3) := by decide +kernel
theorem dX5_workInTheShop_30 : decode cX5_workInTheShop 30 = .ok (.iinc 3 1, 3) := by decide +kernel
theorem dX5_workInTheShop_33 : decode cX5_workInTheShop 33 = .ok (.goto (-23), 3) := by decide +kernel
theorem dX5_workInTheShop_36 : decode cX5_workInTheShop 36 = .ok (.aload_n 0, 1) := by decide +kernel
theorem dX5_workInTheShop_37 : decode cX5_workInTheShop 37 = .ok (.getfield 11, 3) := by decide +kernel
theorem dX5_workInTheShop_40 : decode cX5_workInTheShop 40 = .ok (.astore_n 1, 1) := by decide +kernel
theorem dX5_workInTheShop_41 : decode cX5_workInTheShop 41 = .ok (.aload_n 1, 1) := by decide +kernel
theorem dX5_workInTheShop_42 : decode cX5_workInTheShop 42 = .ok (.arraylength, 1) := by decide +kernel
theorem dX5_workInTheShop_43 : decode cX5_workInTheShop 43 = .ok (.istore_n 2, 1) := by decide +kernel
theorem dX5_workInTheShop_44 : decode cX5_workInTheShop 44 = .ok (.iconst 0, 1) := by decide +kernel
theorem dX5_workInTheShop_45 : decode cX5_workInTheShop 45 = .ok (.istore_n 3, 1) := by decide +kernel
theorem dX5_workInTheShop_46 : decode cX5_workInTheShop 46 = .ok (.iload_n 3, 1) := by decide +kernel
theorem dX5_workInTheShop_47 : decode cX5_workInTheShop 47 = .ok (.iload_n 2, 1) := by decide +kernel
theorem dX5_workInTheShop_48 : decode cX5_workInTheShop 48 = .ok (.if_icmp .ge 24, 3) := by decide +kernel
theorem dX5_workInTheShop_51 : decode cX5_workInTheShop 51 = .ok (.aload_n 1, 1) := by decide +kernel
theorem dX5_workInTheShop_52 : decode cX5_workInTheShop 52 = .ok (.iload_n 3, 1) := by decide +kernel
theorem dX5_workInTheShop_53 : decode cX5_workInTheShop 53 = .ok (.aaload, 1) := by decide +kernel
theorem dX5_workInTheShop_54 : decode cX5_workInTheShop 54 = .ok (.astore 4, 2) := by decide +kernel
theorem dX5_workInTheShop_56 : decode cX5_workInTheShop 56 = .ok (.aload 4, 2) := by decide +kernel
theorem dX5_workInTheShop_58 : decode cX5_workInTheShop 58 = .ok (.ifnull 8, 3) := by decide +kernel
theorem dX5_workInTheShop_61 : decode cX5_workInTheShop 61 = .ok (.aload 4, 2) := by decide +kernel
theorem dX5_workInTheShop_63 : decode cX5_workInTheShop 63 = .ok (.invokevirtual 204, 3) := by decide +kernel
theorem dX5_workInTheShop_66 : decode cX5_workInTheShop 66 = .ok (.iinc 3 1, 3) := by decide +kernel
theorem dX5_workInTheShop_69 : decode cX5_workInTheShop 69 = .ok (.goto (-23), 3) := by decide +kernel
theorem dX5_workInTheShop_72 : decode cX5_workInTheShop 72 = .ok (.return_, 1) := by decide +kernel
set_option maxRecDepth 20000 in
theorem ggX5_letGoThoseDue_X2_isDue : GoodIn wsX5_letGoThoseDue wsX2_isDue := goodIn_r _ [7, 8, 9, 10, 11, 6, 12, 13, 14, 15, 16, 17, 18, 19, 20, 21, 22, 23, 24, 25, 26, 53, 54, 55, 56, 57, 58, 59, 60, 61, 62, 63, 64, 65, 66] (by decide +kernel) (by decide +kernel)
set_option maxRecDepth 20000 in
theorem gX5_letGoThoseDue_X2_isDue : GoodIn wsX5_letGoThoseDue (wsV RX5 207 RX2 yX2_isDue wsX2_isDue) := goodIn_app (goodIn_of _ (by decide +kernel)) ggX5_letGoThoseDue_X2_isDue
set_option maxRecDepth 20000 in
theorem ggX5_letGoThoseDue_X2_letGo : GoodIn wsX5_letGoThoseDue wsX2_letGo := goodIn_r _ [30, 31, 13, 8, 32, 33, 34, 6, 35, 36, 37, 38, 39, 40, 41, 42, 43, 44, 45, 46, 53, 54, 55, 56, 57, 58, 59, 60, 61, 62, 63, 64, 65, 66, 67, 68, 69, 70, 71, 72, 73, 74, 75, 76, 77, 78] (by decide +kernel) (by decide +kernel)
set_option maxRecDepth 20000 in
theorem gX5_letGoThoseDue_X2_letGo : GoodIn wsX5_letGoThoseDue (wsV RX5 210 RX2 yX2_letGo wsX2_letGo) := goodIn_app (goodIn_of _ (by decide +kernel)) ggX5_letGoThoseDue_X2_letGo
theorem dX5_letGoThoseDue_0 : decode cX5_letGoThoseDue 0 = .ok (.iconst 0, 1) := by decide +kernel
theorem dX5_letGoThoseDue_1 : decode cX5_letGoThoseDue 1 = .ok (.istore_n 1, 1) := by decide +kernel
theorem dX5_letGoThoseDue_2 : decode cX5_letGoThoseDue 2 = .ok (.aload_n 0, 1) := by decide +kernel
theorem dX5_letGoThoseDue_3 : decode cX5_letGoThoseDue 3 = .ok (.getfield 11, 3) := by decide +kernel
theorem dX5_letGoThoseDue_6 : decode cX5_letGoThoseDue 6 = .ok (.astore_n 2, 1) := by decide +kernel
theorem dX5_letGoThoseDue_7 : decode cX5_letGoThoseDue 7 = .ok (.aload_n 2, 1) := by decide +kernel
theorem dX5_letGoThoseDue_8 : decode cX5_letGoThoseDue 8 = .ok (.arraylength, 1) := by decide +kernel
theorem dX5_letGoThoseDue_9 : decode cX5_letGoThoseDue 9 = .ok (.istore_n 3, 1) := by decide +kernel
theorem dX5_letGoThoseDue_10 : decode cX5_letGoThoseDue 10 = .ok (.iconst 0, 1) := by decide +kernel
theorem dX5_letGoThoseDue_11 : decode cX5_letGoThoseDue 11 = .ok (.istore 4, 2) := by decide +kernel
theorem dX5_letGoThoseDue_13 : decode cX5_letGoThoseDue 13 = .ok (.iload 4, 2) := by decide +kernel
theorem dX5_letGoThoseDue_15 : decode cX5_letGoThoseDue 15 = .ok (.iload_n 3, 1) := by decide +kernel
theorem dX5_letGoThoseDue_16 : decode cX5_letGoThoseDue 16 = .ok (.if_icmp .ge 44, 3) := by decide +kernel
theorem dX5_letGoThoseDue_19 : decode cX5_letGoThoseDue 19 = .ok (.aload_n 2, 1) := by decide +kernel
theorem dX5_letGoThoseDue_20 : decode cX5_letGoThoseDue 20 = .ok (.iload 4, 2) := by decide +kernel
theorem dX5_letGoThoseDue_22 : decode cX5_letGoThoseDue 22 = .ok (.aaload, 1) := by decide +kernel
theorem dX5_letGoThoseDue_23 : decode cX5_letGoThoseDue 23 = .ok (.astore 5, 2) := by decide +kernel
theorem dX5_letGoThoseDue_25 : decode cX5_letGoThoseDue 25 = .ok (.aload 5, 2) := by decide +kernel
theorem dX5_letGoThoseDue_27 : decode cX5_letGoThoseDue 27 = .ok (.ifnull 27, 3) := by decide +kernel
theorem dX5_letGoThoseDue_30 : decode cX5_letGoThoseDue 30 = .ok (.aload 5, 2) := by decide +kernel
theorem dX5_letGoThoseDue_32 : decode cX5_letGoThoseDue 32 = .ok (.aload_n 0, 1) := by decide +kernel
theorem dX5_letGoThoseDue_33 : decode cX5_letGoThoseDue 33 = .ok (.getfield 43, 3) := by decide +kernel
theorem dX5_letGoThoseDue_36 : decode cX5_letGoThoseDue 36 = .ok (.invokevirtual 207, 3) := by decide +kernel
theorem dX5_letGoThoseDue_39 : decode cX5_letGoThoseDue 39 = .ok (.ifCond .eq 15, 3) := by decide +kernel
theorem dX5_letGoThoseDue_42 : decode cX5_letGoThoseDue 42 = .ok (.aload 5, 2) := by decide +kernel
theorem dX5_letGoThoseDue_44 : decode cX5_letGoThoseDue 44 = .ok (.aload_n 0, 1) := by decide +kernel
theorem dX5_letGoThoseDue_45 : decode cX5_letGoThoseDue 45 = .ok (.getfield 43, 3) := by decide +kernel
theorem dX5_letGoThoseDue_48 : decode cX5_letGoThoseDue 48 = .ok (.invokevirtual 210, 3) := by decide +kernel
theorem dX5_letGoThoseDue_51 : decode cX5_letGoThoseDue 51 = .ok (.iinc 1 1, 3) := by decide +kernel
theorem dX5_letGoThoseDue_54 : decode cX5_letGoThoseDue 54 = .ok (.iinc 4 1, 3) := by decide +kernel
theorem dX5_letGoThoseDue_57 : decode cX5_letGoThoseDue 57 = .ok (.goto (-44), 3) := by decide +kernel
theorem dX5_letGoThoseDue_60 : decode cX5_letGoThoseDue 60 = .ok (.iload_n 1, 1) := by decide +kernel
theorem dX5_letGoThoseDue_61 : decode cX5_letGoThoseDue 61 = .ok (.ireturn, 1) := by decide +kernel
theorem dX5_findPerson_0 : decode cX5_findPerson 0 = .ok (.iload_n 1, 1) := by decide +kernel
theorem dX5_findPerson_1 : decode cX5_findPerson 1 = .ok (.ifCond .lt 12, 3) := by decide +kernel
theorem dX5_findPerson_4 : decode cX5_findPerson 4 = .ok (.iload_n 1, 1) := by decide +kernel
theorem dX5_findPerson_5 : decode cX5_findPerson 5 = .ok (.aload_n 0, 1) := by decide +kernel
theorem dX5_findPerson_6 : decode cX5_findPerson 6 = .ok (.getfield 11, 3) := by decide +kernel
theorem dX5_findPerson_9 : decode cX5_findPerson 9 = .ok (.arraylength, 1) := by decide +kernel
theorem dX5_findPerson_10 : decode cX5_findPerson 10 = .ok (.if_icmp .lt 13, 3) := by decide +kernel
theorem dX5_findPerson_13 : decode cX5_findPerson 13 = .ok (.new 176, 3) := by decide +kernel
theorem dX5_findPerson_16 : decode cX5_findPerson 16 = .ok (.dup, 1) := by decide +kernel
theorem dX5_findPerson_17 : decode cX5_findPerson 17 = .ok (.ldc 213, 2) := by decide +kernel
theorem dX5_findPerson_19 : decode cX5_findPerson 19 = .ok (.invokespecial 180, 3) := by decide +kernel
theorem dX5_findPerson_22 : decode cX5_findPerson 22 = .ok (.athrow, 1) := by decide +kernel
theorem dX5_findPerson_23 : decode cX5_findPerson 23 = .ok (.aload_n 0, 1) := by decide +kernel
theorem dX5_findPerson_24 : decode cX5_findPerson 24 = .ok (.getfield 11, 3) := by decide +kernel
theorem dX5_findPerson_27 : decode cX5_findPerson 27 = .ok (.iload_n 1, 1) := by decide +kernel
theorem dX5_findPerson_28 : decode cX5_findPerson 28 = .ok (.aaload, 1) := by decide +kernel
theorem dX5_findPerson_29 : decode cX5_findPerson 29 = .ok (.astore_n 2, 1) := by decide +kernel
theorem dX5_findPerson_30 : decode cX5_findPerson 30 = .ok (.aload_n 2, 1) := by decide +kernel
theorem dX5_findPerson_31 : decode cX5_findPerson 31 = .ok (.ifnonnull 13, 3) := by decide +kernel
theorem dX5_findPerson_34 : decode cX5_findPerson 34 = .ok (.new 176, 3) := by decide +kernel
theorem dX5_findPerson_37 : decode cX5_findPerson 37 = .ok (.dup, 1) := by decide +kernel
theorem dX5_findPerson_38 : decode cX5_findPerson 38 = .ok (.ldc 213, 2) := by decide +kernel
theorem dX5_findPerson_40 : decode cX5_findPerson 40 = .ok (.invokespecial 180, 3) := by decide +kernel
theorem dX5_findPerson_43 : decode cX5_findPerson 43 = .ok (.athrow, 1) := by decide +kernel
theorem dX5_findPerson_44 : decode cX5_findPerson 44 = .ok (.aload_n 2, 1) := by decide +kernel
theorem dX5_findPerson_45 : decode cX5_findPerson 45 = .ok (.areturn, 1) := by decide +kernel
theorem dX5_findOffence_0 : decode cX5_findOffence 0 = .ok (.iload_n 1, 1) := by decide +kernel
theorem dX5_findOffence_1 : decode cX5_findOffence 1 = .ok (.ifCond .lt 12, 3) := by decide +kernel
theorem dX5_findOffence_4 : decode cX5_findOffence 4 = .ok (.iload_n 1, 1) := by decide +kernel
theorem dX5_findOffence_5 : decode cX5_findOffence 5 = .ok (.aload_n 0, 1) := by decide +kernel
theorem dX5_findOffence_6 : decode cX5_findOffence 6 = .ok (.getfield 215, 3) := by decide +kernel
theorem dX5_findOffence_9 : decode cX5_findOffence 9 = .ok (.arraylength, 1) := by decide +kernel
theorem dX5_findOffence_10 : decode cX5_findOffence 10 = .ok (.if_icmp .lt 13, 3) := by decide +kernel
theorem dX5_findOffence_13 : decode cX5_findOffence 13 = .ok (.new 176, 3) := by decide +kernel
theorem dX5_findOffence_16 : decode cX5_findOffence 16 = .ok (.dup, 1) := by decide +kernel
theorem dX5_findOffence_17 : decode cX5_findOffence 17 = .ok (.ldc 219, 2) := by decide +kernel
theorem dX5_findOffence_19 : decode cX5_findOffence 19 = .ok (.invokespecial 180, 3) := by decide +kernel
theorem dX5_findOffence_22 : decode cX5_findOffence 22 = .ok (.athrow, 1) := by decide +kernel
theorem dX5_findOffence_23 : decode cX5_findOffence 23 = .ok (.aload_n 0, 1) := by decide +kernel
theorem dX5_findOffence_24 : decode cX5_findOffence 24 = .ok (.getfield 215, 3) := by decide +kernel
theorem dX5_findOffence_27 : decode cX5_findOffence 27 = .ok (.iload_n 1, 1) := by decide +kernel
theorem dX5_findOffence_28 : decode cX5_findOffence 28 = .ok (.aaload, 1) := by decide +kernel
theorem dX5_findOffence_29 : decode cX5_findOffence 29 = .ok (.astore_n 2, 1) := by decide +kernel
theorem dX5_findOffence_30 : decode cX5_findOffence 30 = .ok (.aload_n 2, 1) := by decide +kernel
theorem dX5_findOffence_31 : decode cX5_findOffence 31 = .ok (.ifnonnull 13, 3) := by decide +kernel
theorem dX5_findOffence_34 : decode cX5_findOffence 34 = .ok (.new 176, 3) := by decide +kernel
theorem dX5_findOffence_37 : decode cX5_findOffence 37 = .ok (.dup, 1) := by decide +kernel
theorem dX5_findOffence_38 : decode cX5_findOffence 38 = .ok (.ldc 219, 2) := by decide +kernel
theorem dX5_findOffence_40 : decode cX5_findOffence 40 = .ok (.invokespecial 180, 3) := by decide +kernel
theorem dX5_findOffence_43 : decode cX5_findOffence 43 = .ok (.athrow, 1) := by decide +kernel
theorem dX5_findOffence_44 : decode cX5_findOffence 44 = .ok (.aload_n 2, 1) := by decide +kernel
theorem dX5_findOffence_45 : decode cX5_findOffence 45 = .ok (.areturn, 1) := by decide +kernel
theorem dX5_findOrder_0 : decode cX5_findOrder 0 = .ok (.iload_n 1, 1) := by decide +kernel
theorem dX5_findOrder_1 : decode cX5_findOrder 1 = .ok (.ifCond .lt 12, 3) := by decide +kernel
theorem dX5_findOrder_4 : decode cX5_findOrder 4 = .ok (.iload_n 1, 1) := by decide +kernel
theorem dX5_findOrder_5 : decode cX5_findOrder 5 = .ok (.aload_n 0, 1) := by decide +kernel
theorem dX5_findOrder_6 : decode cX5_findOrder 6 = .ok (.getfield 17, 3) := by decide +kernel
theorem dX5_findOrder_9 : decode cX5_findOrder 9 = .ok (.arraylength, 1) := by decide +kernel
theorem dX5_findOrder_10 : decode cX5_findOrder 10 = .ok (.if_icmp .lt 13, 3) := by decide +kernel
theorem dX5_findOrder_13 : decode cX5_findOrder 13 = .ok (.new 176, 3) := by decide +kernel
theorem dX5_findOrder_16 : decode cX5_findOrder 16 = .ok (.dup, 1) := by decide +kernel
theorem dX5_findOrder_17 : decode cX5_findOrder 17 = .ok (.ldc 221, 2) := by decide +kernel
theorem dX5_findOrder_19 : decode cX5_findOrder 19 = .ok (.invokespecial 180, 3) := by decide +kernel
theorem dX5_findOrder_22 : decode cX5_findOrder 22 = .ok (.athrow, 1) := by decide +kernel
theorem dX5_findOrder_23 : decode cX5_findOrder 23 = .ok (.aload_n 0, 1) := by decide +kernel
theorem dX5_findOrder_24 : decode cX5_findOrder 24 = .ok (.getfield 17, 3) := by decide +kernel
theorem dX5_findOrder_27 : decode cX5_findOrder 27 = .ok (.iload_n 1, 1) := by decide +kernel
theorem dX5_findOrder_28 : decode cX5_findOrder 28 = .ok (.aaload, 1) := by decide +kernel
theorem dX5_findOrder_29 : decode cX5_findOrder 29 = .ok (.astore_n 2, 1) := by decide +kernel
theorem dX5_findOrder_30 : decode cX5_findOrder 30 = .ok (.aload_n 2, 1) := by decide +kernel
theorem dX5_findOrder_31 : decode cX5_findOrder 31 = .ok (.ifnonnull 13, 3) := by decide +kernel
theorem dX5_findOrder_34 : decode cX5_findOrder 34 = .ok (.new 176, 3) := by decide +kernel
theorem dX5_findOrder_37 : decode cX5_findOrder 37 = .ok (.dup, 1) := by decide +kernel
theorem dX5_findOrder_38 : decode cX5_findOrder 38 = .ok (.ldc 221, 2) := by decide +kernel
theorem dX5_findOrder_40 : decode cX5_findOrder 40 = .ok (.invokespecial 180, 3) := by decide +kernel
theorem dX5_findOrder_43 : decode cX5_findOrder 43 = .ok (.athrow, 1) := by decide +kernel
theorem dX5_findOrder_44 : decode cX5_findOrder 44 = .ok (.aload_n 2, 1) := by decide +kernel
theorem dX5_findOrder_45 : decode cX5_findOrder 45 = .ok (.areturn, 1) := by decide +kernel
theorem dX5_findTools_0 : decode cX5_findTools 0 = .ok (.iload_n 1, 1) := by decide +kernel
theorem dX5_findTools_1 : decode cX5_findTools 1 = .ok (.ifCond .lt 12, 3) := by decide +kernel
theorem dX5_findTools_4 : decode cX5_findTools 4 = .ok (.iload_n 1, 1) := by decide +kernel
theorem dX5_findTools_5 : decode cX5_findTools 5 = .ok (.aload_n 0, 1) := by decide +kernel
theorem dX5_findTools_6 : decode cX5_findTools 6 = .ok (.getfield 23, 3) := by decide +kernel
theorem dX5_findTools_9 : decode cX5_findTools 9 = .ok (.arraylength, 1) := by decide +kernel
theorem dX5_findTools_10 : decode cX5_findTools 10 = .ok (.if_icmp .lt 13, 3) := by decide +kernel
theorem dX5_findTools_13 : decode cX5_findTools 13 = .ok (.new 176, 3) := by decide +kernel
theorem dX5_findTools_16 : decode cX5_findTools 16 = .ok (.dup, 1) := by decide +kernel
theorem dX5_findTools_17 : decode cX5_findTools 17 = .ok (.ldc 223, 2) := by decide +kernel
theorem dX5_findTools_19 : decode cX5_findTools 19 = .ok (.invokespecial 180, 3) := by decide +kernel
theorem dX5_findTools_22 : decode cX5_findTools 22 = .ok (.athrow, 1) := by decide +kernel
theorem dX5_findTools_23 : decode cX5_findTools 23 = .ok (.aload_n 0, 1) := by decide +kernel
theorem dX5_findTools_24 : decode cX5_findTools 24 = .ok (.getfield 23, 3) := by decide +kernel
theorem dX5_findTools_27 : decode cX5_findTools 27 = .ok (.iload_n 1, 1) := by decide +kernel
theorem dX5_findTools_28 : decode cX5_findTools 28 = .ok (.aaload, 1) := by decide +kernel
theorem dX5_findTools_29 : decode cX5_findTools 29 = .ok (.astore_n 2, 1) := by decide +kernel
theorem dX5_findTools_30 : decode cX5_findTools 30 = .ok (.aload_n 2, 1) := by decide +kernel
theorem dX5_findTools_31 : decode cX5_findTools 31 = .ok (.ifnonnull 13, 3) := by decide +kernel
theorem dX5_findTools_34 : decode cX5_findTools 34 = .ok (.new 176, 3) := by decide +kernel
theorem dX5_findTools_37 : decode cX5_findTools 37 = .ok (.dup, 1) := by decide +kernel
theorem dX5_findTools_38 : decode cX5_findTools 38 = .ok (.ldc 223, 2) := by decide +kernel
theorem dX5_findTools_40 : decode cX5_findTools 40 = .ok (.invokespecial 180, 3) := by decide +kernel
theorem dX5_findTools_43 : decode cX5_findTools 43 = .ok (.athrow, 1) := by decide +kernel
theorem dX5_findTools_44 : decode cX5_findTools 44 = .ok (.aload_n 2, 1) := by decide +kernel
theorem dX5_findTools_45 : decode cX5_findTools 45 = .ok (.areturn, 1) := by decide +kernel
theorem dX5_checkSkill_0 : decode cX5_checkSkill 0 = .ok (.iload_n 0, 1) := by decide +kernel
theorem dX5_checkSkill_1 : decode cX5_checkSkill 1 = .ok (.ifCond .lt 8, 3) := by decide +kernel
theorem dX5_checkSkill_4 : decode cX5_checkSkill 4 = .ok (.iload_n 0, 1) := by decide +kernel
theorem dX5_checkSkill_5 : decode cX5_checkSkill 5 = .ok (.iconst 4, 1) := by decide +kernel
theorem dX5_checkSkill_6 : decode cX5_checkSkill 6 = .ok (.if_icmp .lt 13, 3) := by decide +kernel
theorem dX5_checkSkill_9 : decode cX5_checkSkill 9 = .ok (.new 176, 3) := by decide +kernel
theorem dX5_checkSkill_12 : decode cX5_checkSkill 12 = .ok (.dup, 1) := by decide +kernel
theorem dX5_checkSkill_13 : decode cX5_checkSkill 13 = .ok (.ldc 225, 2) := by decide +kernel
theorem dX5_checkSkill_15 : decode cX5_checkSkill 15 = .ok (.invokespecial 180, 3) := by decide +kernel
theorem dX5_checkSkill_18 : decode cX5_checkSkill 18 = .ok (.athrow, 1) := by decide +kernel
theorem dX5_checkSkill_19 : decode cX5_checkSkill 19 = .ok (.return_, 1) := by decide +kernel
theorem dX5_checkRange_0 : decode cX5_checkRange 0 = .ok (.iload_n 0, 1) := by decide +kernel
theorem dX5_checkRange_1 : decode cX5_checkRange 1 = .ok (.iload_n 1, 1) := by decide +kernel
theorem dX5_checkRange_2 : decode cX5_checkRange 2 = .ok (.if_icmp .lt 8, 3) := by decide +kernel
theorem dX5_checkRange_5 : decode cX5_checkRange 5 = .ok (.iload_n 0, 1) := by decide +kernel
theorem dX5_checkRange_6 : decode cX5_checkRange 6 = .ok (.iload_n 2, 1) := by decide +kernel
theorem dX5_checkRange_7 : decode cX5_checkRange 7 = .ok (.if_icmp .le 13, 3) := by decide +kernel
theorem dX5_checkRange_10 : decode cX5_checkRange 10 = .ok (.new 227, 3) := by decide +kernel
theorem dX5_checkRange_13 : decode cX5_checkRange 13 = .ok (.dup, 1) := by decide +kernel
theorem dX5_checkRange_14 : decode cX5_checkRange 14 = .ok (.ldc 229, 2) := by decide +kernel
theorem dX5_checkRange_16 : decode cX5_checkRange 16 = .ok (.invokespecial 231, 3) := by decide +kernel
theorem dX5_checkRange_19 : decode cX5_checkRange 19 = .ok (.athrow, 1) := by decide +kernel
theorem dX5_checkRange_20 : decode cX5_checkRange 20 = .ok (.return_, 1) := by decide +kernel
theorem dX5_checkIn_0 : decode cX5_checkIn 0 = .ok (.aload_n 0, 1) := by decide +kernel
theorem dX5_checkIn_1 : decode cX5_checkIn 1 = .ok (.getfield 88, 3) := by decide +kernel
theorem dX5_checkIn_4 : decode cX5_checkIn 4 = .ok (.ifCond .eq 13, 3) := by decide +kernel
theorem dX5_checkIn_7 : decode cX5_checkIn 7 = .ok (.new 36, 3) := by decide +kernel
theorem dX5_checkIn_10 : decode cX5_checkIn 10 = .ok (.dup, 1) := by decide +kernel
theorem dX5_checkIn_11 : decode cX5_checkIn 11 = .ok (.ldc 232, 2) := by decide +kernel
theorem dX5_checkIn_13 : decode cX5_checkIn 13 = .ok (.invokespecial 40, 3) := by decide +kernel
theorem dX5_checkIn_16 : decode cX5_checkIn 16 = .ok (.athrow, 1) := by decide +kernel
theorem dX5_checkIn_17 : decode cX5_checkIn 17 = .ok (.return_, 1) := by decide +kernel
theorem dJ9_max_7cf53_0 : decode cJ9_max_7cf53 0 = .ok (.iload_n 0, 1) := by decide +kernel
theorem dJ9_max_7cf53_1 : decode cJ9_max_7cf53 1 = .ok (.iload_n 1, 1) := by decide +kernel
theorem dJ9_max_7cf53_2 : decode cJ9_max_7cf53 2 = .ok (.if_icmp .lt 7, 3) := by decide +kernel
theorem dJ9_max_7cf53_5 : decode cJ9_max_7cf53 5 = .ok (.iload_n 0, 1) := by decide +kernel
theorem dJ9_max_7cf53_6 : decode cJ9_max_7cf53 6 = .ok (.goto 4, 3) := by decide +kernel
theorem dJ9_max_7cf53_9 : decode cJ9_max_7cf53 9 = .ok (.iload_n 1, 1) := by decide +kernel
theorem dJ9_max_7cf53_10 : decode cJ9_max_7cf53 10 = .ok (.ireturn, 1) := by decide +kernel
theorem dJ9_min_7cf53_0 : decode cJ9_min_7cf53 0 = .ok (.iload_n 0, 1) := by decide +kernel
theorem dJ9_min_7cf53_1 : decode cJ9_min_7cf53 1 = .ok (.iload_n 1, 1) := by decide +kernel
theorem dJ9_min_7cf53_2 : decode cJ9_min_7cf53 2 = .ok (.if_icmp .gt 7, 3) := by decide +kernel
theorem dJ9_min_7cf53_5 : decode cJ9_min_7cf53 5 = .ok (.iload_n 0, 1) := by decide +kernel
theorem dJ9_min_7cf53_6 : decode cJ9_min_7cf53 6 = .ok (.goto 4, 3) := by decide +kernel
theorem dJ9_min_7cf53_9 : decode cJ9_min_7cf53 9 = .ok (.iload_n 1, 1) := by decide +kernel
theorem dJ9_min_7cf53_10 : decode cJ9_min_7cf53 10 = .ok (.ireturn, 1) := by decide +kernel
theorem dL_part_0 : decode cL_part 0 = .ok (.iload_n 1, 1) := by decide +kernel
theorem dL_part_1 : decode cL_part 1 = .ok (.aload_n 0, 1) := by decide +kernel
theorem dL_part_2 : decode cL_part 2 = .ok (.arraylength, 1) := by decide +kernel
theorem dL_part_3 : decode cL_part 3 = .ok (.if_icmp .ge 9, 3) := by decide +kernel
theorem dL_part_6 : decode cL_part 6 = .ok (.aload_n 0, 1) := by decide +kernel
theorem dL_part_7 : decode cL_part 7 = .ok (.iload_n 1, 1) := by decide +kernel
theorem dL_part_8 : decode cL_part 8 = .ok (.iaload, 1) := by decide +kernel
theorem dL_part_9 : decode cL_part 9 = .ok (.goto 16, 3) := by decide +kernel
theorem dL_part_12 : decode cL_part 12 = .ok (.sipush 449, 3) := by decide +kernel
theorem dL_part_15 : decode cL_part 15 = .ok (.iload_n 1, 1) := by decide +kernel
theorem dL_part_16 : decode cL_part 16 = .ok (.imul, 1) := by decide +kernel
theorem dL_part_17 : decode cL_part 17 = .ok (.sipush 313, 3) := by decide +kernel
theorem dL_part_20 : decode cL_part 20 = .ok (.iload_n 1, 1) := by decide +kernel
theorem dL_part_21 : decode cL_part 21 = .ok (.imul, 1) := by decide +kernel
theorem dL_part_22 : decode cL_part 22 = .ok (.iload_n 1, 1) := by decide +kernel
theorem dL_part_23 : decode cL_part 23 = .ok (.imul, 1) := by decide +kernel
theorem dL_part_24 : decode cL_part 24 = .ok (.iadd, 1) := by decide +kernel
theorem dL_part_25 : decode cL_part 25 = .ok (.istore_n 3, 1) := by decide +kernel
theorem dL_part_26 : decode cL_part 26 = .ok (.iload_n 3, 1) := by decide +kernel
theorem dL_part_27 : decode cL_part 27 = .ok (.ldc 7, 2) := by decide +kernel
theorem dL_part_29 : decode cL_part 29 = .ok (.iand, 1) := by decide +kernel
theorem dL_part_30 : decode cL_part 30 = .ok (.iload_n 2, 1) := by decide +kernel
theorem dL_part_31 : decode cL_part 31 = .ok (.irem, 1) := by decide +kernel
theorem dL_part_32 : decode cL_part 32 = .ok (.ireturn, 1) := by decide +kernel
set_option maxRecDepth 20000 in
theorem ggL_does_X5_admit : GoodIn wsL_does wsX5_admit := goodIn_ca (goodIn_ca (goodIn_r _ [8, 9, 10, 11, 12, 13, 14, 15, 16, 17, 18, 7, 19, 20, 21, 22, 23, 24, 25, 26, 27, 28, 29, 30, 31, 32, 33, 34, 35, 36, 37, 38, 39, 40, 41, 42, 271, 272, 273, 274, 275, 276, 277, 278, 279, 280, 281, 282, 283, 284, 285, 286, 287, 288, 289, 290, 291, 292, 293, 294] (by decide +kernel) (by decide +kernel)) (goodIn_sub (fun _ h => List.mem_cons_of_mem _ (List.mem_append_left _ (List.mem_append_left _ (List.mem_append_left _ (List.mem_append_right _ h))))) (by decide +kernel))) (goodIn_sub (fun _ h => List.mem_cons_of_mem _ (List.mem_append_left _ (List.mem_append_left _ (List.mem_append_right _ h)))) (by decide +kernel))
set_option maxRecDepth 20000 in
theorem gL_does_X5_admit : GoodIn wsL_does (wsV RL 8 RX5 yX5_admit wsX5_admit) := goodIn_app (goodIn_of _ (by decide +kernel)) ggL_does_X5_admit
set_option maxRecDepth 20000 in
theorem ggL_does_X5_course : GoodIn wsL_does wsX5_course := goodIn_ca (goodIn_ca (goodIn_ca (goodIn_ca (goodIn_r _ [46, 47, 48, 49, 7, 50, 51, 52, 12, 53, 54, 55, 17, 18, 19, 20, 21, 56, 57, 58, 9, 10, 59, 60, 61, 62, 15, 63, 64, 37, 65, 66, 67, 68, 69, 70, 71, 72, 73, 74, 75, 28, 76, 77, 78, 79, 80, 81, 82, 83, 84, 85, 35, 36, 86, 87, 88, 89, 90, 91, 271, 272, 273, 274, 275, 276, 277, 278, 279, 280, 281, 282, 283, 284, 285, 286, 287, 288, 289, 290] (by decide +kernel) (by decide +kernel)) (goodIn_sub (fun _ h => List.mem_cons_of_mem _ (List.mem_append_left _ (List.mem_append_right _ h))) (by decide +kernel))) (goodIn_sub (fun _ h => List.mem_cons_of_mem _ (List.mem_append_left _ (List.mem_append_left _ (List.mem_append_right _ h)))) (by decide +kernel))) (goodIn_sub (fun _ h => List.mem_cons_of_mem _ (List.mem_append_left _ (List.mem_append_left _ (List.mem_append_left _ (List.mem_append_right _ h))))) (by decide +kernel))) (goodIn_sub (fun _ h => List.mem_cons_of_mem _ (List.mem_append_right _ h)) (by decide +kernel))
set_option maxRecDepth 20000 in
theorem gL_does_X5_course : GoodIn wsL_does (wsV RL 14 RX5 yX5_course wsX5_course) := goodIn_app (goodIn_of _ (by decide +kernel)) ggL_does_X5_course
set_option maxRecDepth 20000 in
theorem ggL_does_X5_offence : GoodIn wsL_does wsX5_offence := goodIn_ca (goodIn_ca (goodIn_ca (goodIn_ca (goodIn_r _ [95, 16, 47, 48, 49, 7, 50, 51, 52, 12, 17, 18, 19, 20, 21, 56, 57, 58, 9, 10, 59, 96, 97, 98, 15, 99, 64, 71, 30, 28, 29, 100, 101, 86, 67, 68, 69, 70, 65, 102, 103, 104, 105, 26, 27, 106, 107, 108, 109, 110, 111, 112, 113, 114, 115, 116, 271, 272, 273, 274, 275, 276, 277, 278, 279, 280, 281, 282, 283, 284, 285, 286, 287, 288, 289, 290, 295, 296, 297, 298, 299, 300, 301, 302, 303, 304, 305, 306] (by decide +kernel) (by decide +kernel)) (goodIn_sub (fun _ h => List.mem_cons_of_mem _ (List.mem_append_left _ (List.mem_append_right _ h))) (by decide +kernel))) (goodIn_sub (fun _ h => List.mem_cons_of_mem _ (List.mem_append_left _ (List.mem_append_left _ (List.mem_append_right _ h)))) (by decide +kernel))) (goodIn_sub (fun _ h => List.mem_cons_of_mem _ (List.mem_append_left _ (List.mem_append_left _ (List.mem_append_left _ (List.mem_append_right _ h))))) (by decide +kernel))) (goodIn_sub (fun _ h => List.mem_cons_of_mem _ (List.mem_append_right _ h)) (by decide +kernel))
set_option maxRecDepth 20000 in
theorem gL_does_X5_offence : GoodIn wsL_does (wsV RL 18 RX5 yX5_offence wsX5_offence) := goodIn_app (goodIn_of _ (by decide +kernel)) ggL_does_X5_offence
set_option maxRecDepth 20000 in
theorem ggL_does_X5_appeal : GoodIn wsL_does wsX5_appeal := goodIn_ca (goodIn_ca (goodIn_r _ [120, 9, 10, 121, 47, 48, 49, 7, 50, 51, 52, 12, 122, 123, 124, 125, 56, 57, 58, 59, 126, 127, 128, 15, 129, 130, 86, 131, 132, 72, 73, 74, 75, 28, 76, 77, 78, 79, 80, 81, 82, 83, 84, 85, 35, 36, 87, 88, 89, 90, 91, 66, 295, 296, 297, 298, 271, 272, 273, 274, 275, 276, 277, 278, 279, 280, 281, 282, 283, 284, 285, 286, 287, 288, 289, 290] (by decide +kernel) (by decide +kernel)) (goodIn_sub (fun _ h => List.mem_cons_of_mem _ (List.mem_append_left _ (List.mem_append_left _ (List.mem_append_left _ (List.mem_append_right _ h))))) (by decide +kernel))) (goodIn_sub (fun _ h => List.mem_cons_of_mem _ (List.mem_append_left _ (List.mem_append_right _ h))) (by decide +kernel))
set_option maxRecDepth 20000 in
theorem gL_does_X5_appeal : GoodIn wsL_does (wsV RL 21 RX5 yX5_appeal wsX5_appeal) := goodIn_app (goodIn_of _ (by decide +kernel)) ggL_does_X5_appeal
set_option maxRecDepth 20000 in
theorem ggL_does_X5_setTools : GoodIn wsL_does wsX5_setTools := goodIn_ca (goodIn_ca (goodIn_ca (goodIn_r _ [136, 9, 10, 137, 138, 139, 140, 141, 7, 142, 51, 52, 143, 17, 18, 19, 20, 21, 305, 306, 271, 272, 273, 274, 275, 276] (by decide +kernel) (by decide +kernel)) (goodIn_sub (fun _ h => List.mem_cons_of_mem _ (List.mem_append_left _ (List.mem_append_left _ (List.mem_append_left _ (List.mem_append_right _ h))))) (by decide +kernel))) (goodIn_sub (fun _ h => List.mem_cons_of_mem _ (List.mem_append_left _ (List.mem_append_right _ h))) (by decide +kernel))) (goodIn_sub (fun _ h => List.mem_cons_of_mem _ (List.mem_append_left _ (List.mem_append_left _ (List.mem_append_right _ h)))) (by decide +kernel))
set_option maxRecDepth 20000 in
theorem gL_does_X5_setTools : GoodIn wsL_does (wsV RL 24 RX5 yX5_setTools wsX5_setTools) := goodIn_app (goodIn_of _ (by decide +kernel)) ggL_does_X5_setTools
set_option maxRecDepth 20000 in
theorem ggL_does_X5_addOrder : GoodIn wsL_does wsX5_addOrder := goodIn_ca (goodIn_ca (goodIn_ca (goodIn_r _ [147, 9, 10, 148, 149, 150, 151, 152, 53, 54, 7, 55, 51, 52, 139, 140, 141, 142, 143, 17, 18, 19, 20, 21, 153, 154, 155, 156, 26, 27, 157, 158, 159, 160, 161, 271, 272, 273, 274, 275, 276, 299, 300, 301, 302, 303, 304] (by decide +kernel) (by decide +kernel)) (goodIn_sub (fun _ h => List.mem_cons_of_mem _ (List.mem_append_left _ (List.mem_append_left _ (List.mem_append_left _ (List.mem_append_right _ h))))) (by decide +kernel))) (goodIn_sub (fun _ h => List.mem_cons_of_mem _ (List.mem_append_left _ (List.mem_append_right _ h))) (by decide +kernel))) (goodIn_sub (fun _ h => List.mem_cons_of_mem _ (List.mem_append_left _ (List.mem_append_left _ (List.mem_append_right _ h)))) (by decide +kernel))
set_option maxRecDepth 20000 in
theorem gL_does_X5_addOrder : GoodIn wsL_does (wsV RL 27 RX5 yX5_addOrder wsX5_addOrder) := goodIn_app (goodIn_of _ (by decide +kernel)) ggL_does_X5_addOrder
set_option maxRecDepth 20000 in
theorem ggL_does_X5_assign : GoodIn wsL_does wsX5_assign := goodIn_ca (goodIn_ca (goodIn_r _ [165, 9, 10, 166, 167, 168, 47, 48, 49, 7, 50, 51, 52, 12, 169, 170, 171, 172, 149, 56, 57, 58, 59, 173, 174, 175, 15, 176, 37, 177, 178, 179, 152, 180, 160, 181, 182, 183, 184, 159, 185, 186, 187, 188, 189, 190, 113, 114, 115, 116, 277, 278, 279, 280, 281, 282, 283, 284, 285, 286, 287, 288, 289, 290, 299, 300, 301, 302, 303, 304, 271, 272, 273, 274, 275, 276, 305, 306] (by decide +kernel) (by decide +kernel)) (goodIn_sub (fun _ h => List.mem_cons_of_mem _ (List.mem_append_left _ (List.mem_append_left _ (List.mem_append_left _ (List.mem_append_right _ h))))) (by decide +kernel))) (goodIn_sub (fun _ h => List.mem_cons_of_mem _ (List.mem_append_left _ (List.mem_append_right _ h))) (by decide +kernel))
set_option maxRecDepth 20000 in
theorem gL_does_X5_assign : GoodIn wsL_does (wsV RL 31 RX5 yX5_assign wsX5_assign) := goodIn_app (goodIn_of _ (by decide +kernel)) ggL_does_X5_assign
set_option maxRecDepth 20000 in
theorem ggL_does_X5_takeOff : GoodIn wsL_does wsX5_takeOff := goodIn_ca (goodIn_ca (goodIn_r _ [194, 9, 10, 166, 195, 47, 48, 49, 7, 50, 51, 52, 12, 196, 110, 111, 15, 112, 113, 114, 115, 116, 277, 278, 279, 280, 281, 282, 283, 284, 285, 286, 287, 288, 289, 290, 299, 300, 301, 302, 303, 304, 271, 272, 273, 274, 275, 276, 305, 306] (by decide +kernel) (by decide +kernel)) (goodIn_sub (fun _ h => List.mem_cons_of_mem _ (List.mem_append_left _ (List.mem_append_left _ (List.mem_append_left _ (List.mem_append_right _ h))))) (by decide +kernel))) (goodIn_sub (fun _ h => List.mem_cons_of_mem _ (List.mem_append_left _ (List.mem_append_right _ h))) (by decide +kernel))
set_option maxRecDepth 20000 in
theorem gL_does_X5_takeOff : GoodIn wsL_does (wsV RL 34 RX5 yX5_takeOff wsX5_takeOff) := goodIn_app (goodIn_of _ (by decide +kernel)) ggL_does_X5_takeOff
set_option maxRecDepth 20000 in
theorem ggL_does_X5_buy : GoodIn wsL_does wsX5_buy := goodIn_ca (goodIn_ca (goodIn_ca (goodIn_r _ [200, 9, 10, 201, 202, 16, 47, 48, 49, 7, 50, 51, 52, 12, 17, 18, 19, 20, 21, 56, 57, 58, 59, 203, 204, 205, 15, 206, 84, 34, 207, 208, 78, 209, 210, 211, 212, 213, 28, 30, 214, 215, 216, 101, 217, 218, 106, 219, 220, 221, 33, 222, 223, 224, 225, 226, 227, 228, 42, 229, 277, 278, 279, 280, 281, 282, 283, 284, 285, 286, 287, 288, 289, 290, 291, 292, 293, 294, 271, 272, 273, 274, 275, 276, 295, 296, 297, 298] (by decide +kernel) (by decide +kernel)) (goodIn_sub (fun _ h => List.mem_cons_of_mem _ (List.mem_append_left _ (List.mem_append_left _ (List.mem_append_left _ (List.mem_append_right _ h))))) (by decide +kernel))) (goodIn_sub (fun _ h => List.mem_cons_of_mem _ (List.mem_append_left _ (List.mem_append_right _ h))) (by decide +kernel))) (goodIn_sub (fun _ h => List.mem_cons_of_mem _ (List.mem_append_left _ (List.mem_append_left _ (List.mem_append_right _ h)))) (by decide +kernel))
set_option maxRecDepth 20000 in
theorem gL_does_X5_buy : GoodIn wsL_does (wsV RL 38 RX5 yX5_buy wsX5_buy) := goodIn_app (goodIn_of _ (by decide +kernel)) ggL_does_X5_buy
set_option maxRecDepth 20000 in
theorem ggL_does_X5_pass : GoodIn wsL_does wsX5_pass := goodIn_ca (goodIn_r _ [233, 16, 17, 18, 7, 19, 20, 21, 234, 235, 236, 237, 12, 238, 239, 240, 15, 241, 113, 242, 91, 34, 243, 244, 178, 179, 152, 180, 160, 245, 246, 247, 33, 248, 42, 249, 250, 251, 252, 109, 110, 111, 112, 114, 115, 116, 253, 254, 255, 256, 257, 258, 259, 260, 84, 261, 81, 82, 83, 85, 35, 36, 76, 77, 78, 79, 86, 87, 88, 89, 90, 66, 262, 263, 264, 265, 266, 267, 268, 269, 270, 271, 272, 273, 274, 275, 276, 277, 278, 279, 280, 281, 282, 283, 284, 285, 286, 287, 288, 289, 290, 299, 300, 301, 302, 303, 304, 291, 292, 293, 294, 305, 306] (by decide +kernel) (by decide +kernel)) (goodIn_sub (fun _ h => List.mem_cons_of_mem _ (List.mem_append_left _ (List.mem_append_left _ (List.mem_append_right _ h)))) (by decide +kernel))
set_option maxRecDepth 20000 in
theorem gL_does_X5_pass : GoodIn wsL_does (wsV RL 41 RX5 yX5_pass wsX5_pass) := goodIn_app (goodIn_of _ (by decide +kernel)) ggL_does_X5_pass
theorem dL_does_0 : decode cL_does 0 = .ok (.iload_n 1, 1) := by decide +kernel
theorem dL_does_1 : decode cL_does 1 = .ok (.ifCond .ne 12, 3) := by decide +kernel
theorem dL_does_4 : decode cL_does 4 = .ok (.aload_n 0, 1) := by decide +kernel
theorem dL_does_5 : decode cL_does 5 = .ok (.iload_n 2, 1) := by decide +kernel
theorem dL_does_6 : decode cL_does 6 = .ok (.iload_n 3, 1) := by decide +kernel
theorem dL_does_7 : decode cL_does 7 = .ok (.invokevirtual 8, 3) := by decide +kernel
theorem dL_does_10 : decode cL_does 10 = .ok (.goto 128, 3) := by decide +kernel
theorem dL_does_13 : decode cL_does 13 = .ok (.iload_n 1, 1) := by decide +kernel
theorem dL_does_14 : decode cL_does 14 = .ok (.iconst 1, 1) := by decide +kernel
theorem dL_does_15 : decode cL_does 15 = .ok (.if_icmp .ne 14, 3) := by decide +kernel
theorem dL_does_18 : decode cL_does 18 = .ok (.aload_n 0, 1) := by decide +kernel
theorem dL_does_19 : decode cL_does 19 = .ok (.iload_n 2, 1) := by decide +kernel
theorem dL_does_20 : decode cL_does 20 = .ok (.iload_n 3, 1) := by decide +kernel
theorem dL_does_21 : decode cL_does 21 = .ok (.iload 4, 2) := by decide +kernel
theorem dL_does_23 : decode cL_does 23 = .ok (.invokevirtual 14, 3) := by decide +kernel
theorem dL_does_26 : decode cL_does 26 = .ok (.goto 112, 3) := by decide +kernel
theorem dL_does_29 : decode cL_does 29 = .ok (.iload_n 1, 1) := by decide +kernel
theorem dL_does_30 : decode cL_does 30 = .ok (.iconst 2, 1) := by decide +kernel
theorem dL_does_31 : decode cL_does 31 = .ok (.if_icmp .ne 12, 3) := by decide +kernel
theorem dL_does_34 : decode cL_does 34 = .ok (.aload_n 0, 1) := by decide +kernel
theorem dL_does_35 : decode cL_does 35 = .ok (.iload_n 2, 1) := by decide +kernel
theorem dL_does_36 : decode cL_does 36 = .ok (.iload_n 3, 1) := by decide +kernel
theorem dL_does_37 : decode cL_does 37 = .ok (.invokevirtual 18, 3) := by decide +kernel
theorem dL_does_40 : decode cL_does 40 = .ok (.goto 98, 3) := by decide +kernel
theorem dL_does_43 : decode cL_does 43 = .ok (.iload_n 1, 1) := by decide +kernel
theorem dL_does_44 : decode cL_does 44 = .ok (.iconst 3, 1) := by decide +kernel
theorem dL_does_45 : decode cL_does 45 = .ok (.if_icmp .ne 12, 3) := by decide +kernel
theorem dL_does_48 : decode cL_does 48 = .ok (.aload_n 0, 1) := by decide +kernel
theorem dL_does_49 : decode cL_does 49 = .ok (.iload_n 2, 1) := by decide +kernel
theorem dL_does_50 : decode cL_does 50 = .ok (.iload_n 3, 1) := by decide +kernel
theorem dL_does_51 : decode cL_does 51 = .ok (.invokevirtual 21, 3) := by decide +kernel
theorem dL_does_54 : decode cL_does 54 = .ok (.goto 84, 3) := by decide +kernel
theorem dL_does_57 : decode cL_does 57 = .ok (.iload_n 1, 1) := by decide +kernel
theorem dL_does_58 : decode cL_does 58 = .ok (.iconst 4, 1) := by decide +kernel
theorem dL_does_59 : decode cL_does 59 = .ok (.if_icmp .ne 12, 3) := by decide +kernel
theorem dL_does_62 : decode cL_does 62 = .ok (.aload_n 0, 1) := by decide +kernel
theorem dL_does_63 : decode cL_does 63 = .ok (.iload_n 2, 1) := by decide +kernel
theorem dL_does_64 : decode cL_does 64 = .ok (.iload_n 3, 1) := by decide +kernel
theorem dL_does_65 : decode cL_does 65 = .ok (.invokevirtual 24, 3) := by decide +kernel
theorem dL_does_68 : decode cL_does 68 = .ok (.goto 70, 3) := by decide +kernel
theorem dL_does_71 : decode cL_does 71 = .ok (.iload_n 1, 1) := by decide +kernel
theorem dL_does_72 : decode cL_does 72 = .ok (.iconst 5, 1) := by decide +kernel
theorem dL_does_73 : decode cL_does 73 = .ok (.if_icmp .ne 16, 3) := by decide +kernel
theorem dL_does_76 : decode cL_does 76 = .ok (.aload_n 0, 1) := by decide +kernel
theorem dL_does_77 : decode cL_does 77 = .ok (.iload_n 2, 1) := by decide +kernel
theorem dL_does_78 : decode cL_does 78 = .ok (.iload_n 3, 1) := by decide +kernel
theorem dL_does_79 : decode cL_does 79 = .ok (.iload 4, 2) := by decide +kernel
theorem dL_does_81 : decode cL_does 81 = .ok (.iload 5, 2) := by decide +kernel
theorem dL_does_83 : decode cL_does 83 = .ok (.invokevirtual 27, 3) := by decide +kernel
theorem dL_does_86 : decode cL_does 86 = .ok (.goto 52, 3) := by decide +kernel
theorem dL_does_89 : decode cL_does 89 = .ok (.iload_n 1, 1) := by decide +kernel
theorem dL_does_90 : decode cL_does 90 = .ok (.bipush 6, 2) := by decide +kernel
theorem dL_does_92 : decode cL_does 92 = .ok (.if_icmp .ne 12, 3) := by decide +kernel
theorem dL_does_95 : decode cL_does 95 = .ok (.aload_n 0, 1) := by decide +kernel
theorem dL_does_96 : decode cL_does 96 = .ok (.iload_n 2, 1) := by decide +kernel
theorem dL_does_97 : decode cL_does 97 = .ok (.iload_n 3, 1) := by decide +kernel
theorem dL_does_98 : decode cL_does 98 = .ok (.invokevirtual 31, 3) := by decide +kernel
theorem dL_does_101 : decode cL_does 101 = .ok (.goto 37, 3) := by decide +kernel
theorem dL_does_104 : decode cL_does 104 = .ok (.iload_n 1, 1) := by decide +kernel
theorem dL_does_105 : decode cL_does 105 = .ok (.bipush 7, 2) := by decide +kernel
theorem dL_does_107 : decode cL_does 107 = .ok (.if_icmp .ne 11, 3) := by decide +kernel
theorem dL_does_110 : decode cL_does 110 = .ok (.aload_n 0, 1) := by decide +kernel
theorem dL_does_111 : decode cL_does 111 = .ok (.iload_n 2, 1) := by decide +kernel
theorem dL_does_112 : decode cL_does 112 = .ok (.invokevirtual 34, 3) := by decide +kernel
theorem dL_does_115 : decode cL_does 115 = .ok (.goto 23, 3) := by decide +kernel
theorem dL_does_118 : decode cL_does 118 = .ok (.iload_n 1, 1) := by decide +kernel
theorem dL_does_119 : decode cL_does 119 = .ok (.bipush 8, 2) := by decide +kernel
theorem dL_does_121 : decode cL_does 121 = .ok (.if_icmp .ne 12, 3) := by decide +kernel
theorem dL_does_124 : decode cL_does 124 = .ok (.aload_n 0, 1) := by decide +kernel
theorem dL_does_125 : decode cL_does 125 = .ok (.iload_n 2, 1) := by decide +kernel
theorem dL_does_126 : decode cL_does 126 = .ok (.iload_n 3, 1) := by decide +kernel
theorem dL_does_127 : decode cL_does 127 = .ok (.invokevirtual 38, 3) := by decide +kernel
theorem dL_does_130 : decode cL_does 130 = .ok (.goto 8, 3) := by decide +kernel
theorem dL_does_133 : decode cL_does 133 = .ok (.aload_n 0, 1) := by decide +kernel
theorem dL_does_134 : decode cL_does 134 = .ok (.iload_n 2, 1) := by decide +kernel
theorem dL_does_135 : decode cL_does 135 = .ok (.invokevirtual 41, 3) := by decide +kernel
theorem dL_does_138 : decode cL_does 138 = .ok (.ireturn, 1) := by decide +kernel
theorem dL_does_139 : decode cL_does 139 = .ok (.astore 6, 2) := by decide +kernel
theorem dL_does_141 : decode cL_does 141 = .ok (.bipush (-30), 2) := by decide +kernel
theorem dL_does_143 : decode cL_does 143 = .ok (.ireturn, 1) := by decide +kernel
theorem dL_does_144 : decode cL_does 144 = .ok (.astore 6, 2) := by decide +kernel
theorem dL_does_146 : decode cL_does 146 = .ok (.bipush (-20), 2) := by decide +kernel
theorem dL_does_148 : decode cL_does 148 = .ok (.ireturn, 1) := by decide +kernel
theorem dL_does_149 : decode cL_does 149 = .ok (.astore 6, 2) := by decide +kernel
theorem dL_does_151 : decode cL_does 151 = .ok (.bipush (-10), 2) := by decide +kernel
theorem dL_does_153 : decode cL_does 153 = .ok (.ireturn, 1) := by decide +kernel
set_option maxRecDepth 20000 in
theorem ggL_asks_X5_release : GoodIn wsL_asks wsX5_release := goodIn_ca (goodIn_r _ [6, 7, 8, 9, 5, 10, 11, 12, 13, 14, 15, 16, 17, 18, 19, 20, 21, 22, 23, 24, 25, 26, 27, 28, 29, 30, 31, 32, 33, 120, 121, 122, 123, 124, 125, 126, 127, 128, 129, 130, 131, 132, 133, 134, 135, 136, 137, 138, 139] (by decide +kernel) (by decide +kernel)) (goodIn_sub (fun _ h => List.mem_cons_of_mem _ (List.mem_append_right _ h)) (by decide +kernel))
set_option maxRecDepth 20000 in
theorem gL_asks_X5_release : GoodIn wsL_asks (wsV RL 50 RX5 yX5_release wsX5_release) := goodIn_app (goodIn_of _ (by decide +kernel)) ggL_asks_X5_release
set_option maxRecDepth 20000 in
theorem ggL_asks_X5_isIn : GoodIn wsL_asks wsX5_isIn := goodIn_ca (goodIn_r _ [37, 38, 7, 8, 9, 5, 10, 11, 12, 13, 126, 127, 128, 129, 130, 131, 132, 133, 134, 135, 136, 137, 138, 139, 120, 121, 122, 123, 124, 125] (by decide +kernel) (by decide +kernel)) (goodIn_sub (fun _ h => List.mem_cons_of_mem _ (List.mem_append_right _ h)) (by decide +kernel))
set_option maxRecDepth 20000 in
theorem gL_asks_X5_isIn : GoodIn wsL_asks (wsV RL 53 RX5 yX5_isIn wsX5_isIn) := goodIn_app (goodIn_of _ (by decide +kernel)) ggL_asks_X5_isIn
set_option maxRecDepth 20000 in
theorem ggL_asks_X5_regime : GoodIn wsL_asks wsX5_regime := goodIn_ca (goodIn_r _ [42, 43, 7, 8, 9, 5, 10, 11, 12, 13, 126, 127, 128, 129, 130, 131, 132, 133, 134, 135, 136, 137, 138, 139, 120, 121, 122, 123, 124, 125] (by decide +kernel) (by decide +kernel)) (goodIn_sub (fun _ h => List.mem_cons_of_mem _ (List.mem_append_right _ h)) (by decide +kernel))
set_option maxRecDepth 20000 in
theorem gL_asks_X5_regime : GoodIn wsL_asks (wsV RL 57 RX5 yX5_regime wsX5_regime) := goodIn_app (goodIn_of _ (by decide +kernel)) ggL_asks_X5_regime
set_option maxRecDepth 20000 in
theorem ggL_asks_X5_papers : GoodIn wsL_asks wsX5_papers := goodIn_ca (goodIn_r _ [47, 48, 7, 8, 9, 5, 10, 11, 12, 13, 49, 29, 30, 17, 31, 32, 33, 126, 127, 128, 129, 130, 131, 132, 133, 134, 135, 136, 137, 138, 139, 120, 121, 122, 123, 124, 125] (by decide +kernel) (by decide +kernel)) (goodIn_sub (fun _ h => List.mem_cons_of_mem _ (List.mem_append_right _ h)) (by decide +kernel))
set_option maxRecDepth 20000 in
theorem gL_asks_X5_papers : GoodIn wsL_asks (wsV RL 60 RX5 yX5_papers wsX5_papers) := goodIn_app (goodIn_of _ (by decide +kernel)) ggL_asks_X5_papers
set_option maxRecDepth 20000 in
theorem ggL_asks_X5_toolsOut : GoodIn wsL_asks wsX5_toolsOut := goodIn_ca (goodIn_r _ [53, 54, 55, 56, 57, 5, 58, 11, 12, 59, 140, 141, 120, 121, 122, 123, 124, 125] (by decide +kernel) (by decide +kernel)) (goodIn_sub (fun _ h => List.mem_cons_of_mem _ (List.mem_append_right _ h)) (by decide +kernel))
set_option maxRecDepth 20000 in
theorem gL_asks_X5_toolsOut : GoodIn wsL_asks (wsV RL 64 RX5 yX5_toolsOut wsX5_toolsOut) := goodIn_app (goodIn_of _ (by decide +kernel)) ggL_asks_X5_toolsOut
set_option maxRecDepth 20000 in
theorem ggL_asks_X5_orderOf : GoodIn wsL_asks wsX5_orderOf := goodIn_ca (goodIn_r _ [63, 64, 65, 7, 8, 9, 5, 10, 11, 12, 13, 126, 127, 128, 129, 130, 131, 132, 133, 134, 135, 136, 137, 138, 139, 142, 143, 144, 145, 146, 147, 120, 121, 122, 123, 124, 125] (by decide +kernel) (by decide +kernel)) (goodIn_sub (fun _ h => List.mem_cons_of_mem _ (List.mem_append_right _ h)) (by decide +kernel))
set_option maxRecDepth 20000 in
theorem gL_asks_X5_orderOf : GoodIn wsL_asks (wsV RL 67 RX5 yX5_orderOf wsX5_orderOf) := goodIn_app (goodIn_of _ (by decide +kernel)) ggL_asks_X5_orderOf
set_option maxRecDepth 20000 in
theorem ggL_asks_X5_left : GoodIn wsL_asks wsX5_left := goodIn_ca (goodIn_r _ [69, 70, 71, 72, 73, 5, 74, 11, 12, 75, 142, 143, 144, 145, 146, 147, 120, 121, 122, 123, 124, 125] (by decide +kernel) (by decide +kernel)) (goodIn_sub (fun _ h => List.mem_cons_of_mem _ (List.mem_append_right _ h)) (by decide +kernel))
set_option maxRecDepth 20000 in
theorem gL_asks_X5_left : GoodIn wsL_asks (wsV RL 70 RX5 yX5_left wsX5_left) := goodIn_app (goodIn_of _ (by decide +kernel)) ggL_asks_X5_left
set_option maxRecDepth 20000 in
theorem ggL_asks_X5_account : GoodIn wsL_asks wsX5_account := goodIn_ca (goodIn_r _ [79, 11, 12, 80, 81, 7, 8, 9, 5, 10, 13, 126, 127, 128, 129, 130, 131, 132, 133, 134, 135, 136, 137, 138, 139, 148, 149, 150, 151, 120, 121, 122, 123, 124, 125] (by decide +kernel) (by decide +kernel)) (goodIn_sub (fun _ h => List.mem_cons_of_mem _ (List.mem_append_right _ h)) (by decide +kernel))
set_option maxRecDepth 20000 in
theorem gL_asks_X5_account : GoodIn wsL_asks (wsV RL 73 RX5 yX5_account wsX5_account) := goodIn_app (goodIn_of _ (by decide +kernel)) ggL_asks_X5_account
set_option maxRecDepth 20000 in
theorem ggL_asks_X5_limit : GoodIn wsL_asks wsX5_limit := goodIn_ca (goodIn_r _ [85, 86, 7, 8, 9, 5, 10, 11, 12, 13, 87, 88, 89, 17, 90, 19, 91, 92, 93, 25, 94, 95, 96, 97, 98, 99, 100, 101, 102, 103, 104, 105, 106, 107, 108, 109, 110, 111, 112, 113, 114, 120, 121, 122, 123, 124, 125, 126, 127, 128, 129, 130, 131, 132, 133, 134, 135, 136, 137, 138, 139, 152, 153, 154, 155, 148, 149, 150, 151] (by decide +kernel) (by decide +kernel)) (goodIn_sub (fun _ h => List.mem_cons_of_mem _ (List.mem_append_right _ h)) (by decide +kernel))
set_option maxRecDepth 20000 in
theorem gL_asks_X5_limit : GoodIn wsL_asks (wsV RL 76 RX5 yX5_limit wsX5_limit) := goodIn_app (goodIn_of _ (by decide +kernel)) ggL_asks_X5_limit
set_option maxRecDepth 20000 in
theorem ggL_asks_X5_paidOut : GoodIn wsL_asks wsX5_paidOut := goodIn_ca (goodIn_r _ [118, 80, 119, 7, 8, 9, 5, 10, 11, 12, 13, 126, 127, 128, 129, 130, 131, 132, 133, 134, 135, 136, 137, 138, 139, 148, 149, 150, 151, 120, 121, 122, 123, 124, 125] (by decide +kernel) (by decide +kernel)) (goodIn_sub (fun _ h => List.mem_cons_of_mem _ (List.mem_append_right _ h)) (by decide +kernel))
set_option maxRecDepth 20000 in
theorem gL_asks_X5_paidOut : GoodIn wsL_asks (wsV RL 79 RX5 yX5_paidOut wsX5_paidOut) := goodIn_app (goodIn_of _ (by decide +kernel)) ggL_asks_X5_paidOut
theorem dL_asks_0 : decode cL_asks 0 = .ok (.iload_n 1, 1) := by decide +kernel
theorem dL_asks_1 : decode cL_asks 1 = .ok (.ifCond .ne 11, 3) := by decide +kernel
theorem dL_asks_4 : decode cL_asks 4 = .ok (.aload_n 0, 1) := by decide +kernel
theorem dL_asks_5 : decode cL_asks 5 = .ok (.iload_n 2, 1) := by decide +kernel
theorem dL_asks_6 : decode cL_asks 6 = .ok (.invokevirtual 50, 3) := by decide +kernel
theorem dL_asks_9 : decode cL_asks 9 = .ok (.goto 134, 3) := by decide +kernel
theorem dL_asks_12 : decode cL_asks 12 = .ok (.iload_n 1, 1) := by decide +kernel
theorem dL_asks_13 : decode cL_asks 13 = .ok (.iconst 1, 1) := by decide +kernel
theorem dL_asks_14 : decode cL_asks 14 = .ok (.if_icmp .ne 19, 3) := by decide +kernel
theorem dL_asks_17 : decode cL_asks 17 = .ok (.aload_n 0, 1) := by decide +kernel
theorem dL_asks_18 : decode cL_asks 18 = .ok (.iload_n 2, 1) := by decide +kernel
theorem dL_asks_19 : decode cL_asks 19 = .ok (.invokevirtual 53, 3) := by decide +kernel
theorem dL_asks_22 : decode cL_asks 22 = .ok (.ifCond .eq 7, 3) := by decide +kernel
theorem dL_asks_25 : decode cL_asks 25 = .ok (.iconst 1, 1) := by decide +kernel
theorem dL_asks_26 : decode cL_asks 26 = .ok (.goto 117, 3) := by decide +kernel
theorem dL_asks_29 : decode cL_asks 29 = .ok (.iconst 0, 1) := by decide +kernel
theorem dL_asks_30 : decode cL_asks 30 = .ok (.goto 113, 3) := by decide +kernel
theorem dL_asks_33 : decode cL_asks 33 = .ok (.iload_n 1, 1) := by decide +kernel
theorem dL_asks_34 : decode cL_asks 34 = .ok (.iconst 2, 1) := by decide +kernel
theorem dL_asks_35 : decode cL_asks 35 = .ok (.if_icmp .ne 11, 3) := by decide +kernel
theorem dL_asks_38 : decode cL_asks 38 = .ok (.aload_n 0, 1) := by decide +kernel
theorem dL_asks_39 : decode cL_asks 39 = .ok (.iload_n 2, 1) := by decide +kernel
theorem dL_asks_40 : decode cL_asks 40 = .ok (.invokevirtual 57, 3) := by decide +kernel
theorem dL_asks_43 : decode cL_asks 43 = .ok (.goto 100, 3) := by decide +kernel
theorem dL_asks_46 : decode cL_asks 46 = .ok (.iload_n 1, 1) := by decide +kernel
theorem dL_asks_47 : decode cL_asks 47 = .ok (.iconst 3, 1) := by decide +kernel
theorem dL_asks_48 : decode cL_asks 48 = .ok (.if_icmp .ne 21, 3) := by decide +kernel
theorem dL_asks_51 : decode cL_asks 51 = .ok (.aload_n 0, 1) := by decide +kernel
theorem dL_asks_52 : decode cL_asks 52 = .ok (.iload_n 2, 1) := by decide +kernel
theorem dL_asks_53 : decode cL_asks 53 = .ok (.iload_n 3, 1) := by decide +kernel
theorem dL_asks_54 : decode cL_asks 54 = .ok (.iconst 1, 1) := by decide +kernel
theorem dL_asks_55 : decode cL_asks 55 = .ok (.if_icmp .ne 7, 3) := by decide +kernel
theorem dL_asks_58 : decode cL_asks 58 = .ok (.iconst 1, 1) := by decide +kernel
theorem dL_asks_59 : decode cL_asks 59 = .ok (.goto 4, 3) := by decide +kernel
theorem dL_asks_62 : decode cL_asks 62 = .ok (.iconst 0, 1) := by decide +kernel
theorem dL_asks_63 : decode cL_asks 63 = .ok (.invokevirtual 60, 3) := by decide +kernel
theorem dL_asks_66 : decode cL_asks 66 = .ok (.goto 77, 3) := by decide +kernel
theorem dL_asks_69 : decode cL_asks 69 = .ok (.iload_n 1, 1) := by decide +kernel
theorem dL_asks_70 : decode cL_asks 70 = .ok (.iconst 4, 1) := by decide +kernel
theorem dL_asks_71 : decode cL_asks 71 = .ok (.if_icmp .ne 11, 3) := by decide +kernel
theorem dL_asks_74 : decode cL_asks 74 = .ok (.aload_n 0, 1) := by decide +kernel
theorem dL_asks_75 : decode cL_asks 75 = .ok (.iload_n 2, 1) := by decide +kernel
theorem dL_asks_76 : decode cL_asks 76 = .ok (.invokevirtual 64, 3) := by decide +kernel
theorem dL_asks_79 : decode cL_asks 79 = .ok (.goto 64, 3) := by decide +kernel
theorem dL_asks_82 : decode cL_asks 82 = .ok (.iload_n 1, 1) := by decide +kernel
theorem dL_asks_83 : decode cL_asks 83 = .ok (.iconst 5, 1) := by decide +kernel
theorem dL_asks_84 : decode cL_asks 84 = .ok (.if_icmp .ne 11, 3) := by decide +kernel
theorem dL_asks_87 : decode cL_asks 87 = .ok (.aload_n 0, 1) := by decide +kernel
theorem dL_asks_88 : decode cL_asks 88 = .ok (.iload_n 2, 1) := by decide +kernel
theorem dL_asks_89 : decode cL_asks 89 = .ok (.invokevirtual 67, 3) := by decide +kernel
theorem dL_asks_92 : decode cL_asks 92 = .ok (.goto 51, 3) := by decide +kernel
theorem dL_asks_95 : decode cL_asks 95 = .ok (.iload_n 1, 1) := by decide +kernel
theorem dL_asks_96 : decode cL_asks 96 = .ok (.bipush 6, 2) := by decide +kernel
theorem dL_asks_98 : decode cL_asks 98 = .ok (.if_icmp .ne 11, 3) := by decide +kernel
theorem dL_asks_101 : decode cL_asks 101 = .ok (.aload_n 0, 1) := by decide +kernel
theorem dL_asks_102 : decode cL_asks 102 = .ok (.iload_n 2, 1) := by decide +kernel
theorem dL_asks_103 : decode cL_asks 103 = .ok (.invokevirtual 70, 3) := by decide +kernel
theorem dL_asks_106 : decode cL_asks 106 = .ok (.goto 37, 3) := by decide +kernel
theorem dL_asks_109 : decode cL_asks 109 = .ok (.iload_n 1, 1) := by decide +kernel
theorem dL_asks_110 : decode cL_asks 110 = .ok (.bipush 7, 2) := by decide +kernel
theorem dL_asks_112 : decode cL_asks 112 = .ok (.if_icmp .ne 12, 3) := by decide +kernel
theorem dL_asks_115 : decode cL_asks 115 = .ok (.aload_n 0, 1) := by decide +kernel
theorem dL_asks_116 : decode cL_asks 116 = .ok (.iload_n 2, 1) := by decide +kernel
theorem dL_asks_117 : decode cL_asks 117 = .ok (.iload_n 3, 1) := by decide +kernel
theorem dL_asks_118 : decode cL_asks 118 = .ok (.invokevirtual 73, 3) := by decide +kernel
theorem dL_asks_121 : decode cL_asks 121 = .ok (.goto 22, 3) := by decide +kernel
theorem dL_asks_124 : decode cL_asks 124 = .ok (.iload_n 1, 1) := by decide +kernel
theorem dL_asks_125 : decode cL_asks 125 = .ok (.bipush 8, 2) := by decide +kernel
theorem dL_asks_127 : decode cL_asks 127 = .ok (.if_icmp .ne 11, 3) := by decide +kernel
theorem dL_asks_130 : decode cL_asks 130 = .ok (.aload_n 0, 1) := by decide +kernel
theorem dL_asks_131 : decode cL_asks 131 = .ok (.iload_n 2, 1) := by decide +kernel
theorem dL_asks_132 : decode cL_asks 132 = .ok (.invokevirtual 76, 3) := by decide +kernel
theorem dL_asks_135 : decode cL_asks 135 = .ok (.goto 8, 3) := by decide +kernel
theorem dL_asks_138 : decode cL_asks 138 = .ok (.aload_n 0, 1) := by decide +kernel
theorem dL_asks_139 : decode cL_asks 139 = .ok (.iload_n 2, 1) := by decide +kernel
theorem dL_asks_140 : decode cL_asks 140 = .ok (.invokevirtual 79, 3) := by decide +kernel
theorem dL_asks_143 : decode cL_asks 143 = .ok (.ireturn, 1) := by decide +kernel
theorem dL_asks_144 : decode cL_asks 144 = .ok (.astore 4, 2) := by decide +kernel
theorem dL_asks_146 : decode cL_asks 146 = .ok (.bipush (-30), 2) := by decide +kernel
theorem dL_asks_148 : decode cL_asks 148 = .ok (.ireturn, 1) := by decide +kernel
theorem dL_due_0 : decode cL_due 0 = .ok (.bipush 10, 2) := by decide +kernel
theorem dL_due_2 : decode cL_due 2 = .ok (.iload_n 1, 1) := by decide +kernel
theorem dL_due_3 : decode cL_due 3 = .ok (.imul, 1) := by decide +kernel
theorem dL_due_4 : decode cL_due 4 = .ok (.istore_n 2, 1) := by decide +kernel
theorem dL_due_5 : decode cL_due 5 = .ok (.aload_n 0, 1) := by decide +kernel
theorem dL_due_6 : decode cL_due 6 = .ok (.iload_n 2, 1) := by decide +kernel
theorem dL_due_7 : decode cL_due 7 = .ok (.bipush 6, 2) := by decide +kernel
theorem dL_due_9 : decode cL_due 9 = .ok (.iadd, 1) := by decide +kernel
theorem dL_due_10 : decode cL_due 10 = .ok (.iaload, 1) := by decide +kernel
theorem dL_due_11 : decode cL_due 11 = .ok (.iconst 5, 1) := by decide +kernel
theorem dL_due_12 : decode cL_due 12 = .ok (.idiv, 1) := by decide +kernel
theorem dL_due_13 : decode cL_due 13 = .ok (.aload_n 0, 1) := by decide +kernel
theorem dL_due_14 : decode cL_due 14 = .ok (.iload_n 2, 1) := by decide +kernel
theorem dL_due_15 : decode cL_due 15 = .ok (.bipush 7, 2) := by decide +kernel
theorem dL_due_17 : decode cL_due 17 = .ok (.iadd, 1) := by decide +kernel
theorem dL_due_18 : decode cL_due 18 = .ok (.iaload, 1) := by decide +kernel
theorem dL_due_19 : decode cL_due 19 = .ok (.iadd, 1) := by decide +kernel
theorem dL_due_20 : decode cL_due 20 = .ok (.istore_n 3, 1) := by decide +kernel
theorem dL_due_21 : decode cL_due 21 = .ok (.aload_n 0, 1) := by decide +kernel
theorem dL_due_22 : decode cL_due 22 = .ok (.iload_n 2, 1) := by decide +kernel
theorem dL_due_23 : decode cL_due 23 = .ok (.iconst 1, 1) := by decide +kernel
theorem dL_due_24 : decode cL_due 24 = .ok (.iadd, 1) := by decide +kernel
theorem dL_due_25 : decode cL_due 25 = .ok (.iaload, 1) := by decide +kernel
theorem dL_due_26 : decode cL_due 26 = .ok (.iconst 4, 1) := by decide +kernel
theorem dL_due_27 : decode cL_due 27 = .ok (.idiv, 1) := by decide +kernel
theorem dL_due_28 : decode cL_due 28 = .ok (.istore 4, 2) := by decide +kernel
theorem dL_due_30 : decode cL_due 30 = .ok (.aload_n 0, 1) := by decide +kernel
theorem dL_due_31 : decode cL_due 31 = .ok (.iload_n 2, 1) := by decide +kernel
theorem dL_due_32 : decode cL_due 32 = .ok (.iconst 4, 1) := by decide +kernel
theorem dL_due_33 : decode cL_due 33 = .ok (.iadd, 1) := by decide +kernel
theorem dL_due_34 : decode cL_due 34 = .ok (.iaload, 1) := by decide +kernel
theorem dL_due_35 : decode cL_due 35 = .ok (.iconst 1, 1) := by decide +kernel
theorem dL_due_36 : decode cL_due 36 = .ok (.if_icmp .ne 11, 3) := by decide +kernel
theorem dL_due_39 : decode cL_due 39 = .ok (.aload_n 0, 1) := by decide +kernel
theorem dL_due_40 : decode cL_due 40 = .ok (.iload_n 2, 1) := by decide +kernel
theorem dL_due_41 : decode cL_due 41 = .ok (.iconst 5, 1) := by decide +kernel
theorem dL_due_42 : decode cL_due 42 = .ok (.iadd, 1) := by decide +kernel
theorem dL_due_43 : decode cL_due 43 = .ok (.iaload, 1) := by decide +kernel
theorem dL_due_44 : decode cL_due 44 = .ok (.goto 32, 3) := by decide +kernel
theorem dL_due_47 : decode cL_due 47 = .ok (.aload_n 0, 1) := by decide +kernel
theorem dL_due_48 : decode cL_due 48 = .ok (.iload_n 2, 1) := by decide +kernel
theorem dL_due_49 : decode cL_due 49 = .ok (.iaload, 1) := by decide +kernel
theorem dL_due_50 : decode cL_due 50 = .ok (.aload_n 0, 1) := by decide +kernel
theorem dL_due_51 : decode cL_due 51 = .ok (.iload_n 2, 1) := by decide +kernel
theorem dL_due_52 : decode cL_due 52 = .ok (.iconst 1, 1) := by decide +kernel
theorem dL_due_53 : decode cL_due 53 = .ok (.iadd, 1) := by decide +kernel
theorem dL_due_54 : decode cL_due 54 = .ok (.iaload, 1) := by decide +kernel
theorem dL_due_55 : decode cL_due 55 = .ok (.iadd, 1) := by decide +kernel
theorem dL_due_56 : decode cL_due 56 = .ok (.iload_n 3, 1) := by decide +kernel
theorem dL_due_57 : decode cL_due 57 = .ok (.iload 4, 2) := by decide +kernel
theorem dL_due_59 : decode cL_due 59 = .ok (.if_icmp .le 8, 3) := by decide +kernel
theorem dL_due_62 : decode cL_due 62 = .ok (.iload 4, 2) := by decide +kernel
theorem dL_due_64 : decode cL_due 64 = .ok (.goto 4, 3) := by decide +kernel
theorem dL_due_67 : decode cL_due 67 = .ok (.iload_n 3, 1) := by decide +kernel
theorem dL_due_68 : decode cL_due 68 = .ok (.isub, 1) := by decide +kernel
theorem dL_due_69 : decode cL_due 69 = .ok (.aload_n 0, 1) := by decide +kernel
theorem dL_due_70 : decode cL_due 70 = .ok (.iload_n 2, 1) := by decide +kernel
