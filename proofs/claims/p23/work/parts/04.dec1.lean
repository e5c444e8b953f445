theorem dX0_init_0 : decode cX0_init 0 = .ok (.aload_n 0, 1) := by decide +kernel
theorem dX0_init_1 : decode cX0_init 1 = .ok (.invokespecial 3, 3) := by decide +kernel
theorem dX0_init_4 : decode cX0_init 4 = .ok (.aload_n 0, 1) := by decide +kernel
theorem dX0_init_5 : decode cX0_init 5 = .ok (.iload_n 1, 1) := by decide +kernel
theorem dX0_init_6 : decode cX0_init 6 = .ok (.putfield 9, 3) := by decide +kernel
theorem dX0_init_9 : decode cX0_init 9 = .ok (.aload_n 0, 1) := by decide +kernel
theorem dX0_init_10 : decode cX0_init 10 = .ok (.iload_n 2, 1) := by decide +kernel
theorem dX0_init_11 : decode cX0_init 11 = .ok (.putfield 15, 3) := by decide +kernel
theorem dX0_init_14 : decode cX0_init 14 = .ok (.aload_n 0, 1) := by decide +kernel
theorem dX0_init_15 : decode cX0_init 15 = .ok (.iload_n 3, 1) := by decide +kernel
theorem dX0_init_16 : decode cX0_init 16 = .ok (.putfield 18, 3) := by decide +kernel
theorem dX0_init_19 : decode cX0_init 19 = .ok (.return_, 1) := by decide +kernel
theorem dX0_lowersLimitOn_0 : decode cX0_lowersLimitOn 0 = .ok (.aload_n 0, 1) := by decide +kernel
theorem dX0_lowersLimitOn_1 : decode cX0_lowersLimitOn 1 = .ok (.getfield 22, 3) := by decide +kernel
theorem dX0_lowersLimitOn_4 : decode cX0_lowersLimitOn 4 = .ok (.ifCond .ne 18, 3) := by decide +kernel
theorem dX0_lowersLimitOn_7 : decode cX0_lowersLimitOn 7 = .ok (.iload_n 1, 1) := by decide +kernel
theorem dX0_lowersLimitOn_8 : decode cX0_lowersLimitOn 8 = .ok (.aload_n 0, 1) := by decide +kernel
theorem dX0_lowersLimitOn_9 : decode cX0_lowersLimitOn 9 = .ok (.getfield 9, 3) := by decide +kernel
theorem dX0_lowersLimitOn_12 : decode cX0_lowersLimitOn 12 = .ok (.isub, 1) := by decide +kernel
theorem dX0_lowersLimitOn_13 : decode cX0_lowersLimitOn 13 = .ok (.bipush 30, 2) := by decide +kernel
theorem dX0_lowersLimitOn_15 : decode cX0_lowersLimitOn 15 = .ok (.if_icmp .ge 7, 3) := by decide +kernel
theorem dX0_lowersLimitOn_18 : decode cX0_lowersLimitOn 18 = .ok (.iconst 1, 1) := by decide +kernel
theorem dX0_lowersLimitOn_19 : decode cX0_lowersLimitOn 19 = .ok (.goto 4, 3) := by decide +kernel
theorem dX0_lowersLimitOn_22 : decode cX0_lowersLimitOn 22 = .ok (.iconst 0, 1) := by decide +kernel
theorem dX0_lowersLimitOn_23 : decode cX0_lowersLimitOn 23 = .ok (.ireturn, 1) := by decide +kernel
theorem dX1_init_0 : decode cX1_init 0 = .ok (.aload_n 0, 1) := by decide +kernel
theorem dX1_init_1 : decode cX1_init 1 = .ok (.invokespecial 1, 3) := by decide +kernel
theorem dX1_init_4 : decode cX1_init 4 = .ok (.aload_n 0, 1) := by decide +kernel
theorem dX1_init_5 : decode cX1_init 5 = .ok (.iload_n 1, 1) := by decide +kernel
theorem dX1_init_6 : decode cX1_init 6 = .ok (.putfield 7, 3) := by decide +kernel
theorem dX1_init_9 : decode cX1_init 9 = .ok (.aload_n 0, 1) := by decide +kernel
theorem dX1_init_10 : decode cX1_init 10 = .ok (.iload_n 2, 1) := by decide +kernel
theorem dX1_init_11 : decode cX1_init 11 = .ok (.putfield 13, 3) := by decide +kernel
theorem dX1_init_14 : decode cX1_init 14 = .ok (.aload_n 0, 1) := by decide +kernel
theorem dX1_init_15 : decode cX1_init 15 = .ok (.aload_n 3, 1) := by decide +kernel
theorem dX1_init_16 : decode cX1_init 16 = .ok (.putfield 16, 3) := by decide +kernel
theorem dX1_init_19 : decode cX1_init 19 = .ok (.aload_n 0, 1) := by decide +kernel
theorem dX1_init_20 : decode cX1_init 20 = .ok (.iload 4, 2) := by decide +kernel
theorem dX1_init_22 : decode cX1_init 22 = .ok (.putfield 20, 3) := by decide +kernel
theorem dX1_init_25 : decode cX1_init 25 = .ok (.aload_n 0, 1) := by decide +kernel
theorem dX1_init_26 : decode cX1_init 26 = .ok (.iload 5, 2) := by decide +kernel
theorem dX1_init_28 : decode cX1_init 28 = .ok (.putfield 23, 3) := by decide +kernel
theorem dX1_init_31 : decode cX1_init 31 = .ok (.return_, 1) := by decide +kernel
theorem dX1_isFinished_0 : decode cX1_isFinished 0 = .ok (.aload_n 0, 1) := by decide +kernel
theorem dX1_isFinished_1 : decode cX1_isFinished 1 = .ok (.getfield 20, 3) := by decide +kernel
theorem dX1_isFinished_4 : decode cX1_isFinished 4 = .ok (.ifCond .gt 7, 3) := by decide +kernel
theorem dX1_isFinished_7 : decode cX1_isFinished 7 = .ok (.iconst 1, 1) := by decide +kernel
theorem dX1_isFinished_8 : decode cX1_isFinished 8 = .ok (.goto 4, 3) := by decide +kernel
theorem dX1_isFinished_11 : decode cX1_isFinished 11 = .ok (.iconst 0, 1) := by decide +kernel
theorem dX1_isFinished_12 : decode cX1_isFinished 12 = .ok (.ireturn, 1) := by decide +kernel
theorem dX1_hasFreeTool_0 : decode cX1_hasFreeTool 0 = .ok (.aload_n 0, 1) := by decide +kernel
theorem dX1_hasFreeTool_1 : decode cX1_hasFreeTool 1 = .ok (.getfield 16, 3) := by decide +kernel
theorem dX1_hasFreeTool_4 : decode cX1_hasFreeTool 4 = .ok (.getfield 26, 3) := by decide +kernel
theorem dX1_hasFreeTool_7 : decode cX1_hasFreeTool 7 = .ok (.aload_n 0, 1) := by decide +kernel
theorem dX1_hasFreeTool_8 : decode cX1_hasFreeTool 8 = .ok (.getfield 16, 3) := by decide +kernel
theorem dX1_hasFreeTool_11 : decode cX1_hasFreeTool 11 = .ok (.getfield 31, 3) := by decide +kernel
theorem dX1_hasFreeTool_14 : decode cX1_hasFreeTool 14 = .ok (.if_icmp .ge 7, 3) := by decide +kernel
theorem dX1_hasFreeTool_17 : decode cX1_hasFreeTool 17 = .ok (.iconst 1, 1) := by decide +kernel
theorem dX1_hasFreeTool_18 : decode cX1_hasFreeTool 18 = .ok (.goto 4, 3) := by decide +kernel
theorem dX1_hasFreeTool_21 : decode cX1_hasFreeTool 21 = .ok (.iconst 0, 1) := by decide +kernel
theorem dX1_hasFreeTool_22 : decode cX1_hasFreeTool 22 = .ok (.ireturn, 1) := by decide +kernel
set_option maxRecDepth 20000 in
theorem ggX2_init_X3_init : GoodIn wsX2_init wsX3_init := goodIn_r _ [15, 16, 2, 3, 17, 18, 33, 34, 35, 36] (by decide +kernel) (by decide +kernel)
set_option maxRecDepth 20000 in
theorem gX2_init_X3_init_n23 : GoodIn wsX2_init (wsX3_init) := ggX2_init_X3_init
theorem dX2_init_0 : decode cX2_init 0 = .ok (.aload_n 0, 1) := by decide +kernel
theorem dX2_init_1 : decode cX2_init 1 = .ok (.invokespecial 3, 3) := by decide +kernel
theorem dX2_init_4 : decode cX2_init 4 = .ok (.aload_n 0, 1) := by decide +kernel
theorem dX2_init_5 : decode cX2_init 5 = .ok (.iconst 1, 1) := by decide +kernel
theorem dX2_init_6 : decode cX2_init 6 = .ok (.putfield 9, 3) := by decide +kernel
theorem dX2_init_9 : decode cX2_init 9 = .ok (.aload_n 0, 1) := by decide +kernel
theorem dX2_init_10 : decode cX2_init 10 = .ok (.bipush 50, 2) := by decide +kernel
theorem dX2_init_12 : decode cX2_init 12 = .ok (.anewarray 15, 3) := by decide +kernel
theorem dX2_init_15 : decode cX2_init 15 = .ok (.putfield 17, 3) := by decide +kernel
theorem dX2_init_18 : decode cX2_init 18 = .ok (.aload_n 0, 1) := by decide +kernel
theorem dX2_init_19 : decode cX2_init 19 = .ok (.new 21, 3) := by decide +kernel
theorem dX2_init_22 : decode cX2_init 22 = .ok (.dup, 1) := by decide +kernel
theorem dX2_init_23 : decode cX2_init 23 = .ok (.invokespecial 23, 3) := by decide +kernel
theorem dX2_init_26 : decode cX2_init 26 = .ok (.putfield 24, 3) := by decide +kernel
theorem dX2_init_29 : decode cX2_init 29 = .ok (.aload_n 0, 1) := by decide +kernel
theorem dX2_init_30 : decode cX2_init 30 = .ok (.iload_n 1, 1) := by decide +kernel
theorem dX2_init_31 : decode cX2_init 31 = .ok (.putfield 28, 3) := by decide +kernel
theorem dX2_init_34 : decode cX2_init 34 = .ok (.aload_n 0, 1) := by decide +kernel
theorem dX2_init_35 : decode cX2_init 35 = .ok (.iload_n 2, 1) := by decide +kernel
theorem dX2_init_36 : decode cX2_init 36 = .ok (.putfield 31, 3) := by decide +kernel
theorem dX2_init_39 : decode cX2_init 39 = .ok (.aload_n 0, 1) := by decide +kernel
theorem dX2_init_40 : decode cX2_init 40 = .ok (.iload_n 3, 1) := by decide +kernel
theorem dX2_init_41 : decode cX2_init 41 = .ok (.putfield 34, 3) := by decide +kernel
theorem dX2_init_44 : decode cX2_init 44 = .ok (.return_, 1) := by decide +kernel
theorem dX2_gainedDays_0 : decode cX2_gainedDays 0 = .ok (.aload_n 0, 1) := by decide +kernel
theorem dX2_gainedDays_1 : decode cX2_gainedDays 1 = .ok (.getfield 37, 3) := by decide +kernel
theorem dX2_gainedDays_4 : decode cX2_gainedDays 4 = .ok (.iconst 5, 1) := by decide +kernel
theorem dX2_gainedDays_5 : decode cX2_gainedDays 5 = .ok (.idiv, 1) := by decide +kernel
theorem dX2_gainedDays_6 : decode cX2_gainedDays 6 = .ok (.aload_n 0, 1) := by decide +kernel
theorem dX2_gainedDays_7 : decode cX2_gainedDays 7 = .ok (.getfield 40, 3) := by decide +kernel
theorem dX2_gainedDays_10 : decode cX2_gainedDays 10 = .ok (.iadd, 1) := by decide +kernel
theorem dX2_gainedDays_11 : decode cX2_gainedDays 11 = .ok (.ireturn, 1) := by decide +kernel
set_option maxRecDepth 20000 in
theorem ggX2_releaseDay_X2_gainedDays : GoodIn wsX2_releaseDay wsX2_gainedDays := goodIn_r _ [14, 15, 16, 17, 18, 19, 20, 21, 22, 23, 24, 25, 26, 27, 28, 29, 30] (by decide +kernel) (by decide +kernel)
set_option maxRecDepth 20000 in
theorem gX2_releaseDay_X2_gainedDays : GoodIn wsX2_releaseDay (wsV RX2 50 RX2 yX2_gainedDays wsX2_gainedDays) := goodIn_app (goodIn_of _ (by decide +kernel)) ggX2_releaseDay_X2_gainedDays
theorem dX2_releaseDay_0 : decode cX2_releaseDay 0 = .ok (.aload_n 0, 1) := by decide +kernel
theorem dX2_releaseDay_1 : decode cX2_releaseDay 1 = .ok (.getfield 43, 3) := by decide +kernel
theorem dX2_releaseDay_4 : decode cX2_releaseDay 4 = .ok (.ifCond .eq 8, 3) := by decide +kernel
theorem dX2_releaseDay_7 : decode cX2_releaseDay 7 = .ok (.aload_n 0, 1) := by decide +kernel
theorem dX2_releaseDay_8 : decode cX2_releaseDay 8 = .ok (.getfield 47, 3) := by decide +kernel
theorem dX2_releaseDay_11 : decode cX2_releaseDay 11 = .ok (.ireturn, 1) := by decide +kernel
theorem dX2_releaseDay_12 : decode cX2_releaseDay 12 = .ok (.aload_n 0, 1) := by decide +kernel
theorem dX2_releaseDay_13 : decode cX2_releaseDay 13 = .ok (.getfield 28, 3) := by decide +kernel
theorem dX2_releaseDay_16 : decode cX2_releaseDay 16 = .ok (.aload_n 0, 1) := by decide +kernel
theorem dX2_releaseDay_17 : decode cX2_releaseDay 17 = .ok (.getfield 31, 3) := by decide +kernel
theorem dX2_releaseDay_20 : decode cX2_releaseDay 20 = .ok (.iadd, 1) := by decide +kernel
theorem dX2_releaseDay_21 : decode cX2_releaseDay 21 = .ok (.aload_n 0, 1) := by decide +kernel
theorem dX2_releaseDay_22 : decode cX2_releaseDay 22 = .ok (.invokevirtual 50, 3) := by decide +kernel
theorem dX2_releaseDay_25 : decode cX2_releaseDay 25 = .ok (.aload_n 0, 1) := by decide +kernel
theorem dX2_releaseDay_26 : decode cX2_releaseDay 26 = .ok (.getfield 31, 3) := by decide +kernel
theorem dX2_releaseDay_29 : decode cX2_releaseDay 29 = .ok (.iconst 4, 1) := by decide +kernel
theorem dX2_releaseDay_30 : decode cX2_releaseDay 30 = .ok (.idiv, 1) := by decide +kernel
theorem dX2_releaseDay_31 : decode cX2_releaseDay 31 = .ok (.invokestatic 54, 3) := by decide +kernel
theorem dX2_releaseDay_34 : decode cX2_releaseDay 34 = .ok (.isub, 1) := by decide +kernel
theorem dX2_releaseDay_35 : decode cX2_releaseDay 35 = .ok (.aload_n 0, 1) := by decide +kernel
theorem dX2_releaseDay_36 : decode cX2_releaseDay 36 = .ok (.getfield 60, 3) := by decide +kernel
theorem dX2_releaseDay_39 : decode cX2_releaseDay 39 = .ok (.iadd, 1) := by decide +kernel
theorem dX2_releaseDay_40 : decode cX2_releaseDay 40 = .ok (.ireturn, 1) := by decide +kernel
theorem dX2_hasSkill_0 : decode cX2_hasSkill 0 = .ok (.aload_n 0, 1) := by decide +kernel
theorem dX2_hasSkill_1 : decode cX2_hasSkill 1 = .ok (.getfield 34, 3) := by decide +kernel
theorem dX2_hasSkill_4 : decode cX2_hasSkill 4 = .ok (.iconst 1, 1) := by decide +kernel
theorem dX2_hasSkill_5 : decode cX2_hasSkill 5 = .ok (.iload_n 1, 1) := by decide +kernel
theorem dX2_hasSkill_6 : decode cX2_hasSkill 6 = .ok (.ishl, 1) := by decide +kernel
theorem dX2_hasSkill_7 : decode cX2_hasSkill 7 = .ok (.iand, 1) := by decide +kernel
theorem dX2_hasSkill_8 : decode cX2_hasSkill 8 = .ok (.ifCond .eq 7, 3) := by decide +kernel
theorem dX2_hasSkill_11 : decode cX2_hasSkill 11 = .ok (.iconst 1, 1) := by decide +kernel
theorem dX2_hasSkill_12 : decode cX2_hasSkill 12 = .ok (.goto 4, 3) := by decide +kernel
theorem dX2_hasSkill_15 : decode cX2_hasSkill 15 = .ok (.iconst 0, 1) := by decide +kernel
theorem dX2_hasSkill_16 : decode cX2_hasSkill 16 = .ok (.ireturn, 1) := by decide +kernel
theorem dX2_hasRoomForPaper_0 : decode cX2_hasRoomForPaper 0 = .ok (.aload_n 0, 1) := by decide +kernel
theorem dX2_hasRoomForPaper_1 : decode cX2_hasRoomForPaper 1 = .ok (.getfield 63, 3) := by decide +kernel
theorem dX2_hasRoomForPaper_4 : decode cX2_hasRoomForPaper 4 = .ok (.aload_n 0, 1) := by decide +kernel
theorem dX2_hasRoomForPaper_5 : decode cX2_hasRoomForPaper 5 = .ok (.getfield 66, 3) := by decide +kernel
theorem dX2_hasRoomForPaper_8 : decode cX2_hasRoomForPaper 8 = .ok (.iadd, 1) := by decide +kernel
theorem dX2_hasRoomForPaper_9 : decode cX2_hasRoomForPaper 9 = .ok (.bipush 50, 2) := by decide +kernel
theorem dX2_hasRoomForPaper_11 : decode cX2_hasRoomForPaper 11 = .ok (.if_icmp .ge 7, 3) := by decide +kernel
theorem dX2_hasRoomForPaper_14 : decode cX2_hasRoomForPaper 14 = .ok (.iconst 1, 1) := by decide +kernel
theorem dX2_hasRoomForPaper_15 : decode cX2_hasRoomForPaper 15 = .ok (.goto 4, 3) := by decide +kernel
theorem dX2_hasRoomForPaper_18 : decode cX2_hasRoomForPaper 18 = .ok (.iconst 0, 1) := by decide +kernel
theorem dX2_hasRoomForPaper_19 : decode cX2_hasRoomForPaper 19 = .ok (.ireturn, 1) := by decide +kernel
theorem dX2_raiseRegime_0 : decode cX2_raiseRegime 0 = .ok (.aload_n 0, 1) := by decide +kernel
theorem dX2_raiseRegime_1 : decode cX2_raiseRegime 1 = .ok (.aload_n 0, 1) := by decide +kernel
theorem dX2_raiseRegime_2 : decode cX2_raiseRegime 2 = .ok (.getfield 9, 3) := by decide +kernel
theorem dX2_raiseRegime_5 : decode cX2_raiseRegime 5 = .ok (.iconst 1, 1) := by decide +kernel
theorem dX2_raiseRegime_6 : decode cX2_raiseRegime 6 = .ok (.iadd, 1) := by decide +kernel
theorem dX2_raiseRegime_7 : decode cX2_raiseRegime 7 = .ok (.iconst 2, 1) := by decide +kernel
theorem dX2_raiseRegime_8 : decode cX2_raiseRegime 8 = .ok (.invokestatic 54, 3) := by decide +kernel
theorem dX2_raiseRegime_11 : decode cX2_raiseRegime 11 = .ok (.putfield 9, 3) := by decide +kernel
theorem dX2_raiseRegime_14 : decode cX2_raiseRegime 14 = .ok (.return_, 1) := by decide +kernel
set_option maxRecDepth 20000 in
theorem ggX2_enterCourse_X2_hasRoomForPaper : GoodIn wsX2_enterCourse wsX2_hasRoomForPaper := goodIn_r _ [10, 4, 11, 21, 22, 23, 24, 25, 26, 27, 28, 29, 30, 31, 32, 33, 34] (by decide +kernel) (by decide +kernel)
set_option maxRecDepth 20000 in
theorem gX2_enterCourse_X2_hasRoomForPaper : GoodIn wsX2_enterCourse (wsV RX2 69 RX2 yX2_hasRoomForPaper wsX2_hasRoomForPaper) := goodIn_app (goodIn_of _ (by decide +kernel)) ggX2_enterCourse_X2_hasRoomForPaper
set_option maxRecDepth 20000 in
theorem ggX2_enterCourse_X2_raiseRegime : GoodIn wsX2_enterCourse wsX2_raiseRegime := goodIn_r _ [15, 16, 17, 18, 19, 20, 21, 22, 23, 24, 25, 26, 27, 28, 29, 30, 31, 32, 33, 34] (by decide +kernel) (by decide +kernel)
set_option maxRecDepth 20000 in
theorem gX2_enterCourse_X2_raiseRegime : GoodIn wsX2_enterCourse (wsV RX2 80 RX2 yX2_raiseRegime wsX2_raiseRegime) := goodIn_app (goodIn_of _ (by decide +kernel)) ggX2_enterCourse_X2_raiseRegime
theorem dX2_enterCourse_0 : decode cX2_enterCourse 0 = .ok (.aload_n 0, 1) := by decide +kernel
theorem dX2_enterCourse_1 : decode cX2_enterCourse 1 = .ok (.invokevirtual 69, 3) := by decide +kernel
theorem dX2_enterCourse_4 : decode cX2_enterCourse 4 = .ok (.ifCond .ne 13, 3) := by decide +kernel
theorem dX2_enterCourse_7 : decode cX2_enterCourse 7 = .ok (.new 73, 3) := by decide +kernel
theorem dX2_enterCourse_10 : decode cX2_enterCourse 10 = .ok (.dup, 1) := by decide +kernel
theorem dX2_enterCourse_11 : decode cX2_enterCourse 11 = .ok (.ldc 75, 2) := by decide +kernel
theorem dX2_enterCourse_13 : decode cX2_enterCourse 13 = .ok (.invokespecial 77, 3) := by decide +kernel
theorem dX2_enterCourse_16 : decode cX2_enterCourse 16 = .ok (.athrow, 1) := by decide +kernel
theorem dX2_enterCourse_17 : decode cX2_enterCourse 17 = .ok (.aload_n 0, 1) := by decide +kernel
theorem dX2_enterCourse_18 : decode cX2_enterCourse 18 = .ok (.dup, 1) := by decide +kernel
theorem dX2_enterCourse_19 : decode cX2_enterCourse 19 = .ok (.getfield 34, 3) := by decide +kernel
theorem dX2_enterCourse_22 : decode cX2_enterCourse 22 = .ok (.iconst 1, 1) := by decide +kernel
theorem dX2_enterCourse_23 : decode cX2_enterCourse 23 = .ok (.iload_n 1, 1) := by decide +kernel
theorem dX2_enterCourse_24 : decode cX2_enterCourse 24 = .ok (.ishl, 1) := by decide +kernel
theorem dX2_enterCourse_25 : decode cX2_enterCourse 25 = .ok (.ior, 1) := by decide +kernel
theorem dX2_enterCourse_26 : decode cX2_enterCourse 26 = .ok (.putfield 34, 3) := by decide +kernel
theorem dX2_enterCourse_29 : decode cX2_enterCourse 29 = .ok (.aload_n 0, 1) := by decide +kernel
theorem dX2_enterCourse_30 : decode cX2_enterCourse 30 = .ok (.dup, 1) := by decide +kernel
theorem dX2_enterCourse_31 : decode cX2_enterCourse 31 = .ok (.getfield 63, 3) := by decide +kernel
theorem dX2_enterCourse_34 : decode cX2_enterCourse 34 = .ok (.iconst 1, 1) := by decide +kernel
theorem dX2_enterCourse_35 : decode cX2_enterCourse 35 = .ok (.iadd, 1) := by decide +kernel
theorem dX2_enterCourse_36 : decode cX2_enterCourse 36 = .ok (.putfield 63, 3) := by decide +kernel
theorem dX2_enterCourse_39 : decode cX2_enterCourse 39 = .ok (.aload_n 0, 1) := by decide +kernel
theorem dX2_enterCourse_40 : decode cX2_enterCourse 40 = .ok (.dup, 1) := by decide +kernel
theorem dX2_enterCourse_41 : decode cX2_enterCourse 41 = .ok (.getfield 40, 3) := by decide +kernel
theorem dX2_enterCourse_44 : decode cX2_enterCourse 44 = .ok (.iload_n 2, 1) := by decide +kernel
theorem dX2_enterCourse_45 : decode cX2_enterCourse 45 = .ok (.iadd, 1) := by decide +kernel
theorem dX2_enterCourse_46 : decode cX2_enterCourse 46 = .ok (.putfield 40, 3) := by decide +kernel
theorem dX2_enterCourse_49 : decode cX2_enterCourse 49 = .ok (.aload_n 0, 1) := by decide +kernel
theorem dX2_enterCourse_50 : decode cX2_enterCourse 50 = .ok (.invokevirtual 80, 3) := by decide +kernel
theorem dX2_enterCourse_53 : decode cX2_enterCourse 53 = .ok (.return_, 1) := by decide +kernel
set_option maxRecDepth 20000 in
theorem ggX2_enterOffence_X2_hasRoomForPaper : GoodIn wsX2_enterOffence wsX2_hasRoomForPaper := goodIn_r _ [14, 15, 3, 33, 34, 35, 36, 37, 38, 39, 40, 41, 42, 43, 44, 45, 46] (by decide +kernel) (by decide +kernel)
set_option maxRecDepth 20000 in
theorem gX2_enterOffence_X2_hasRoomForPaper : GoodIn wsX2_enterOffence (wsV RX2 69 RX2 yX2_hasRoomForPaper wsX2_hasRoomForPaper) := goodIn_app (goodIn_of _ (by decide +kernel)) ggX2_enterOffence_X2_hasRoomForPaper
set_option maxRecDepth 20000 in
theorem ggX2_enterOffence_X0_init : GoodIn wsX2_enterOffence wsX0_init := goodIn_r _ [18, 19, 20, 21, 22, 23, 24, 47, 48, 49, 50] (by decide +kernel) (by decide +kernel)
set_option maxRecDepth 20000 in
theorem gX2_enterOffence_X0_init : GoodIn wsX2_enterOffence (wsX0_init) := ggX2_enterOffence_X0_init
set_option maxRecDepth 20000 in
theorem ggX2_enterOffence_X2_leaveOrder : GoodIn wsX2_enterOffence wsX2_leaveOrder := goodIn_r _ [28, 29, 30, 31, 32, 33, 34, 35, 36, 37, 38, 39, 40, 41, 42, 43, 44, 45, 46, 51, 52, 53, 54, 55, 56, 57, 58] (by decide +kernel) (by decide +kernel)
set_option maxRecDepth 20000 in
theorem gX2_enterOffence_X2_leaveOrder : GoodIn wsX2_enterOffence (wsV RX2 86 RX2 yX2_leaveOrder wsX2_leaveOrder) := goodIn_app (goodIn_of _ (by decide +kernel)) ggX2_enterOffence_X2_leaveOrder
theorem dX2_enterOffence_0 : decode cX2_enterOffence 0 = .ok (.aload_n 0, 1) := by decide +kernel
theorem dX2_enterOffence_1 : decode cX2_enterOffence 1 = .ok (.getfield 66, 3) := by decide +kernel
theorem dX2_enterOffence_4 : decode cX2_enterOffence 4 = .ok (.istore_n 3, 1) := by decide +kernel
theorem dX2_enterOffence_5 : decode cX2_enterOffence 5 = .ok (.aload_n 0, 1) := by decide +kernel
theorem dX2_enterOffence_6 : decode cX2_enterOffence 6 = .ok (.invokevirtual 69, 3) := by decide +kernel
theorem dX2_enterOffence_9 : decode cX2_enterOffence 9 = .ok (.ifCond .eq 16, 3) := by decide +kernel
theorem dX2_enterOffence_12 : decode cX2_enterOffence 12 = .ok (.iload_n 3, 1) := by decide +kernel
theorem dX2_enterOffence_13 : decode cX2_enterOffence 13 = .ok (.ifCond .lt 12, 3) := by decide +kernel
theorem dX2_enterOffence_16 : decode cX2_enterOffence 16 = .ok (.iload_n 3, 1) := by decide +kernel
theorem dX2_enterOffence_17 : decode cX2_enterOffence 17 = .ok (.aload_n 0, 1) := by decide +kernel
theorem dX2_enterOffence_18 : decode cX2_enterOffence 18 = .ok (.getfield 17, 3) := by decide +kernel
theorem dX2_enterOffence_21 : decode cX2_enterOffence 21 = .ok (.arraylength, 1) := by decide +kernel
theorem dX2_enterOffence_22 : decode cX2_enterOffence 22 = .ok (.if_icmp .lt 13, 3) := by decide +kernel
theorem dX2_enterOffence_25 : decode cX2_enterOffence 25 = .ok (.new 73, 3) := by decide +kernel
theorem dX2_enterOffence_28 : decode cX2_enterOffence 28 = .ok (.dup, 1) := by decide +kernel
theorem dX2_enterOffence_29 : decode cX2_enterOffence 29 = .ok (.ldc 75, 2) := by decide +kernel
theorem dX2_enterOffence_31 : decode cX2_enterOffence 31 = .ok (.invokespecial 77, 3) := by decide +kernel
theorem dX2_enterOffence_34 : decode cX2_enterOffence 34 = .ok (.athrow, 1) := by decide +kernel
theorem dX2_enterOffence_35 : decode cX2_enterOffence 35 = .ok (.aload_n 0, 1) := by decide +kernel
theorem dX2_enterOffence_36 : decode cX2_enterOffence 36 = .ok (.getfield 9, 3) := by decide +kernel
theorem dX2_enterOffence_39 : decode cX2_enterOffence 39 = .ok (.ifCond .le 7, 3) := by decide +kernel
theorem dX2_enterOffence_42 : decode cX2_enterOffence 42 = .ok (.iconst 1, 1) := by decide +kernel
theorem dX2_enterOffence_43 : decode cX2_enterOffence 43 = .ok (.goto 4, 3) := by decide +kernel
theorem dX2_enterOffence_46 : decode cX2_enterOffence 46 = .ok (.iconst 0, 1) := by decide +kernel
theorem dX2_enterOffence_47 : decode cX2_enterOffence 47 = .ok (.istore 4, 2) := by decide +kernel
theorem dX2_enterOffence_49 : decode cX2_enterOffence 49 = .ok (.iload 4, 2) := by decide +kernel
theorem dX2_enterOffence_51 : decode cX2_enterOffence 51 = .ok (.ifCond .eq 13, 3) := by decide +kernel
theorem dX2_enterOffence_54 : decode cX2_enterOffence 54 = .ok (.aload_n 0, 1) := by decide +kernel
theorem dX2_enterOffence_55 : decode cX2_enterOffence 55 = .ok (.dup, 1) := by decide +kernel
theorem dX2_enterOffence_56 : decode cX2_enterOffence 56 = .ok (.getfield 9, 3) := by decide +kernel
theorem dX2_enterOffence_59 : decode cX2_enterOffence 59 = .ok (.iconst 1, 1) := by decide +kernel
theorem dX2_enterOffence_60 : decode cX2_enterOffence 60 = .ok (.isub, 1) := by decide +kernel
theorem dX2_enterOffence_61 : decode cX2_enterOffence 61 = .ok (.putfield 9, 3) := by decide +kernel
theorem dX2_enterOffence_64 : decode cX2_enterOffence 64 = .ok (.aload_n 0, 1) := by decide +kernel
theorem dX2_enterOffence_65 : decode cX2_enterOffence 65 = .ok (.getfield 17, 3) := by decide +kernel
theorem dX2_enterOffence_68 : decode cX2_enterOffence 68 = .ok (.iload_n 3, 1) := by decide +kernel
theorem dX2_enterOffence_69 : decode cX2_enterOffence 69 = .ok (.new 15, 3) := by decide +kernel
theorem dX2_enterOffence_72 : decode cX2_enterOffence 72 = .ok (.dup, 1) := by decide +kernel
theorem dX2_enterOffence_73 : decode cX2_enterOffence 73 = .ok (.iload_n 1, 1) := by decide +kernel
theorem dX2_enterOffence_74 : decode cX2_enterOffence 74 = .ok (.iload_n 2, 1) := by decide +kernel
theorem dX2_enterOffence_75 : decode cX2_enterOffence 75 = .ok (.iload 4, 2) := by decide +kernel
theorem dX2_enterOffence_77 : decode cX2_enterOffence 77 = .ok (.invokespecial 83, 3) := by decide +kernel
theorem dX2_enterOffence_80 : decode cX2_enterOffence 80 = .ok (.aastore, 1) := by decide +kernel
theorem dX2_enterOffence_81 : decode cX2_enterOffence 81 = .ok (.aload_n 0, 1) := by decide +kernel
theorem dX2_enterOffence_82 : decode cX2_enterOffence 82 = .ok (.dup, 1) := by decide +kernel
theorem dX2_enterOffence_83 : decode cX2_enterOffence 83 = .ok (.getfield 66, 3) := by decide +kernel
theorem dX2_enterOffence_86 : decode cX2_enterOffence 86 = .ok (.iconst 1, 1) := by decide +kernel
theorem dX2_enterOffence_87 : decode cX2_enterOffence 87 = .ok (.iadd, 1) := by decide +kernel
theorem dX2_enterOffence_88 : decode cX2_enterOffence 88 = .ok (.putfield 66, 3) := by decide +kernel
theorem dX2_enterOffence_91 : decode cX2_enterOffence 91 = .ok (.aload_n 0, 1) := by decide +kernel
theorem dX2_enterOffence_92 : decode cX2_enterOffence 92 = .ok (.dup, 1) := by decide +kernel
theorem dX2_enterOffence_93 : decode cX2_enterOffence 93 = .ok (.getfield 60, 3) := by decide +kernel
theorem dX2_enterOffence_96 : decode cX2_enterOffence 96 = .ok (.iload_n 2, 1) := by decide +kernel
theorem dX2_enterOffence_97 : decode cX2_enterOffence 97 = .ok (.iadd, 1) := by decide +kernel
theorem dX2_enterOffence_98 : decode cX2_enterOffence 98 = .ok (.putfield 60, 3) := by decide +kernel
theorem dX2_enterOffence_101 : decode cX2_enterOffence 101 = .ok (.aload_n 0, 1) := by decide +kernel
theorem dX2_enterOffence_102 : decode cX2_enterOffence 102 = .ok (.invokevirtual 86, 3) := by decide +kernel
theorem dX2_enterOffence_105 : decode cX2_enterOffence 105 = .ok (.iload_n 3, 1) := by decide +kernel
theorem dX2_enterOffence_106 : decode cX2_enterOffence 106 = .ok (.ireturn, 1) := by decide +kernel
set_option maxRecDepth 20000 in
theorem ggX2_appealOffence_X2_raiseRegime : GoodIn wsX2_appealOffence wsX2_raiseRegime := goodIn_r _ [9, 10, 11, 12, 13, 14, 19, 20, 21, 22, 23, 24, 25, 26, 27, 28, 29, 30, 31, 32] (by decide +kernel) (by decide +kernel)
set_option maxRecDepth 20000 in
theorem gX2_appealOffence_X2_raiseRegime : GoodIn wsX2_appealOffence (wsV RX2 80 RX2 yX2_raiseRegime wsX2_raiseRegime) := goodIn_app (goodIn_of _ (by decide +kernel)) ggX2_appealOffence_X2_raiseRegime
theorem dX2_appealOffence_0 : decode cX2_appealOffence 0 = .ok (.aload_n 1, 1) := by decide +kernel
theorem dX2_appealOffence_1 : decode cX2_appealOffence 1 = .ok (.iconst 1, 1) := by decide +kernel
theorem dX2_appealOffence_2 : decode cX2_appealOffence 2 = .ok (.putfield 89, 3) := by decide +kernel
theorem dX2_appealOffence_5 : decode cX2_appealOffence 5 = .ok (.aload_n 0, 1) := by decide +kernel
theorem dX2_appealOffence_6 : decode cX2_appealOffence 6 = .ok (.dup, 1) := by decide +kernel
theorem dX2_appealOffence_7 : decode cX2_appealOffence 7 = .ok (.getfield 60, 3) := by decide +kernel
theorem dX2_appealOffence_10 : decode cX2_appealOffence 10 = .ok (.aload_n 1, 1) := by decide +kernel
theorem dX2_appealOffence_11 : decode cX2_appealOffence 11 = .ok (.getfield 92, 3) := by decide +kernel
theorem dX2_appealOffence_14 : decode cX2_appealOffence 14 = .ok (.isub, 1) := by decide +kernel
theorem dX2_appealOffence_15 : decode cX2_appealOffence 15 = .ok (.putfield 60, 3) := by decide +kernel
theorem dX2_appealOffence_18 : decode cX2_appealOffence 18 = .ok (.aload_n 1, 1) := by decide +kernel
theorem dX2_appealOffence_19 : decode cX2_appealOffence 19 = .ok (.getfield 95, 3) := by decide +kernel
theorem dX2_appealOffence_22 : decode cX2_appealOffence 22 = .ok (.ifCond .eq 7, 3) := by decide +kernel
theorem dX2_appealOffence_25 : decode cX2_appealOffence 25 = .ok (.aload_n 0, 1) := by decide +kernel
theorem dX2_appealOffence_26 : decode cX2_appealOffence 26 = .ok (.invokevirtual 80, 3) := by decide +kernel
theorem dX2_appealOffence_29 : decode cX2_appealOffence 29 = .ok (.return_, 1) := by decide +kernel
theorem dX2_joinOrder_0 : decode cX2_joinOrder 0 = .ok (.aload_n 0, 1) := by decide +kernel
theorem dX2_joinOrder_1 : decode cX2_joinOrder 1 = .ok (.aload_n 1, 1) := by decide +kernel
theorem dX2_joinOrder_2 : decode cX2_joinOrder 2 = .ok (.putfield 98, 3) := by decide +kernel
theorem dX2_joinOrder_5 : decode cX2_joinOrder 5 = .ok (.aload_n 1, 1) := by decide +kernel
theorem dX2_joinOrder_6 : decode cX2_joinOrder 6 = .ok (.dup, 1) := by decide +kernel
theorem dX2_joinOrder_7 : decode cX2_joinOrder 7 = .ok (.getfield 102, 3) := by decide +kernel
theorem dX2_joinOrder_10 : decode cX2_joinOrder 10 = .ok (.iconst 1, 1) := by decide +kernel
theorem dX2_joinOrder_11 : decode cX2_joinOrder 11 = .ok (.iadd, 1) := by decide +kernel
theorem dX2_joinOrder_12 : decode cX2_joinOrder 12 = .ok (.putfield 102, 3) := by decide +kernel
theorem dX2_joinOrder_15 : decode cX2_joinOrder 15 = .ok (.aload_n 1, 1) := by decide +kernel
theorem dX2_joinOrder_16 : decode cX2_joinOrder 16 = .ok (.getfield 107, 3) := by decide +kernel
theorem dX2_joinOrder_19 : decode cX2_joinOrder 19 = .ok (.dup, 1) := by decide +kernel
theorem dX2_joinOrder_20 : decode cX2_joinOrder 20 = .ok (.getfield 111, 3) := by decide +kernel
theorem dX2_joinOrder_23 : decode cX2_joinOrder 23 = .ok (.iconst 1, 1) := by decide +kernel
theorem dX2_joinOrder_24 : decode cX2_joinOrder 24 = .ok (.iadd, 1) := by decide +kernel
theorem dX2_joinOrder_25 : decode cX2_joinOrder 25 = .ok (.putfield 111, 3) := by decide +kernel
theorem dX2_joinOrder_28 : decode cX2_joinOrder 28 = .ok (.return_, 1) := by decide +kernel
theorem dX2_leaveOrder_0 : decode cX2_leaveOrder 0 = .ok (.aload_n 0, 1) := by decide +kernel
theorem dX2_leaveOrder_1 : decode cX2_leaveOrder 1 = .ok (.getfield 98, 3) := by decide +kernel
theorem dX2_leaveOrder_4 : decode cX2_leaveOrder 4 = .ok (.astore_n 1, 1) := by decide +kernel
theorem dX2_leaveOrder_5 : decode cX2_leaveOrder 5 = .ok (.aload_n 1, 1) := by decide +kernel
theorem dX2_leaveOrder_6 : decode cX2_leaveOrder 6 = .ok (.ifnull 31, 3) := by decide +kernel
theorem dX2_leaveOrder_9 : decode cX2_leaveOrder 9 = .ok (.aload_n 1, 1) := by decide +kernel
theorem dX2_leaveOrder_10 : decode cX2_leaveOrder 10 = .ok (.dup, 1) := by decide +kernel
theorem dX2_leaveOrder_11 : decode cX2_leaveOrder 11 = .ok (.getfield 102, 3) := by decide +kernel
theorem dX2_leaveOrder_14 : decode cX2_leaveOrder 14 = .ok (.iconst 1, 1) := by decide +kernel
theorem dX2_leaveOrder_15 : decode cX2_leaveOrder 15 = .ok (.isub, 1) := by decide +kernel
theorem dX2_leaveOrder_16 : decode cX2_leaveOrder 16 = .ok (.putfield 102, 3) := by decide +kernel
theorem dX2_leaveOrder_19 : decode cX2_leaveOrder 19 = .ok (.aload_n 1, 1) := by decide +kernel
theorem dX2_leaveOrder_20 : decode cX2_leaveOrder 20 = .ok (.getfield 107, 3) := by decide +kernel
theorem dX2_leaveOrder_23 : decode cX2_leaveOrder 23 = .ok (.dup, 1) := by decide +kernel
theorem dX2_leaveOrder_24 : decode cX2_leaveOrder 24 = .ok (.getfield 111, 3) := by decide +kernel
theorem dX2_leaveOrder_27 : decode cX2_leaveOrder 27 = .ok (.iconst 1, 1) := by decide +kernel
theorem dX2_leaveOrder_28 : decode cX2_leaveOrder 28 = .ok (.isub, 1) := by decide +kernel
theorem dX2_leaveOrder_29 : decode cX2_leaveOrder 29 = .ok (.putfield 111, 3) := by decide +kernel
theorem dX2_leaveOrder_32 : decode cX2_leaveOrder 32 = .ok (.aload_n 0, 1) := by decide +kernel
theorem dX2_leaveOrder_33 : decode cX2_leaveOrder 33 = .ok (.aconst_null, 1) := by decide +kernel
theorem dX2_leaveOrder_34 : decode cX2_leaveOrder 34 = .ok (.putfield 98, 3) := by decide +kernel
theorem dX2_leaveOrder_37 : decode cX2_leaveOrder 37 = .ok (.return_, 1) := by decide +kernel
set_option maxRecDepth 20000 in
theorem ggX2_leaveFinishedOrder_X1_isFinished : GoodIn wsX2_leaveFinishedOrder wsX1_isFinished := goodIn_r _ [6, 7, 30, 31, 32, 33, 34, 35] (by decide +kernel) (by decide +kernel)
set_option maxRecDepth 20000 in
theorem gX2_leaveFinishedOrder_X1_isFinished : GoodIn wsX2_leaveFinishedOrder (wsV RX2 116 RX1 yX1_isFinished wsX1_isFinished) := goodIn_app (goodIn_of _ (by decide +kernel)) ggX2_leaveFinishedOrder_X1_isFinished
set_option maxRecDepth 20000 in
theorem ggX2_leaveFinishedOrder_X2_leaveOrder : GoodIn wsX2_leaveFinishedOrder wsX2_leaveOrder := goodIn_r _ [12, 1, 13, 14, 15, 16, 17, 18, 19, 20, 21, 22, 23, 24, 25, 26, 27, 28, 29, 30, 31, 32, 33, 34, 35, 36, 37] (by decide +kernel) (by decide +kernel)
set_option maxRecDepth 20000 in
theorem gX2_leaveFinishedOrder_X2_leaveOrder : GoodIn wsX2_leaveFinishedOrder (wsV RX2 86 RX2 yX2_leaveOrder wsX2_leaveOrder) := goodIn_app (goodIn_of _ (by decide +kernel)) ggX2_leaveFinishedOrder_X2_leaveOrder
theorem dX2_leaveFinishedOrder_0 : decode cX2_leaveFinishedOrder 0 = .ok (.aload_n 0, 1) := by decide +kernel
theorem dX2_leaveFinishedOrder_1 : decode cX2_leaveFinishedOrder 1 = .ok (.getfield 98, 3) := by decide +kernel
theorem dX2_leaveFinishedOrder_4 : decode cX2_leaveFinishedOrder 4 = .ok (.astore_n 1, 1) := by decide +kernel
theorem dX2_leaveFinishedOrder_5 : decode cX2_leaveFinishedOrder 5 = .ok (.aload_n 1, 1) := by decide +kernel
theorem dX2_leaveFinishedOrder_6 : decode cX2_leaveFinishedOrder 6 = .ok (.ifnull 14, 3) := by decide +kernel
theorem dX2_leaveFinishedOrder_9 : decode cX2_leaveFinishedOrder 9 = .ok (.aload_n 1, 1) := by decide +kernel
theorem dX2_leaveFinishedOrder_10 : decode cX2_leaveFinishedOrder 10 = .ok (.invokevirtual 116, 3) := by decide +kernel
theorem dX2_leaveFinishedOrder_13 : decode cX2_leaveFinishedOrder 13 = .ok (.ifCond .eq 7, 3) := by decide +kernel
theorem dX2_leaveFinishedOrder_16 : decode cX2_leaveFinishedOrder 16 = .ok (.aload_n 0, 1) := by decide +kernel
theorem dX2_leaveFinishedOrder_17 : decode cX2_leaveFinishedOrder 17 = .ok (.invokevirtual 86, 3) := by decide +kernel
theorem dX2_leaveFinishedOrder_20 : decode cX2_leaveFinishedOrder 20 = .ok (.return_, 1) := by decide +kernel
set_option maxRecDepth 20000 in
theorem ggX2_workOneDay_X1_isFinished : GoodIn wsX2_workOneDay wsX1_isFinished := goodIn_r _ [10, 11, 32, 33, 34, 35, 36, 37] (by decide +kernel) (by decide +kernel)
set_option maxRecDepth 20000 in
theorem gX2_workOneDay_X1_isFinished : GoodIn wsX2_workOneDay (wsV RX2 116 RX1 yX1_isFinished wsX1_isFinished) := goodIn_app (goodIn_of _ (by decide +kernel)) ggX2_workOneDay_X1_isFinished
set_option maxRecDepth 20000 in
theorem ggX2_workOneDay_X3_partWage : GoodIn wsX2_workOneDay wsX3_partWage := goodIn_r _ [16, 17, 38, 39, 40, 41] (by decide +kernel) (by decide +kernel)
set_option maxRecDepth 20000 in
theorem gX2_workOneDay_X3_partWage : GoodIn wsX2_workOneDay (wsV RX2 125 RX3 yX3_partWage wsX3_partWage) := goodIn_app (goodIn_of _ (by decide +kernel)) ggX2_workOneDay_X3_partWage
theorem dX2_workOneDay_0 : decode cX2_workOneDay 0 = .ok (.aload_n 0, 1) := by decide +kernel
theorem dX2_workOneDay_1 : decode cX2_workOneDay 1 = .ok (.getfield 98, 3) := by decide +kernel
theorem dX2_workOneDay_4 : decode cX2_workOneDay 4 = .ok (.astore_n 1, 1) := by decide +kernel
theorem dX2_workOneDay_5 : decode cX2_workOneDay 5 = .ok (.aload_n 1, 1) := by decide +kernel
theorem dX2_workOneDay_6 : decode cX2_workOneDay 6 = .ok (.ifnull 41, 3) := by decide +kernel
theorem dX2_workOneDay_9 : decode cX2_workOneDay 9 = .ok (.aload_n 1, 1) := by decide +kernel
theorem dX2_workOneDay_10 : decode cX2_workOneDay 10 = .ok (.invokevirtual 116, 3) := by decide +kernel
theorem dX2_workOneDay_13 : decode cX2_workOneDay 13 = .ok (.ifCond .ne 34, 3) := by decide +kernel
theorem dX2_workOneDay_16 : decode cX2_workOneDay 16 = .ok (.aload_n 1, 1) := by decide +kernel
theorem dX2_workOneDay_17 : decode cX2_workOneDay 17 = .ok (.dup, 1) := by decide +kernel
theorem dX2_workOneDay_18 : decode cX2_workOneDay 18 = .ok (.getfield 119, 3) := by decide +kernel
theorem dX2_workOneDay_21 : decode cX2_workOneDay 21 = .ok (.iconst 1, 1) := by decide +kernel
theorem dX2_workOneDay_22 : decode cX2_workOneDay 22 = .ok (.isub, 1) := by decide +kernel
theorem dX2_workOneDay_23 : decode cX2_workOneDay 23 = .ok (.putfield 119, 3) := by decide +kernel
theorem dX2_workOneDay_26 : decode cX2_workOneDay 26 = .ok (.aload_n 0, 1) := by decide +kernel
theorem dX2_workOneDay_27 : decode cX2_workOneDay 27 = .ok (.dup, 1) := by decide +kernel
theorem dX2_workOneDay_28 : decode cX2_workOneDay 28 = .ok (.getfield 37, 3) := by decide +kernel
theorem dX2_workOneDay_31 : decode cX2_workOneDay 31 = .ok (.iconst 1, 1) := by decide +kernel
theorem dX2_workOneDay_32 : decode cX2_workOneDay 32 = .ok (.iadd, 1) := by decide +kernel
theorem dX2_workOneDay_33 : decode cX2_workOneDay 33 = .ok (.putfield 37, 3) := by decide +kernel
theorem dX2_workOneDay_36 : decode cX2_workOneDay 36 = .ok (.aload_n 0, 1) := by decide +kernel
theorem dX2_workOneDay_37 : decode cX2_workOneDay 37 = .ok (.getfield 24, 3) := by decide +kernel
theorem dX2_workOneDay_40 : decode cX2_workOneDay 40 = .ok (.aload_n 1, 1) := by decide +kernel
theorem dX2_workOneDay_41 : decode cX2_workOneDay 41 = .ok (.getfield 122, 3) := by decide +kernel
theorem dX2_workOneDay_44 : decode cX2_workOneDay 44 = .ok (.invokevirtual 125, 3) := by decide +kernel
theorem dX2_workOneDay_47 : decode cX2_workOneDay 47 = .ok (.return_, 1) := by decide +kernel
set_option maxRecDepth 20000 in
theorem ggX2_limitOfSpan_X0_lowersLimitOn : GoodIn wsX2_limitOfSpan wsX0_lowersLimitOn := goodIn_r _ [11, 12, 13, 28, 29, 30, 31] (by decide +kernel) (by decide +kernel)
set_option maxRecDepth 20000 in
theorem gX2_limitOfSpan_X0_lowersLimitOn : GoodIn wsX2_limitOfSpan (wsV RX2 129 RX0 yX0_lowersLimitOn wsX0_lowersLimitOn) := goodIn_app (goodIn_of _ (by decide +kernel)) ggX2_limitOfSpan_X0_lowersLimitOn
theorem dX2_limitOfSpan_0 : decode cX2_limitOfSpan 0 = .ok (.bipush 20, 2) := by decide +kernel
theorem dX2_limitOfSpan_2 : decode cX2_limitOfSpan 2 = .ok (.aload_n 0, 1) := by decide +kernel
theorem dX2_limitOfSpan_3 : decode cX2_limitOfSpan 3 = .ok (.getfield 9, 3) := by decide +kernel
theorem dX2_limitOfSpan_6 : decode cX2_limitOfSpan 6 = .ok (.imul, 1) := by decide +kernel
theorem dX2_limitOfSpan_7 : decode cX2_limitOfSpan 7 = .ok (.bipush 10, 2) := by decide +kernel
theorem dX2_limitOfSpan_9 : decode cX2_limitOfSpan 9 = .ok (.iadd, 1) := by decide +kernel
theorem dX2_limitOfSpan_10 : decode cX2_limitOfSpan 10 = .ok (.istore_n 2, 1) := by decide +kernel
theorem dX2_limitOfSpan_11 : decode cX2_limitOfSpan 11 = .ok (.aload_n 0, 1) := by decide +kernel
theorem dX2_limitOfSpan_12 : decode cX2_limitOfSpan 12 = .ok (.getfield 17, 3) := by decide +kernel
theorem dX2_limitOfSpan_15 : decode cX2_limitOfSpan 15 = .ok (.astore_n 3, 1) := by decide +kernel
theorem dX2_limitOfSpan_16 : decode cX2_limitOfSpan 16 = .ok (.aload_n 3, 1) := by decide +kernel
theorem dX2_limitOfSpan_17 : decode cX2_limitOfSpan 17 = .ok (.arraylength, 1) := by decide +kernel
theorem dX2_limitOfSpan_18 : decode cX2_limitOfSpan 18 = .ok (.istore 4, 2) := by decide +kernel
theorem dX2_limitOfSpan_20 : decode cX2_limitOfSpan 20 = .ok (.iconst 0, 1) := by decide +kernel
theorem dX2_limitOfSpan_21 : decode cX2_limitOfSpan 21 = .ok (.istore 5, 2) := by decide +kernel
theorem dX2_limitOfSpan_23 : decode cX2_limitOfSpan 23 = .ok (.iload 5, 2) := by decide +kernel
theorem dX2_limitOfSpan_25 : decode cX2_limitOfSpan 25 = .ok (.iload 4, 2) := by decide +kernel
theorem dX2_limitOfSpan_27 : decode cX2_limitOfSpan 27 = .ok (.if_icmp .ge 32, 3) := by decide +kernel
theorem dX2_limitOfSpan_30 : decode cX2_limitOfSpan 30 = .ok (.aload_n 3, 1) := by decide +kernel
theorem dX2_limitOfSpan_31 : decode cX2_limitOfSpan 31 = .ok (.iload 5, 2) := by decide +kernel
theorem dX2_limitOfSpan_33 : decode cX2_limitOfSpan 33 = .ok (.aaload, 1) := by decide +kernel
theorem dX2_limitOfSpan_34 : decode cX2_limitOfSpan 34 = .ok (.astore 6, 2) := by decide +kernel
theorem dX2_limitOfSpan_36 : decode cX2_limitOfSpan 36 = .ok (.aload 6, 2) := by decide +kernel
theorem dX2_limitOfSpan_38 : decode cX2_limitOfSpan 38 = .ok (.ifnull 15, 3) := by decide +kernel
theorem dX2_limitOfSpan_41 : decode cX2_limitOfSpan 41 = .ok (.aload 6, 2) := by decide +kernel
theorem dX2_limitOfSpan_43 : decode cX2_limitOfSpan 43 = .ok (.iload_n 1, 1) := by decide +kernel
theorem dX2_limitOfSpan_44 : decode cX2_limitOfSpan 44 = .ok (.invokevirtual 129, 3) := by decide +kernel
theorem dX2_limitOfSpan_47 : decode cX2_limitOfSpan 47 = .ok (.ifCond .eq 6, 3) := by decide +kernel
theorem dX2_limitOfSpan_50 : decode cX2_limitOfSpan 50 = .ok (.iinc 2 (-5), 3) := by decide +kernel
theorem dX2_limitOfSpan_53 : decode cX2_limitOfSpan 53 = .ok (.iinc 5 1, 3) := by decide +kernel
theorem dX2_limitOfSpan_56 : decode cX2_limitOfSpan 56 = .ok (.goto (-33), 3) := by decide +kernel
theorem dX2_limitOfSpan_59 : decode cX2_limitOfSpan 59 = .ok (.iload_n 2, 1) := by decide +kernel
theorem dX2_limitOfSpan_60 : decode cX2_limitOfSpan 60 = .ok (.iconst 0, 1) := by decide +kernel
theorem dX2_limitOfSpan_61 : decode cX2_limitOfSpan 61 = .ok (.invokestatic 133, 3) := by decide +kernel
theorem dX2_limitOfSpan_64 : decode cX2_limitOfSpan 64 = .ok (.ireturn, 1) := by decide +kernel
set_option maxRecDepth 20000 in
theorem ggX2_mayStillBuy_X2_limitOfSpan : GoodIn wsX2_mayStillBuy wsX2_limitOfSpan := goodIn_r _ [11, 12, 13, 3, 4, 5, 6, 14, 15, 16, 17, 18, 19, 20, 28, 29, 30, 31, 32, 33, 34, 35, 36, 37, 38, 39, 40, 41, 42, 43, 44, 45] (by decide +kernel) (by decide +kernel)
set_option maxRecDepth 20000 in
theorem gX2_mayStillBuy_X2_limitOfSpan : GoodIn wsX2_mayStillBuy (wsV RX2 136 RX2 yX2_limitOfSpan wsX2_limitOfSpan) := goodIn_app (goodIn_of _ (by decide +kernel)) ggX2_mayStillBuy_X2_limitOfSpan
set_option maxRecDepth 20000 in
theorem ggX2_mayStillBuy_X3_boughtInSpan : GoodIn wsX2_mayStillBuy wsX3_boughtInSpan := goodIn_r _ [25, 26, 27, 46, 47, 48, 49] (by decide +kernel) (by decide +kernel)
set_option maxRecDepth 20000 in
theorem gX2_mayStillBuy_X3_boughtInSpan : GoodIn wsX2_mayStillBuy (wsV RX2 140 RX3 yX3_boughtInSpan wsX3_boughtInSpan) := goodIn_app (goodIn_of _ (by decide +kernel)) ggX2_mayStillBuy_X3_boughtInSpan
theorem dX2_mayStillBuy_0 : decode cX2_mayStillBuy 0 = .ok (.aload_n 0, 1) := by decide +kernel
theorem dX2_mayStillBuy_1 : decode cX2_mayStillBuy 1 = .ok (.getfield 43, 3) := by decide +kernel
theorem dX2_mayStillBuy_4 : decode cX2_mayStillBuy 4 = .ok (.ifCond .eq 5, 3) := by decide +kernel
theorem dX2_mayStillBuy_7 : decode cX2_mayStillBuy 7 = .ok (.iconst 0, 1) := by decide +kernel
theorem dX2_mayStillBuy_8 : decode cX2_mayStillBuy 8 = .ok (.ireturn, 1) := by decide +kernel
theorem dX2_mayStillBuy_9 : decode cX2_mayStillBuy 9 = .ok (.aload_n 0, 1) := by decide +kernel
theorem dX2_mayStillBuy_10 : decode cX2_mayStillBuy 10 = .ok (.iload_n 1, 1) := by decide +kernel
theorem dX2_mayStillBuy_11 : decode cX2_mayStillBuy 11 = .ok (.invokevirtual 136, 3) := by decide +kernel
theorem dX2_mayStillBuy_14 : decode cX2_mayStillBuy 14 = .ok (.aload_n 0, 1) := by decide +kernel
theorem dX2_mayStillBuy_15 : decode cX2_mayStillBuy 15 = .ok (.getfield 24, 3) := by decide +kernel
theorem dX2_mayStillBuy_18 : decode cX2_mayStillBuy 18 = .ok (.iload_n 1, 1) := by decide +kernel
theorem dX2_mayStillBuy_19 : decode cX2_mayStillBuy 19 = .ok (.bipush 7, 2) := by decide +kernel
theorem dX2_mayStillBuy_21 : decode cX2_mayStillBuy 21 = .ok (.idiv, 1) := by decide +kernel
theorem dX2_mayStillBuy_22 : decode cX2_mayStillBuy 22 = .ok (.invokevirtual 140, 3) := by decide +kernel
theorem dX2_mayStillBuy_25 : decode cX2_mayStillBuy 25 = .ok (.isub, 1) := by decide +kernel
theorem dX2_mayStillBuy_26 : decode cX2_mayStillBuy 26 = .ok (.iconst 0, 1) := by decide +kernel
theorem dX2_mayStillBuy_27 : decode cX2_mayStillBuy 27 = .ok (.invokestatic 133, 3) := by decide +kernel
theorem dX2_mayStillBuy_30 : decode cX2_mayStillBuy 30 = .ok (.ireturn, 1) := by decide +kernel
set_option maxRecDepth 20000 in
theorem ggX2_isDue_X2_releaseDay : GoodIn wsX2_isDue wsX2_releaseDay := goodIn_r _ [6, 1, 7, 8, 9, 10, 11, 12, 13, 14, 15, 16, 17, 5, 18, 19, 20, 21, 22, 23, 24, 25, 26, 27, 28, 29, 30, 31, 32, 33, 34] (by decide +kernel) (by decide +kernel)
set_option maxRecDepth 20000 in
theorem gX2_isDue_X2_releaseDay : GoodIn wsX2_isDue (wsV RX2 143 RX2 yX2_releaseDay wsX2_releaseDay) := goodIn_app (goodIn_of _ (by decide +kernel)) ggX2_isDue_X2_releaseDay
theorem dX2_isDue_0 : decode cX2_isDue 0 = .ok (.aload_n 0, 1) := by decide +kernel
theorem dX2_isDue_1 : decode cX2_isDue 1 = .ok (.getfield 43, 3) := by decide +kernel
theorem dX2_isDue_4 : decode cX2_isDue 4 = .ok (.ifCond .ne 15, 3) := by decide +kernel
theorem dX2_isDue_7 : decode cX2_isDue 7 = .ok (.aload_n 0, 1) := by decide +kernel
theorem dX2_isDue_8 : decode cX2_isDue 8 = .ok (.invokevirtual 143, 3) := by decide +kernel
theorem dX2_isDue_11 : decode cX2_isDue 11 = .ok (.iload_n 1, 1) := by decide +kernel
theorem dX2_isDue_12 : decode cX2_isDue 12 = .ok (.if_icmp .gt 7, 3) := by decide +kernel
theorem dX2_isDue_15 : decode cX2_isDue 15 = .ok (.iconst 1, 1) := by decide +kernel
theorem dX2_isDue_16 : decode cX2_isDue 16 = .ok (.goto 4, 3) := by decide +kernel
theorem dX2_isDue_19 : decode cX2_isDue 19 = .ok (.iconst 0, 1) := by decide +kernel
theorem dX2_isDue_20 : decode cX2_isDue 20 = .ok (.ireturn, 1) := by decide +kernel
set_option maxRecDepth 20000 in
theorem ggX2_letGo_X2_leaveOrder : GoodIn wsX2_letGo wsX2_leaveOrder := goodIn_r _ [8, 9, 10, 11, 12, 20, 21, 22, 23, 24, 25, 26, 27, 28, 29, 30, 31, 32, 33, 34, 35, 36, 37, 38, 39, 40, 41] (by decide +kernel) (by decide +kernel)
set_option maxRecDepth 20000 in
theorem gX2_letGo_X2_leaveOrder : GoodIn wsX2_letGo (wsV RX2 86 RX2 yX2_leaveOrder wsX2_leaveOrder) := goodIn_app (goodIn_of _ (by decide +kernel)) ggX2_letGo_X2_leaveOrder
set_option maxRecDepth 20000 in
theorem ggX2_letGo_X3_payOut : GoodIn wsX2_letGo wsX3_payOut := goodIn_r _ [17, 18, 19, 42, 43, 44, 45] (by decide +kernel) (by decide +kernel)
set_option maxRecDepth 20000 in
theorem gX2_letGo_X3_payOut : GoodIn wsX2_letGo (wsV RX2 146 RX3 yX3_payOut wsX3_payOut) := goodIn_app (goodIn_of _ (by decide +kernel)) ggX2_letGo_X3_payOut
theorem dX2_letGo_0 : decode cX2_letGo 0 = .ok (.aload_n 0, 1) := by decide +kernel
theorem dX2_letGo_1 : decode cX2_letGo 1 = .ok (.invokevirtual 86, 3) := by decide +kernel
theorem dX2_letGo_4 : decode cX2_letGo 4 = .ok (.aload_n 0, 1) := by decide +kernel
theorem dX2_letGo_5 : decode cX2_letGo 5 = .ok (.getfield 24, 3) := by decide +kernel
theorem dX2_letGo_8 : decode cX2_letGo 8 = .ok (.invokevirtual 146, 3) := by decide +kernel
theorem dX2_letGo_11 : decode cX2_letGo 11 = .ok (.aload_n 0, 1) := by decide +kernel
theorem dX2_letGo_12 : decode cX2_letGo 12 = .ok (.iload_n 1, 1) := by decide +kernel
theorem dX2_letGo_13 : decode cX2_letGo 13 = .ok (.putfield 47, 3) := by decide +kernel
theorem dX2_letGo_16 : decode cX2_letGo 16 = .ok (.aload_n 0, 1) := by decide +kernel
theorem dX2_letGo_17 : decode cX2_letGo 17 = .ok (.iconst 1, 1) := by decide +kernel
theorem dX2_letGo_18 : decode cX2_letGo 18 = .ok (.putfield 43, 3) := by decide +kernel
theorem dX2_letGo_21 : decode cX2_letGo 21 = .ok (.return_, 1) := by decide +kernel
theorem dX3_init_0 : decode cX3_init 0 = .ok (.aload_n 0, 1) := by decide +kernel
theorem dX3_init_1 : decode cX3_init 1 = .ok (.invokespecial 3, 3) := by decide +kernel
theorem dX3_init_4 : decode cX3_init 4 = .ok (.aload_n 0, 1) := by decide +kernel
theorem dX3_init_5 : decode cX3_init 5 = .ok (.iconst 4, 1) := by decide +kernel
theorem dX3_init_6 : decode cX3_init 6 = .ok (.newarray .int, 2) := by decide +kernel
theorem dX3_init_8 : decode cX3_init 8 = .ok (.putfield 9, 3) := by decide +kernel
theorem dX3_init_11 : decode cX3_init 11 = .ok (.return_, 1) := by decide +kernel
theorem dX3_partWage_0 : decode cX3_partWage 0 = .ok (.iload_n 1, 1) := by decide +kernel
theorem dX3_partWage_1 : decode cX3_partWage 1 = .ok (.bipush 30, 2) := by decide +kernel
theorem dX3_partWage_3 : decode cX3_partWage 3 = .ok (.imul, 1) := by decide +kernel
theorem dX3_partWage_4 : decode cX3_partWage 4 = .ok (.bipush 100, 2) := by decide +kernel
theorem dX3_partWage_6 : decode cX3_partWage 6 = .ok (.idiv, 1) := by decide +kernel
theorem dX3_partWage_7 : decode cX3_partWage 7 = .ok (.istore_n 2, 1) := by decide +kernel
theorem dX3_partWage_8 : decode cX3_partWage 8 = .ok (.iload_n 1, 1) := by decide +kernel
theorem dX3_partWage_9 : decode cX3_partWage 9 = .ok (.bipush 20, 2) := by decide +kernel
theorem dX3_partWage_11 : decode cX3_partWage 11 = .ok (.imul, 1) := by decide +kernel
theorem dX3_partWage_12 : decode cX3_partWage 12 = .ok (.bipush 100, 2) := by decide +kernel
theorem dX3_partWage_14 : decode cX3_partWage 14 = .ok (.idiv, 1) := by decide +kernel
theorem dX3_partWage_15 : decode cX3_partWage 15 = .ok (.istore_n 3, 1) := by decide +kernel
theorem dX3_partWage_16 : decode cX3_partWage 16 = .ok (.iload_n 1, 1) := by decide +kernel
theorem dX3_partWage_17 : decode cX3_partWage 17 = .ok (.bipush 30, 2) := by decide +kernel
theorem dX3_partWage_19 : decode cX3_partWage 19 = .ok (.imul, 1) := by decide +kernel
theorem dX3_partWage_20 : decode cX3_partWage 20 = .ok (.bipush 100, 2) := by decide +kernel
theorem dX3_partWage_22 : decode cX3_partWage 22 = .ok (.idiv, 1) := by decide +kernel
theorem dX3_partWage_23 : decode cX3_partWage 23 = .ok (.istore 4, 2) := by decide +kernel
theorem dX3_partWage_25 : decode cX3_partWage 25 = .ok (.aload_n 0, 1) := by decide +kernel
theorem dX3_partWage_26 : decode cX3_partWage 26 = .ok (.getfield 9, 3) := by decide +kernel
theorem dX3_partWage_29 : decode cX3_partWage 29 = .ok (.iconst 0, 1) := by decide +kernel
theorem dX3_partWage_30 : decode cX3_partWage 30 = .ok (.dup2, 1) := by decide +kernel
theorem dX3_partWage_31 : decode cX3_partWage 31 = .ok (.iaload, 1) := by decide +kernel
theorem dX3_partWage_32 : decode cX3_partWage 32 = .ok (.iload_n 2, 1) := by decide +kernel
theorem dX3_partWage_33 : decode cX3_partWage 33 = .ok (.iadd, 1) := by decide +kernel
theorem dX3_partWage_34 : decode cX3_partWage 34 = .ok (.iastore, 1) := by decide +kernel
theorem dX3_partWage_35 : decode cX3_partWage 35 = .ok (.aload_n 0, 1) := by decide +kernel
theorem dX3_partWage_36 : decode cX3_partWage 36 = .ok (.getfield 9, 3) := by decide +kernel
theorem dX3_partWage_39 : decode cX3_partWage 39 = .ok (.iconst 1, 1) := by decide +kernel
theorem dX3_partWage_40 : decode cX3_partWage 40 = .ok (.dup2, 1) := by decide +kernel
theorem dX3_partWage_41 : decode cX3_partWage 41 = .ok (.iaload, 1) := by decide +kernel
theorem dX3_partWage_42 : decode cX3_partWage 42 = .ok (.iload_n 3, 1) := by decide +kernel
theorem dX3_partWage_43 : decode cX3_partWage 43 = .ok (.iadd, 1) := by decide +kernel
theorem dX3_partWage_44 : decode cX3_partWage 44 = .ok (.iastore, 1) := by decide +kernel
theorem dX3_partWage_45 : decode cX3_partWage 45 = .ok (.aload_n 0, 1) := by decide +kernel
theorem dX3_partWage_46 : decode cX3_partWage 46 = .ok (.getfield 9, 3) := by decide +kernel
theorem dX3_partWage_49 : decode cX3_partWage 49 = .ok (.iconst 2, 1) := by decide +kernel
theorem dX3_partWage_50 : decode cX3_partWage 50 = .ok (.dup2, 1) := by decide +kernel
theorem dX3_partWage_51 : decode cX3_partWage 51 = .ok (.iaload, 1) := by decide +kernel
theorem dX3_partWage_52 : decode cX3_partWage 52 = .ok (.iload 4, 2) := by decide +kernel
theorem dX3_partWage_54 : decode cX3_partWage 54 = .ok (.iadd, 1) := by decide +kernel
theorem dX3_partWage_55 : decode cX3_partWage 55 = .ok (.iastore, 1) := by decide +kernel
theorem dX3_partWage_56 : decode cX3_partWage 56 = .ok (.aload_n 0, 1) := by decide +kernel
theorem dX3_partWage_57 : decode cX3_partWage 57 = .ok (.getfield 9, 3) := by decide +kernel
theorem dX3_partWage_60 : decode cX3_partWage 60 = .ok (.iconst 3, 1) := by decide +kernel
theorem dX3_partWage_61 : decode cX3_partWage 61 = .ok (.dup2, 1) := by decide +kernel
theorem dX3_partWage_62 : decode cX3_partWage 62 = .ok (.iaload, 1) := by decide +kernel
theorem dX3_partWage_63 : decode cX3_partWage 63 = .ok (.iload_n 1, 1) := by decide +kernel
theorem dX3_partWage_64 : decode cX3_partWage 64 = .ok (.iload_n 2, 1) := by decide +kernel
theorem dX3_partWage_65 : decode cX3_partWage 65 = .ok (.isub, 1) := by decide +kernel
theorem dX3_partWage_66 : decode cX3_partWage 66 = .ok (.iload_n 3, 1) := by decide +kernel
theorem dX3_partWage_67 : decode cX3_partWage 67 = .ok (.isub, 1) := by decide +kernel
theorem dX3_partWage_68 : decode cX3_partWage 68 = .ok (.iload 4, 2) := by decide +kernel
theorem dX3_partWage_70 : decode cX3_partWage 70 = .ok (.isub, 1) := by decide +kernel
theorem dX3_partWage_71 : decode cX3_partWage 71 = .ok (.iadd, 1) := by decide +kernel
theorem dX3_partWage_72 : decode cX3_partWage 72 = .ok (.iastore, 1) := by decide +kernel
theorem dX3_partWage_73 : decode cX3_partWage 73 = .ok (.return_, 1) := by decide +kernel
theorem dX3_boughtInSpan_0 : decode cX3_boughtInSpan 0 = .ok (.iload_n 1, 1) := by decide +kernel
theorem dX3_boughtInSpan_1 : decode cX3_boughtInSpan 1 = .ok (.aload_n 0, 1) := by decide +kernel
theorem dX3_boughtInSpan_2 : decode cX3_boughtInSpan 2 = .ok (.getfield 15, 3) := by decide +kernel
theorem dX3_boughtInSpan_5 : decode cX3_boughtInSpan 5 = .ok (.if_icmp .ne 10, 3) := by decide +kernel
theorem dX3_boughtInSpan_8 : decode cX3_boughtInSpan 8 = .ok (.aload_n 0, 1) := by decide +kernel
theorem dX3_boughtInSpan_9 : decode cX3_boughtInSpan 9 = .ok (.getfield 19, 3) := by decide +kernel
theorem dX3_boughtInSpan_12 : decode cX3_boughtInSpan 12 = .ok (.goto 4, 3) := by decide +kernel
theorem dX3_boughtInSpan_15 : decode cX3_boughtInSpan 15 = .ok (.iconst 0, 1) := by decide +kernel
theorem dX3_boughtInSpan_16 : decode cX3_boughtInSpan 16 = .ok (.ireturn, 1) := by decide +kernel
set_option maxRecDepth 20000 in
theorem ggX3_spend_X3_boughtInSpan : GoodIn wsX3_spend wsX3_boughtInSpan := goodIn_r _ [8, 2, 1, 9, 10, 11, 12] (by decide +kernel) (by decide +kernel)
set_option maxRecDepth 20000 in
theorem gX3_spend_X3_boughtInSpan : GoodIn wsX3_spend (wsV RX3 22 RX3 yX3_boughtInSpan wsX3_boughtInSpan) := goodIn_app (goodIn_of _ (by decide +kernel)) ggX3_spend_X3_boughtInSpan
theorem dX3_spend_0 : decode cX3_spend 0 = .ok (.aload_n 0, 1) := by decide +kernel
theorem dX3_spend_1 : decode cX3_spend 1 = .ok (.aload_n 0, 1) := by decide +kernel
theorem dX3_spend_2 : decode cX3_spend 2 = .ok (.iload_n 2, 1) := by decide +kernel
theorem dX3_spend_3 : decode cX3_spend 3 = .ok (.invokevirtual 22, 3) := by decide +kernel
theorem dX3_spend_6 : decode cX3_spend 6 = .ok (.iload_n 1, 1) := by decide +kernel
theorem dX3_spend_7 : decode cX3_spend 7 = .ok (.iadd, 1) := by decide +kernel
theorem dX3_spend_8 : decode cX3_spend 8 = .ok (.putfield 19, 3) := by decide +kernel
theorem dX3_spend_11 : decode cX3_spend 11 = .ok (.aload_n 0, 1) := by decide +kernel
theorem dX3_spend_12 : decode cX3_spend 12 = .ok (.iload_n 2, 1) := by decide +kernel
theorem dX3_spend_13 : decode cX3_spend 13 = .ok (.putfield 15, 3) := by decide +kernel
theorem dX3_spend_16 : decode cX3_spend 16 = .ok (.aload_n 0, 1) := by decide +kernel
theorem dX3_spend_17 : decode cX3_spend 17 = .ok (.getfield 9, 3) := by decide +kernel
theorem dX3_spend_20 : decode cX3_spend 20 = .ok (.iconst 3, 1) := by decide +kernel
theorem dX3_spend_21 : decode cX3_spend 21 = .ok (.dup2, 1) := by decide +kernel
theorem dX3_spend_22 : decode cX3_spend 22 = .ok (.iaload, 1) := by decide +kernel
theorem dX3_spend_23 : decode cX3_spend 23 = .ok (.iload_n 1, 1) := by decide +kernel
theorem dX3_spend_24 : decode cX3_spend 24 = .ok (.isub, 1) := by decide +kernel
theorem dX3_spend_25 : decode cX3_spend 25 = .ok (.iastore, 1) := by decide +kernel
theorem dX3_spend_26 : decode cX3_spend 26 = .ok (.return_, 1) := by decide +kernel
theorem dX3_payOut_0 : decode cX3_payOut 0 = .ok (.aload_n 0, 1) := by decide +kernel
theorem dX3_payOut_1 : decode cX3_payOut 1 = .ok (.aload_n 0, 1) := by decide +kernel
theorem dX3_payOut_2 : decode cX3_payOut 2 = .ok (.getfield 9, 3) := by decide +kernel
theorem dX3_payOut_5 : decode cX3_payOut 5 = .ok (.iconst 2, 1) := by decide +kernel
theorem dX3_payOut_6 : decode cX3_payOut 6 = .ok (.iaload, 1) := by decide +kernel
theorem dX3_payOut_7 : decode cX3_payOut 7 = .ok (.aload_n 0, 1) := by decide +kernel
theorem dX3_payOut_8 : decode cX3_payOut 8 = .ok (.getfield 9, 3) := by decide +kernel
theorem dX3_payOut_11 : decode cX3_payOut 11 = .ok (.iconst 3, 1) := by decide +kernel
theorem dX3_payOut_12 : decode cX3_payOut 12 = .ok (.iaload, 1) := by decide +kernel
theorem dX3_payOut_13 : decode cX3_payOut 13 = .ok (.iadd, 1) := by decide +kernel
theorem dX3_payOut_14 : decode cX3_payOut 14 = .ok (.putfield 26, 3) := by decide +kernel
theorem dX3_payOut_17 : decode cX3_payOut 17 = .ok (.aload_n 0, 1) := by decide +kernel
theorem dX3_payOut_18 : decode cX3_payOut 18 = .ok (.getfield 9, 3) := by decide +kernel
theorem dX3_payOut_21 : decode cX3_payOut 21 = .ok (.iconst 2, 1) := by decide +kernel
theorem dX3_payOut_22 : decode cX3_payOut 22 = .ok (.iconst 0, 1) := by decide +kernel
theorem dX3_payOut_23 : decode cX3_payOut 23 = .ok (.iastore, 1) := by decide +kernel
theorem dX3_payOut_24 : decode cX3_payOut 24 = .ok (.aload_n 0, 1) := by decide +kernel
theorem dX3_payOut_25 : decode cX3_payOut 25 = .ok (.getfield 9, 3) := by decide +kernel
theorem dX3_payOut_28 : decode cX3_payOut 28 = .ok (.iconst 3, 1) := by decide +kernel
theorem dX3_payOut_29 : decode cX3_payOut 29 = .ok (.iconst 0, 1) := by decide +kernel
theorem dX3_payOut_30 : decode cX3_payOut 30 = .ok (.iastore, 1) := by decide +kernel
theorem dX3_payOut_31 : decode cX3_payOut 31 = .ok (.return_, 1) := by decide +kernel
theorem dX4_init_0 : decode cX4_init 0 = .ok (.aload_n 0, 1) := by decide +kernel
theorem dX4_init_1 : decode cX4_init 1 = .ok (.invokespecial 1, 3) := by decide +kernel
theorem dX4_init_4 : decode cX4_init 4 = .ok (.return_, 1) := by decide +kernel
set_option maxRecDepth 20000 in
theorem ggX5_init_X4_init : GoodIn wsX5_init wsX4_init := goodIn_r _ [13, 14, 2, 3] (by decide +kernel) (by decide +kernel)
set_option maxRecDepth 20000 in
theorem gX5_init_X4_init_n27 : GoodIn wsX5_init (wsX4_init) := ggX5_init_X4_init
theorem dX5_init_0 : decode cX5_init 0 = .ok (.aload_n 0, 1) := by decide +kernel
theorem dX5_init_1 : decode cX5_init 1 = .ok (.invokespecial 1, 3) := by decide +kernel
theorem dX5_init_4 : decode cX5_init 4 = .ok (.aload_n 0, 1) := by decide +kernel
theorem dX5_init_5 : decode cX5_init 5 = .ok (.bipush 10, 2) := by decide +kernel
theorem dX5_init_7 : decode cX5_init 7 = .ok (.anewarray 9, 3) := by decide +kernel
theorem dX5_init_10 : decode cX5_init 10 = .ok (.putfield 11, 3) := by decide +kernel
theorem dX5_init_13 : decode cX5_init 13 = .ok (.aload_n 0, 1) := by decide +kernel
theorem dX5_init_14 : decode cX5_init 14 = .ok (.bipush 8, 2) := by decide +kernel
theorem dX5_init_16 : decode cX5_init 16 = .ok (.anewarray 15, 3) := by decide +kernel
theorem dX5_init_19 : decode cX5_init 19 = .ok (.putfield 17, 3) := by decide +kernel
theorem dX5_init_22 : decode cX5_init 22 = .ok (.aload_n 0, 1) := by decide +kernel
theorem dX5_init_23 : decode cX5_init 23 = .ok (.iconst 3, 1) := by decide +kernel
theorem dX5_init_24 : decode cX5_init 24 = .ok (.anewarray 21, 3) := by decide +kernel
theorem dX5_init_27 : decode cX5_init 27 = .ok (.putfield 23, 3) := by decide +kernel
theorem dX5_init_30 : decode cX5_init 30 = .ok (.iconst 0, 1) := by decide +kernel
theorem dX5_init_31 : decode cX5_init 31 = .ok (.istore_n 1, 1) := by decide +kernel
theorem dX5_init_32 : decode cX5_init 32 = .ok (.iload_n 1, 1) := by decide +kernel
theorem dX5_init_33 : decode cX5_init 33 = .ok (.aload_n 0, 1) := by decide +kernel
theorem dX5_init_34 : decode cX5_init 34 = .ok (.getfield 23, 3) := by decide +kernel
theorem dX5_init_37 : decode cX5_init 37 = .ok (.arraylength, 1) := by decide +kernel
theorem dX5_init_38 : decode cX5_init 38 = .ok (.if_icmp .ge 22, 3) := by decide +kernel
theorem dX5_init_41 : decode cX5_init 41 = .ok (.aload_n 0, 1) := by decide +kernel
theorem dX5_init_42 : decode cX5_init 42 = .ok (.getfield 23, 3) := by decide +kernel
theorem dX5_init_45 : decode cX5_init 45 = .ok (.iload_n 1, 1) := by decide +kernel
theorem dX5_init_46 : decode cX5_init 46 = .ok (.new 21, 3) := by decide +kernel
theorem dX5_init_49 : decode cX5_init 49 = .ok (.dup, 1) := by decide +kernel
theorem dX5_init_50 : decode cX5_init 50 = .ok (.invokespecial 27, 3) := by decide +kernel
theorem dX5_init_53 : decode cX5_init 53 = .ok (.aastore, 1) := by decide +kernel
theorem dX5_init_54 : decode cX5_init 54 = .ok (.iinc 1 1, 3) := by decide +kernel
theorem dX5_init_57 : decode cX5_init 57 = .ok (.goto (-25), 3) := by decide +kernel
theorem dX5_init_60 : decode cX5_init 60 = .ok (.return_, 1) := by decide +kernel
set_option maxRecDepth 20000 in
theorem ggX5_admit_X5_checkRange : GoodIn wsX5_admit wsX5_checkRange := goodIn_ca (goodIn_r _ [12, 13, 14] (by decide +kernel) (by decide +kernel)) (goodIn_sub (fun _ h => List.mem_cons_of_mem _ (List.mem_append_right _ h)) (by decide +kernel))
set_option maxRecDepth 20000 in
theorem gX5_admit_X5_checkRange : GoodIn wsX5_admit (va_wsS RX5 28 yX5_checkRange wsX5_checkRange) := goodIn_app (goodIn_of _ (by decide +kernel)) ggX5_admit_X5_checkRange
set_option maxRecDepth 20000 in
theorem ggX5_admit_X2_init : GoodIn wsX5_admit wsX2_init := goodIn_r _ [17, 18, 19, 20, 21, 22, 23, 24, 25, 26, 27, 28, 29, 30, 31, 32, 33, 34, 35, 42, 43, 44, 45, 46, 47, 48, 49, 50, 51, 52, 53, 54, 55, 56, 57, 58, 59] (by decide +kernel) (by decide +kernel)
set_option maxRecDepth 20000 in
theorem gX5_admit_X2_init : GoodIn wsX5_admit (wsX2_init) := ggX5_admit_X2_init
theorem dX5_admit_0 : decode cX5_admit 0 = .ok (.iload_n 1, 1) := by decide +kernel
theorem dX5_admit_1 : decode cX5_admit 1 = .ok (.iconst 1, 1) := by decide +kernel
theorem dX5_admit_2 : decode cX5_admit 2 = .ok (.sipush 2000, 3) := by decide +kernel
theorem dX5_admit_5 : decode cX5_admit 5 = .ok (.invokestatic 28, 3) := by decide +kernel
theorem dX5_admit_8 : decode cX5_admit 8 = .ok (.iload_n 2, 1) := by decide +kernel
theorem dX5_admit_9 : decode cX5_admit 9 = .ok (.iconst 0, 1) := by decide +kernel
theorem dX5_admit_10 : decode cX5_admit 10 = .ok (.bipush 15, 2) := by decide +kernel
theorem dX5_admit_12 : decode cX5_admit 12 = .ok (.invokestatic 28, 3) := by decide +kernel
theorem dX5_admit_15 : decode cX5_admit 15 = .ok (.aload_n 0, 1) := by decide +kernel
theorem dX5_admit_16 : decode cX5_admit 16 = .ok (.getfield 32, 3) := by decide +kernel
theorem dX5_admit_19 : decode cX5_admit 19 = .ok (.istore_n 3, 1) := by decide +kernel
theorem dX5_admit_20 : decode cX5_admit 20 = .ok (.iload_n 3, 1) := by decide +kernel
theorem dX5_admit_21 : decode cX5_admit 21 = .ok (.ifCond .lt 12, 3) := by decide +kernel
theorem dX5_admit_24 : decode cX5_admit 24 = .ok (.iload_n 3, 1) := by decide +kernel
theorem dX5_admit_25 : decode cX5_admit 25 = .ok (.aload_n 0, 1) := by decide +kernel
theorem dX5_admit_26 : decode cX5_admit 26 = .ok (.getfield 11, 3) := by decide +kernel
theorem dX5_admit_29 : decode cX5_admit 29 = .ok (.arraylength, 1) := by decide +kernel
theorem dX5_admit_30 : decode cX5_admit 30 = .ok (.if_icmp .lt 13, 3) := by decide +kernel
theorem dX5_admit_33 : decode cX5_admit 33 = .ok (.new 36, 3) := by decide +kernel
theorem dX5_admit_36 : decode cX5_admit 36 = .ok (.dup, 1) := by decide +kernel
theorem dX5_admit_37 : decode cX5_admit 37 = .ok (.ldc 38, 2) := by decide +kernel
theorem dX5_admit_39 : decode cX5_admit 39 = .ok (.invokespecial 40, 3) := by decide +kernel
theorem dX5_admit_42 : decode cX5_admit 42 = .ok (.athrow, 1) := by decide +kernel
theorem dX5_admit_43 : decode cX5_admit 43 = .ok (.aload_n 0, 1) := by decide +kernel
theorem dX5_admit_44 : decode cX5_admit 44 = .ok (.getfield 11, 3) := by decide +kernel
theorem dX5_admit_47 : decode cX5_admit 47 = .ok (.iload_n 3, 1) := by decide +kernel
theorem dX5_admit_48 : decode cX5_admit 48 = .ok (.new 9, 3) := by decide +kernel
theorem dX5_admit_51 : decode cX5_admit 51 = .ok (.dup, 1) := by decide +kernel
theorem dX5_admit_52 : decode cX5_admit 52 = .ok (.aload_n 0, 1) := by decide +kernel
theorem dX5_admit_53 : decode cX5_admit 53 = .ok (.getfield 43, 3) := by decide +kernel
theorem dX5_admit_56 : decode cX5_admit 56 = .ok (.iload_n 1, 1) := by decide +kernel
theorem dX5_admit_57 : decode cX5_admit 57 = .ok (.iload_n 2, 1) := by decide +kernel
theorem dX5_admit_58 : decode cX5_admit 58 = .ok (.invokespecial 46, 3) := by decide +kernel
theorem dX5_admit_61 : decode cX5_admit 61 = .ok (.aastore, 1) := by decide +kernel
theorem dX5_admit_62 : decode cX5_admit 62 = .ok (.aload_n 0, 1) := by decide +kernel
theorem dX5_admit_63 : decode cX5_admit 63 = .ok (.dup, 1) := by decide +kernel
theorem dX5_admit_64 : decode cX5_admit 64 = .ok (.getfield 32, 3) := by decide +kernel
theorem dX5_admit_67 : decode cX5_admit 67 = .ok (.iconst 1, 1) := by decide +kernel
theorem dX5_admit_68 : decode cX5_admit 68 = .ok (.iadd, 1) := by decide +kernel
theorem dX5_admit_69 : decode cX5_admit 69 = .ok (.putfield 32, 3) := by decide +kernel
theorem dX5_admit_72 : decode cX5_admit 72 = .ok (.iload_n 3, 1) := by decide +kernel
theorem dX5_admit_73 : decode cX5_admit 73 = .ok (.ireturn, 1) := by decide +kernel
set_option maxRecDepth 20000 in
theorem ggX5_course_X5_findPerson : GoodIn wsX5_course wsX5_findPerson := goodIn_ca (goodIn_r _ [5, 6, 7, 8, 60, 61, 62, 63, 64, 65] (by decide +kernel) (by decide +kernel)) (goodIn_sub (fun _ h => List.mem_cons_of_mem _ (List.mem_append_left _ (List.mem_append_left _ (List.mem_append_left _ (List.mem_append_right _ h))))) (by decide +kernel))
set_option maxRecDepth 20000 in
theorem gX5_course_X5_findPerson : GoodIn wsX5_course (wsV RX5 48 RX5 yX5_findPerson wsX5_findPerson) := goodIn_app (goodIn_of _ (by decide +kernel)) ggX5_course_X5_findPerson
set_option maxRecDepth 20000 in
theorem ggX5_course_X5_checkSkill : GoodIn wsX5_course wsX5_checkSkill := goodIn_ca (goodIn_r _ [11, 6, 7] (by decide +kernel) (by decide +kernel)) (goodIn_sub (fun _ h => List.mem_cons_of_mem _ (List.mem_append_left _ (List.mem_append_left _ (List.mem_append_left _ (List.mem_append_right _ h))))) (by decide +kernel))
set_option maxRecDepth 20000 in
theorem gX5_course_X5_checkSkill : GoodIn wsX5_course (va_wsS RX5 52 yX5_checkSkill wsX5_checkSkill) := goodIn_app (goodIn_of _ (by decide +kernel)) ggX5_course_X5_checkSkill
set_option maxRecDepth 20000 in
theorem ggX5_course_X5_checkRange : GoodIn wsX5_course wsX5_checkRange := goodIn_ca (goodIn_r _ [14, 15, 16] (by decide +kernel) (by decide +kernel)) (goodIn_sub (fun _ h => List.mem_cons_of_mem _ (List.mem_append_left _ (List.mem_append_left _ (List.mem_append_right _ h)))) (by decide +kernel))
set_option maxRecDepth 20000 in
theorem gX5_course_X5_checkRange : GoodIn wsX5_course (va_wsS RX5 28 yX5_checkRange wsX5_checkRange) := goodIn_app (goodIn_of _ (by decide +kernel)) ggX5_course_X5_checkRange
set_option maxRecDepth 20000 in
theorem ggX5_course_X5_checkIn : GoodIn wsX5_course wsX5_checkIn := goodIn_ca (goodIn_r _ [19, 20, 21, 22, 66, 67, 68, 69, 70, 71, 72, 73, 74, 75, 76, 77, 78, 79] (by decide +kernel) (by decide +kernel)) (goodIn_sub (fun _ h => List.mem_cons_of_mem _ (List.mem_append_left _ (List.mem_append_right _ h))) (by decide +kernel))
set_option maxRecDepth 20000 in
theorem gX5_course_X5_checkIn : GoodIn wsX5_course (va_wsS RX5 56 yX5_checkIn wsX5_checkIn) := goodIn_app (goodIn_of _ (by decide +kernel)) ggX5_course_X5_checkIn
set_option maxRecDepth 20000 in
theorem ggX5_course_X2_enterCourse : GoodIn wsX5_course wsX2_enterCourse := goodIn_ca (goodIn_r _ [27, 28, 21, 29, 30, 31, 32, 33, 34, 26, 35, 36, 37, 38, 39, 40, 41, 42, 43, 44, 45, 66, 67, 68, 69, 70, 71, 72, 73, 74, 75, 76, 77, 78, 79] (by decide +kernel) (by decide +kernel)) (goodIn_sub (fun _ h => List.mem_cons_of_mem _ (List.mem_append_right _ h)) (by decide +kernel))
set_option maxRecDepth 20000 in
theorem gX5_course_X2_enterCourse : GoodIn wsX5_course (wsV RX5 60 RX2 yX2_enterCourse wsX2_enterCourse) := goodIn_app (goodIn_of _ (by decide +kernel)) ggX5_course_X2_enterCourse
set_option maxRecDepth 20000 in
theorem ggX5_course_X2_releaseDay : GoodIn wsX5_course wsX2_releaseDay := goodIn_r _ [49, 50, 51, 52, 53, 42, 43, 44, 45, 54, 55, 56, 57, 26, 58, 59, 31, 66, 67, 68, 69, 70, 71, 72, 73, 74, 75, 76, 77, 78, 79] (by decide +kernel) (by decide +kernel)
set_option maxRecDepth 20000 in
theorem gX5_course_X2_releaseDay : GoodIn wsX5_course (wsV RX5 64 RX2 yX2_releaseDay wsX2_releaseDay) := goodIn_app (goodIn_of _ (by decide +kernel)) ggX5_course_X2_releaseDay
theorem dX5_course_0 : decode cX5_course 0 = .ok (.aload_n 0, 1) := by decide +kernel
theorem dX5_course_1 : decode cX5_course 1 = .ok (.iload_n 1, 1) := by decide +kernel
theorem dX5_course_2 : decode cX5_course 2 = .ok (.invokevirtual 48, 3) := by decide +kernel
theorem dX5_course_5 : decode cX5_course 5 = .ok (.astore 4, 2) := by decide +kernel
theorem dX5_course_7 : decode cX5_course 7 = .ok (.iload_n 2, 1) := by decide +kernel
theorem dX5_course_8 : decode cX5_course 8 = .ok (.invokestatic 52, 3) := by decide +kernel
theorem dX5_course_11 : decode cX5_course 11 = .ok (.iload_n 3, 1) := by decide +kernel
theorem dX5_course_12 : decode cX5_course 12 = .ok (.iconst 0, 1) := by decide +kernel
theorem dX5_course_13 : decode cX5_course 13 = .ok (.bipush 100, 2) := by decide +kernel
theorem dX5_course_15 : decode cX5_course 15 = .ok (.invokestatic 28, 3) := by decide +kernel
theorem dX5_course_18 : decode cX5_course 18 = .ok (.aload 4, 2) := by decide +kernel
theorem dX5_course_20 : decode cX5_course 20 = .ok (.invokestatic 56, 3) := by decide +kernel
theorem dX5_course_23 : decode cX5_course 23 = .ok (.aload 4, 2) := by decide +kernel
theorem dX5_course_25 : decode cX5_course 25 = .ok (.iload_n 2, 1) := by decide +kernel
theorem dX5_course_26 : decode cX5_course 26 = .ok (.iload_n 3, 1) := by decide +kernel
theorem dX5_course_27 : decode cX5_course 27 = .ok (.invokevirtual 60, 3) := by decide +kernel
theorem dX5_course_30 : decode cX5_course 30 = .ok (.aload 4, 2) := by decide +kernel
theorem dX5_course_32 : decode cX5_course 32 = .ok (.invokevirtual 64, 3) := by decide +kernel
theorem dX5_course_35 : decode cX5_course 35 = .ok (.ireturn, 1) := by decide +kernel
set_option maxRecDepth 20000 in
theorem ggX5_offence_X5_findPerson : GoodIn wsX5_offence wsX5_findPerson := goodIn_ca (goodIn_r _ [6, 7, 8, 9, 56, 57, 58, 59, 60, 61] (by decide +kernel) (by decide +kernel)) (goodIn_sub (fun _ h => List.mem_cons_of_mem _ (List.mem_append_left _ (List.mem_append_left _ (List.mem_append_left _ (List.mem_append_right _ h))))) (by decide +kernel))
set_option maxRecDepth 20000 in
theorem gX5_offence_X5_findPerson : GoodIn wsX5_offence (wsV RX5 48 RX5 yX5_findPerson wsX5_findPerson) := goodIn_app (goodIn_of _ (by decide +kernel)) ggX5_offence_X5_findPerson
set_option maxRecDepth 20000 in
theorem ggX5_offence_X5_checkRange : GoodIn wsX5_offence wsX5_checkRange := goodIn_ca (goodIn_r _ [12, 13, 14] (by decide +kernel) (by decide +kernel)) (goodIn_sub (fun _ h => List.mem_cons_of_mem _ (List.mem_append_left _ (List.mem_append_left _ (List.mem_append_right _ h)))) (by decide +kernel))
set_option maxRecDepth 20000 in
theorem gX5_offence_X5_checkRange : GoodIn wsX5_offence (va_wsS RX5 28 yX5_checkRange wsX5_checkRange) := goodIn_app (goodIn_of _ (by decide +kernel)) ggX5_offence_X5_checkRange
set_option maxRecDepth 20000 in
theorem ggX5_offence_X5_checkIn : GoodIn wsX5_offence wsX5_checkIn := goodIn_ca (goodIn_r _ [17, 18, 19, 20, 62, 63, 64, 65, 66, 67, 68, 69, 70, 71, 72, 73, 74, 75] (by decide +kernel) (by decide +kernel)) (goodIn_sub (fun _ h => List.mem_cons_of_mem _ (List.mem_append_left _ (List.mem_append_right _ h))) (by decide +kernel))
set_option maxRecDepth 20000 in
theorem gX5_offence_X5_checkIn : GoodIn wsX5_offence (va_wsS RX5 56 yX5_checkIn wsX5_checkIn) := goodIn_app (goodIn_of _ (by decide +kernel)) ggX5_offence_X5_checkIn
set_option maxRecDepth 20000 in
theorem ggX5_offence_X2_enterOffence : GoodIn wsX5_offence wsX2_enterOffence := goodIn_ca (goodIn_r _ [25, 26, 19, 27, 28, 29, 30, 31, 32, 33, 34, 35, 36, 24, 37, 38, 39, 40, 41, 42, 43, 44, 45, 46, 47, 48, 49, 50, 51, 52, 53, 54, 55, 62, 63, 64, 65, 66, 67, 68, 69, 70, 71, 72, 73, 74, 75, 76, 77, 78, 79, 80, 81, 82, 83, 84, 85, 86, 87] (by decide +kernel) (by decide +kernel)) (goodIn_sub (fun _ h => List.mem_cons_of_mem _ (List.mem_append_right _ h)) (by decide +kernel))
set_option maxRecDepth 20000 in
theorem gX5_offence_X2_enterOffence : GoodIn wsX5_offence (wsV RX5 68 RX2 yX2_enterOffence wsX2_enterOffence) := goodIn_app (goodIn_of _ (by decide +kernel)) ggX5_offence_X2_enterOffence
theorem dX5_offence_0 : decode cX5_offence 0 = .ok (.aload_n 0, 1) := by decide +kernel
theorem dX5_offence_1 : decode cX5_offence 1 = .ok (.iload_n 1, 1) := by decide +kernel
theorem dX5_offence_2 : decode cX5_offence 2 = .ok (.invokevirtual 48, 3) := by decide +kernel
theorem dX5_offence_5 : decode cX5_offence 5 = .ok (.astore_n 3, 1) := by decide +kernel
theorem dX5_offence_6 : decode cX5_offence 6 = .ok (.iload_n 2, 1) := by decide +kernel
theorem dX5_offence_7 : decode cX5_offence 7 = .ok (.iconst 0, 1) := by decide +kernel
theorem dX5_offence_8 : decode cX5_offence 8 = .ok (.bipush 100, 2) := by decide +kernel
theorem dX5_offence_10 : decode cX5_offence 10 = .ok (.invokestatic 28, 3) := by decide +kernel
theorem dX5_offence_13 : decode cX5_offence 13 = .ok (.aload_n 3, 1) := by decide +kernel
theorem dX5_offence_14 : decode cX5_offence 14 = .ok (.invokestatic 56, 3) := by decide +kernel
theorem dX5_offence_17 : decode cX5_offence 17 = .ok (.aload_n 3, 1) := by decide +kernel
theorem dX5_offence_18 : decode cX5_offence 18 = .ok (.aload_n 0, 1) := by decide +kernel
theorem dX5_offence_19 : decode cX5_offence 19 = .ok (.getfield 43, 3) := by decide +kernel
theorem dX5_offence_22 : decode cX5_offence 22 = .ok (.iload_n 2, 1) := by decide +kernel
theorem dX5_offence_23 : decode cX5_offence 23 = .ok (.invokevirtual 68, 3) := by decide +kernel
theorem dX5_offence_26 : decode cX5_offence 26 = .ok (.ireturn, 1) := by decide +kernel
set_option maxRecDepth 20000 in
theorem ggX5_appeal_X5_findPerson : GoodIn wsX5_appeal wsX5_findPerson := goodIn_ca (goodIn_r _ [8, 9, 10, 11, 56, 57, 58, 59, 60, 61] (by decide +kernel) (by decide +kernel)) (goodIn_sub (fun _ h => List.mem_cons_of_mem _ (List.mem_append_right _ h)) (by decide +kernel))
set_option maxRecDepth 20000 in
theorem gX5_appeal_X5_findPerson : GoodIn wsX5_appeal (wsV RX5 48 RX5 yX5_findPerson wsX5_findPerson) := goodIn_app (goodIn_of _ (by decide +kernel)) ggX5_appeal_X5_findPerson
set_option maxRecDepth 20000 in
theorem ggX5_appeal_X5_findOffence : GoodIn wsX5_appeal wsX5_findOffence := goodIn_ca (goodIn_r _ [14, 9, 10, 15, 62, 63, 64, 65, 66, 67, 68, 69, 70, 71, 72, 73, 74, 75] (by decide +kernel) (by decide +kernel)) (goodIn_sub (fun _ h => List.mem_cons_of_mem _ (List.mem_append_right _ h)) (by decide +kernel))
set_option maxRecDepth 20000 in
theorem gX5_appeal_X5_findOffence : GoodIn wsX5_appeal (va_wsS RX5 72 yX5_findOffence wsX5_findOffence) := goodIn_app (goodIn_of _ (by decide +kernel)) ggX5_appeal_X5_findOffence
set_option maxRecDepth 20000 in
theorem ggX5_appeal_X5_checkIn : GoodIn wsX5_appeal wsX5_checkIn := goodIn_ca (goodIn_r _ [18, 1, 2, 19, 62, 63, 64, 65, 66, 67, 68, 69, 70, 71, 72, 73, 74, 75] (by decide +kernel) (by decide +kernel)) (goodIn_sub (fun _ h => List.mem_cons_of_mem _ (List.mem_append_left _ (List.mem_append_right _ h))) (by decide +kernel))
set_option maxRecDepth 20000 in
theorem gX5_appeal_X5_checkIn : GoodIn wsX5_appeal (va_wsS RX5 56 yX5_checkIn wsX5_checkIn) := goodIn_app (goodIn_of _ (by decide +kernel)) ggX5_appeal_X5_checkIn
set_option maxRecDepth 20000 in
theorem ggX5_appeal_X2_appealOffence : GoodIn wsX5_appeal wsX2_appealOffence := goodIn_r _ [24, 25, 26, 27, 28, 29, 30, 31, 23, 32, 33, 34, 35, 36, 37, 52, 53, 54, 55, 62, 63, 64, 65, 66, 67, 68, 69, 70, 71, 72, 73, 74, 75] (by decide +kernel) (by decide +kernel)
set_option maxRecDepth 20000 in
theorem gX5_appeal_X2_appealOffence : GoodIn wsX5_appeal (wsV RX5 84 RX2 yX2_appealOffence wsX2_appealOffence) := goodIn_app (goodIn_of _ (by decide +kernel)) ggX5_appeal_X2_appealOffence
set_option maxRecDepth 20000 in
theorem ggX5_appeal_X2_releaseDay : GoodIn wsX5_appeal wsX2_releaseDay := goodIn_r _ [41, 42, 43, 44, 45, 34, 35, 36, 37, 26, 46, 47, 48, 23, 49, 50, 51, 62, 63, 64, 65, 66, 67, 68, 69, 70, 71, 72, 73, 74, 75] (by decide +kernel) (by decide +kernel)
set_option maxRecDepth 20000 in
theorem gX5_appeal_X2_releaseDay : GoodIn wsX5_appeal (wsV RX5 64 RX2 yX2_releaseDay wsX2_releaseDay) := goodIn_app (goodIn_of _ (by decide +kernel)) ggX5_appeal_X2_releaseDay
theorem dX5_appeal_0 : decode cX5_appeal 0 = .ok (.aload_n 0, 1) := by decide +kernel
theorem dX5_appeal_1 : decode cX5_appeal 1 = .ok (.iload_n 1, 1) := by decide +kernel
theorem dX5_appeal_2 : decode cX5_appeal 2 = .ok (.invokevirtual 48, 3) := by decide +kernel
theorem dX5_appeal_5 : decode cX5_appeal 5 = .ok (.astore_n 3, 1) := by decide +kernel
theorem dX5_appeal_6 : decode cX5_appeal 6 = .ok (.aload_n 3, 1) := by decide +kernel
theorem dX5_appeal_7 : decode cX5_appeal 7 = .ok (.iload_n 2, 1) := by decide +kernel
theorem dX5_appeal_8 : decode cX5_appeal 8 = .ok (.invokestatic 72, 3) := by decide +kernel
theorem dX5_appeal_11 : decode cX5_appeal 11 = .ok (.astore 4, 2) := by decide +kernel
theorem dX5_appeal_13 : decode cX5_appeal 13 = .ok (.aload_n 3, 1) := by decide +kernel
theorem dX5_appeal_14 : decode cX5_appeal 14 = .ok (.invokestatic 56, 3) := by decide +kernel
theorem dX5_appeal_17 : decode cX5_appeal 17 = .ok (.aload 4, 2) := by decide +kernel
theorem dX5_appeal_19 : decode cX5_appeal 19 = .ok (.getfield 76, 3) := by decide +kernel
theorem dX5_appeal_22 : decode cX5_appeal 22 = .ok (.ifCond .eq 13, 3) := by decide +kernel
theorem dX5_appeal_25 : decode cX5_appeal 25 = .ok (.new 36, 3) := by decide +kernel
theorem dX5_appeal_28 : decode cX5_appeal 28 = .ok (.dup, 1) := by decide +kernel
theorem dX5_appeal_29 : decode cX5_appeal 29 = .ok (.ldc 82, 2) := by decide +kernel
theorem dX5_appeal_31 : decode cX5_appeal 31 = .ok (.invokespecial 40, 3) := by decide +kernel
theorem dX5_appeal_34 : decode cX5_appeal 34 = .ok (.athrow, 1) := by decide +kernel
theorem dX5_appeal_35 : decode cX5_appeal 35 = .ok (.aload_n 3, 1) := by decide +kernel
theorem dX5_appeal_36 : decode cX5_appeal 36 = .ok (.aload 4, 2) := by decide +kernel
theorem dX5_appeal_38 : decode cX5_appeal 38 = .ok (.invokevirtual 84, 3) := by decide +kernel
theorem dX5_appeal_41 : decode cX5_appeal 41 = .ok (.aload_n 3, 1) := by decide +kernel
theorem dX5_appeal_42 : decode cX5_appeal 42 = .ok (.invokevirtual 64, 3) := by decide +kernel
theorem dX5_appeal_45 : decode cX5_appeal 45 = .ok (.ireturn, 1) := by decide +kernel
set_option maxRecDepth 20000 in
theorem ggX5_release_X5_findPerson : GoodIn wsX5_release wsX5_findPerson := goodIn_ca (goodIn_r _ [5, 6, 7, 8, 29, 30, 31, 32, 33, 34] (by decide +kernel) (by decide +kernel)) (goodIn_sub (fun _ h => List.mem_cons_of_mem _ (List.mem_append_right _ h)) (by decide +kernel))
set_option maxRecDepth 20000 in
theorem gX5_release_X5_findPerson : GoodIn wsX5_release (wsV RX5 48 RX5 yX5_findPerson wsX5_findPerson) := goodIn_app (goodIn_of _ (by decide +kernel)) ggX5_release_X5_findPerson
set_option maxRecDepth 20000 in
theorem ggX5_release_X2_releaseDay : GoodIn wsX5_release wsX2_releaseDay := goodIn_r _ [13, 14, 15, 16, 17, 18, 19, 20, 21, 22, 23, 24, 25, 12, 26, 27, 28, 35, 36, 37, 38, 39, 40, 41, 42, 43, 44, 45, 46, 47, 48] (by decide +kernel) (by decide +kernel)
set_option maxRecDepth 20000 in
theorem gX5_release_X2_releaseDay : GoodIn wsX5_release (wsV RX5 64 RX2 yX2_releaseDay wsX2_releaseDay) := goodIn_app (goodIn_of _ (by decide +kernel)) ggX5_release_X2_releaseDay
theorem dX5_release_0 : decode cX5_release 0 = .ok (.aload_n 0, 1) := by decide +kernel
theorem dX5_release_1 : decode cX5_release 1 = .ok (.iload_n 1, 1) := by decide +kernel
theorem dX5_release_2 : decode cX5_release 2 = .ok (.invokevirtual 48, 3) := by decide +kernel
theorem dX5_release_5 : decode cX5_release 5 = .ok (.invokevirtual 64, 3) := by decide +kernel
theorem dX5_release_8 : decode cX5_release 8 = .ok (.ireturn, 1) := by decide +kernel
set_option maxRecDepth 20000 in
theorem ggX5_isIn_X5_findPerson : GoodIn wsX5_isIn wsX5_findPerson := goodIn_ca (goodIn_r _ [6, 7, 8, 9, 24, 25, 26, 27, 28, 29] (by decide +kernel) (by decide +kernel)) (goodIn_sub (fun _ h => List.mem_cons_of_mem _ (List.mem_append_right _ h)) (by decide +kernel))
set_option maxRecDepth 20000 in
theorem gX5_isIn_X5_findPerson : GoodIn wsX5_isIn (wsV RX5 48 RX5 yX5_findPerson wsX5_findPerson) := goodIn_app (goodIn_of _ (by decide +kernel)) ggX5_isIn_X5_findPerson
theorem dX5_isIn_0 : decode cX5_isIn 0 = .ok (.aload_n 0, 1) := by decide +kernel
theorem dX5_isIn_1 : decode cX5_isIn 1 = .ok (.iload_n 1, 1) := by decide +kernel
theorem dX5_isIn_2 : decode cX5_isIn 2 = .ok (.invokevirtual 48, 3) := by decide +kernel
theorem dX5_isIn_5 : decode cX5_isIn 5 = .ok (.getfield 88, 3) := by decide +kernel
theorem dX5_isIn_8 : decode cX5_isIn 8 = .ok (.ifCond .ne 7, 3) := by decide +kernel
theorem dX5_isIn_11 : decode cX5_isIn 11 = .ok (.iconst 1, 1) := by decide +kernel
theorem dX5_isIn_12 : decode cX5_isIn 12 = .ok (.goto 4, 3) := by decide +kernel
theorem dX5_isIn_15 : decode cX5_isIn 15 = .ok (.iconst 0, 1) := by decide +kernel
theorem dX5_isIn_16 : decode cX5_isIn 16 = .ok (.ireturn, 1) := by decide +kernel
set_option maxRecDepth 20000 in
theorem ggX5_regime_X5_findPerson : GoodIn wsX5_regime wsX5_findPerson := goodIn_ca (goodIn_r _ [6, 7, 8, 9, 24, 25, 26, 27, 28, 29] (by decide +kernel) (by decide +kernel)) (goodIn_sub (fun _ h => List.mem_cons_of_mem _ (List.mem_append_right _ h)) (by decide +kernel))
set_option maxRecDepth 20000 in
theorem gX5_regime_X5_findPerson : GoodIn wsX5_regime (wsV RX5 48 RX5 yX5_findPerson wsX5_findPerson) := goodIn_app (goodIn_of _ (by decide +kernel)) ggX5_regime_X5_findPerson
theorem dX5_regime_0 : decode cX5_regime 0 = .ok (.aload_n 0, 1) := by decide +kernel
theorem dX5_regime_1 : decode cX5_regime 1 = .ok (.iload_n 1, 1) := by decide +kernel
theorem dX5_regime_2 : decode cX5_regime 2 = .ok (.invokevirtual 48, 3) := by decide +kernel
theorem dX5_regime_5 : decode cX5_regime 5 = .ok (.getfield 91, 3) := by decide +kernel
theorem dX5_regime_8 : decode cX5_regime 8 = .ok (.ireturn, 1) := by decide +kernel
set_option maxRecDepth 20000 in
theorem ggX5_papers_X5_findPerson : GoodIn wsX5_papers wsX5_findPerson := goodIn_ca (goodIn_r _ [6, 7, 8, 9, 31, 32, 33, 34, 35, 36] (by decide +kernel) (by decide +kernel)) (goodIn_sub (fun _ h => List.mem_cons_of_mem _ (List.mem_append_right _ h)) (by decide +kernel))
set_option maxRecDepth 20000 in
theorem gX5_papers_X5_findPerson : GoodIn wsX5_papers (wsV RX5 48 RX5 yX5_findPerson wsX5_findPerson) := goodIn_app (goodIn_of _ (by decide +kernel)) ggX5_papers_X5_findPerson
set_option maxRecDepth 20000 in
theorem ggX5_papers_X2_gainedDays : GoodIn wsX5_papers wsX2_gainedDays := goodIn_r _ [14, 15, 16, 17, 18, 19, 20, 21, 22, 23, 24, 25, 26, 27, 28, 29, 30] (by decide +kernel) (by decide +kernel)
set_option maxRecDepth 20000 in
theorem gX5_papers_X2_gainedDays : GoodIn wsX5_papers (wsV RX5 97 RX2 yX2_gainedDays wsX2_gainedDays) := goodIn_app (goodIn_of _ (by decide +kernel)) ggX5_papers_X2_gainedDays
theorem dX5_papers_0 : decode cX5_papers 0 = .ok (.aload_n 0, 1) := by decide +kernel
theorem dX5_papers_1 : decode cX5_papers 1 = .ok (.iload_n 1, 1) := by decide +kernel
theorem dX5_papers_2 : decode cX5_papers 2 = .ok (.invokevirtual 48, 3) := by decide +kernel
theorem dX5_papers_5 : decode cX5_papers 5 = .ok (.astore_n 3, 1) := by decide +kernel
theorem dX5_papers_6 : decode cX5_papers 6 = .ok (.iload_n 2, 1) := by decide +kernel
theorem dX5_papers_7 : decode cX5_papers 7 = .ok (.ifCond .eq 10, 3) := by decide +kernel
theorem dX5_papers_10 : decode cX5_papers 10 = .ok (.aload_n 3, 1) := by decide +kernel
theorem dX5_papers_11 : decode cX5_papers 11 = .ok (.getfield 94, 3) := by decide +kernel
theorem dX5_papers_14 : decode cX5_papers 14 = .ok (.goto 7, 3) := by decide +kernel
theorem dX5_papers_17 : decode cX5_papers 17 = .ok (.aload_n 3, 1) := by decide +kernel
theorem dX5_papers_18 : decode cX5_papers 18 = .ok (.invokevirtual 97, 3) := by decide +kernel
theorem dX5_papers_21 : decode cX5_papers 21 = .ok (.ireturn, 1) := by decide +kernel
set_option maxRecDepth 20000 in
theorem ggX5_setTools_X5_findTools : GoodIn wsX5_setTools wsX5_findTools := goodIn_ca (goodIn_r _ [9, 10, 11, 12, 20, 21, 22, 23, 24, 25] (by decide +kernel) (by decide +kernel)) (goodIn_sub (fun _ h => List.mem_cons_of_mem _ (List.mem_append_left _ (List.mem_append_right _ h))) (by decide +kernel))
set_option maxRecDepth 20000 in
theorem gX5_setTools_X5_findTools : GoodIn wsX5_setTools (wsV RX5 100 RX5 yX5_findTools wsX5_findTools) := goodIn_app (goodIn_of _ (by decide +kernel)) ggX5_setTools_X5_findTools
set_option maxRecDepth 20000 in
theorem ggX5_setTools_X5_checkRange : GoodIn wsX5_setTools wsX5_checkRange := goodIn_ca (goodIn_r _ [15, 16, 17] (by decide +kernel) (by decide +kernel)) (goodIn_sub (fun _ h => List.mem_cons_of_mem _ (List.mem_append_right _ h)) (by decide +kernel))
set_option maxRecDepth 20000 in
theorem gX5_setTools_X5_checkRange : GoodIn wsX5_setTools (va_wsS RX5 28 yX5_checkRange wsX5_checkRange) := goodIn_app (goodIn_of _ (by decide +kernel)) ggX5_setTools_X5_checkRange
theorem dX5_setTools_0 : decode cX5_setTools 0 = .ok (.aload_n 0, 1) := by decide +kernel
theorem dX5_setTools_1 : decode cX5_setTools 1 = .ok (.iload_n 1, 1) := by decide +kernel
theorem dX5_setTools_2 : decode cX5_setTools 2 = .ok (.invokevirtual 100, 3) := by decide +kernel
theorem dX5_setTools_5 : decode cX5_setTools 5 = .ok (.astore_n 3, 1) := by decide +kernel
theorem dX5_setTools_6 : decode cX5_setTools 6 = .ok (.iload_n 2, 1) := by decide +kernel
theorem dX5_setTools_7 : decode cX5_setTools 7 = .ok (.iconst 0, 1) := by decide +kernel
theorem dX5_setTools_8 : decode cX5_setTools 8 = .ok (.bipush 20, 2) := by decide +kernel
theorem dX5_setTools_10 : decode cX5_setTools 10 = .ok (.invokestatic 28, 3) := by decide +kernel
theorem dX5_setTools_13 : decode cX5_setTools 13 = .ok (.aload_n 3, 1) := by decide +kernel
theorem dX5_setTools_14 : decode cX5_setTools 14 = .ok (.getfield 104, 3) := by decide +kernel
theorem dX5_setTools_17 : decode cX5_setTools 17 = .ok (.iload_n 2, 1) := by decide +kernel
theorem dX5_setTools_18 : decode cX5_setTools 18 = .ok (.if_icmp .le 13, 3) := by decide +kernel
theorem dX5_setTools_21 : decode cX5_setTools 21 = .ok (.new 36, 3) := by decide +kernel
theorem dX5_setTools_24 : decode cX5_setTools 24 = .ok (.dup, 1) := by decide +kernel
theorem dX5_setTools_25 : decode cX5_setTools 25 = .ok (.ldc 107, 2) := by decide +kernel
theorem dX5_setTools_27 : decode cX5_setTools 27 = .ok (.invokespecial 40, 3) := by decide +kernel
theorem dX5_setTools_30 : decode cX5_setTools 30 = .ok (.athrow, 1) := by decide +kernel
theorem dX5_setTools_31 : decode cX5_setTools 31 = .ok (.aload_n 3, 1) := by decide +kernel
theorem dX5_setTools_32 : decode cX5_setTools 32 = .ok (.getfield 109, 3) := by decide +kernel
theorem dX5_setTools_35 : decode cX5_setTools 35 = .ok (.istore 4, 2) := by decide +kernel
theorem dX5_setTools_37 : decode cX5_setTools 37 = .ok (.aload_n 3, 1) := by decide +kernel
theorem dX5_setTools_38 : decode cX5_setTools 38 = .ok (.iload_n 2, 1) := by decide +kernel
theorem dX5_setTools_39 : decode cX5_setTools 39 = .ok (.putfield 109, 3) := by decide +kernel
theorem dX5_setTools_42 : decode cX5_setTools 42 = .ok (.iload 4, 2) := by decide +kernel
theorem dX5_setTools_44 : decode cX5_setTools 44 = .ok (.ireturn, 1) := by decide +kernel
set_option maxRecDepth 20000 in
theorem ggX5_toolsOut_X5_findTools : GoodIn wsX5_toolsOut wsX5_findTools := goodIn_ca (goodIn_r _ [6, 7, 8, 9, 12, 13, 14, 15, 16, 17] (by decide +kernel) (by decide +kernel)) (goodIn_sub (fun _ h => List.mem_cons_of_mem _ (List.mem_append_right _ h)) (by decide +kernel))
set_option maxRecDepth 20000 in
theorem gX5_toolsOut_X5_findTools : GoodIn wsX5_toolsOut (wsV RX5 100 RX5 yX5_findTools wsX5_findTools) := goodIn_app (goodIn_of _ (by decide +kernel)) ggX5_toolsOut_X5_findTools
theorem dX5_toolsOut_0 : decode cX5_toolsOut 0 = .ok (.aload_n 0, 1) := by decide +kernel
theorem dX5_toolsOut_1 : decode cX5_toolsOut 1 = .ok (.iload_n 1, 1) := by decide +kernel
theorem dX5_toolsOut_2 : decode cX5_toolsOut 2 = .ok (.invokevirtual 100, 3) := by decide +kernel
theorem dX5_toolsOut_5 : decode cX5_toolsOut 5 = .ok (.getfield 104, 3) := by decide +kernel
theorem dX5_toolsOut_8 : decode cX5_toolsOut 8 = .ok (.ireturn, 1) := by decide +kernel
set_option maxRecDepth 20000 in
theorem ggX5_addOrder_X5_checkSkill : GoodIn wsX5_addOrder wsX5_checkSkill := goodIn_ca (goodIn_r _ [11, 12, 13] (by decide +kernel) (by decide +kernel)) (goodIn_sub (fun _ h => List.mem_cons_of_mem _ (List.mem_append_left _ (List.mem_append_right _ h))) (by decide +kernel))
set_option maxRecDepth 20000 in
theorem gX5_addOrder_X5_checkSkill : GoodIn wsX5_addOrder (va_wsS RX5 52 yX5_checkSkill wsX5_checkSkill) := goodIn_app (goodIn_of _ (by decide +kernel)) ggX5_addOrder_X5_checkSkill
set_option maxRecDepth 20000 in
theorem ggX5_addOrder_X5_findTools : GoodIn wsX5_addOrder wsX5_findTools := goodIn_ca (goodIn_r _ [17, 12, 13, 18, 35, 36, 37, 38, 39, 40] (by decide +kernel) (by decide +kernel)) (goodIn_sub (fun _ h => List.mem_cons_of_mem _ (List.mem_append_left _ (List.mem_append_right _ h))) (by decide +kernel))
set_option maxRecDepth 20000 in
theorem gX5_addOrder_X5_findTools : GoodIn wsX5_addOrder (wsV RX5 100 RX5 yX5_findTools wsX5_findTools) := goodIn_app (goodIn_of _ (by decide +kernel)) ggX5_addOrder_X5_findTools
set_option maxRecDepth 20000 in
theorem ggX5_addOrder_X5_checkRange : GoodIn wsX5_addOrder wsX5_checkRange := goodIn_ca (goodIn_r _ [21, 22, 23] (by decide +kernel) (by decide +kernel)) (goodIn_sub (fun _ h => List.mem_cons_of_mem _ (List.mem_append_right _ h)) (by decide +kernel))
set_option maxRecDepth 20000 in
theorem gX5_addOrder_X5_checkRange : GoodIn wsX5_addOrder (va_wsS RX5 28 yX5_checkRange wsX5_checkRange) := goodIn_app (goodIn_of _ (by decide +kernel)) ggX5_addOrder_X5_checkRange
set_option maxRecDepth 20000 in
theorem ggX5_addOrder_X1_init : GoodIn wsX5_addOrder wsX1_init := goodIn_r _ [26, 27, 28, 29, 30, 31, 32, 33, 34, 41, 42, 43, 44, 45, 46] (by decide +kernel) (by decide +kernel)
set_option maxRecDepth 20000 in
theorem gX5_addOrder_X1_init : GoodIn wsX5_addOrder (wsX1_init) := ggX5_addOrder_X1_init
